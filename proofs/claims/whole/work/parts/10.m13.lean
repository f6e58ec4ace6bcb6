abbrev DDX12_drinks : Nat := 4
def f_X12_drinks_l151b (v1 : Int32) (v3 : Int32) (v4 : Int32) (v5 : Int32) (v6 : Int32) (k151 : Int32 → Int32 → HS → Option HS) (k207 : Int32 → Int32 → HS → Option HS) (s : HS) : Option HS :=
  (if v4 = 0 then k207 v3 v4 s else gd (inb v6 10) ((if (s.1 108 v6.toNatClampNeg) = 2 then k207 v3 v4 s else bnd (f_X12_heatAt v1 v6 v3 s) fun y31 => (if y31 ≤ (s.1 103 7) then k207 v3 v4 s else ltb (v3 + 1) fun x34 => bnd (f_X12_goesAt v1 s) fun y35 => (if y35 < x34 then k151 x34 0 s else k151 x34 1 s)))))
set_option maxRecDepth 20000 in
set_option maxHeartbeats 2000000 in
theorem t_X12_drinks_l151b (v1 : Int32) (v3 : Int32) (v4 : Int32) (v5 : Int32) (v6 : Int32) (s : HS) {t : HS} (k151 : Int32 → Int32 → HS → Option HS) (hk151 : ∀ (a3 : Int32) (a4 : Int32) (s : HS), k151 a3 a4 s = some t → Ev DDX12_drinks miX12_drinks NF none NF (hp t) 151 NF [(0, .ref 101), (1, .int v1), (3, .int a3), (4, .int a4), (5, .int v5), (6, .int v6)] [] (hp s)) (k207 : Int32 → Int32 → HS → Option HS) (hk207 : ∀ (a3 : Int32) (a4 : Int32) (s : HS), k207 a3 a4 s = some t → Ev DDX12_drinks miX12_drinks NF none NF (hp t) 207 NF [(0, .ref 101), (1, .int v1), (3, .int a3), (4, .int a4), (5, .int v5), (6, .int v6)] [] (hp s)) (hf : f_X12_drinks_l151b v1 v3 v4 v5 v6 k151 k207 s = some t) : Ev DDX12_drinks miX12_drinks NF none NF (hp t) 151 NF [(0, .ref 101), (1, .int v1), (3, .int v3), (4, .int v4), (5, .int v5), (6, .int v6)] [] (hp s) := by
  refine e_iload dX12_drinks_151 3 rfl (pc2 := 153) rfl ?_
  refine e_if_eq (tgt := 207) dX12_drinks_153 (by decide) (pc2 := 156) rfl (fun c28 => ?_) (fun c28 => ?_)
  · have hf := if_t c28 hf
    exact hk207 v3 v4 s hf
  · have hf := if_f c28 hf
    refine e_aload_n dX12_drinks_156 0 rfl rfl (pc2 := 157) rfl ?_
    refine e_getR (r := 108) fl_X12_29 dX12_drinks_157 so_101 (rs_101_15 s.2.2) (by decide) (pc2 := 160) rfl ?_
    refine e_iload dX12_drinks_160 5 rfl (pc2 := 162) rfl ?_
    obtain ⟨g29, hf⟩ := gd_some hf
    refine e_iald dX12_drinks_162 sa_108 (inb_v g29) (pc2 := 163) rfl ?_
    refine e_iconst (x := 2) dX12_drinks_163 (by decide) (pc2 := 164) rfl ?_
    refine e_icmp_eq (tgt := 207) dX12_drinks_164 (by decide) (pc2 := 167) rfl (fun c30 => ?_) (fun c30 => ?_)
    · have hf := if_t c30 hf
      exact hk207 v3 v4 s hf
    · have hf := if_f c30 hf
      refine e_aload_n dX12_drinks_167 0 rfl rfl (pc2 := 168) rfl ?_
      refine e_iload_n dX12_drinks_168 1 rfl rfl (pc2 := 169) rfl ?_
      refine e_iload dX12_drinks_169 5 rfl (pc2 := 171) rfl ?_
      refine e_iload_n dX12_drinks_171 2 rfl rfl (pc2 := 172) rfl ?_
      obtain ⟨y31, hy31, hf⟩ := bnd_s hf
      refine e_callVs (t_X12_heatAt v1 v6 v3 s hy31) dX12_drinks_172 cv_X12_500 rfl so_101 rc_11 (by decide) (by first | exact Nat.le_of_ble_eq_true rfl | simp [rva_cat, vc_i, vc_r, vc_l, vc_n]) nn0 rfl (pc2 := 175) rfl ?_
      refine e_aload_n dX12_drinks_175 0 rfl rfl (pc2 := 176) rfl ?_
      refine e_getR (r := 103) fl_X12_13 dX12_drinks_176 so_101 (rs_101_10 s.2.2) (by decide) (pc2 := 179) rfl ?_
      refine e_bipush (x := 7) dX12_drinks_179 (by decide) (pc2 := 181) rfl ?_
      refine e_iald dX12_drinks_181 sa_103 (inb_v (by decide)) (pc2 := 182) rfl ?_
      refine e_icmp_le (tgt := 207) dX12_drinks_182 (by decide) (pc2 := 185) rfl (fun c33 => ?_) (fun c33 => ?_)
      · have hf := if_t c33 hf
        exact hk207 v3 v4 s hf
      · have hf := if_f c33 hf
        obtain ⟨x34, ex34, hf⟩ := ltb_s hf
        refine e_iinc dX12_drinks_185 2 rfl (c9 := 1) (by decide) ex34.symm (by decide) (ls' := [(0, .ref 101), (1, .int v1), (3, .int x34), (5, .int v5), (6, .int v6)]) [1, 2, 0, 4, 5] rfl (pc2 := 188) rfl ?_
        refine e_iload_n dX12_drinks_188 2 rfl rfl (pc2 := 189) rfl ?_
        refine e_aload_n dX12_drinks_189 0 rfl rfl (pc2 := 190) rfl ?_
        refine e_iload_n dX12_drinks_190 1 rfl rfl (pc2 := 191) rfl ?_
        obtain ⟨y35, hy35, hf⟩ := bnd_s hf
        refine e_callVs (t_X12_goesAt v1 s hy35) dX12_drinks_191 cv_X12_482 rfl so_101 rc_11 (by decide) (by first | exact Nat.le_of_ble_eq_true rfl | simp [rva_cat, vc_i, vc_r, vc_l, vc_n]) nn0 rfl (pc2 := 194) rfl ?_
        refine e_icmp_gt (tgt := 201) dX12_drinks_194 (by decide) (pc2 := 197) rfl (fun c36 => ?_) (fun c36 => ?_)
        · have hf := if_t c36 hf
          refine e_iconst (x := 0) dX12_drinks_201 (by decide) (pc2 := 202) rfl ?_
          refine e_istore dX12_drinks_202 (by decide) rfl (ls' := [(0, .ref 101), (1, .int v1), (3, .int x34), (4, .int 0), (5, .int v5), (6, .int v6)]) [1, 2, 3, 0, 4, 5] rfl (pc2 := 204) rfl ?_
          refine e_goto (tgt := 151) dX12_drinks_204 (by decide) ?_
          exact hk151 x34 0 s hf
        · have hf := if_f c36 hf
          refine e_iconst (x := 1) dX12_drinks_197 (by decide) (pc2 := 198) rfl ?_
          refine e_goto (tgt := 202) dX12_drinks_198 (by decide) ?_
          refine e_istore dX12_drinks_202 (by decide) rfl (ls' := [(0, .ref 101), (1, .int v1), (3, .int x34), (4, .int 1), (5, .int v5), (6, .int v6)]) [1, 2, 3, 0, 4, 5] rfl (pc2 := 204) rfl ?_
          refine e_goto (tgt := 151) dX12_drinks_204 (by decide) ?_
          exact hk151 x34 1 s hf
def f_X12_drinks_l151 (v1 : Int32) (v5 : Int32) (v6 : Int32) (k207 : Int32 → Int32 → HS → Option HS) : Nat → Int32 → Int32 → HS → Option HS
  | 0, _, _, _ => none
  | n + 1, v3, v4, s => f_X12_drinks_l151b v1 v3 v4 v5 v6 (f_X12_drinks_l151 v1 v5 v6 k207 n) k207 s
set_option maxRecDepth 20000 in
set_option maxHeartbeats 2000000 in
theorem t_X12_drinks_l151 (v1 : Int32) (v5 : Int32) (v6 : Int32) {t : HS} (k207 : Int32 → Int32 → HS → Option HS) (hk207 : ∀ (a3 : Int32) (a4 : Int32) (s : HS), k207 a3 a4 s = some t → Ev DDX12_drinks miX12_drinks NF none NF (hp t) 207 NF [(0, .ref 101), (1, .int v1), (3, .int a3), (4, .int a4), (5, .int v5), (6, .int v6)] [] (hp s)) : ∀ (n : Nat) (v3 : Int32) (v4 : Int32) (s : HS), f_X12_drinks_l151 v1 v5 v6 k207 n v3 v4 s = some t → Ev DDX12_drinks miX12_drinks NF none NF (hp t) 151 NF [(0, .ref 101), (1, .int v1), (3, .int v3), (4, .int v4), (5, .int v5), (6, .int v6)] [] (hp s) := by
  intro n
  induction n with
  | zero =>
    intro v3 v4 s hf
    have hf : none = some t := hf
    cases hf
  | succ n ih =>
    intro v3 v4 s hf
    exact t_X12_drinks_l151b v1 v3 v4 v5 v6  s _ ih _ hk207 hf
def f_X12_drinks_j320 (v1 : Int32) (v3 : Int32) (v4 : Int32) (v5 : Int32) (v6 : Int32) (k127 : Int32 → Int32 → Int32 → HS → Option HS) (s : HS) : Option HS :=
  gd (inb v1 6) (gd (inb v1 6) (ltb (sI s 153 (v1.toNatClampNeg) ((s.1 153 v1.toNatClampNeg) ||| ((1 : Int32) <<< (v6 &&& 31)))) fun s44 => ltb (v5 + 1) fun x46 => k127 v3 v4 x46 s44))
set_option maxRecDepth 20000 in
set_option maxHeartbeats 2000000 in
theorem t_X12_drinks_j320 (v1 : Int32) (v3 : Int32) (v4 : Int32) (v5 : Int32) (v6 : Int32) (s : HS) {t : HS} (k127 : Int32 → Int32 → Int32 → HS → Option HS) (hk127 : ∀ (a3 : Int32) (a4 : Int32) (a5 : Int32) (s : HS), k127 a3 a4 a5 s = some t → Ev DDX12_drinks miX12_drinks NF none NF (hp t) 127 NF [(0, .ref 101), (1, .int v1), (3, .int a3), (4, .int a4), (5, .int a5)] [] (hp s)) (hf : f_X12_drinks_j320 v1 v3 v4 v5 v6 k127 s = some t) : Ev DDX12_drinks miX12_drinks NF none NF (hp t) 320 NF [(0, .ref 101), (1, .int v1), (3, .int v3), (4, .int v4), (5, .int v5), (6, .int v6)] [] (hp s) := by
  refine e_aload_n dX12_drinks_320 0 rfl rfl (pc2 := 321) rfl ?_
  refine e_getR (r := 153) fl_X12_172 dX12_drinks_321 so_101 (rs_101_70 s.2.2) (by decide) (pc2 := 324) rfl ?_
  refine e_iload_n dX12_drinks_324 1 rfl rfl (pc2 := 325) rfl ?_
  refine e_dup2 dX12_drinks_325 rfl rfl (pc2 := 326) rfl ?_
  obtain ⟨g43, hf⟩ := gd_some hf
  refine e_iald dX12_drinks_326 sa_153 (inb_v g43) (pc2 := 327) rfl ?_
  refine e_iconst (x := 1) dX12_drinks_327 (by decide) (pc2 := 328) rfl ?_
  refine e_iload dX12_drinks_328 5 rfl (pc2 := 330) rfl ?_
  refine e_ishl dX12_drinks_330 (pc2 := 331) rfl ?_
  refine e_ior dX12_drinks_331 (pc2 := 332) rfl ?_
  obtain ⟨g45, hf⟩ := gd_some hf
  obtain ⟨s44, es44, hf⟩ := ltb_s hf
  refine e_iast dX12_drinks_332 sa_153 (inb_v g45) (h2 := hp s44) (by rw [es44]; rfl) (pc2 := 333) rfl ?_
  obtain ⟨x46, ex46, hf⟩ := ltb_s hf
  refine e_iinc dX12_drinks_333 4 rfl (c9 := 1) (by decide) ex46.symm (by decide) (ls' := [(0, .ref 101), (1, .int v1), (3, .int v3), (4, .int v4), (5, .int x46)]) [1, 2, 3, 4, 0] rfl (pc2 := 336) rfl ?_
  refine e_goto (tgt := 127) dX12_drinks_336 (by decide) ?_
  exact hk127 v3 v4 x46 s44 hf
def f_X12_drinks_j282 (v1 : Int32) (v3 : Int32) (v5 : Int32) (v6 : Int32) (v7 : Int32) (w0 : Int32) (k127 : Int32 → Int32 → Int32 → HS → Option HS) (s : HS) : Option HS :=
  (if w0 = 0 then f_X12_drinks_j320 v1 v3 w0 v5 v6 k127 s else (if v7 = 0 then gd (inb v1 6) (gd (inb v1 6) (ltb (sI s 152 (v1.toNatClampNeg) ((s.1 152 v1.toNatClampNeg) ||| ((1 : Int32) <<< (v6 &&& 31)))) fun s49 => ltb (v3 + (s49.1 103 8)) fun x52 => ltb (v5 + 1) fun x53 => k127 x52 w0 x53 s49)) else f_X12_drinks_j320 v1 v3 w0 v5 v6 k127 s))
set_option maxRecDepth 20000 in
set_option maxHeartbeats 2000000 in
theorem t_X12_drinks_j282 (v1 : Int32) (v3 : Int32) (v5 : Int32) (v6 : Int32) (v7 : Int32) (w0 : Int32) (s : HS) {t : HS} (k127 : Int32 → Int32 → Int32 → HS → Option HS) (hk127 : ∀ (a3 : Int32) (a4 : Int32) (a5 : Int32) (s : HS), k127 a3 a4 a5 s = some t → Ev DDX12_drinks miX12_drinks NF none NF (hp t) 127 NF [(0, .ref 101), (1, .int v1), (3, .int a3), (4, .int a4), (5, .int a5)] [] (hp s)) (hf : f_X12_drinks_j282 v1 v3 v5 v6 v7 w0 k127 s = some t) : Ev DDX12_drinks miX12_drinks NF none NF (hp t) 282 NF [(0, .ref 101), (1, .int v1), (3, .int v3), (5, .int v5), (6, .int v6), (7, .int v7)] [.int w0] (hp s) := by
  refine e_istore dX12_drinks_282 (by decide) rfl (ls' := [(0, .ref 101), (1, .int v1), (3, .int v3), (4, .int w0), (5, .int v5), (6, .int v6), (7, .int v7)]) [1, 2, 3, 0, 4, 5, 6] rfl (pc2 := 284) rfl ?_
  refine e_iload dX12_drinks_284 3 rfl (pc2 := 286) rfl ?_
  refine e_if_eq (tgt := 320) dX12_drinks_286 (by decide) (pc2 := 289) rfl (fun c42 => ?_) (fun c42 => ?_)
  · have hf := if_t c42 hf
    refine ev_sub [0, 1, 2, 3, 4, 5] rfl ?_
    exact t_X12_drinks_j320 v1 v3 w0 v5 v6 s _ hk127 hf
  · have hf := if_f c42 hf
    refine e_iload dX12_drinks_289 6 rfl (pc2 := 291) rfl ?_
    refine e_if_ne (tgt := 320) dX12_drinks_291 (by decide) (pc2 := 294) rfl (fun c47 => ?_) (fun c47 => ?_)
    · have hf := if_f c47 hf
      refine ev_sub [0, 1, 2, 3, 4, 5] rfl ?_
      exact t_X12_drinks_j320 v1 v3 w0 v5 v6 s _ hk127 hf
    · have hf := if_t c47 hf
      refine e_aload_n dX12_drinks_294 0 rfl rfl (pc2 := 295) rfl ?_
      refine e_getR (r := 152) fl_X12_169 dX12_drinks_295 so_101 (rs_101_69 s.2.2) (by decide) (pc2 := 298) rfl ?_
      refine e_iload_n dX12_drinks_298 1 rfl rfl (pc2 := 299) rfl ?_
      refine e_dup2 dX12_drinks_299 rfl rfl (pc2 := 300) rfl ?_
      obtain ⟨g48, hf⟩ := gd_some hf
      refine e_iald dX12_drinks_300 sa_152 (inb_v g48) (pc2 := 301) rfl ?_
      refine e_iconst (x := 1) dX12_drinks_301 (by decide) (pc2 := 302) rfl ?_
      refine e_iload dX12_drinks_302 5 rfl (pc2 := 304) rfl ?_
      refine e_ishl dX12_drinks_304 (pc2 := 305) rfl ?_
      refine e_ior dX12_drinks_305 (pc2 := 306) rfl ?_
      obtain ⟨g50, hf⟩ := gd_some hf
      obtain ⟨s49, es49, hf⟩ := ltb_s hf
      refine e_iast dX12_drinks_306 sa_152 (inb_v g50) (h2 := hp s49) (by rw [es49]; rfl) (pc2 := 307) rfl ?_
      refine e_iload_n dX12_drinks_307 2 rfl rfl (pc2 := 308) rfl ?_
      refine e_aload_n dX12_drinks_308 0 rfl rfl (pc2 := 309) rfl ?_
      refine e_getR (r := 103) fl_X12_13 dX12_drinks_309 so_101 (rs_101_10 s49.2.2) (by decide) (pc2 := 312) rfl ?_
      refine e_bipush (x := 8) dX12_drinks_312 (by decide) (pc2 := 314) rfl ?_
      refine e_iald dX12_drinks_314 sa_103 (inb_v (by decide)) (pc2 := 315) rfl ?_
      refine e_iadd dX12_drinks_315 (pc2 := 316) rfl ?_
      obtain ⟨x52, ex52, hf⟩ := ltb_s hf
      refine e_istore_n dX12_drinks_316 rfl (by decide) ex52.symm (ls' := [(0, .ref 101), (1, .int v1), (3, .int x52), (4, .int w0), (5, .int v5)]) [1, 2, 0, 3, 4] rfl (pc2 := 317) rfl ?_
      refine e_goto (tgt := 333) dX12_drinks_317 (by decide) ?_
      obtain ⟨x53, ex53, hf⟩ := ltb_s hf
      refine e_iinc dX12_drinks_333 4 rfl (c9 := 1) (by decide) ex53.symm (by decide) (ls' := [(0, .ref 101), (1, .int v1), (3, .int x52), (4, .int w0), (5, .int x53)]) [1, 2, 3, 4, 0] rfl (pc2 := 336) rfl ?_
      refine e_goto (tgt := 127) dX12_drinks_336 (by decide) ?_
      exact hk127 x52 w0 x53 s49 hf
def f_X12_drinks_j281 (v1 : Int32) (v3 : Int32) (v5 : Int32) (v6 : Int32) (v7 : Int32) (k127 : Int32 → Int32 → Int32 → HS → Option HS) (s : HS) : Option HS :=
  f_X12_drinks_j282 v1 v3 v5 v6 v7 0 k127 s
set_option maxRecDepth 20000 in
set_option maxHeartbeats 2000000 in
theorem t_X12_drinks_j281 (v1 : Int32) (v3 : Int32) (v5 : Int32) (v6 : Int32) (v7 : Int32) (s : HS) {t : HS} (k127 : Int32 → Int32 → Int32 → HS → Option HS) (hk127 : ∀ (a3 : Int32) (a4 : Int32) (a5 : Int32) (s : HS), k127 a3 a4 a5 s = some t → Ev DDX12_drinks miX12_drinks NF none NF (hp t) 127 NF [(0, .ref 101), (1, .int v1), (3, .int a3), (4, .int a4), (5, .int a5)] [] (hp s)) (hf : f_X12_drinks_j281 v1 v3 v5 v6 v7 k127 s = some t) : Ev DDX12_drinks miX12_drinks NF none NF (hp t) 281 NF [(0, .ref 101), (1, .int v1), (3, .int v3), (5, .int v5), (6, .int v6), (7, .int v7)] [] (hp s) := by
  refine e_iconst (x := 0) dX12_drinks_281 (by decide) (pc2 := 282) rfl ?_
  exact t_X12_drinks_j282 v1 v3 v5 v6 v7 0 s _ hk127 hf
def f_X12_drinks_j277 (v1 : Int32) (v3 : Int32) (v5 : Int32) (v6 : Int32) (v7 : Int32) (k127 : Int32 → Int32 → Int32 → HS → Option HS) (s : HS) : Option HS :=
  f_X12_drinks_j282 v1 v3 v5 v6 v7 1 k127 s
set_option maxRecDepth 20000 in
set_option maxHeartbeats 2000000 in
theorem t_X12_drinks_j277 (v1 : Int32) (v3 : Int32) (v5 : Int32) (v6 : Int32) (v7 : Int32) (s : HS) {t : HS} (k127 : Int32 → Int32 → Int32 → HS → Option HS) (hk127 : ∀ (a3 : Int32) (a4 : Int32) (a5 : Int32) (s : HS), k127 a3 a4 a5 s = some t → Ev DDX12_drinks miX12_drinks NF none NF (hp t) 127 NF [(0, .ref 101), (1, .int v1), (3, .int a3), (4, .int a4), (5, .int a5)] [] (hp s)) (hf : f_X12_drinks_j277 v1 v3 v5 v6 v7 k127 s = some t) : Ev DDX12_drinks miX12_drinks NF none NF (hp t) 277 NF [(0, .ref 101), (1, .int v1), (3, .int v3), (5, .int v5), (6, .int v6), (7, .int v7)] [] (hp s) := by
  refine e_iconst (x := 1) dX12_drinks_277 (by decide) (pc2 := 278) rfl ?_
  refine e_goto (tgt := 282) dX12_drinks_278 (by decide) ?_
  exact t_X12_drinks_j282 v1 v3 v5 v6 v7 1 s _ hk127 hf
def f_X12_drinks_j248 (v1 : Int32) (v3 : Int32) (v4 : Int32) (v5 : Int32) (v6 : Int32) (w0 : Int32) (k127 : Int32 → Int32 → Int32 → HS → Option HS) (s : HS) : Option HS :=
  (if v4 = 0 then f_X12_drinks_j281 v1 v3 v5 v6 w0 k127 s else (if w0 = 0 then bnd (f_X12_goesAt v1 s) fun y56 => (if y56 < (v3 + (s.1 103 8)) then f_X12_drinks_j281 v1 v3 v5 v6 w0 k127 s else f_X12_drinks_j277 v1 v3 v5 v6 w0 k127 s) else f_X12_drinks_j277 v1 v3 v5 v6 w0 k127 s))
set_option maxRecDepth 20000 in
set_option maxHeartbeats 2000000 in
theorem t_X12_drinks_j248 (v1 : Int32) (v3 : Int32) (v4 : Int32) (v5 : Int32) (v6 : Int32) (w0 : Int32) (s : HS) {t : HS} (k127 : Int32 → Int32 → Int32 → HS → Option HS) (hk127 : ∀ (a3 : Int32) (a4 : Int32) (a5 : Int32) (s : HS), k127 a3 a4 a5 s = some t → Ev DDX12_drinks miX12_drinks NF none NF (hp t) 127 NF [(0, .ref 101), (1, .int v1), (3, .int a3), (4, .int a4), (5, .int a5)] [] (hp s)) (hf : f_X12_drinks_j248 v1 v3 v4 v5 v6 w0 k127 s = some t) : Ev DDX12_drinks miX12_drinks NF none NF (hp t) 248 NF [(0, .ref 101), (1, .int v1), (3, .int v3), (4, .int v4), (5, .int v5), (6, .int v6)] [.int w0] (hp s) := by
  refine e_istore dX12_drinks_248 (by decide) rfl (ls' := [(0, .ref 101), (1, .int v1), (3, .int v3), (4, .int v4), (5, .int v5), (6, .int v6), (7, .int w0)]) [1, 2, 3, 4, 5, 6, 0] rfl (pc2 := 250) rfl ?_
  refine e_iload dX12_drinks_250 3 rfl (pc2 := 252) rfl ?_
  refine e_if_eq (tgt := 281) dX12_drinks_252 (by decide) (pc2 := 255) rfl (fun c41 => ?_) (fun c41 => ?_)
  · have hf := if_t c41 hf
    refine ev_sub [0, 1, 2, 4, 5, 6] rfl ?_
    exact t_X12_drinks_j281 v1 v3 v5 v6 w0 s _ hk127 hf
  · have hf := if_f c41 hf
    refine e_iload dX12_drinks_255 6 rfl (pc2 := 257) rfl ?_
    refine e_if_ne (tgt := 277) dX12_drinks_257 (by decide) (pc2 := 260) rfl (fun c54 => ?_) (fun c54 => ?_)
    · have hf := if_f c54 hf
      refine ev_sub [0, 1, 2, 4, 5, 6] rfl ?_
      exact t_X12_drinks_j277 v1 v3 v5 v6 w0 s _ hk127 hf
    · have hf := if_t c54 hf
      refine e_iload_n dX12_drinks_260 2 rfl rfl (pc2 := 261) rfl ?_
      refine e_aload_n dX12_drinks_261 0 rfl rfl (pc2 := 262) rfl ?_
      refine e_getR (r := 103) fl_X12_13 dX12_drinks_262 so_101 (rs_101_10 s.2.2) (by decide) (pc2 := 265) rfl ?_
      refine e_bipush (x := 8) dX12_drinks_265 (by decide) (pc2 := 267) rfl ?_
      refine e_iald dX12_drinks_267 sa_103 (inb_v (by decide)) (pc2 := 268) rfl ?_
      refine e_iadd dX12_drinks_268 (pc2 := 269) rfl ?_
      refine e_aload_n dX12_drinks_269 0 rfl rfl (pc2 := 270) rfl ?_
      refine e_iload_n dX12_drinks_270 1 rfl rfl (pc2 := 271) rfl ?_
      obtain ⟨y56, hy56, hf⟩ := bnd_s hf
      refine e_callVs (t_X12_goesAt v1 s hy56) dX12_drinks_271 cv_X12_482 rfl so_101 rc_11 (by decide) (by first | exact Nat.le_of_ble_eq_true rfl | simp [rva_cat, vc_i, vc_r, vc_l, vc_n]) nn0 rfl (pc2 := 274) rfl ?_
      refine e_icmp_gt (tgt := 281) dX12_drinks_274 (by decide) (pc2 := 277) rfl (fun c57 => ?_) (fun c57 => ?_)
      · have hf := if_t c57 hf
        refine ev_sub [0, 1, 2, 4, 5, 6] rfl ?_
        exact t_X12_drinks_j281 v1 v3 v5 v6 w0 s _ hk127 hf
      · have hf := if_f c57 hf
        refine ev_sub [0, 1, 2, 4, 5, 6] rfl ?_
        exact t_X12_drinks_j277 v1 v3 v5 v6 w0 s _ hk127 hf
def f_X12_drinks_j247 (v1 : Int32) (v3 : Int32) (v4 : Int32) (v5 : Int32) (v6 : Int32) (k127 : Int32 → Int32 → Int32 → HS → Option HS) (s : HS) : Option HS :=
  f_X12_drinks_j248 v1 v3 v4 v5 v6 0 k127 s
set_option maxRecDepth 20000 in
set_option maxHeartbeats 2000000 in
theorem t_X12_drinks_j247 (v1 : Int32) (v3 : Int32) (v4 : Int32) (v5 : Int32) (v6 : Int32) (s : HS) {t : HS} (k127 : Int32 → Int32 → Int32 → HS → Option HS) (hk127 : ∀ (a3 : Int32) (a4 : Int32) (a5 : Int32) (s : HS), k127 a3 a4 a5 s = some t → Ev DDX12_drinks miX12_drinks NF none NF (hp t) 127 NF [(0, .ref 101), (1, .int v1), (3, .int a3), (4, .int a4), (5, .int a5)] [] (hp s)) (hf : f_X12_drinks_j247 v1 v3 v4 v5 v6 k127 s = some t) : Ev DDX12_drinks miX12_drinks NF none NF (hp t) 247 NF [(0, .ref 101), (1, .int v1), (3, .int v3), (4, .int v4), (5, .int v5), (6, .int v6)] [] (hp s) := by
  refine e_iconst (x := 0) dX12_drinks_247 (by decide) (pc2 := 248) rfl ?_
  exact t_X12_drinks_j248 v1 v3 v4 v5 v6 0 s _ hk127 hf
def f_X12_drinks_j207 (v1 : Int32) (v3 : Int32) (v4 : Int32) (v5 : Int32) (v6 : Int32) (k127 : Int32 → Int32 → Int32 → HS → Option HS) (s : HS) : Option HS :=
  (if v4 = 0 then f_X12_drinks_j247 v1 v3 v4 v5 v6 k127 s else gd (inb v1 6) ((if (s.1 155 v1.toNatClampNeg) = 0 then f_X12_drinks_j247 v1 v3 v4 v5 v6 k127 s else (if v6 = (s.1 101 64) then bnd (f_X12_heatAt v1 v6 v3 s) fun y61 => (if 20 ≤ y61 then f_X12_drinks_j247 v1 v3 v4 v5 v6 k127 s else f_X12_drinks_j248 v1 v3 v4 v5 v6 1 k127 s) else f_X12_drinks_j247 v1 v3 v4 v5 v6 k127 s))))
set_option maxRecDepth 20000 in
set_option maxHeartbeats 2000000 in
theorem t_X12_drinks_j207 (v1 : Int32) (v3 : Int32) (v4 : Int32) (v5 : Int32) (v6 : Int32) (s : HS) {t : HS} (k127 : Int32 → Int32 → Int32 → HS → Option HS) (hk127 : ∀ (a3 : Int32) (a4 : Int32) (a5 : Int32) (s : HS), k127 a3 a4 a5 s = some t → Ev DDX12_drinks miX12_drinks NF none NF (hp t) 127 NF [(0, .ref 101), (1, .int v1), (3, .int a3), (4, .int a4), (5, .int a5)] [] (hp s)) (hf : f_X12_drinks_j207 v1 v3 v4 v5 v6 k127 s = some t) : Ev DDX12_drinks miX12_drinks NF none NF (hp t) 207 NF [(0, .ref 101), (1, .int v1), (3, .int v3), (4, .int v4), (5, .int v5), (6, .int v6)] [] (hp s) := by
  refine e_iload dX12_drinks_207 3 rfl (pc2 := 209) rfl ?_
  refine e_if_eq (tgt := 247) dX12_drinks_209 (by decide) (pc2 := 212) rfl (fun c40 => ?_) (fun c40 => ?_)
  · have hf := if_t c40 hf
    exact t_X12_drinks_j247 v1 v3 v4 v5 v6 s _ hk127 hf
  · have hf := if_f c40 hf
    refine e_aload_n dX12_drinks_212 0 rfl rfl (pc2 := 213) rfl ?_
    refine e_getR (r := 155) fl_X12_178 dX12_drinks_213 so_101 (rs_101_72 s.2.2) (by decide) (pc2 := 216) rfl ?_
    refine e_iload_n dX12_drinks_216 1 rfl rfl (pc2 := 217) rfl ?_
    obtain ⟨g58, hf⟩ := gd_some hf
    refine e_zald dX12_drinks_217 sa_155 (inb_v g58) (pc2 := 218) rfl ?_
    refine e_if_eq (tgt := 247) dX12_drinks_218 (by decide) (pc2 := 221) rfl (fun c59 => ?_) (fun c59 => ?_)
    · have hf := if_t c59 hf
      exact t_X12_drinks_j247 v1 v3 v4 v5 v6 s _ hk127 hf
    · have hf := if_f c59 hf
      refine e_iload dX12_drinks_221 5 rfl (pc2 := 223) rfl ?_
      refine e_aload_n dX12_drinks_223 0 rfl rfl (pc2 := 224) rfl ?_
      refine e_getI fl_X12_160 dX12_drinks_224 so_101 (by decide) (pc2 := 227) rfl ?_
      refine e_icmp_ne (tgt := 247) dX12_drinks_227 (by decide) (pc2 := 230) rfl (fun c60 => ?_) (fun c60 => ?_)
      · have hf := if_f c60 hf
        exact t_X12_drinks_j247 v1 v3 v4 v5 v6 s _ hk127 hf
      · have hf := if_t c60 hf
        refine e_aload_n dX12_drinks_230 0 rfl rfl (pc2 := 231) rfl ?_
        refine e_iload_n dX12_drinks_231 1 rfl rfl (pc2 := 232) rfl ?_
        refine e_iload dX12_drinks_232 5 rfl (pc2 := 234) rfl ?_
        refine e_iload_n dX12_drinks_234 2 rfl rfl (pc2 := 235) rfl ?_
        obtain ⟨y61, hy61, hf⟩ := bnd_s hf
        refine e_callVs (t_X12_heatAt v1 v6 v3 s hy61) dX12_drinks_235 cv_X12_500 rfl so_101 rc_11 (by decide) (by first | exact Nat.le_of_ble_eq_true rfl | simp [rva_cat, vc_i, vc_r, vc_l, vc_n]) nn0 rfl (pc2 := 238) rfl ?_
        refine e_bipush (x := 20) dX12_drinks_238 (by decide) (pc2 := 240) rfl ?_
        refine e_icmp_ge (tgt := 247) dX12_drinks_240 (by decide) (pc2 := 243) rfl (fun c62 => ?_) (fun c62 => ?_)
        · have hf := if_t c62 hf
          exact t_X12_drinks_j247 v1 v3 v4 v5 v6 s _ hk127 hf
        · have hf := if_f c62 hf
          refine e_iconst (x := 1) dX12_drinks_243 (by decide) (pc2 := 244) rfl ?_
          refine e_goto (tgt := 248) dX12_drinks_244 (by decide) ?_
          exact t_X12_drinks_j248 v1 v3 v4 v5 v6 1 s _ hk127 hf
def f_X12_drinks_l127b (v1 : Int32) (v3 : Int32) (v4 : Int32) (v5 : Int32) (k127 : Int32 → Int32 → Int32 → HS → Option HS) (s : HS) : Option HS :=
  gd (inb v1 12) ((if (s.1 118 v1.toNatClampNeg) ≤ v5 then some s else gd (inb ((3 * v1) + v5) 36) (ltb (s.1 117 ((3 * v1) + v5).toNatClampNeg) fun x27 => f_X12_drinks_l151 v1 v5 x27 (fun v37 v38 s39 => f_X12_drinks_j207 v1 v37 v38 v5 x27 k127 s39) FU v3 v4 s)))
set_option maxRecDepth 20000 in
set_option maxHeartbeats 2000000 in
theorem t_X12_drinks_l127b (v1 : Int32) (v3 : Int32) (v4 : Int32) (v5 : Int32) (s : HS) {t : HS} (k127 : Int32 → Int32 → Int32 → HS → Option HS) (hk127 : ∀ (a3 : Int32) (a4 : Int32) (a5 : Int32) (s : HS), k127 a3 a4 a5 s = some t → Ev DDX12_drinks miX12_drinks NF none NF (hp t) 127 NF [(0, .ref 101), (1, .int v1), (3, .int a3), (4, .int a4), (5, .int a5)] [] (hp s)) (hf : f_X12_drinks_l127b v1 v3 v4 v5 k127 s = some t) : Ev DDX12_drinks miX12_drinks NF none NF (hp t) 127 NF [(0, .ref 101), (1, .int v1), (3, .int v3), (4, .int v4), (5, .int v5)] [] (hp s) := by
  refine e_iload dX12_drinks_127 4 rfl (pc2 := 129) rfl ?_
  refine e_aload_n dX12_drinks_129 0 rfl rfl (pc2 := 130) rfl ?_
  refine e_getR (r := 118) fl_X12_59 dX12_drinks_130 so_101 (rs_101_25 s.2.2) (by decide) (pc2 := 133) rfl ?_
  refine e_iload_n dX12_drinks_133 1 rfl rfl (pc2 := 134) rfl ?_
  obtain ⟨g24, hf⟩ := gd_some hf
  refine e_iald dX12_drinks_134 sa_118 (inb_v g24) (pc2 := 135) rfl ?_
  refine e_icmp_ge (tgt := 339) dX12_drinks_135 (by decide) (pc2 := 138) rfl (fun c25 => ?_) (fun c25 => ?_)
  · have hf := if_t c25 hf
    cases hf
    exact e_vret rfl dX12_drinks_339
  · have hf := if_f c25 hf
    refine e_aload_n dX12_drinks_138 0 rfl rfl (pc2 := 139) rfl ?_
    refine e_getR (r := 117) fl_X12_56 dX12_drinks_139 so_101 (rs_101_24 s.2.2) (by decide) (pc2 := 142) rfl ?_
    refine e_iconst (x := 3) dX12_drinks_142 (by decide) (pc2 := 143) rfl ?_
    refine e_iload_n dX12_drinks_143 1 rfl rfl (pc2 := 144) rfl ?_
    refine e_imul dX12_drinks_144 (pc2 := 145) rfl ?_
    refine e_iload dX12_drinks_145 4 rfl (pc2 := 147) rfl ?_
    refine e_iadd dX12_drinks_147 (pc2 := 148) rfl ?_
    obtain ⟨g26, hf⟩ := gd_some hf
    refine e_iald dX12_drinks_148 sa_117 (inb_v g26) (pc2 := 149) rfl ?_
    obtain ⟨x27, ex27, hf⟩ := ltb_s hf
    refine e_istore dX12_drinks_149 (by decide) ex27.symm (ls' := [(0, .ref 101), (1, .int v1), (3, .int v3), (4, .int v4), (5, .int v5), (6, .int x27)]) [1, 2, 3, 4, 5, 0] rfl (pc2 := 151) rfl ?_
    refine t_X12_drinks_l151 v1 v5 x27 _ ?_ FU v3 v4 s hf
    · intro v37 v38 s39 hf
      exact t_X12_drinks_j207 v1 v37 v38 v5 x27 s39 _ hk127 hf
def f_X12_drinks_l127 (v1 : Int32) : Nat → Int32 → Int32 → Int32 → HS → Option HS
  | 0, _, _, _, _ => none
  | n + 1, v3, v4, v5, s => f_X12_drinks_l127b v1 v3 v4 v5 (f_X12_drinks_l127 v1 n)  s
set_option maxRecDepth 20000 in
set_option maxHeartbeats 2000000 in
theorem t_X12_drinks_l127 (v1 : Int32) {t : HS}  : ∀ (n : Nat) (v3 : Int32) (v4 : Int32) (v5 : Int32) (s : HS), f_X12_drinks_l127 v1 n v3 v4 v5 s = some t → Ev DDX12_drinks miX12_drinks NF none NF (hp t) 127 NF [(0, .ref 101), (1, .int v1), (3, .int v3), (4, .int v4), (5, .int v5)] [] (hp s) := by
  intro n
  induction n with
  | zero =>
    intro v3 v4 v5 s hf
    have hf : none = some t := hf
    cases hf
  | succ n ih =>
    intro v3 v4 v5 s hf
    exact t_X12_drinks_l127b v1 v3 v4 v5  s _ ih  hf
def f_X12_drinks_j122 (v1 : Int32) (v3 : Int32) (w0 : Int32) (s : HS) : Option HS :=
  f_X12_drinks_l127 v1 FU v3 w0 0 s
set_option maxRecDepth 20000 in
set_option maxHeartbeats 2000000 in
theorem t_X12_drinks_j122 (v1 : Int32) (v3 : Int32) (w0 : Int32) (s : HS) {t : HS}  (hf : f_X12_drinks_j122 v1 v3 w0 s = some t) : Ev DDX12_drinks miX12_drinks NF none NF (hp t) 122 NF [(0, .ref 101), (1, .int v1), (3, .int v3)] [.int w0] (hp s) := by
  refine e_istore dX12_drinks_122 (by decide) rfl (ls' := [(0, .ref 101), (1, .int v1), (3, .int v3), (4, .int w0)]) [1, 2, 3, 0] rfl (pc2 := 124) rfl ?_
  refine e_iconst (x := 0) dX12_drinks_124 (by decide) (pc2 := 125) rfl ?_
  refine e_istore dX12_drinks_125 (by decide) rfl (ls' := [(0, .ref 101), (1, .int v1), (3, .int v3), (4, .int w0), (5, .int 0)]) [1, 2, 3, 4, 0] rfl (pc2 := 127) rfl ?_
  refine t_X12_drinks_l127 v1 FU v3 w0 0 s hf
def f_X12_drinks_j90 (v1 : Int32) (w0 : Int32) (w1 : Int32) (s : HS) : Option HS :=
  gd (inb w1 6) (ltb (sI s 154 (w1.toNatClampNeg) w0) fun s16 => gd (inb v1 6) ((if 0 ≤ (s16.1 151 v1.toNatClampNeg) then gd (inb v1 6) (ltb (s16.1 151 v1.toNatClampNeg) fun x21 => bnd (f_X12_goesAt v1 s16) fun y22 => (if y22 < x21 then f_X12_drinks_j122 v1 x21 0 s16 else f_X12_drinks_j122 v1 x21 1 s16)) else some s16)))
set_option maxRecDepth 20000 in
set_option maxHeartbeats 2000000 in
theorem t_X12_drinks_j90 (v1 : Int32) (w0 : Int32) (w1 : Int32) (s : HS) {t : HS}  (hf : f_X12_drinks_j90 v1 w0 w1 s = some t) : Ev DDX12_drinks miX12_drinks NF none NF (hp t) 90 NF [(0, .ref 101), (1, .int v1)] [.int w0, .int w1, .ref 154] (hp s) := by
  obtain ⟨g17, hf⟩ := gd_some hf
  obtain ⟨s16, es16, hf⟩ := ltb_s hf
  refine e_iast dX12_drinks_90 sa_154 (inb_v g17) (h2 := hp s16) (by rw [es16]; rfl) (pc2 := 91) rfl ?_
  refine e_aload_n dX12_drinks_91 0 rfl rfl (pc2 := 92) rfl ?_
  refine e_getR (r := 151) fl_X12_166 dX12_drinks_92 so_101 (rs_101_68 s16.2.2) (by decide) (pc2 := 95) rfl ?_
  refine e_iload_n dX12_drinks_95 1 rfl rfl (pc2 := 96) rfl ?_
  obtain ⟨g18, hf⟩ := gd_some hf
  refine e_iald dX12_drinks_96 sa_151 (inb_v g18) (pc2 := 97) rfl ?_
  refine e_if_ge (tgt := 101) dX12_drinks_97 (by decide) (pc2 := 100) rfl (fun c19 => ?_) (fun c19 => ?_)
  · have hf := if_t c19 hf
    refine e_aload_n dX12_drinks_101 0 rfl rfl (pc2 := 102) rfl ?_
    refine e_getR (r := 151) fl_X12_166 dX12_drinks_102 so_101 (rs_101_68 s16.2.2) (by decide) (pc2 := 105) rfl ?_
    refine e_iload_n dX12_drinks_105 1 rfl rfl (pc2 := 106) rfl ?_
    obtain ⟨g20, hf⟩ := gd_some hf
    refine e_iald dX12_drinks_106 sa_151 (inb_v g20) (pc2 := 107) rfl ?_
    obtain ⟨x21, ex21, hf⟩ := ltb_s hf
    refine e_istore_n dX12_drinks_107 rfl (by decide) ex21.symm (ls' := [(0, .ref 101), (1, .int v1), (3, .int x21)]) [1, 2, 0] rfl (pc2 := 108) rfl ?_
    refine e_iload_n dX12_drinks_108 2 rfl rfl (pc2 := 109) rfl ?_
    refine e_aload_n dX12_drinks_109 0 rfl rfl (pc2 := 110) rfl ?_
    refine e_iload_n dX12_drinks_110 1 rfl rfl (pc2 := 111) rfl ?_
    obtain ⟨y22, hy22, hf⟩ := bnd_s hf
    refine e_callVs (t_X12_goesAt v1 s16 hy22) dX12_drinks_111 cv_X12_482 rfl so_101 rc_11 (by decide) (by first | exact Nat.le_of_ble_eq_true rfl | simp [rva_cat, vc_i, vc_r, vc_l, vc_n]) nn0 rfl (pc2 := 114) rfl ?_
    refine e_icmp_gt (tgt := 121) dX12_drinks_114 (by decide) (pc2 := 117) rfl (fun c23 => ?_) (fun c23 => ?_)
    · have hf := if_t c23 hf
      refine e_iconst (x := 0) dX12_drinks_121 (by decide) (pc2 := 122) rfl ?_
      exact t_X12_drinks_j122 v1 x21 0 s16 hf
    · have hf := if_f c23 hf
      refine e_iconst (x := 1) dX12_drinks_117 (by decide) (pc2 := 118) rfl ?_
      refine e_goto (tgt := 122) dX12_drinks_118 (by decide) ?_
      exact t_X12_drinks_j122 v1 x21 1 s16 hf
  · have hf := if_f c19 hf
    cases hf
    exact e_vret rfl dX12_drinks_100
def f_X12_drinks_j63 (v1 : Int32) (w0 : Int32) (s : HS) : Option HS :=
  bnd (f_X12_wayOf v1 s) fun y13 => (if (w0 + y13) ≤ (s.1 103 3) then f_X12_drinks_j90 v1 0 v1 s else f_X12_drinks_j90 v1 1 v1 s)
set_option maxRecDepth 20000 in
set_option maxHeartbeats 2000000 in
theorem t_X12_drinks_j63 (v1 : Int32) (w0 : Int32) (s : HS) {t : HS}  (hf : f_X12_drinks_j63 v1 w0 s = some t) : Ev DDX12_drinks miX12_drinks NF none NF (hp t) 63 NF [(0, .ref 101), (1, .int v1)] [.int w0] (hp s) := by
  refine e_istore_n dX12_drinks_63 rfl (by decide) rfl (ls' := [(0, .ref 101), (1, .int v1), (2, .int w0)]) [1, 2, 0] rfl (pc2 := 64) rfl ?_
  refine e_aload_n dX12_drinks_64 0 rfl rfl (pc2 := 65) rfl ?_
  refine e_getR (r := 154) fl_X12_175 dX12_drinks_65 so_101 (rs_101_71 s.2.2) (by decide) (pc2 := 68) rfl ?_
  refine e_iload_n dX12_drinks_68 1 rfl rfl (pc2 := 69) rfl ?_
  refine e_iload_n dX12_drinks_69 2 rfl rfl (pc2 := 70) rfl ?_
  refine e_aload_n dX12_drinks_70 0 rfl rfl (pc2 := 71) rfl ?_
  refine e_iload_n dX12_drinks_71 1 rfl rfl (pc2 := 72) rfl ?_
  obtain ⟨y13, hy13, hf⟩ := bnd_s hf
  refine e_callVs (t_X12_wayOf v1 s hy13) dX12_drinks_72 cv_X12_447 rfl so_101 rc_11 (by decide) (by first | exact Nat.le_of_ble_eq_true rfl | simp [rva_cat, vc_i, vc_r, vc_l, vc_n]) nn0 rfl (pc2 := 75) rfl ?_
  refine e_iadd dX12_drinks_75 (pc2 := 76) rfl ?_
  refine e_aload_n dX12_drinks_76 0 rfl rfl (pc2 := 77) rfl ?_
  refine e_getR (r := 103) fl_X12_13 dX12_drinks_77 so_101 (rs_101_10 s.2.2) (by decide) (pc2 := 80) rfl ?_
  refine e_iconst (x := 3) dX12_drinks_80 (by decide) (pc2 := 81) rfl ?_
  refine e_iald dX12_drinks_81 sa_103 (inb_v (by decide)) (pc2 := 82) rfl ?_
  refine e_icmp_le (tgt := 89) dX12_drinks_82 (by decide) (pc2 := 85) rfl (fun c15 => ?_) (fun c15 => ?_)
  · have hf := if_t c15 hf
    refine e_iconst (x := 0) dX12_drinks_89 (by decide) (pc2 := 90) rfl ?_
    refine ev_sub [0, 1] rfl ?_
    exact t_X12_drinks_j90 v1 0 v1 s hf
  · have hf := if_f c15 hf
    refine e_iconst (x := 1) dX12_drinks_85 (by decide) (pc2 := 86) rfl ?_
    refine e_goto (tgt := 90) dX12_drinks_86 (by decide) ?_
    refine ev_sub [0, 1] rfl ?_
    exact t_X12_drinks_j90 v1 1 v1 s hf
def f_X12_drinks (v1 : Int32) (s : HS) : Option HS :=
  gd (inb v1 6) (ltb (sI s 152 (v1.toNatClampNeg) 0) fun s1 => gd (inb v1 6) (ltb (sI s1 153 (v1.toNatClampNeg) 0) fun s3 => gd (inb v1 6) (ltb (sI s3 154 (v1.toNatClampNeg) 0) fun s5 => (if (((s5.1 145 0) >>> (v1 &&& 31)) &&& (1 : Int32)) = 0 then some s5 else gd (inb v1 6) (bnd (f_X12_goesAt v1 s5) fun y10 => (if (s5.1 151 v1.toNatClampNeg) ≤ y10 then bnd (f_X12_goesAt v1 s5) fun y12 => f_X12_drinks_j63 v1 y12 s5 else gd (inb v1 6) (f_X12_drinks_j63 v1 (s5.1 151 v1.toNatClampNeg) s5)))))))
set_option maxRecDepth 20000 in
set_option maxHeartbeats 2000000 in
theorem t_X12_drinks (v1 : Int32) (s : HS) {t : HS} (hf : f_X12_drinks  v1 s = some t) : Mt DDX12_drinks miX12_drinks [.ref 101, .int v1] NF (hp s) none NF (hp t) := by
  refine Mt.of (by decide +kernel) (Nat.le_refl _) (Nat.le_of_ble_eq_true rfl) ?_
  show Ev DDX12_drinks miX12_drinks NF none NF (hp t) 0 NF [(0, .ref 101), (1, .int v1)] [] (hp s)
  unfold f_X12_drinks at hf
  refine e_aload_n dX12_drinks_0 0 rfl rfl (pc2 := 1) rfl ?_
  refine e_getR (r := 152) fl_X12_169 dX12_drinks_1 so_101 (rs_101_69 s.2.2) (by decide) (pc2 := 4) rfl ?_
  refine e_iload_n dX12_drinks_4 1 rfl rfl (pc2 := 5) rfl ?_
  refine e_iconst (x := 0) dX12_drinks_5 (by decide) (pc2 := 6) rfl ?_
  obtain ⟨g2, hf⟩ := gd_some hf
  obtain ⟨s1, es1, hf⟩ := ltb_s hf
  refine e_iast dX12_drinks_6 sa_152 (inb_v g2) (h2 := hp s1) (by rw [es1]; rfl) (pc2 := 7) rfl ?_
  refine e_aload_n dX12_drinks_7 0 rfl rfl (pc2 := 8) rfl ?_
  refine e_getR (r := 153) fl_X12_172 dX12_drinks_8 so_101 (rs_101_70 s1.2.2) (by decide) (pc2 := 11) rfl ?_
  refine e_iload_n dX12_drinks_11 1 rfl rfl (pc2 := 12) rfl ?_
  refine e_iconst (x := 0) dX12_drinks_12 (by decide) (pc2 := 13) rfl ?_
  obtain ⟨g4, hf⟩ := gd_some hf
  obtain ⟨s3, es3, hf⟩ := ltb_s hf
  refine e_iast dX12_drinks_13 sa_153 (inb_v g4) (h2 := hp s3) (by rw [es3]; rfl) (pc2 := 14) rfl ?_
  refine e_aload_n dX12_drinks_14 0 rfl rfl (pc2 := 15) rfl ?_
  refine e_getR (r := 154) fl_X12_175 dX12_drinks_15 so_101 (rs_101_71 s3.2.2) (by decide) (pc2 := 18) rfl ?_
  refine e_iload_n dX12_drinks_18 1 rfl rfl (pc2 := 19) rfl ?_
  refine e_iconst (x := 0) dX12_drinks_19 (by decide) (pc2 := 20) rfl ?_
  obtain ⟨g6, hf⟩ := gd_some hf
  obtain ⟨s5, es5, hf⟩ := ltb_s hf
  refine e_iast dX12_drinks_20 sa_154 (inb_v g6) (h2 := hp s5) (by rw [es5]; rfl) (pc2 := 21) rfl ?_
  refine e_aload_n dX12_drinks_21 0 rfl rfl (pc2 := 22) rfl ?_
  refine e_getR (r := 145) fl_X12_141 dX12_drinks_22 so_101 (rs_101_55 s5.2.2) (by decide) (pc2 := 25) rfl ?_
  refine e_iconst (x := 0) dX12_drinks_25 (by decide) (pc2 := 26) rfl ?_
  refine e_iald dX12_drinks_26 sa_145 (inb_v (by decide)) (pc2 := 27) rfl ?_
  refine e_iload_n dX12_drinks_27 1 rfl rfl (pc2 := 28) rfl ?_
  refine e_ishr dX12_drinks_28 (pc2 := 29) rfl ?_
  refine e_iconst (x := 1) dX12_drinks_29 (by decide) (pc2 := 30) rfl ?_
  refine e_iand dX12_drinks_30 (pc2 := 31) rfl ?_
  refine e_if_ne (tgt := 35) dX12_drinks_31 (by decide) (pc2 := 34) rfl (fun c8 => ?_) (fun c8 => ?_)
  · have hf := if_f c8 hf
    refine e_aload_n dX12_drinks_35 0 rfl rfl (pc2 := 36) rfl ?_
    refine e_getR (r := 151) fl_X12_166 dX12_drinks_36 so_101 (rs_101_68 s5.2.2) (by decide) (pc2 := 39) rfl ?_
    refine e_iload_n dX12_drinks_39 1 rfl rfl (pc2 := 40) rfl ?_
    obtain ⟨g9, hf⟩ := gd_some hf
    refine e_iald dX12_drinks_40 sa_151 (inb_v g9) (pc2 := 41) rfl ?_
    refine e_aload_n dX12_drinks_41 0 rfl rfl (pc2 := 42) rfl ?_
    refine e_iload_n dX12_drinks_42 1 rfl rfl (pc2 := 43) rfl ?_
    obtain ⟨y10, hy10, hf⟩ := bnd_s hf
    refine e_callVs (t_X12_goesAt v1 s5 hy10) dX12_drinks_43 cv_X12_482 rfl so_101 rc_11 (by decide) (by first | exact Nat.le_of_ble_eq_true rfl | simp [rva_cat, vc_i, vc_r, vc_l, vc_n]) nn0 rfl (pc2 := 46) rfl ?_
    refine e_icmp_le (tgt := 58) dX12_drinks_46 (by decide) (pc2 := 49) rfl (fun c11 => ?_) (fun c11 => ?_)
    · have hf := if_t c11 hf
      refine e_aload_n dX12_drinks_58 0 rfl rfl (pc2 := 59) rfl ?_
      refine e_iload_n dX12_drinks_59 1 rfl rfl (pc2 := 60) rfl ?_
      obtain ⟨y12, hy12, hf⟩ := bnd_s hf
      refine e_callVs (t_X12_goesAt v1 s5 hy12) dX12_drinks_60 cv_X12_482 rfl so_101 rc_11 (by decide) (by first | exact Nat.le_of_ble_eq_true rfl | simp [rva_cat, vc_i, vc_r, vc_l, vc_n]) nn0 rfl (pc2 := 63) rfl ?_
      exact t_X12_drinks_j63 v1 y12 s5 hf
    · have hf := if_f c11 hf
      refine e_aload_n dX12_drinks_49 0 rfl rfl (pc2 := 50) rfl ?_
      refine e_getR (r := 151) fl_X12_166 dX12_drinks_50 so_101 (rs_101_68 s5.2.2) (by decide) (pc2 := 53) rfl ?_
      refine e_iload_n dX12_drinks_53 1 rfl rfl (pc2 := 54) rfl ?_
      obtain ⟨g63, hf⟩ := gd_some hf
      refine e_iald dX12_drinks_54 sa_151 (inb_v g63) (pc2 := 55) rfl ?_
      refine e_goto (tgt := 63) dX12_drinks_55 (by decide) ?_
      exact t_X12_drinks_j63 v1 (s5.1 151 v1.toNatClampNeg) s5 hf
  · have hf := if_t c8 hf
    cases hf
    exact e_vret rfl dX12_drinks_34
abbrev DDX12_runs : Nat := 6
def f_X12_runs_l2b (v1 : Int32) (k2 : Int32 → HS → Option HS) (k35 : HS → Option HS) (s : HS) : Option HS :=
  (if 6 ≤ v1 then k35 s else gd (inb v1 6) (ltb (sI s 150 (v1.toNatClampNeg) (-1)) fun s2 => gd (inb v1 6) (ltb (sI s2 151 (v1.toNatClampNeg) (-1)) fun s4 => gd (inb v1 6) (ltb (sI s4 155 (v1.toNatClampNeg) (vp_nar .boolean 0)) fun s6 => ltb (v1 + 1) fun x8 => k2 x8 s6))))
set_option maxRecDepth 20000 in
set_option maxHeartbeats 2000000 in
theorem t_X12_runs_l2b (v1 : Int32) (s : HS) {t : HS} (k2 : Int32 → HS → Option HS) (hk2 : ∀ (a1 : Int32) (s : HS), k2 a1 s = some t → Ev DDX12_runs miX12_runs NF none NF (hp t) 2 NF [(0, .ref 101), (1, .int a1)] [] (hp s)) (k35 : HS → Option HS) (hk35 : ∀ (s : HS), k35 s = some t → Ev DDX12_runs miX12_runs NF none NF (hp t) 35 NF [(0, .ref 101)] [] (hp s)) (hf : f_X12_runs_l2b v1 k2 k35 s = some t) : Ev DDX12_runs miX12_runs NF none NF (hp t) 2 NF [(0, .ref 101), (1, .int v1)] [] (hp s) := by
  refine e_iload_n dX12_runs_2 1 rfl rfl (pc2 := 3) rfl ?_
  refine e_bipush (x := 6) dX12_runs_3 (by decide) (pc2 := 5) rfl ?_
  refine e_icmp_ge (tgt := 35) dX12_runs_5 (by decide) (pc2 := 8) rfl (fun c1 => ?_) (fun c1 => ?_)
  · have hf := if_t c1 hf
    refine ev_sub [0] rfl ?_
    exact hk35 s hf
  · have hf := if_f c1 hf
    refine e_aload_n dX12_runs_8 0 rfl rfl (pc2 := 9) rfl ?_
    refine e_getR (r := 150) fl_X12_163 dX12_runs_9 so_101 (rs_101_67 s.2.2) (by decide) (pc2 := 12) rfl ?_
    refine e_iload_n dX12_runs_12 1 rfl rfl (pc2 := 13) rfl ?_
    refine e_iconst (x := (-1)) dX12_runs_13 (by decide) (pc2 := 14) rfl ?_
    obtain ⟨g3, hf⟩ := gd_some hf
    obtain ⟨s2, es2, hf⟩ := ltb_s hf
    refine e_iast dX12_runs_14 sa_150 (inb_v g3) (h2 := hp s2) (by rw [es2]; rfl) (pc2 := 15) rfl ?_
    refine e_aload_n dX12_runs_15 0 rfl rfl (pc2 := 16) rfl ?_
    refine e_getR (r := 151) fl_X12_166 dX12_runs_16 so_101 (rs_101_68 s2.2.2) (by decide) (pc2 := 19) rfl ?_
    refine e_iload_n dX12_runs_19 1 rfl rfl (pc2 := 20) rfl ?_
    refine e_iconst (x := (-1)) dX12_runs_20 (by decide) (pc2 := 21) rfl ?_
    obtain ⟨g5, hf⟩ := gd_some hf
    obtain ⟨s4, es4, hf⟩ := ltb_s hf
    refine e_iast dX12_runs_21 sa_151 (inb_v g5) (h2 := hp s4) (by rw [es4]; rfl) (pc2 := 22) rfl ?_
    refine e_aload_n dX12_runs_22 0 rfl rfl (pc2 := 23) rfl ?_
    refine e_getR (r := 155) fl_X12_178 dX12_runs_23 so_101 (rs_101_72 s4.2.2) (by decide) (pc2 := 26) rfl ?_
    refine e_iload_n dX12_runs_26 1 rfl rfl (pc2 := 27) rfl ?_
    refine e_iconst (x := 0) dX12_runs_27 (by decide) (pc2 := 28) rfl ?_
    obtain ⟨g7, hf⟩ := gd_some hf
    obtain ⟨s6, es6, hf⟩ := ltb_s hf
    refine e_zast dX12_runs_28 sa_155 (inb_v g7) (h2 := hp s6) (by rw [es6]; rfl) (pc2 := 29) rfl ?_
    obtain ⟨x8, ex8, hf⟩ := ltb_s hf
    refine e_iinc dX12_runs_29 1 rfl (c9 := 1) (by decide) ex8.symm (by decide) (ls' := [(0, .ref 101), (1, .int x8)]) [1, 0] rfl (pc2 := 32) rfl ?_
    refine e_goto (tgt := 2) dX12_runs_32 (by decide) ?_
    exact hk2 x8 s6 hf
def f_X12_runs_l2 (k35 : HS → Option HS) : Nat → Int32 → HS → Option HS
  | 0, _, _ => none
  | n + 1, v1, s => f_X12_runs_l2b v1 (f_X12_runs_l2 k35 n) k35 s
set_option maxRecDepth 20000 in
set_option maxHeartbeats 2000000 in
theorem t_X12_runs_l2  {t : HS} (k35 : HS → Option HS) (hk35 : ∀ (s : HS), k35 s = some t → Ev DDX12_runs miX12_runs NF none NF (hp t) 35 NF [(0, .ref 101)] [] (hp s)) : ∀ (n : Nat) (v1 : Int32) (s : HS), f_X12_runs_l2 k35 n v1 s = some t → Ev DDX12_runs miX12_runs NF none NF (hp t) 2 NF [(0, .ref 101), (1, .int v1)] [] (hp s) := by
  intro n
  induction n with
  | zero =>
    intro v1 s hf
    have hf : none = some t := hf
    cases hf
  | succ n ih =>
    intro v1 s hf
    exact t_X12_runs_l2b v1  s _ ih _ hk35 hf
def f_X12_runs_l63b (v1 : Int32) (v2 : Int32) (k63 : Int32 → HS → Option HS) (k137 : HS → Option HS) (s : HS) : Option HS :=
  (if (s.1 145 3) ≤ v2 then k137 s else gd (inb v2 2) ((if (s.1 156 v2.toNatClampNeg) ≤ v1 then bnd2 (f_X12_nextAt v1 s) fun y18 s19 => (if 0 ≤ y18 then gd (inb y18 6) (ltb (sI s19 150 (y18.toNatClampNeg) v1) fun s21 => bnd2 (f_X12_lastsFor y18 s21) fun y23 s24 => gd (inb y18 6) (ltb (sI s24 151 (y18.toNatClampNeg) (v1 + y23)) fun s25 => gd (inb y18 6) (gd (inb v2 2) (ltb (sI s25 156 (v2.toNatClampNeg) (s25.1 151 y18.toNatClampNeg)) fun s28 => ltb (v2 + 1) fun x30 => k63 x30 s28)))) else ltb (v2 + 1) fun x31 => k63 x31 s19) else ltb (v2 + 1) fun x32 => k63 x32 s)))
set_option maxRecDepth 20000 in
set_option maxHeartbeats 2000000 in
theorem t_X12_runs_l63b (v1 : Int32) (v2 : Int32) (s : HS) {t : HS} (k63 : Int32 → HS → Option HS) (hk63 : ∀ (a2 : Int32) (s : HS), k63 a2 s = some t → Ev DDX12_runs miX12_runs NF none NF (hp t) 63 NF [(0, .ref 101), (1, .int v1), (2, .int a2)] [] (hp s)) (k137 : HS → Option HS) (hk137 : ∀ (s : HS), k137 s = some t → Ev DDX12_runs miX12_runs NF none NF (hp t) 137 NF [(0, .ref 101), (1, .int v1)] [] (hp s)) (hf : f_X12_runs_l63b v1 v2 k63 k137 s = some t) : Ev DDX12_runs miX12_runs NF none NF (hp t) 63 NF [(0, .ref 101), (1, .int v1), (2, .int v2)] [] (hp s) := by
  refine e_iload_n dX12_runs_63 2 rfl rfl (pc2 := 64) rfl ?_
  refine e_aload_n dX12_runs_64 0 rfl rfl (pc2 := 65) rfl ?_
  refine e_getR (r := 145) fl_X12_141 dX12_runs_65 so_101 (rs_101_55 s.2.2) (by decide) (pc2 := 68) rfl ?_
  refine e_iconst (x := 3) dX12_runs_68 (by decide) (pc2 := 69) rfl ?_
  refine e_iald dX12_runs_69 sa_145 (inb_v (by decide)) (pc2 := 70) rfl ?_
  refine e_icmp_ge (tgt := 137) dX12_runs_70 (by decide) (pc2 := 73) rfl (fun c15 => ?_) (fun c15 => ?_)
  · have hf := if_t c15 hf
    refine ev_sub [0, 1] rfl ?_
    exact hk137 s hf
  · have hf := if_f c15 hf
    refine e_aload_n dX12_runs_73 0 rfl rfl (pc2 := 74) rfl ?_
    refine e_getR (r := 156) fl_X12_181 dX12_runs_74 so_101 (rs_101_73 s.2.2) (by decide) (pc2 := 77) rfl ?_
    refine e_iload_n dX12_runs_77 2 rfl rfl (pc2 := 78) rfl ?_
    obtain ⟨g16, hf⟩ := gd_some hf
    refine e_iald dX12_runs_78 sa_156 (inb_v g16) (pc2 := 79) rfl ?_
    refine e_iload_n dX12_runs_79 1 rfl rfl (pc2 := 80) rfl ?_
    refine e_icmp_le (tgt := 86) dX12_runs_80 (by decide) (pc2 := 83) rfl (fun c17 => ?_) (fun c17 => ?_)
    · have hf := if_t c17 hf
      refine e_aload_n dX12_runs_86 0 rfl rfl (pc2 := 87) rfl ?_
      refine e_iload_n dX12_runs_87 1 rfl rfl (pc2 := 88) rfl ?_
      obtain ⟨y18, s19, hy18, hf⟩ := bnd2_s hf
      refine e_callVs (t_X12_nextAt v1 s hy18) dX12_runs_88 cv_X12_488 rfl so_101 rc_11 (by decide) (by first | exact Nat.le_of_ble_eq_true rfl | simp [rva_cat, vc_i, vc_r, vc_l, vc_n]) nn0 rfl (pc2 := 91) rfl ?_
      refine e_istore_n dX12_runs_91 rfl (by decide) rfl (ls' := [(0, .ref 101), (1, .int v1), (2, .int v2), (3, .int y18)]) [1, 2, 3, 0] rfl (pc2 := 92) rfl ?_
      refine e_iload_n dX12_runs_92 3 rfl rfl (pc2 := 93) rfl ?_
      refine e_if_ge (tgt := 99) dX12_runs_93 (by decide) (pc2 := 96) rfl (fun c20 => ?_) (fun c20 => ?_)
      · have hf := if_t c20 hf
        refine e_aload_n dX12_runs_99 0 rfl rfl (pc2 := 100) rfl ?_
        refine e_getR (r := 150) fl_X12_163 dX12_runs_100 so_101 (rs_101_67 s19.2.2) (by decide) (pc2 := 103) rfl ?_
        refine e_iload_n dX12_runs_103 3 rfl rfl (pc2 := 104) rfl ?_
        refine e_iload_n dX12_runs_104 1 rfl rfl (pc2 := 105) rfl ?_
        obtain ⟨g22, hf⟩ := gd_some hf
        obtain ⟨s21, es21, hf⟩ := ltb_s hf
        refine e_iast dX12_runs_105 sa_150 (inb_v g22) (h2 := hp s21) (by rw [es21]; rfl) (pc2 := 106) rfl ?_
        refine e_aload_n dX12_runs_106 0 rfl rfl (pc2 := 107) rfl ?_
        refine e_getR (r := 151) fl_X12_166 dX12_runs_107 so_101 (rs_101_68 s21.2.2) (by decide) (pc2 := 110) rfl ?_
        refine e_iload_n dX12_runs_110 3 rfl rfl (pc2 := 111) rfl ?_
        refine e_iload_n dX12_runs_111 1 rfl rfl (pc2 := 112) rfl ?_
        refine e_aload_n dX12_runs_112 0 rfl rfl (pc2 := 113) rfl ?_
        refine e_iload_n dX12_runs_113 3 rfl rfl (pc2 := 114) rfl ?_
        obtain ⟨y23, s24, hy23, hf⟩ := bnd2_s hf
        refine e_callVs (t_X12_lastsFor y18 s21 hy23) dX12_runs_114 cv_X12_491 rfl so_101 rc_11 (by decide) (by first | exact Nat.le_of_ble_eq_true rfl | simp [rva_cat, vc_i, vc_r, vc_l, vc_n]) nn0 rfl (pc2 := 117) rfl ?_
        refine e_iadd dX12_runs_117 (pc2 := 118) rfl ?_
        obtain ⟨g26, hf⟩ := gd_some hf
        obtain ⟨s25, es25, hf⟩ := ltb_s hf
        refine e_iast dX12_runs_118 sa_151 (inb_v g26) (h2 := hp s25) (by rw [es25]; rfl) (pc2 := 119) rfl ?_
        refine e_aload_n dX12_runs_119 0 rfl rfl (pc2 := 120) rfl ?_
        refine e_getR (r := 156) fl_X12_181 dX12_runs_120 so_101 (rs_101_73 s25.2.2) (by decide) (pc2 := 123) rfl ?_
        refine e_iload_n dX12_runs_123 2 rfl rfl (pc2 := 124) rfl ?_
        refine e_aload_n dX12_runs_124 0 rfl rfl (pc2 := 125) rfl ?_
        refine e_getR (r := 151) fl_X12_166 dX12_runs_125 so_101 (rs_101_68 s25.2.2) (by decide) (pc2 := 128) rfl ?_
        refine e_iload_n dX12_runs_128 3 rfl rfl (pc2 := 129) rfl ?_
        obtain ⟨g27, hf⟩ := gd_some hf
        refine e_iald dX12_runs_129 sa_151 (inb_v g27) (pc2 := 130) rfl ?_
        obtain ⟨g29, hf⟩ := gd_some hf
        obtain ⟨s28, es28, hf⟩ := ltb_s hf
        refine e_iast dX12_runs_130 sa_156 (inb_v g29) (h2 := hp s28) (by rw [es28]; rfl) (pc2 := 131) rfl ?_
        obtain ⟨x30, ex30, hf⟩ := ltb_s hf
        refine e_iinc dX12_runs_131 2 rfl (c9 := 1) (by decide) ex30.symm (by decide) (ls' := [(0, .ref 101), (1, .int v1), (2, .int x30)]) [1, 2, 0] rfl (pc2 := 134) rfl ?_
        refine e_goto (tgt := 63) dX12_runs_134 (by decide) ?_
        exact hk63 x30 s28 hf
      · have hf := if_f c20 hf
        refine e_goto (tgt := 131) dX12_runs_96 (by decide) ?_
        obtain ⟨x31, ex31, hf⟩ := ltb_s hf
        refine e_iinc dX12_runs_131 2 rfl (c9 := 1) (by decide) ex31.symm (by decide) (ls' := [(0, .ref 101), (1, .int v1), (2, .int x31)]) [1, 2, 0] rfl (pc2 := 134) rfl ?_
        refine e_goto (tgt := 63) dX12_runs_134 (by decide) ?_
        exact hk63 x31 s19 hf
    · have hf := if_f c17 hf
      refine e_goto (tgt := 131) dX12_runs_83 (by decide) ?_
      obtain ⟨x32, ex32, hf⟩ := ltb_s hf
      refine e_iinc dX12_runs_131 2 rfl (c9 := 1) (by decide) ex32.symm (by decide) (ls' := [(0, .ref 101), (1, .int v1), (2, .int x32)]) [1, 2, 0] rfl (pc2 := 134) rfl ?_
      refine e_goto (tgt := 63) dX12_runs_134 (by decide) ?_
      exact hk63 x32 s hf
def f_X12_runs_l63 (v1 : Int32) (k137 : HS → Option HS) : Nat → Int32 → HS → Option HS
  | 0, _, _ => none
  | n + 1, v2, s => f_X12_runs_l63b v1 v2 (f_X12_runs_l63 v1 k137 n) k137 s
set_option maxRecDepth 20000 in
set_option maxHeartbeats 2000000 in
theorem t_X12_runs_l63 (v1 : Int32) {t : HS} (k137 : HS → Option HS) (hk137 : ∀ (s : HS), k137 s = some t → Ev DDX12_runs miX12_runs NF none NF (hp t) 137 NF [(0, .ref 101), (1, .int v1)] [] (hp s)) : ∀ (n : Nat) (v2 : Int32) (s : HS), f_X12_runs_l63 v1 k137 n v2 s = some t → Ev DDX12_runs miX12_runs NF none NF (hp t) 63 NF [(0, .ref 101), (1, .int v1), (2, .int v2)] [] (hp s) := by
  intro n
  induction n with
  | zero =>
    intro v2 s hf
    have hf : none = some t := hf
    cases hf
  | succ n ih =>
    intro v2 s hf
    exact t_X12_runs_l63b v1 v2  s _ ih _ hk137 hf
def f_X12_runs_l51b (v1 : Int32) (k51 : Int32 → HS → Option HS) (k143 : HS → Option HS) (s : HS) : Option HS :=
  (if (s.1 103 3) < v1 then k143 s else f_X12_runs_l63 v1 (fun s33 => ltb (v1 + 1) fun x34 => k51 x34 s33) FU 0 s)
set_option maxRecDepth 20000 in
set_option maxHeartbeats 2000000 in
theorem t_X12_runs_l51b (v1 : Int32) (s : HS) {t : HS} (k51 : Int32 → HS → Option HS) (hk51 : ∀ (a1 : Int32) (s : HS), k51 a1 s = some t → Ev DDX12_runs miX12_runs NF none NF (hp t) 51 NF [(0, .ref 101), (1, .int a1)] [] (hp s)) (k143 : HS → Option HS) (hk143 : ∀ (s : HS), k143 s = some t → Ev DDX12_runs miX12_runs NF none NF (hp t) 143 NF [(0, .ref 101)] [] (hp s)) (hf : f_X12_runs_l51b v1 k51 k143 s = some t) : Ev DDX12_runs miX12_runs NF none NF (hp t) 51 NF [(0, .ref 101), (1, .int v1)] [] (hp s) := by
  refine e_iload_n dX12_runs_51 1 rfl rfl (pc2 := 52) rfl ?_
  refine e_aload_n dX12_runs_52 0 rfl rfl (pc2 := 53) rfl ?_
  refine e_getR (r := 103) fl_X12_13 dX12_runs_53 so_101 (rs_101_10 s.2.2) (by decide) (pc2 := 56) rfl ?_
  refine e_iconst (x := 3) dX12_runs_56 (by decide) (pc2 := 57) rfl ?_
  refine e_iald dX12_runs_57 sa_103 (inb_v (by decide)) (pc2 := 58) rfl ?_
  refine e_icmp_gt (tgt := 143) dX12_runs_58 (by decide) (pc2 := 61) rfl (fun c13 => ?_) (fun c13 => ?_)
  · have hf := if_t c13 hf
    refine ev_sub [0] rfl ?_
    exact hk143 s hf
  · have hf := if_f c13 hf
    refine e_iconst (x := 0) dX12_runs_61 (by decide) (pc2 := 62) rfl ?_
    refine e_istore_n dX12_runs_62 rfl (by decide) rfl (ls' := [(0, .ref 101), (1, .int v1), (2, .int 0)]) [1, 2, 0] rfl (pc2 := 63) rfl ?_
    refine t_X12_runs_l63 v1 _ ?_ FU 0 s hf
    · intro s33 hf
      obtain ⟨x34, ex34, hf⟩ := ltb_s hf
      refine e_iinc dX12_runs_137 1 rfl (c9 := 1) (by decide) ex34.symm (by decide) (ls' := [(0, .ref 101), (1, .int x34)]) [1, 0] rfl (pc2 := 140) rfl ?_
      refine e_goto (tgt := 51) dX12_runs_140 (by decide) ?_
      exact hk51 x34 s33 hf
def f_X12_runs_l51 (k143 : HS → Option HS) : Nat → Int32 → HS → Option HS
  | 0, _, _ => none
  | n + 1, v1, s => f_X12_runs_l51b v1 (f_X12_runs_l51 k143 n) k143 s
set_option maxRecDepth 20000 in
set_option maxHeartbeats 2000000 in
theorem t_X12_runs_l51  {t : HS} (k143 : HS → Option HS) (hk143 : ∀ (s : HS), k143 s = some t → Ev DDX12_runs miX12_runs NF none NF (hp t) 143 NF [(0, .ref 101)] [] (hp s)) : ∀ (n : Nat) (v1 : Int32) (s : HS), f_X12_runs_l51 k143 n v1 s = some t → Ev DDX12_runs miX12_runs NF none NF (hp t) 51 NF [(0, .ref 101), (1, .int v1)] [] (hp s) := by
  intro n
  induction n with
  | zero =>
    intro v1 s hf
    have hf : none = some t := hf
    cases hf
  | succ n ih =>
    intro v1 s hf
    exact t_X12_runs_l51b v1  s _ ih _ hk143 hf
def f_X12_runs_l145b (v1 : Int32) (k145 : Int32 → HS → Option HS) (s : HS) : Option HS :=
  (if (s.1 103 2) ≤ v1 then some s else bnd (f_X12_drinks v1 s) fun s39 => ltb (v1 + 1) fun x40 => k145 x40 s39)
set_option maxRecDepth 20000 in
set_option maxHeartbeats 2000000 in
theorem t_X12_runs_l145b (v1 : Int32) (s : HS) {t : HS} (k145 : Int32 → HS → Option HS) (hk145 : ∀ (a1 : Int32) (s : HS), k145 a1 s = some t → Ev DDX12_runs miX12_runs NF none NF (hp t) 145 NF [(0, .ref 101), (1, .int a1)] [] (hp s)) (hf : f_X12_runs_l145b v1 k145 s = some t) : Ev DDX12_runs miX12_runs NF none NF (hp t) 145 NF [(0, .ref 101), (1, .int v1)] [] (hp s) := by
  refine e_iload_n dX12_runs_145 1 rfl rfl (pc2 := 146) rfl ?_
  refine e_aload_n dX12_runs_146 0 rfl rfl (pc2 := 147) rfl ?_
  refine e_getR (r := 103) fl_X12_13 dX12_runs_147 so_101 (rs_101_10 s.2.2) (by decide) (pc2 := 150) rfl ?_
  refine e_iconst (x := 2) dX12_runs_150 (by decide) (pc2 := 151) rfl ?_
  refine e_iald dX12_runs_151 sa_103 (inb_v (by decide)) (pc2 := 152) rfl ?_
  refine e_icmp_ge (tgt := 166) dX12_runs_152 (by decide) (pc2 := 155) rfl (fun c37 => ?_) (fun c37 => ?_)
  · have hf := if_t c37 hf
    cases hf
    exact e_vret rfl dX12_runs_166
  · have hf := if_f c37 hf
    refine e_aload_n dX12_runs_155 0 rfl rfl (pc2 := 156) rfl ?_
    refine e_iload_n dX12_runs_156 1 rfl rfl (pc2 := 157) rfl ?_
    obtain ⟨s39, hy38, hf⟩ := bnd_s hf
    refine e_callVn (t_X12_drinks v1 s hy38) dX12_runs_157 cv_X12_494 rfl so_101 rc_11 (by decide) (by first | exact Nat.le_of_ble_eq_true rfl | simp [rva_cat, vc_i, vc_r, vc_l, vc_n]) nn0 rfl (pc2 := 160) rfl ?_
    obtain ⟨x40, ex40, hf⟩ := ltb_s hf
    refine e_iinc dX12_runs_160 1 rfl (c9 := 1) (by decide) ex40.symm (by decide) (ls' := [(0, .ref 101), (1, .int x40)]) [1, 0] rfl (pc2 := 163) rfl ?_
    refine e_goto (tgt := 145) dX12_runs_163 (by decide) ?_
    exact hk145 x40 s39 hf
def f_X12_runs_l145  : Nat → Int32 → HS → Option HS
  | 0, _, _ => none
  | n + 1, v1, s => f_X12_runs_l145b v1 (f_X12_runs_l145  n)  s
set_option maxRecDepth 20000 in
set_option maxHeartbeats 2000000 in
theorem t_X12_runs_l145  {t : HS}  : ∀ (n : Nat) (v1 : Int32) (s : HS), f_X12_runs_l145  n v1 s = some t → Ev DDX12_runs miX12_runs NF none NF (hp t) 145 NF [(0, .ref 101), (1, .int v1)] [] (hp s) := by
  intro n
  induction n with
  | zero =>
    intro v1 s hf
    have hf : none = some t := hf
    cases hf
  | succ n ih =>
    intro v1 s hf
    exact t_X12_runs_l145b v1  s _ ih  hf
def f_X12_runs  (s : HS) : Option HS :=
  f_X12_runs_l2 (fun s9 => ltb (sI s9 156 (0) 0) fun s10 => ltb (sI s10 156 (1) 0) fun s11 => f_X12_runs_l51 (fun s35 => f_X12_runs_l145 FU 0 s35) FU 0 s11) FU 0 s
set_option maxRecDepth 20000 in
set_option maxHeartbeats 2000000 in
theorem t_X12_runs  (s : HS) {t : HS} (hf : f_X12_runs  s = some t) : Mt DDX12_runs miX12_runs [.ref 101] NF (hp s) none NF (hp t) := by
  refine Mt.of (by decide +kernel) (Nat.le_refl _) (Nat.le_of_ble_eq_true rfl) ?_
  show Ev DDX12_runs miX12_runs NF none NF (hp t) 0 NF [(0, .ref 101)] [] (hp s)
  unfold f_X12_runs at hf
  refine e_iconst (x := 0) dX12_runs_0 (by decide) (pc2 := 1) rfl ?_
  refine e_istore_n dX12_runs_1 rfl (by decide) rfl (ls' := [(0, .ref 101), (1, .int 0)]) [1, 0] rfl (pc2 := 2) rfl ?_
  refine t_X12_runs_l2 _ ?_ FU 0 s hf
  · intro s9 hf
    refine e_aload_n dX12_runs_35 0 rfl rfl (pc2 := 36) rfl ?_
    refine e_getR (r := 156) fl_X12_181 dX12_runs_36 so_101 (rs_101_73 s9.2.2) (by decide) (pc2 := 39) rfl ?_
    refine e_iconst (x := 0) dX12_runs_39 (by decide) (pc2 := 40) rfl ?_
    refine e_iconst (x := 0) dX12_runs_40 (by decide) (pc2 := 41) rfl ?_
    obtain ⟨s10, es10, hf⟩ := ltb_s hf
    refine e_iast dX12_runs_41 sa_156 (inb_v (by decide)) (h2 := hp s10) (by rw [es10]; rfl) (pc2 := 42) rfl ?_
    refine e_aload_n dX12_runs_42 0 rfl rfl (pc2 := 43) rfl ?_
    refine e_getR (r := 156) fl_X12_181 dX12_runs_43 so_101 (rs_101_73 s10.2.2) (by decide) (pc2 := 46) rfl ?_
    refine e_iconst (x := 1) dX12_runs_46 (by decide) (pc2 := 47) rfl ?_
    refine e_iconst (x := 0) dX12_runs_47 (by decide) (pc2 := 48) rfl ?_
    obtain ⟨s11, es11, hf⟩ := ltb_s hf
    refine e_iast dX12_runs_48 sa_156 (inb_v (by decide)) (h2 := hp s11) (by rw [es11]; rfl) (pc2 := 49) rfl ?_
    refine e_iconst (x := 0) dX12_runs_49 (by decide) (pc2 := 50) rfl ?_
    refine e_istore_n dX12_runs_50 rfl (by decide) rfl (ls' := [(0, .ref 101), (1, .int 0)]) [1, 0] rfl (pc2 := 51) rfl ?_
    refine t_X12_runs_l51 _ ?_ FU 0 s11 hf
    · intro s35 hf
      refine e_iconst (x := 0) dX12_runs_143 (by decide) (pc2 := 144) rfl ?_
      refine e_istore_n dX12_runs_144 rfl (by decide) rfl (ls' := [(0, .ref 101), (1, .int 0)]) [1, 0] rfl (pc2 := 145) rfl ?_
      refine t_X12_runs_l145 FU 0 s35 hf
abbrev DDX12_drunkInAll : Nat := 2
def f_X12_drunkInAll_l4b (v1 : Int32) (v2 : Int32) (k4 : Int32 → Int32 → Option Int32) (s : HS) : Option Int32 :=
  (if (s.1 103 2) ≤ v2 then some v1 else gd (inb v2 6) (bnd (f_X12_bits (s.1 152 v2.toNatClampNeg) s) fun y4 => ltb (v1 + y4) fun x5 => ltb (v2 + 1) fun x6 => k4 x5 x6))
set_option maxRecDepth 20000 in
set_option maxHeartbeats 2000000 in
theorem t_X12_drunkInAll_l4b (v1 : Int32) (v2 : Int32) (s : HS) {x : Int32} (k4 : Int32 → Int32 → Option Int32) (hk4 : ∀ (a1 : Int32) (a2 : Int32), k4 a1 a2 = some x → Ev DDX12_drunkInAll miX12_drunkInAll NF (some (.int x)) NF (hp s) 4 NF [(0, .ref 101), (1, .int a1), (2, .int a2)] [] (hp s)) (hf : f_X12_drunkInAll_l4b v1 v2 k4 s = some x) : Ev DDX12_drunkInAll miX12_drunkInAll NF (some (.int x)) NF (hp s) 4 NF [(0, .ref 101), (1, .int v1), (2, .int v2)] [] (hp s) := by
  refine e_iload_n dX12_drunkInAll_4 2 rfl rfl (pc2 := 5) rfl ?_
  refine e_aload_n dX12_drunkInAll_5 0 rfl rfl (pc2 := 6) rfl ?_
  refine e_getR (r := 103) fl_X12_13 dX12_drunkInAll_6 so_101 (rs_101_10 s.2.2) (by decide) (pc2 := 9) rfl ?_
  refine e_iconst (x := 2) dX12_drunkInAll_9 (by decide) (pc2 := 10) rfl ?_
  refine e_iald dX12_drunkInAll_10 sa_103 (inb_v (by decide)) (pc2 := 11) rfl ?_
  refine e_icmp_ge (tgt := 32) dX12_drunkInAll_11 (by decide) (pc2 := 14) rfl (fun c2 => ?_) (fun c2 => ?_)
  · have hf := if_t c2 hf
    refine e_iload_n dX12_drunkInAll_32 1 rfl rfl (pc2 := 33) rfl ?_
    cases hf
    exact e_iret rfl dX12_drunkInAll_33
  · have hf := if_f c2 hf
    refine e_iload_n dX12_drunkInAll_14 1 rfl rfl (pc2 := 15) rfl ?_
    refine e_aload_n dX12_drunkInAll_15 0 rfl rfl (pc2 := 16) rfl ?_
    refine e_getR (r := 152) fl_X12_169 dX12_drunkInAll_16 so_101 (rs_101_69 s.2.2) (by decide) (pc2 := 19) rfl ?_
    refine e_iload_n dX12_drunkInAll_19 2 rfl rfl (pc2 := 20) rfl ?_
    obtain ⟨g3, hf⟩ := gd_some hf
    refine e_iald dX12_drunkInAll_20 sa_152 (inb_v g3) (pc2 := 21) rfl ?_
    obtain ⟨y4, hy4, hf⟩ := bnd_s hf
    refine e_callSs (t_X12_bits (s.1 152 v2.toNatClampNeg) s hy4) dX12_drunkInAll_21 cs_X12_504 rfl (by decide) (by first | exact Nat.le_of_ble_eq_true rfl | simp [rva_cat, vc_i, vc_r, vc_l, vc_n]) nn0 rfl (pc2 := 24) rfl ?_
    refine e_iadd dX12_drunkInAll_24 (pc2 := 25) rfl ?_
    obtain ⟨x5, ex5, hf⟩ := ltb_s hf
    refine e_istore_n dX12_drunkInAll_25 rfl (by decide) ex5.symm (ls' := [(0, .ref 101), (1, .int x5), (2, .int v2)]) [1, 0, 2] rfl (pc2 := 26) rfl ?_
    obtain ⟨x6, ex6, hf⟩ := ltb_s hf
    refine e_iinc dX12_drunkInAll_26 2 rfl (c9 := 1) (by decide) ex6.symm (by decide) (ls' := [(0, .ref 101), (1, .int x5), (2, .int x6)]) [1, 2, 0] rfl (pc2 := 29) rfl ?_
    refine e_goto (tgt := 4) dX12_drunkInAll_29 (by decide) ?_
    exact hk4 x5 x6 hf
def f_X12_drunkInAll_l4  (s : HS) : Nat → Int32 → Int32 → Option Int32
  | 0, _, _ => none
  | n + 1, v1, v2 => f_X12_drunkInAll_l4b v1 v2 (f_X12_drunkInAll_l4 s n)  s
set_option maxRecDepth 20000 in
set_option maxHeartbeats 2000000 in
theorem t_X12_drunkInAll_l4  (s : HS) {x : Int32}  : ∀ (n : Nat) (v1 : Int32) (v2 : Int32), f_X12_drunkInAll_l4 s n v1 v2 = some x → Ev DDX12_drunkInAll miX12_drunkInAll NF (some (.int x)) NF (hp s) 4 NF [(0, .ref 101), (1, .int v1), (2, .int v2)] [] (hp s) := by
  intro n
  induction n with
  | zero =>
    intro v1 v2 hf
    have hf : none = some x := hf
    cases hf
  | succ n ih =>
    intro v1 v2 hf
    exact t_X12_drunkInAll_l4b v1 v2  s _ ih  hf
def f_X12_drunkInAll  (s : HS) : Option Int32 :=
  f_X12_drunkInAll_l4 s FU 0 0
set_option maxRecDepth 20000 in
set_option maxHeartbeats 2000000 in
theorem t_X12_drunkInAll  (s : HS) {x : Int32} (hf : f_X12_drunkInAll  s = some x) : Mt DDX12_drunkInAll miX12_drunkInAll [.ref 101] NF (hp s) (some (.int x)) NF (hp s) := by
  refine Mt.of (by decide +kernel) (Nat.le_refl _) (Nat.le_of_ble_eq_true rfl) ?_
  show Ev DDX12_drunkInAll miX12_drunkInAll NF (some (.int x)) NF (hp s) 0 NF [(0, .ref 101)] [] (hp s)
  unfold f_X12_drunkInAll at hf
  refine e_iconst (x := 0) dX12_drunkInAll_0 (by decide) (pc2 := 1) rfl ?_
  refine e_istore_n dX12_drunkInAll_1 rfl (by decide) rfl (ls' := [(0, .ref 101), (1, .int 0)]) [1, 0] rfl (pc2 := 2) rfl ?_
  refine e_iconst (x := 0) dX12_drunkInAll_2 (by decide) (pc2 := 3) rfl ?_
  refine e_istore_n dX12_drunkInAll_3 rfl (by decide) rfl (ls' := [(0, .ref 101), (1, .int 0), (2, .int 0)]) [1, 2, 0] rfl (pc2 := 4) rfl ?_
  refine t_X12_drunkInAll_l4 s FU 0 0 hf
abbrev DDX12_leftInAll : Nat := 2
def f_X12_leftInAll_l4b (v1 : Int32) (v2 : Int32) (k4 : Int32 → Int32 → Option Int32) (s : HS) : Option Int32 :=
  (if (s.1 103 2) ≤ v2 then some v1 else gd (inb v2 6) (bnd (f_X12_bits (s.1 153 v2.toNatClampNeg) s) fun y4 => ltb (v1 + y4) fun x5 => ltb (v2 + 1) fun x6 => k4 x5 x6))
set_option maxRecDepth 20000 in
set_option maxHeartbeats 2000000 in
theorem t_X12_leftInAll_l4b (v1 : Int32) (v2 : Int32) (s : HS) {x : Int32} (k4 : Int32 → Int32 → Option Int32) (hk4 : ∀ (a1 : Int32) (a2 : Int32), k4 a1 a2 = some x → Ev DDX12_leftInAll miX12_leftInAll NF (some (.int x)) NF (hp s) 4 NF [(0, .ref 101), (1, .int a1), (2, .int a2)] [] (hp s)) (hf : f_X12_leftInAll_l4b v1 v2 k4 s = some x) : Ev DDX12_leftInAll miX12_leftInAll NF (some (.int x)) NF (hp s) 4 NF [(0, .ref 101), (1, .int v1), (2, .int v2)] [] (hp s) := by
  refine e_iload_n dX12_leftInAll_4 2 rfl rfl (pc2 := 5) rfl ?_
  refine e_aload_n dX12_leftInAll_5 0 rfl rfl (pc2 := 6) rfl ?_
  refine e_getR (r := 103) fl_X12_13 dX12_leftInAll_6 so_101 (rs_101_10 s.2.2) (by decide) (pc2 := 9) rfl ?_
  refine e_iconst (x := 2) dX12_leftInAll_9 (by decide) (pc2 := 10) rfl ?_
  refine e_iald dX12_leftInAll_10 sa_103 (inb_v (by decide)) (pc2 := 11) rfl ?_
  refine e_icmp_ge (tgt := 32) dX12_leftInAll_11 (by decide) (pc2 := 14) rfl (fun c2 => ?_) (fun c2 => ?_)
  · have hf := if_t c2 hf
    refine e_iload_n dX12_leftInAll_32 1 rfl rfl (pc2 := 33) rfl ?_
    cases hf
    exact e_iret rfl dX12_leftInAll_33
  · have hf := if_f c2 hf
    refine e_iload_n dX12_leftInAll_14 1 rfl rfl (pc2 := 15) rfl ?_
    refine e_aload_n dX12_leftInAll_15 0 rfl rfl (pc2 := 16) rfl ?_
    refine e_getR (r := 153) fl_X12_172 dX12_leftInAll_16 so_101 (rs_101_70 s.2.2) (by decide) (pc2 := 19) rfl ?_
    refine e_iload_n dX12_leftInAll_19 2 rfl rfl (pc2 := 20) rfl ?_
    obtain ⟨g3, hf⟩ := gd_some hf
    refine e_iald dX12_leftInAll_20 sa_153 (inb_v g3) (pc2 := 21) rfl ?_
    obtain ⟨y4, hy4, hf⟩ := bnd_s hf
    refine e_callSs (t_X12_bits (s.1 153 v2.toNatClampNeg) s hy4) dX12_leftInAll_21 cs_X12_504 rfl (by decide) (by first | exact Nat.le_of_ble_eq_true rfl | simp [rva_cat, vc_i, vc_r, vc_l, vc_n]) nn0 rfl (pc2 := 24) rfl ?_
    refine e_iadd dX12_leftInAll_24 (pc2 := 25) rfl ?_
    obtain ⟨x5, ex5, hf⟩ := ltb_s hf
    refine e_istore_n dX12_leftInAll_25 rfl (by decide) ex5.symm (ls' := [(0, .ref 101), (1, .int x5), (2, .int v2)]) [1, 0, 2] rfl (pc2 := 26) rfl ?_
    obtain ⟨x6, ex6, hf⟩ := ltb_s hf
    refine e_iinc dX12_leftInAll_26 2 rfl (c9 := 1) (by decide) ex6.symm (by decide) (ls' := [(0, .ref 101), (1, .int x5), (2, .int x6)]) [1, 2, 0] rfl (pc2 := 29) rfl ?_
    refine e_goto (tgt := 4) dX12_leftInAll_29 (by decide) ?_
    exact hk4 x5 x6 hf
def f_X12_leftInAll_l4  (s : HS) : Nat → Int32 → Int32 → Option Int32
  | 0, _, _ => none
  | n + 1, v1, v2 => f_X12_leftInAll_l4b v1 v2 (f_X12_leftInAll_l4 s n)  s
set_option maxRecDepth 20000 in
set_option maxHeartbeats 2000000 in
theorem t_X12_leftInAll_l4  (s : HS) {x : Int32}  : ∀ (n : Nat) (v1 : Int32) (v2 : Int32), f_X12_leftInAll_l4 s n v1 v2 = some x → Ev DDX12_leftInAll miX12_leftInAll NF (some (.int x)) NF (hp s) 4 NF [(0, .ref 101), (1, .int v1), (2, .int v2)] [] (hp s) := by
  intro n
  induction n with
  | zero =>
    intro v1 v2 hf
    have hf : none = some x := hf
    cases hf
  | succ n ih =>
    intro v1 v2 hf
    exact t_X12_leftInAll_l4b v1 v2  s _ ih  hf
def f_X12_leftInAll  (s : HS) : Option Int32 :=
  f_X12_leftInAll_l4 s FU 0 0
set_option maxRecDepth 20000 in
set_option maxHeartbeats 2000000 in
theorem t_X12_leftInAll  (s : HS) {x : Int32} (hf : f_X12_leftInAll  s = some x) : Mt DDX12_leftInAll miX12_leftInAll [.ref 101] NF (hp s) (some (.int x)) NF (hp s) := by
  refine Mt.of (by decide +kernel) (Nat.le_refl _) (Nat.le_of_ble_eq_true rfl) ?_
  show Ev DDX12_leftInAll miX12_leftInAll NF (some (.int x)) NF (hp s) 0 NF [(0, .ref 101)] [] (hp s)
  unfold f_X12_leftInAll at hf
  refine e_iconst (x := 0) dX12_leftInAll_0 (by decide) (pc2 := 1) rfl ?_
  refine e_istore_n dX12_leftInAll_1 rfl (by decide) rfl (ls' := [(0, .ref 101), (1, .int 0)]) [1, 0] rfl (pc2 := 2) rfl ?_
  refine e_iconst (x := 0) dX12_leftInAll_2 (by decide) (pc2 := 3) rfl ?_
  refine e_istore_n dX12_leftInAll_3 rfl (by decide) rfl (ls' := [(0, .ref 101), (1, .int 0), (2, .int 0)]) [1, 2, 0] rfl (pc2 := 4) rfl ?_
  refine t_X12_leftInAll_l4 s FU 0 0 hf
abbrev DDX12_behindInAll : Nat := 1
def f_X12_behindInAll_l4b (v1 : Int32) (v2 : Int32) (k4 : Int32 → Int32 → Option Int32) (s : HS) : Option Int32 :=
  (if (s.1 103 2) ≤ v2 then some v1 else gd (inb v2 6) (ltb (v1 + (s.1 154 v2.toNatClampNeg)) fun x4 => ltb (v2 + 1) fun x5 => k4 x4 x5))
set_option maxRecDepth 20000 in
set_option maxHeartbeats 2000000 in
theorem t_X12_behindInAll_l4b (v1 : Int32) (v2 : Int32) (s : HS) {x : Int32} (k4 : Int32 → Int32 → Option Int32) (hk4 : ∀ (a1 : Int32) (a2 : Int32), k4 a1 a2 = some x → Ev DDX12_behindInAll miX12_behindInAll NF (some (.int x)) NF (hp s) 4 NF [(0, .ref 101), (1, .int a1), (2, .int a2)] [] (hp s)) (hf : f_X12_behindInAll_l4b v1 v2 k4 s = some x) : Ev DDX12_behindInAll miX12_behindInAll NF (some (.int x)) NF (hp s) 4 NF [(0, .ref 101), (1, .int v1), (2, .int v2)] [] (hp s) := by
  refine e_iload_n dX12_behindInAll_4 2 rfl rfl (pc2 := 5) rfl ?_
  refine e_aload_n dX12_behindInAll_5 0 rfl rfl (pc2 := 6) rfl ?_
  refine e_getR (r := 103) fl_X12_13 dX12_behindInAll_6 so_101 (rs_101_10 s.2.2) (by decide) (pc2 := 9) rfl ?_
  refine e_iconst (x := 2) dX12_behindInAll_9 (by decide) (pc2 := 10) rfl ?_
  refine e_iald dX12_behindInAll_10 sa_103 (inb_v (by decide)) (pc2 := 11) rfl ?_
  refine e_icmp_ge (tgt := 29) dX12_behindInAll_11 (by decide) (pc2 := 14) rfl (fun c2 => ?_) (fun c2 => ?_)
  · have hf := if_t c2 hf
    refine e_iload_n dX12_behindInAll_29 1 rfl rfl (pc2 := 30) rfl ?_
    cases hf
    exact e_iret rfl dX12_behindInAll_30
  · have hf := if_f c2 hf
    refine e_iload_n dX12_behindInAll_14 1 rfl rfl (pc2 := 15) rfl ?_
    refine e_aload_n dX12_behindInAll_15 0 rfl rfl (pc2 := 16) rfl ?_
    refine e_getR (r := 154) fl_X12_175 dX12_behindInAll_16 so_101 (rs_101_71 s.2.2) (by decide) (pc2 := 19) rfl ?_
    refine e_iload_n dX12_behindInAll_19 2 rfl rfl (pc2 := 20) rfl ?_
    obtain ⟨g3, hf⟩ := gd_some hf
    refine e_iald dX12_behindInAll_20 sa_154 (inb_v g3) (pc2 := 21) rfl ?_
    refine e_iadd dX12_behindInAll_21 (pc2 := 22) rfl ?_
    obtain ⟨x4, ex4, hf⟩ := ltb_s hf
    refine e_istore_n dX12_behindInAll_22 rfl (by decide) ex4.symm (ls' := [(0, .ref 101), (1, .int x4), (2, .int v2)]) [1, 0, 2] rfl (pc2 := 23) rfl ?_
    obtain ⟨x5, ex5, hf⟩ := ltb_s hf
    refine e_iinc dX12_behindInAll_23 2 rfl (c9 := 1) (by decide) ex5.symm (by decide) (ls' := [(0, .ref 101), (1, .int x4), (2, .int x5)]) [1, 2, 0] rfl (pc2 := 26) rfl ?_
    refine e_goto (tgt := 4) dX12_behindInAll_26 (by decide) ?_
    exact hk4 x4 x5 hf
def f_X12_behindInAll_l4  (s : HS) : Nat → Int32 → Int32 → Option Int32
  | 0, _, _ => none
  | n + 1, v1, v2 => f_X12_behindInAll_l4b v1 v2 (f_X12_behindInAll_l4 s n)  s
set_option maxRecDepth 20000 in
set_option maxHeartbeats 2000000 in
theorem t_X12_behindInAll_l4  (s : HS) {x : Int32}  : ∀ (n : Nat) (v1 : Int32) (v2 : Int32), f_X12_behindInAll_l4 s n v1 v2 = some x → Ev DDX12_behindInAll miX12_behindInAll NF (some (.int x)) NF (hp s) 4 NF [(0, .ref 101), (1, .int v1), (2, .int v2)] [] (hp s) := by
  intro n
  induction n with
  | zero =>
    intro v1 v2 hf
    have hf : none = some x := hf
    cases hf
  | succ n ih =>
    intro v1 v2 hf
    exact t_X12_behindInAll_l4b v1 v2  s _ ih  hf
def f_X12_behindInAll  (s : HS) : Option Int32 :=
  f_X12_behindInAll_l4 s FU 0 0
set_option maxRecDepth 20000 in
set_option maxHeartbeats 2000000 in
theorem t_X12_behindInAll  (s : HS) {x : Int32} (hf : f_X12_behindInAll  s = some x) : Mt DDX12_behindInAll miX12_behindInAll [.ref 101] NF (hp s) (some (.int x)) NF (hp s) := by
  refine Mt.of (by decide +kernel) (Nat.le_refl _) (Nat.le_of_ble_eq_true rfl) ?_
  show Ev DDX12_behindInAll miX12_behindInAll NF (some (.int x)) NF (hp s) 0 NF [(0, .ref 101)] [] (hp s)
  unfold f_X12_behindInAll at hf
  refine e_iconst (x := 0) dX12_behindInAll_0 (by decide) (pc2 := 1) rfl ?_
  refine e_istore_n dX12_behindInAll_1 rfl (by decide) rfl (ls' := [(0, .ref 101), (1, .int 0)]) [1, 0] rfl (pc2 := 2) rfl ?_
  refine e_iconst (x := 0) dX12_behindInAll_2 (by decide) (pc2 := 3) rfl ?_
  refine e_istore_n dX12_behindInAll_3 rfl (by decide) rfl (ls' := [(0, .ref 101), (1, .int 0), (2, .int 0)]) [1, 2, 0] rfl (pc2 := 4) rfl ?_
  refine t_X12_behindInAll_l4 s FU 0 0 hf
abbrev DDX12_pence : Nat := 1
def f_X12_pence_l16b (v1 : Int32) (v2 : Int32) (v3 : Int32) (k16 : Int32 → Int32 → Option Int32) (k59 : Int32 → Option Int32) (s : HS) : Option Int32 :=
  gd (inb v2 12) ((if (s.1 118 v2.toNatClampNeg) ≤ v3 then k59 v1 else gd (inb v2 6) ((if (s.1 151 v2.toNatClampNeg) < 0 then k59 v1 else gd (inb ((3 * v2) + v3) 36) (gd (inb (s.1 117 ((3 * v2) + v3).toNatClampNeg) 10) (ltb (v1 + (s.1 110 (s.1 117 ((3 * v2) + v3).toNatClampNeg).toNatClampNeg)) fun x9 => ltb (v3 + 1) fun x10 => k16 x9 x10))))))
set_option maxRecDepth 20000 in
set_option maxHeartbeats 2000000 in
theorem t_X12_pence_l16b (v1 : Int32) (v2 : Int32) (v3 : Int32) (s : HS) {x : Int32} (k16 : Int32 → Int32 → Option Int32) (hk16 : ∀ (a1 : Int32) (a3 : Int32), k16 a1 a3 = some x → Ev DDX12_pence miX12_pence NF (some (.int x)) NF (hp s) 16 NF [(0, .ref 101), (1, .int a1), (2, .int v2), (3, .int a3)] [] (hp s)) (k59 : Int32 → Option Int32) (hk59 : ∀ (a1 : Int32), k59 a1 = some x → Ev DDX12_pence miX12_pence NF (some (.int x)) NF (hp s) 59 NF [(0, .ref 101), (1, .int a1), (2, .int v2)] [] (hp s)) (hf : f_X12_pence_l16b v1 v2 v3 k16 k59 s = some x) : Ev DDX12_pence miX12_pence NF (some (.int x)) NF (hp s) 16 NF [(0, .ref 101), (1, .int v1), (2, .int v2), (3, .int v3)] [] (hp s) := by
  refine e_iload_n dX12_pence_16 3 rfl rfl (pc2 := 17) rfl ?_
  refine e_aload_n dX12_pence_17 0 rfl rfl (pc2 := 18) rfl ?_
  refine e_getR (r := 118) fl_X12_59 dX12_pence_18 so_101 (rs_101_25 s.2.2) (by decide) (pc2 := 21) rfl ?_
  refine e_iload_n dX12_pence_21 2 rfl rfl (pc2 := 22) rfl ?_
  obtain ⟨g3, hf⟩ := gd_some hf
  refine e_iald dX12_pence_22 sa_118 (inb_v g3) (pc2 := 23) rfl ?_
  refine e_icmp_ge (tgt := 59) dX12_pence_23 (by decide) (pc2 := 26) rfl (fun c4 => ?_) (fun c4 => ?_)
  · have hf := if_t c4 hf
    refine ev_sub [0, 1, 2] rfl ?_
    exact hk59 v1 hf
  · have hf := if_f c4 hf
    refine e_aload_n dX12_pence_26 0 rfl rfl (pc2 := 27) rfl ?_
    refine e_getR (r := 151) fl_X12_166 dX12_pence_27 so_101 (rs_101_68 s.2.2) (by decide) (pc2 := 30) rfl ?_
    refine e_iload_n dX12_pence_30 2 rfl rfl (pc2 := 31) rfl ?_
    obtain ⟨g5, hf⟩ := gd_some hf
    refine e_iald dX12_pence_31 sa_151 (inb_v g5) (pc2 := 32) rfl ?_
    refine e_if_lt (tgt := 59) dX12_pence_32 (by decide) (pc2 := 35) rfl (fun c6 => ?_) (fun c6 => ?_)
    · have hf := if_t c6 hf
      refine ev_sub [0, 1, 2] rfl ?_
      exact hk59 v1 hf
    · have hf := if_f c6 hf
      refine e_iload_n dX12_pence_35 1 rfl rfl (pc2 := 36) rfl ?_
      refine e_aload_n dX12_pence_36 0 rfl rfl (pc2 := 37) rfl ?_
      refine e_getR (r := 110) fl_X12_35 dX12_pence_37 so_101 (rs_101_17 s.2.2) (by decide) (pc2 := 40) rfl ?_
      refine e_aload_n dX12_pence_40 0 rfl rfl (pc2 := 41) rfl ?_
      refine e_getR (r := 117) fl_X12_56 dX12_pence_41 so_101 (rs_101_24 s.2.2) (by decide) (pc2 := 44) rfl ?_
      refine e_iconst (x := 3) dX12_pence_44 (by decide) (pc2 := 45) rfl ?_
      refine e_iload_n dX12_pence_45 2 rfl rfl (pc2 := 46) rfl ?_
      refine e_imul dX12_pence_46 (pc2 := 47) rfl ?_
      refine e_iload_n dX12_pence_47 3 rfl rfl (pc2 := 48) rfl ?_
      refine e_iadd dX12_pence_48 (pc2 := 49) rfl ?_
      obtain ⟨g7, hf⟩ := gd_some hf
      refine e_iald dX12_pence_49 sa_117 (inb_v g7) (pc2 := 50) rfl ?_
      obtain ⟨g8, hf⟩ := gd_some hf
      refine e_iald dX12_pence_50 sa_110 (inb_v g8) (pc2 := 51) rfl ?_
      refine e_iadd dX12_pence_51 (pc2 := 52) rfl ?_
      obtain ⟨x9, ex9, hf⟩ := ltb_s hf
      refine e_istore_n dX12_pence_52 rfl (by decide) ex9.symm (ls' := [(0, .ref 101), (1, .int x9), (2, .int v2), (3, .int v3)]) [1, 0, 2, 3] rfl (pc2 := 53) rfl ?_
      obtain ⟨x10, ex10, hf⟩ := ltb_s hf
      refine e_iinc dX12_pence_53 3 rfl (c9 := 1) (by decide) ex10.symm (by decide) (ls' := [(0, .ref 101), (1, .int x9), (2, .int v2), (3, .int x10)]) [1, 2, 3, 0] rfl (pc2 := 56) rfl ?_
      refine e_goto (tgt := 16) dX12_pence_56 (by decide) ?_
      exact hk16 x9 x10 hf
def f_X12_pence_l16 (v2 : Int32) (k59 : Int32 → Option Int32) (s : HS) : Nat → Int32 → Int32 → Option Int32
  | 0, _, _ => none
  | n + 1, v1, v3 => f_X12_pence_l16b v1 v2 v3 (f_X12_pence_l16 v2 k59 s n) k59 s
set_option maxRecDepth 20000 in
set_option maxHeartbeats 2000000 in
theorem t_X12_pence_l16 (v2 : Int32) (s : HS) {x : Int32} (k59 : Int32 → Option Int32) (hk59 : ∀ (a1 : Int32), k59 a1 = some x → Ev DDX12_pence miX12_pence NF (some (.int x)) NF (hp s) 59 NF [(0, .ref 101), (1, .int a1), (2, .int v2)] [] (hp s)) : ∀ (n : Nat) (v1 : Int32) (v3 : Int32), f_X12_pence_l16 v2 k59 s n v1 v3 = some x → Ev DDX12_pence miX12_pence NF (some (.int x)) NF (hp s) 16 NF [(0, .ref 101), (1, .int v1), (2, .int v2), (3, .int v3)] [] (hp s) := by
  intro n
  induction n with
  | zero =>
    intro v1 v3 hf
    have hf : none = some x := hf
    cases hf
  | succ n ih =>
    intro v1 v3 hf
    exact t_X12_pence_l16b v1 v2 v3  s _ ih _ hk59 hf
def f_X12_pence_l4b (v1 : Int32) (v2 : Int32) (k4 : Int32 → Int32 → Option Int32) (s : HS) : Option Int32 :=
  (if (s.1 103 2) ≤ v2 then some v1 else f_X12_pence_l16 v2 (fun v11 => ltb (v2 + 1) fun x12 => k4 v11 x12) s FU v1 0)
set_option maxRecDepth 20000 in
set_option maxHeartbeats 2000000 in
theorem t_X12_pence_l4b (v1 : Int32) (v2 : Int32) (s : HS) {x : Int32} (k4 : Int32 → Int32 → Option Int32) (hk4 : ∀ (a1 : Int32) (a2 : Int32), k4 a1 a2 = some x → Ev DDX12_pence miX12_pence NF (some (.int x)) NF (hp s) 4 NF [(0, .ref 101), (1, .int a1), (2, .int a2)] [] (hp s)) (hf : f_X12_pence_l4b v1 v2 k4 s = some x) : Ev DDX12_pence miX12_pence NF (some (.int x)) NF (hp s) 4 NF [(0, .ref 101), (1, .int v1), (2, .int v2)] [] (hp s) := by
  refine e_iload_n dX12_pence_4 2 rfl rfl (pc2 := 5) rfl ?_
  refine e_aload_n dX12_pence_5 0 rfl rfl (pc2 := 6) rfl ?_
  refine e_getR (r := 103) fl_X12_13 dX12_pence_6 so_101 (rs_101_10 s.2.2) (by decide) (pc2 := 9) rfl ?_
  refine e_iconst (x := 2) dX12_pence_9 (by decide) (pc2 := 10) rfl ?_
  refine e_iald dX12_pence_10 sa_103 (inb_v (by decide)) (pc2 := 11) rfl ?_
  refine e_icmp_ge (tgt := 65) dX12_pence_11 (by decide) (pc2 := 14) rfl (fun c2 => ?_) (fun c2 => ?_)
  · have hf := if_t c2 hf
    refine e_iload_n dX12_pence_65 1 rfl rfl (pc2 := 66) rfl ?_
    cases hf
    exact e_iret rfl dX12_pence_66
  · have hf := if_f c2 hf
    refine e_iconst (x := 0) dX12_pence_14 (by decide) (pc2 := 15) rfl ?_
    refine e_istore_n dX12_pence_15 rfl (by decide) rfl (ls' := [(0, .ref 101), (1, .int v1), (2, .int v2), (3, .int 0)]) [1, 2, 3, 0] rfl (pc2 := 16) rfl ?_
    refine t_X12_pence_l16 v2 s _ ?_ FU v1 0 hf
    · intro v11 hf
      obtain ⟨x12, ex12, hf⟩ := ltb_s hf
      refine e_iinc dX12_pence_59 2 rfl (c9 := 1) (by decide) ex12.symm (by decide) (ls' := [(0, .ref 101), (1, .int v11), (2, .int x12)]) [1, 2, 0] rfl (pc2 := 62) rfl ?_
      refine e_goto (tgt := 4) dX12_pence_62 (by decide) ?_
      exact hk4 v11 x12 hf
def f_X12_pence_l4  (s : HS) : Nat → Int32 → Int32 → Option Int32
  | 0, _, _ => none
  | n + 1, v1, v2 => f_X12_pence_l4b v1 v2 (f_X12_pence_l4 s n)  s
set_option maxRecDepth 20000 in
set_option maxHeartbeats 2000000 in
theorem t_X12_pence_l4  (s : HS) {x : Int32}  : ∀ (n : Nat) (v1 : Int32) (v2 : Int32), f_X12_pence_l4 s n v1 v2 = some x → Ev DDX12_pence miX12_pence NF (some (.int x)) NF (hp s) 4 NF [(0, .ref 101), (1, .int v1), (2, .int v2)] [] (hp s) := by
  intro n
  induction n with
  | zero =>
    intro v1 v2 hf
    have hf : none = some x := hf
    cases hf
  | succ n ih =>
    intro v1 v2 hf
    exact t_X12_pence_l4b v1 v2  s _ ih  hf
def f_X12_pence  (s : HS) : Option Int32 :=
  f_X12_pence_l4 s FU 0 0
set_option maxRecDepth 20000 in
set_option maxHeartbeats 2000000 in
theorem t_X12_pence  (s : HS) {x : Int32} (hf : f_X12_pence  s = some x) : Mt DDX12_pence miX12_pence [.ref 101] NF (hp s) (some (.int x)) NF (hp s) := by
  refine Mt.of (by decide +kernel) (Nat.le_refl _) (Nat.le_of_ble_eq_true rfl) ?_
  show Ev DDX12_pence miX12_pence NF (some (.int x)) NF (hp s) 0 NF [(0, .ref 101)] [] (hp s)
  unfold f_X12_pence at hf
  refine e_iconst (x := 0) dX12_pence_0 (by decide) (pc2 := 1) rfl ?_
  refine e_istore_n dX12_pence_1 rfl (by decide) rfl (ls' := [(0, .ref 101), (1, .int 0)]) [1, 0] rfl (pc2 := 2) rfl ?_
  refine e_iconst (x := 0) dX12_pence_2 (by decide) (pc2 := 3) rfl ?_
  refine e_istore_n dX12_pence_3 rfl (by decide) rfl (ls' := [(0, .ref 101), (1, .int 0), (2, .int 0)]) [1, 2, 0] rfl (pc2 := 4) rfl ?_
  refine t_X12_pence_l4 s FU 0 0 hf
abbrev DDX12_servedBy : Nat := 1
def f_X12_servedBy_l4b (v1 : Int32) (v2 : Int32) (v3 : Int32) (k4 : Int32 → Int32 → Option Int32) (s : HS) : Option Int32 :=
  (if (s.1 103 2) ≤ v3 then some v2 else gd (inb v3 6) ((if (s.1 151 v3.toNatClampNeg) < 0 then ltb (v2 + 0) fun x5 => ltb (v3 + 1) fun x6 => k4 x5 x6 else gd (inb v3 6) ((if v1 < (s.1 151 v3.toNatClampNeg) then ltb (v2 + 0) fun x9 => ltb (v3 + 1) fun x10 => k4 x9 x10 else ltb (v2 + 1) fun x11 => ltb (v3 + 1) fun x12 => k4 x11 x12)))))
set_option maxRecDepth 20000 in
set_option maxHeartbeats 2000000 in
theorem t_X12_servedBy_l4b (v1 : Int32) (v2 : Int32) (v3 : Int32) (s : HS) {x : Int32} (k4 : Int32 → Int32 → Option Int32) (hk4 : ∀ (a2 : Int32) (a3 : Int32), k4 a2 a3 = some x → Ev DDX12_servedBy miX12_servedBy NF (some (.int x)) NF (hp s) 4 NF [(0, .ref 101), (1, .int v1), (2, .int a2), (3, .int a3)] [] (hp s)) (hf : f_X12_servedBy_l4b v1 v2 v3 k4 s = some x) : Ev DDX12_servedBy miX12_servedBy NF (some (.int x)) NF (hp s) 4 NF [(0, .ref 101), (1, .int v1), (2, .int v2), (3, .int v3)] [] (hp s) := by
  refine e_iload_n dX12_servedBy_4 3 rfl rfl (pc2 := 5) rfl ?_
  refine e_aload_n dX12_servedBy_5 0 rfl rfl (pc2 := 6) rfl ?_
  refine e_getR (r := 103) fl_X12_13 dX12_servedBy_6 so_101 (rs_101_10 s.2.2) (by decide) (pc2 := 9) rfl ?_
  refine e_iconst (x := 2) dX12_servedBy_9 (by decide) (pc2 := 10) rfl ?_
  refine e_iald dX12_servedBy_10 sa_103 (inb_v (by decide)) (pc2 := 11) rfl ?_
  refine e_icmp_ge (tgt := 47) dX12_servedBy_11 (by decide) (pc2 := 14) rfl (fun c2 => ?_) (fun c2 => ?_)
  · have hf := if_t c2 hf
    refine e_iload_n dX12_servedBy_47 2 rfl rfl (pc2 := 48) rfl ?_
    cases hf
    exact e_iret rfl dX12_servedBy_48
  · have hf := if_f c2 hf
    refine e_iload_n dX12_servedBy_14 2 rfl rfl (pc2 := 15) rfl ?_
    refine e_aload_n dX12_servedBy_15 0 rfl rfl (pc2 := 16) rfl ?_
    refine e_getR (r := 151) fl_X12_166 dX12_servedBy_16 so_101 (rs_101_68 s.2.2) (by decide) (pc2 := 19) rfl ?_
    refine e_iload_n dX12_servedBy_19 3 rfl rfl (pc2 := 20) rfl ?_
    obtain ⟨g3, hf⟩ := gd_some hf
    refine e_iald dX12_servedBy_20 sa_151 (inb_v g3) (pc2 := 21) rfl ?_
    refine e_if_lt (tgt := 38) dX12_servedBy_21 (by decide) (pc2 := 24) rfl (fun c4 => ?_) (fun c4 => ?_)
    · have hf := if_t c4 hf
      refine e_iconst (x := 0) dX12_servedBy_38 (by decide) (pc2 := 39) rfl ?_
      refine e_iadd dX12_servedBy_39 (pc2 := 40) rfl ?_
      obtain ⟨x5, ex5, hf⟩ := ltb_s hf
      refine e_istore_n dX12_servedBy_40 rfl (by decide) ex5.symm (ls' := [(0, .ref 101), (1, .int v1), (2, .int x5), (3, .int v3)]) [1, 2, 0, 3] rfl (pc2 := 41) rfl ?_
      obtain ⟨x6, ex6, hf⟩ := ltb_s hf
      refine e_iinc dX12_servedBy_41 3 rfl (c9 := 1) (by decide) ex6.symm (by decide) (ls' := [(0, .ref 101), (1, .int v1), (2, .int x5), (3, .int x6)]) [1, 2, 3, 0] rfl (pc2 := 44) rfl ?_
      refine e_goto (tgt := 4) dX12_servedBy_44 (by decide) ?_
      exact hk4 x5 x6 hf
    · have hf := if_f c4 hf
      refine e_aload_n dX12_servedBy_24 0 rfl rfl (pc2 := 25) rfl ?_
      refine e_getR (r := 151) fl_X12_166 dX12_servedBy_25 so_101 (rs_101_68 s.2.2) (by decide) (pc2 := 28) rfl ?_
      refine e_iload_n dX12_servedBy_28 3 rfl rfl (pc2 := 29) rfl ?_
      obtain ⟨g7, hf⟩ := gd_some hf
      refine e_iald dX12_servedBy_29 sa_151 (inb_v g7) (pc2 := 30) rfl ?_
      refine e_iload_n dX12_servedBy_30 1 rfl rfl (pc2 := 31) rfl ?_
      refine e_icmp_gt (tgt := 38) dX12_servedBy_31 (by decide) (pc2 := 34) rfl (fun c8 => ?_) (fun c8 => ?_)
      · have hf := if_t c8 hf
        refine e_iconst (x := 0) dX12_servedBy_38 (by decide) (pc2 := 39) rfl ?_
        refine e_iadd dX12_servedBy_39 (pc2 := 40) rfl ?_
        obtain ⟨x9, ex9, hf⟩ := ltb_s hf
        refine e_istore_n dX12_servedBy_40 rfl (by decide) ex9.symm (ls' := [(0, .ref 101), (1, .int v1), (2, .int x9), (3, .int v3)]) [1, 2, 0, 3] rfl (pc2 := 41) rfl ?_
        obtain ⟨x10, ex10, hf⟩ := ltb_s hf
        refine e_iinc dX12_servedBy_41 3 rfl (c9 := 1) (by decide) ex10.symm (by decide) (ls' := [(0, .ref 101), (1, .int v1), (2, .int x9), (3, .int x10)]) [1, 2, 3, 0] rfl (pc2 := 44) rfl ?_
        refine e_goto (tgt := 4) dX12_servedBy_44 (by decide) ?_
        exact hk4 x9 x10 hf
      · have hf := if_f c8 hf
        refine e_iconst (x := 1) dX12_servedBy_34 (by decide) (pc2 := 35) rfl ?_
        refine e_goto (tgt := 39) dX12_servedBy_35 (by decide) ?_
        refine e_iadd dX12_servedBy_39 (pc2 := 40) rfl ?_
        obtain ⟨x11, ex11, hf⟩ := ltb_s hf
        refine e_istore_n dX12_servedBy_40 rfl (by decide) ex11.symm (ls' := [(0, .ref 101), (1, .int v1), (2, .int x11), (3, .int v3)]) [1, 2, 0, 3] rfl (pc2 := 41) rfl ?_
        obtain ⟨x12, ex12, hf⟩ := ltb_s hf
        refine e_iinc dX12_servedBy_41 3 rfl (c9 := 1) (by decide) ex12.symm (by decide) (ls' := [(0, .ref 101), (1, .int v1), (2, .int x11), (3, .int x12)]) [1, 2, 3, 0] rfl (pc2 := 44) rfl ?_
        refine e_goto (tgt := 4) dX12_servedBy_44 (by decide) ?_
        exact hk4 x11 x12 hf
def f_X12_servedBy_l4 (v1 : Int32) (s : HS) : Nat → Int32 → Int32 → Option Int32
  | 0, _, _ => none
  | n + 1, v2, v3 => f_X12_servedBy_l4b v1 v2 v3 (f_X12_servedBy_l4 v1 s n)  s
set_option maxRecDepth 20000 in
set_option maxHeartbeats 2000000 in
theorem t_X12_servedBy_l4 (v1 : Int32) (s : HS) {x : Int32}  : ∀ (n : Nat) (v2 : Int32) (v3 : Int32), f_X12_servedBy_l4 v1 s n v2 v3 = some x → Ev DDX12_servedBy miX12_servedBy NF (some (.int x)) NF (hp s) 4 NF [(0, .ref 101), (1, .int v1), (2, .int v2), (3, .int v3)] [] (hp s) := by
  intro n
  induction n with
  | zero =>
    intro v2 v3 hf
    have hf : none = some x := hf
    cases hf
  | succ n ih =>
    intro v2 v3 hf
    exact t_X12_servedBy_l4b v1 v2 v3  s _ ih  hf
def f_X12_servedBy (v1 : Int32) (s : HS) : Option Int32 :=
  f_X12_servedBy_l4 v1 s FU 0 0
set_option maxRecDepth 20000 in
set_option maxHeartbeats 2000000 in
theorem t_X12_servedBy (v1 : Int32) (s : HS) {x : Int32} (hf : f_X12_servedBy  v1 s = some x) : Mt DDX12_servedBy miX12_servedBy [.ref 101, .int v1] NF (hp s) (some (.int x)) NF (hp s) := by
  refine Mt.of (by decide +kernel) (Nat.le_refl _) (Nat.le_of_ble_eq_true rfl) ?_
  show Ev DDX12_servedBy miX12_servedBy NF (some (.int x)) NF (hp s) 0 NF [(0, .ref 101), (1, .int v1)] [] (hp s)
  unfold f_X12_servedBy at hf
  refine e_iconst (x := 0) dX12_servedBy_0 (by decide) (pc2 := 1) rfl ?_
  refine e_istore_n dX12_servedBy_1 rfl (by decide) rfl (ls' := [(0, .ref 101), (1, .int v1), (2, .int 0)]) [1, 2, 0] rfl (pc2 := 2) rfl ?_
  refine e_iconst (x := 0) dX12_servedBy_2 (by decide) (pc2 := 3) rfl ?_
  refine e_istore_n dX12_servedBy_3 rfl (by decide) rfl (ls' := [(0, .ref 101), (1, .int v1), (2, .int 0), (3, .int 0)]) [1, 2, 3, 0] rfl (pc2 := 4) rfl ?_
  refine t_X12_servedBy_l4 v1 s FU 0 0 hf
abbrev DDX12_thing : Nat := 2
def f_X12_thing (v1 : Int32) (v2 : Int32) (s : HS) : Option (Int32 × HS) :=
  ltb (sI s 101 0 0) fun s1 => (if (f_X12_isThing v1 s1) = 0 then some ((-1), s1) else (if (f_X12_within v2 0 4 s1) = 0 then some ((-1), s1) else (if 3 ≤ v2 then (if v2 = 3 then gd (inb (4 + v1) 9) (some (s1.1 145 (4 + v1).toNatClampNeg, s1)) else gd (inb v1 10) (some (s1.1 112 v1.toNatClampNeg, s1))) else (if v2 = 0 then gd (inb v1 10) (some (s1.1 108 v1.toNatClampNeg, s1)) else (if v2 = 1 then gd (inb v1 10) (some (s1.1 109 v1.toNatClampNeg, s1)) else gd (inb v1 10) (some (s1.1 110 v1.toNatClampNeg, s1)))))))
set_option maxRecDepth 20000 in
set_option maxHeartbeats 2000000 in
theorem t_X12_thing (v1 : Int32) (v2 : Int32) (s : HS) {x : Int32} {t : HS} (hf : f_X12_thing  v1 v2 s = some (x, t)) : Mt DDX12_thing miX12_thing [.ref 101, .int v1, .int v2] NF (hp s) (some (.int x)) NF (hp t) := by
  refine Mt.of (by decide +kernel) (Nat.le_refl _) (Nat.le_of_ble_eq_true rfl) ?_
  show Ev DDX12_thing miX12_thing NF (some (.int x)) NF (hp t) 0 NF [(0, .ref 101), (1, .int v1), (2, .int v2)] [] (hp s)
  unfold f_X12_thing at hf
  refine e_aload_n dX12_thing_0 0 rfl rfl (pc2 := 1) rfl ?_
  refine e_iconst (x := 0) dX12_thing_1 (by decide) (pc2 := 2) rfl ?_
  obtain ⟨s1, es1, hf⟩ := ltb_s hf
  refine e_putI fl_X12_194 dX12_thing_2 so_101 fn_11_0 (h2 := hp s1) (by rw [es1]; rfl) (pc2 := 5) rfl ?_
  refine e_aload_n dX12_thing_5 0 rfl rfl (pc2 := 6) rfl ?_
  refine e_iload_n dX12_thing_6 1 rfl rfl (pc2 := 7) rfl ?_
  refine e_callVs (t_X12_isThing v1 s1 rfl) dX12_thing_7 cv_X12_507 rfl so_101 rc_11 (by decide) (by first | exact Nat.le_of_ble_eq_true rfl | simp [rva_cat, vc_i, vc_r, vc_l, vc_n]) nn0 rfl (pc2 := 10) rfl ?_
  refine e_if_eq (tgt := 22) dX12_thing_10 (by decide) (pc2 := 13) rfl (fun c2 => ?_) (fun c2 => ?_)
  · have hf := if_t c2 hf
    refine e_iconst (x := (-1)) dX12_thing_22 (by decide) (pc2 := 23) rfl ?_
    cases hf
    exact e_iret rfl dX12_thing_23
  · have hf := if_f c2 hf
    refine e_iload_n dX12_thing_13 2 rfl rfl (pc2 := 14) rfl ?_
    refine e_iconst (x := 0) dX12_thing_14 (by decide) (pc2 := 15) rfl ?_
    refine e_iconst (x := 4) dX12_thing_15 (by decide) (pc2 := 16) rfl ?_
    refine e_callSs (t_X12_within v2 0 4 s1 rfl) dX12_thing_16 cs_X12_343 rfl (by decide) (by first | exact Nat.le_of_ble_eq_true rfl | simp [rva_cat, vc_i, vc_r, vc_l, vc_n]) nn0 rfl (pc2 := 19) rfl ?_
    refine e_if_ne (tgt := 24) dX12_thing_19 (by decide) (pc2 := 22) rfl (fun c3 => ?_) (fun c3 => ?_)
    · have hf := if_f c3 hf
      refine e_iload_n dX12_thing_24 2 rfl rfl (pc2 := 25) rfl ?_
      refine e_iconst (x := 3) dX12_thing_25 (by decide) (pc2 := 26) rfl ?_
      refine e_icmp_ge (tgt := 63) dX12_thing_26 (by decide) (pc2 := 29) rfl (fun c4 => ?_) (fun c4 => ?_)
      · have hf := if_t c4 hf
        refine e_iload_n dX12_thing_63 2 rfl rfl (pc2 := 64) rfl ?_
        refine e_iconst (x := 3) dX12_thing_64 (by decide) (pc2 := 65) rfl ?_
        refine e_icmp_ne (tgt := 79) dX12_thing_65 (by decide) (pc2 := 68) rfl (fun c5 => ?_) (fun c5 => ?_)
        · have hf := if_f c5 hf
          refine e_aload_n dX12_thing_79 0 rfl rfl (pc2 := 80) rfl ?_
          refine e_getR (r := 112) fl_X12_41 dX12_thing_80 so_101 (rs_101_19 s1.2.2) (by decide) (pc2 := 83) rfl ?_
          refine e_iload_n dX12_thing_83 1 rfl rfl (pc2 := 84) rfl ?_
          obtain ⟨g6, hf⟩ := gd_some hf
          refine e_iald dX12_thing_84 sa_112 (inb_v g6) (pc2 := 85) rfl ?_
          cases hf
          exact e_iret rfl dX12_thing_85
        · have hf := if_t c5 hf
          refine e_aload_n dX12_thing_68 0 rfl rfl (pc2 := 69) rfl ?_
          refine e_getR (r := 145) fl_X12_141 dX12_thing_69 so_101 (rs_101_55 s1.2.2) (by decide) (pc2 := 72) rfl ?_
          refine e_iconst (x := 4) dX12_thing_72 (by decide) (pc2 := 73) rfl ?_
          refine e_iload_n dX12_thing_73 1 rfl rfl (pc2 := 74) rfl ?_
          refine e_iadd dX12_thing_74 (pc2 := 75) rfl ?_
          obtain ⟨g7, hf⟩ := gd_some hf
          refine e_iald dX12_thing_75 sa_145 (inb_v g7) (pc2 := 76) rfl ?_
          refine e_goto (tgt := 85) dX12_thing_76 (by decide) ?_
          cases hf
          exact e_iret rfl dX12_thing_85
      · have hf := if_f c4 hf
        refine e_iload_n dX12_thing_29 2 rfl rfl (pc2 := 30) rfl ?_
        refine e_if_ne (tgt := 42) dX12_thing_30 (by decide) (pc2 := 33) rfl (fun c8 => ?_) (fun c8 => ?_)
        · have hf := if_f c8 hf
          refine e_iload_n dX12_thing_42 2 rfl rfl (pc2 := 43) rfl ?_
          refine e_iconst (x := 1) dX12_thing_43 (by decide) (pc2 := 44) rfl ?_
          refine e_icmp_ne (tgt := 56) dX12_thing_44 (by decide) (pc2 := 47) rfl (fun c9 => ?_) (fun c9 => ?_)
          · have hf := if_f c9 hf
            refine e_aload_n dX12_thing_56 0 rfl rfl (pc2 := 57) rfl ?_
            refine e_getR (r := 110) fl_X12_35 dX12_thing_57 so_101 (rs_101_17 s1.2.2) (by decide) (pc2 := 60) rfl ?_
            refine e_iload_n dX12_thing_60 1 rfl rfl (pc2 := 61) rfl ?_
            obtain ⟨g10, hf⟩ := gd_some hf
            refine e_iald dX12_thing_61 sa_110 (inb_v g10) (pc2 := 62) rfl ?_
            cases hf
            exact e_iret rfl dX12_thing_62
          · have hf := if_t c9 hf
            refine e_aload_n dX12_thing_47 0 rfl rfl (pc2 := 48) rfl ?_
            refine e_getR (r := 109) fl_X12_32 dX12_thing_48 so_101 (rs_101_16 s1.2.2) (by decide) (pc2 := 51) rfl ?_
            refine e_iload_n dX12_thing_51 1 rfl rfl (pc2 := 52) rfl ?_
            obtain ⟨g11, hf⟩ := gd_some hf
            refine e_iald dX12_thing_52 sa_109 (inb_v g11) (pc2 := 53) rfl ?_
            refine e_goto (tgt := 62) dX12_thing_53 (by decide) ?_
            cases hf
            exact e_iret rfl dX12_thing_62
        · have hf := if_t c8 hf
          refine e_aload_n dX12_thing_33 0 rfl rfl (pc2 := 34) rfl ?_
          refine e_getR (r := 108) fl_X12_29 dX12_thing_34 so_101 (rs_101_15 s1.2.2) (by decide) (pc2 := 37) rfl ?_
          refine e_iload_n dX12_thing_37 1 rfl rfl (pc2 := 38) rfl ?_
          obtain ⟨g12, hf⟩ := gd_some hf
          refine e_iald dX12_thing_38 sa_108 (inb_v g12) (pc2 := 39) rfl ?_
          refine e_goto (tgt := 62) dX12_thing_39 (by decide) ?_
          cases hf
          exact e_iret rfl dX12_thing_62
    · have hf := if_t c3 hf
      refine e_iconst (x := (-1)) dX12_thing_22 (by decide) (pc2 := 23) rfl ?_
      cases hf
      exact e_iret rfl dX12_thing_23
abbrev DDX12_buyer : Nat := 4
def f_X12_buyer_l126b (v1 : Int32) (v3 : Int32) (v4 : Int32) (k126 : Int32 → Int32 → HS → Option (Int32 × HS)) (s : HS) : Option (Int32 × HS) :=
  gd (inb v1 12) ((if (s.1 118 v1.toNatClampNeg) ≤ v4 then some (v3, s) else gd (inb ((3 * v1) + v4) 36) (ltb (v3 ||| ((1 : Int32) <<< ((s.1 117 ((3 * v1) + v4).toNatClampNeg) &&& 31))) fun x9 => ltb (v4 + 1) fun x10 => k126 x9 x10 s)))
set_option maxRecDepth 20000 in
set_option maxHeartbeats 2000000 in
theorem t_X12_buyer_l126b (v1 : Int32) (v3 : Int32) (v4 : Int32) (s : HS) {x : Int32} {t : HS} (k126 : Int32 → Int32 → HS → Option (Int32 × HS)) (hk126 : ∀ (a3 : Int32) (a4 : Int32) (s : HS), k126 a3 a4 s = some (x, t) → Ev DDX12_buyer miX12_buyer NF (some (.int x)) NF (hp t) 126 NF [(0, .ref 101), (1, .int v1), (3, .int a3), (4, .int a4)] [] (hp s)) (hf : f_X12_buyer_l126b v1 v3 v4 k126 s = some (x, t)) : Ev DDX12_buyer miX12_buyer NF (some (.int x)) NF (hp t) 126 NF [(0, .ref 101), (1, .int v1), (3, .int v3), (4, .int v4)] [] (hp s) := by
  refine e_iload dX12_buyer_126 3 rfl (pc2 := 128) rfl ?_
  refine e_aload_n dX12_buyer_128 0 rfl rfl (pc2 := 129) rfl ?_
  refine e_getR (r := 118) fl_X12_59 dX12_buyer_129 so_101 (rs_101_25 s.2.2) (by decide) (pc2 := 132) rfl ?_
  refine e_iload_n dX12_buyer_132 1 rfl rfl (pc2 := 133) rfl ?_
  obtain ⟨g6, hf⟩ := gd_some hf
  refine e_iald dX12_buyer_133 sa_118 (inb_v g6) (pc2 := 134) rfl ?_
  refine e_icmp_ge (tgt := 159) dX12_buyer_134 (by decide) (pc2 := 137) rfl (fun c7 => ?_) (fun c7 => ?_)
  · have hf := if_t c7 hf
    refine e_iload_n dX12_buyer_159 2 rfl rfl (pc2 := 160) rfl ?_
    cases hf
    exact e_iret rfl dX12_buyer_160
  · have hf := if_f c7 hf
    refine e_iload_n dX12_buyer_137 2 rfl rfl (pc2 := 138) rfl ?_
    refine e_iconst (x := 1) dX12_buyer_138 (by decide) (pc2 := 139) rfl ?_
    refine e_aload_n dX12_buyer_139 0 rfl rfl (pc2 := 140) rfl ?_
    refine e_getR (r := 117) fl_X12_56 dX12_buyer_140 so_101 (rs_101_24 s.2.2) (by decide) (pc2 := 143) rfl ?_
    refine e_iconst (x := 3) dX12_buyer_143 (by decide) (pc2 := 144) rfl ?_
    refine e_iload_n dX12_buyer_144 1 rfl rfl (pc2 := 145) rfl ?_
    refine e_imul dX12_buyer_145 (pc2 := 146) rfl ?_
    refine e_iload dX12_buyer_146 3 rfl (pc2 := 148) rfl ?_
    refine e_iadd dX12_buyer_148 (pc2 := 149) rfl ?_
    obtain ⟨g8, hf⟩ := gd_some hf
    refine e_iald dX12_buyer_149 sa_117 (inb_v g8) (pc2 := 150) rfl ?_
    refine e_ishl dX12_buyer_150 (pc2 := 151) rfl ?_
    refine e_ior dX12_buyer_151 (pc2 := 152) rfl ?_
    obtain ⟨x9, ex9, hf⟩ := ltb_s hf
    refine e_istore_n dX12_buyer_152 rfl (by decide) ex9.symm (ls' := [(0, .ref 101), (1, .int v1), (3, .int x9), (4, .int v4)]) [1, 2, 0, 3] rfl (pc2 := 153) rfl ?_
    obtain ⟨x10, ex10, hf⟩ := ltb_s hf
    refine e_iinc dX12_buyer_153 3 rfl (c9 := 1) (by decide) ex10.symm (by decide) (ls' := [(0, .ref 101), (1, .int v1), (3, .int x9), (4, .int x10)]) [1, 2, 3, 0] rfl (pc2 := 156) rfl ?_
    refine e_goto (tgt := 126) dX12_buyer_156 (by decide) ?_
    exact hk126 x9 x10 s hf
def f_X12_buyer_l126 (v1 : Int32) : Nat → Int32 → Int32 → HS → Option (Int32 × HS)
  | 0, _, _, _ => none
  | n + 1, v3, v4, s => f_X12_buyer_l126b v1 v3 v4 (f_X12_buyer_l126 v1 n)  s
set_option maxRecDepth 20000 in
set_option maxHeartbeats 2000000 in
theorem t_X12_buyer_l126 (v1 : Int32) {x : Int32} {t : HS}  : ∀ (n : Nat) (v3 : Int32) (v4 : Int32) (s : HS), f_X12_buyer_l126 v1 n v3 v4 s = some (x, t) → Ev DDX12_buyer miX12_buyer NF (some (.int x)) NF (hp t) 126 NF [(0, .ref 101), (1, .int v1), (3, .int v3), (4, .int v4)] [] (hp s) := by
  intro n
  induction n with
  | zero =>
    intro v3 v4 s hf
    have hf : none = some (x, t) := hf
    cases hf
  | succ n ih =>
    intro v3 v4 s hf
    exact t_X12_buyer_l126b v1 v3 v4  s _ ih  hf
def f_X12_buyer (v1 : Int32) (v2 : Int32) (s : HS) : Option (Int32 × HS) :=
  ltb (sI s 101 0 0) fun s1 => (if (f_X12_isBuyer v1 s1) = 0 then some ((-1), s1) else (if (f_X12_within v2 0 7 s1) = 0 then some ((-1), s1) else (if 4 ≤ v2 then (if v2 ≤ 4 then f_X12_buyer_l126 v1 FU 0 0 s1 else (if v2 = 5 then some (((s1.1 145 0) >>> (v1 &&& 31)) &&& (1 : Int32), s1) else (if v2 = 6 then bnd (f_X12_wayOf v1 s1) fun y14 => some (y14, s1) else bnd (f_X12_goesAt v1 s1) fun y13 => some (y13, s1)))) else (if v2 = 0 then gd (inb v1 12) (some (s1.1 113 v1.toNatClampNeg, s1)) else (if v2 = 1 then gd (inb v1 12) (some (s1.1 114 v1.toNatClampNeg, s1)) else (if v2 = 2 then gd (inb v1 12) (some (s1.1 115 v1.toNatClampNeg, s1)) else gd (inb v1 12) (some (s1.1 116 v1.toNatClampNeg, s1))))))))
set_option maxRecDepth 20000 in
set_option maxHeartbeats 2000000 in
theorem t_X12_buyer (v1 : Int32) (v2 : Int32) (s : HS) {x : Int32} {t : HS} (hf : f_X12_buyer  v1 v2 s = some (x, t)) : Mt DDX12_buyer miX12_buyer [.ref 101, .int v1, .int v2] NF (hp s) (some (.int x)) NF (hp t) := by
  refine Mt.of (by decide +kernel) (Nat.le_refl _) (Nat.le_of_ble_eq_true rfl) ?_
  show Ev DDX12_buyer miX12_buyer NF (some (.int x)) NF (hp t) 0 NF [(0, .ref 101), (1, .int v1), (2, .int v2)] [] (hp s)
  unfold f_X12_buyer at hf
  refine e_aload_n dX12_buyer_0 0 rfl rfl (pc2 := 1) rfl ?_
  refine e_iconst (x := 0) dX12_buyer_1 (by decide) (pc2 := 2) rfl ?_
  obtain ⟨s1, es1, hf⟩ := ltb_s hf
  refine e_putI fl_X12_194 dX12_buyer_2 so_101 fn_11_0 (h2 := hp s1) (by rw [es1]; rfl) (pc2 := 5) rfl ?_
  refine e_aload_n dX12_buyer_5 0 rfl rfl (pc2 := 6) rfl ?_
  refine e_iload_n dX12_buyer_6 1 rfl rfl (pc2 := 7) rfl ?_
  refine e_callVs (t_X12_isBuyer v1 s1 rfl) dX12_buyer_7 cv_X12_510 rfl so_101 rc_11 (by decide) (by first | exact Nat.le_of_ble_eq_true rfl | simp [rva_cat, vc_i, vc_r, vc_l, vc_n]) nn0 rfl (pc2 := 10) rfl ?_
  refine e_if_eq (tgt := 23) dX12_buyer_10 (by decide) (pc2 := 13) rfl (fun c2 => ?_) (fun c2 => ?_)
  · have hf := if_t c2 hf
    refine e_iconst (x := (-1)) dX12_buyer_23 (by decide) (pc2 := 24) rfl ?_
    cases hf
    exact e_iret rfl dX12_buyer_24
  · have hf := if_f c2 hf
    refine e_iload_n dX12_buyer_13 2 rfl rfl (pc2 := 14) rfl ?_
    refine e_iconst (x := 0) dX12_buyer_14 (by decide) (pc2 := 15) rfl ?_
    refine e_bipush (x := 7) dX12_buyer_15 (by decide) (pc2 := 17) rfl ?_
    refine e_callSs (t_X12_within v2 0 7 s1 rfl) dX12_buyer_17 cs_X12_343 rfl (by decide) (by first | exact Nat.le_of_ble_eq_true rfl | simp [rva_cat, vc_i, vc_r, vc_l, vc_n]) nn0 rfl (pc2 := 20) rfl ?_
    refine e_if_ne (tgt := 25) dX12_buyer_20 (by decide) (pc2 := 23) rfl (fun c3 => ?_) (fun c3 => ?_)
    · have hf := if_f c3 hf
      refine e_iload_n dX12_buyer_25 2 rfl rfl (pc2 := 26) rfl ?_
      refine e_iconst (x := 4) dX12_buyer_26 (by decide) (pc2 := 27) rfl ?_
      refine e_icmp_ge (tgt := 78) dX12_buyer_27 (by decide) (pc2 := 30) rfl (fun c4 => ?_) (fun c4 => ?_)
      · have hf := if_t c4 hf
        refine e_iload_n dX12_buyer_78 2 rfl rfl (pc2 := 79) rfl ?_
        refine e_iconst (x := 4) dX12_buyer_79 (by decide) (pc2 := 80) rfl ?_
        refine e_icmp_le (tgt := 121) dX12_buyer_80 (by decide) (pc2 := 83) rfl (fun c5 => ?_) (fun c5 => ?_)
        · have hf := if_t c5 hf
          refine e_iconst (x := 0) dX12_buyer_121 (by decide) (pc2 := 122) rfl ?_
          refine e_istore_n dX12_buyer_122 rfl (by decide) rfl (ls' := [(0, .ref 101), (1, .int v1), (3, .int 0)]) [1, 2, 0] rfl (pc2 := 123) rfl ?_
          refine e_iconst (x := 0) dX12_buyer_123 (by decide) (pc2 := 124) rfl ?_
          refine e_istore dX12_buyer_124 (by decide) rfl (ls' := [(0, .ref 101), (1, .int v1), (3, .int 0), (4, .int 0)]) [1, 2, 3, 0] rfl (pc2 := 126) rfl ?_
          refine t_X12_buyer_l126 v1 FU 0 0 s1 hf
        · have hf := if_f c5 hf
          refine e_iload_n dX12_buyer_83 2 rfl rfl (pc2 := 84) rfl ?_
          refine e_iconst (x := 5) dX12_buyer_84 (by decide) (pc2 := 85) rfl ?_
          refine e_icmp_ne (tgt := 101) dX12_buyer_85 (by decide) (pc2 := 88) rfl (fun c11 => ?_) (fun c11 => ?_)
          · have hf := if_f c11 hf
            refine e_iload_n dX12_buyer_101 2 rfl rfl (pc2 := 102) rfl ?_
            refine e_bipush (x := 6) dX12_buyer_102 (by decide) (pc2 := 104) rfl ?_
            refine e_icmp_ne (tgt := 115) dX12_buyer_104 (by decide) (pc2 := 107) rfl (fun c12 => ?_) (fun c12 => ?_)
            · have hf := if_f c12 hf
              refine e_aload_n dX12_buyer_115 0 rfl rfl (pc2 := 116) rfl ?_
              refine e_iload_n dX12_buyer_116 1 rfl rfl (pc2 := 117) rfl ?_
              obtain ⟨y13, hy13, hf⟩ := bnd_s hf
              refine e_callVs (t_X12_goesAt v1 s1 hy13) dX12_buyer_117 cv_X12_482 rfl so_101 rc_11 (by decide) (by first | exact Nat.le_of_ble_eq_true rfl | simp [rva_cat, vc_i, vc_r, vc_l, vc_n]) nn0 rfl (pc2 := 120) rfl ?_
              cases hf
              exact e_iret rfl dX12_buyer_120
            · have hf := if_t c12 hf
              refine e_aload_n dX12_buyer_107 0 rfl rfl (pc2 := 108) rfl ?_
              refine e_iload_n dX12_buyer_108 1 rfl rfl (pc2 := 109) rfl ?_
              obtain ⟨y14, hy14, hf⟩ := bnd_s hf
              refine e_callVs (t_X12_wayOf v1 s1 hy14) dX12_buyer_109 cv_X12_447 rfl so_101 rc_11 (by decide) (by first | exact Nat.le_of_ble_eq_true rfl | simp [rva_cat, vc_i, vc_r, vc_l, vc_n]) nn0 rfl (pc2 := 112) rfl ?_
              refine e_goto (tgt := 120) dX12_buyer_112 (by decide) ?_
              cases hf
              exact e_iret rfl dX12_buyer_120
          · have hf := if_t c11 hf
            refine e_aload_n dX12_buyer_88 0 rfl rfl (pc2 := 89) rfl ?_
            refine e_getR (r := 145) fl_X12_141 dX12_buyer_89 so_101 (rs_101_55 s1.2.2) (by decide) (pc2 := 92) rfl ?_
            refine e_iconst (x := 0) dX12_buyer_92 (by decide) (pc2 := 93) rfl ?_
            refine e_iald dX12_buyer_93 sa_145 (inb_v (by decide)) (pc2 := 94) rfl ?_
            refine e_iload_n dX12_buyer_94 1 rfl rfl (pc2 := 95) rfl ?_
            refine e_ishr dX12_buyer_95 (pc2 := 96) rfl ?_
            refine e_iconst (x := 1) dX12_buyer_96 (by decide) (pc2 := 97) rfl ?_
            refine e_iand dX12_buyer_97 (pc2 := 98) rfl ?_
            refine e_goto (tgt := 120) dX12_buyer_98 (by decide) ?_
            cases hf
            exact e_iret rfl dX12_buyer_120
      · have hf := if_f c4 hf
        refine e_iload_n dX12_buyer_30 2 rfl rfl (pc2 := 31) rfl ?_
        refine e_if_ne (tgt := 43) dX12_buyer_31 (by decide) (pc2 := 34) rfl (fun c16 => ?_) (fun c16 => ?_)
        · have hf := if_f c16 hf
          refine e_iload_n dX12_buyer_43 2 rfl rfl (pc2 := 44) rfl ?_
          refine e_iconst (x := 1) dX12_buyer_44 (by decide) (pc2 := 45) rfl ?_
          refine e_icmp_ne (tgt := 57) dX12_buyer_45 (by decide) (pc2 := 48) rfl (fun c17 => ?_) (fun c17 => ?_)
          · have hf := if_f c17 hf
            refine e_iload_n dX12_buyer_57 2 rfl rfl (pc2 := 58) rfl ?_
            refine e_iconst (x := 2) dX12_buyer_58 (by decide) (pc2 := 59) rfl ?_
            refine e_icmp_ne (tgt := 71) dX12_buyer_59 (by decide) (pc2 := 62) rfl (fun c18 => ?_) (fun c18 => ?_)
            · have hf := if_f c18 hf
              refine e_aload_n dX12_buyer_71 0 rfl rfl (pc2 := 72) rfl ?_
              refine e_getR (r := 116) fl_X12_53 dX12_buyer_72 so_101 (rs_101_23 s1.2.2) (by decide) (pc2 := 75) rfl ?_
              refine e_iload_n dX12_buyer_75 1 rfl rfl (pc2 := 76) rfl ?_
              obtain ⟨g19, hf⟩ := gd_some hf
              refine e_iald dX12_buyer_76 sa_116 (inb_v g19) (pc2 := 77) rfl ?_
              cases hf
              exact e_iret rfl dX12_buyer_77
            · have hf := if_t c18 hf
              refine e_aload_n dX12_buyer_62 0 rfl rfl (pc2 := 63) rfl ?_
              refine e_getR (r := 115) fl_X12_50 dX12_buyer_63 so_101 (rs_101_22 s1.2.2) (by decide) (pc2 := 66) rfl ?_
              refine e_iload_n dX12_buyer_66 1 rfl rfl (pc2 := 67) rfl ?_
              obtain ⟨g20, hf⟩ := gd_some hf
              refine e_iald dX12_buyer_67 sa_115 (inb_v g20) (pc2 := 68) rfl ?_
              refine e_goto (tgt := 77) dX12_buyer_68 (by decide) ?_
              cases hf
              exact e_iret rfl dX12_buyer_77
          · have hf := if_t c17 hf
            refine e_aload_n dX12_buyer_48 0 rfl rfl (pc2 := 49) rfl ?_
            refine e_getR (r := 114) fl_X12_47 dX12_buyer_49 so_101 (rs_101_21 s1.2.2) (by decide) (pc2 := 52) rfl ?_
            refine e_iload_n dX12_buyer_52 1 rfl rfl (pc2 := 53) rfl ?_
            obtain ⟨g21, hf⟩ := gd_some hf
            refine e_iald dX12_buyer_53 sa_114 (inb_v g21) (pc2 := 54) rfl ?_
            refine e_goto (tgt := 77) dX12_buyer_54 (by decide) ?_
            cases hf
            exact e_iret rfl dX12_buyer_77
        · have hf := if_t c16 hf
          refine e_aload_n dX12_buyer_34 0 rfl rfl (pc2 := 35) rfl ?_
          refine e_getR (r := 113) fl_X12_44 dX12_buyer_35 so_101 (rs_101_20 s1.2.2) (by decide) (pc2 := 38) rfl ?_
          refine e_iload_n dX12_buyer_38 1 rfl rfl (pc2 := 39) rfl ?_
          obtain ⟨g22, hf⟩ := gd_some hf
          refine e_iald dX12_buyer_39 sa_113 (inb_v g22) (pc2 := 40) rfl ?_
          refine e_goto (tgt := 77) dX12_buyer_40 (by decide) ?_
          cases hf
          exact e_iret rfl dX12_buyer_77
    · have hf := if_t c3 hf
      refine e_iconst (x := (-1)) dX12_buyer_23 (by decide) (pc2 := 24) rfl ?_
      cases hf
      exact e_iret rfl dX12_buyer_24
abbrev DDX12_keeps : Nat := 2
def f_X12_keeps_j49  (s : HS) : Option HS :=
  bnd (f_X12_copies 145 0 148 (9 * (s.1 101 60)) s) fun s3 => ltb (sI s3 101 60 ((s3.1 101 60) + 1)) fun s4 => some s4
set_option maxRecDepth 20000 in
set_option maxHeartbeats 2000000 in
theorem t_X12_keeps_j49  (s : HS) {t : HS}  (hf : f_X12_keeps_j49 s = some t) : Ev DDX12_keeps miX12_keeps NF none NF (hp t) 49 NF [(0, .ref 101)] [] (hp s) := by
  refine e_aload_n dX12_keeps_49 0 rfl rfl (pc2 := 50) rfl ?_
  refine e_getR (r := 145) fl_X12_141 dX12_keeps_50 so_101 (rs_101_55 s.2.2) (by decide) (pc2 := 53) rfl ?_
  refine e_iconst (x := 0) dX12_keeps_53 (by decide) (pc2 := 54) rfl ?_
  refine e_aload_n dX12_keeps_54 0 rfl rfl (pc2 := 55) rfl ?_
  refine e_getR (r := 148) fl_X12_150 dX12_keeps_55 so_101 (rs_101_58 s.2.2) (by decide) (pc2 := 58) rfl ?_
  refine e_bipush (x := 9) dX12_keeps_58 (by decide) (pc2 := 60) rfl ?_
  refine e_aload_n dX12_keeps_60 0 rfl rfl (pc2 := 61) rfl ?_
  refine e_getI fl_X12_433 dX12_keeps_61 so_101 (by decide) (pc2 := 64) rfl ?_
  refine e_imul dX12_keeps_64 (pc2 := 65) rfl ?_
  obtain ⟨s3, hy2, hf⟩ := bnd_s hf
  refine e_callSn (t_X12_copies 145 (by decide) 0 148 (by decide) (9 * (s.1 101 60)) s hy2) dX12_keeps_65 cs_X12_513 rfl (by decide) (by first | exact Nat.le_of_ble_eq_true rfl | simp [rva_cat, vc_i, vc_r, vc_l, vc_n]) nn0 rfl (pc2 := 68) rfl ?_
  refine e_aload_n dX12_keeps_68 0 rfl rfl (pc2 := 69) rfl ?_
  refine e_dup dX12_keeps_69 rfl (pc2 := 70) rfl ?_
  refine e_getI fl_X12_433 dX12_keeps_70 so_101 (by decide) (pc2 := 73) rfl ?_
  refine e_iconst (x := 1) dX12_keeps_73 (by decide) (pc2 := 74) rfl ?_
  refine e_iadd dX12_keeps_74 (pc2 := 75) rfl ?_
  obtain ⟨s4, es4, hf⟩ := ltb_s hf
  refine e_putI fl_X12_433 dX12_keeps_75 so_101 fn_11_60 (h2 := hp s4) (by rw [es4]; rfl) (pc2 := 78) rfl ?_
  cases hf
  exact e_vret rfl dX12_keeps_78
def f_X12_keeps_l11b (v1 : Int32) (k11 : Int32 → HS → Option HS) (k39 : HS → Option HS) (s : HS) : Option HS :=
  (if 135 ≤ v1 then k39 s else gd (inb (v1 + 9) 144) (gd (inb v1 144) (ltb (sI s 148 (v1.toNatClampNeg) (s.1 148 (v1 + 9).toNatClampNeg)) fun s7 => ltb (v1 + 1) fun x9 => k11 x9 s7)))
set_option maxRecDepth 20000 in
set_option maxHeartbeats 2000000 in
theorem t_X12_keeps_l11b (v1 : Int32) (s : HS) {t : HS} (k11 : Int32 → HS → Option HS) (hk11 : ∀ (a1 : Int32) (s : HS), k11 a1 s = some t → Ev DDX12_keeps miX12_keeps NF none NF (hp t) 11 NF [(0, .ref 101), (1, .int a1)] [] (hp s)) (k39 : HS → Option HS) (hk39 : ∀ (s : HS), k39 s = some t → Ev DDX12_keeps miX12_keeps NF none NF (hp t) 39 NF [(0, .ref 101)] [] (hp s)) (hf : f_X12_keeps_l11b v1 k11 k39 s = some t) : Ev DDX12_keeps miX12_keeps NF none NF (hp t) 11 NF [(0, .ref 101), (1, .int v1)] [] (hp s) := by
  refine e_iload_n dX12_keeps_11 1 rfl rfl (pc2 := 12) rfl ?_
  refine e_sipush (x := 135) dX12_keeps_12 (by decide) (pc2 := 15) rfl ?_
  refine e_icmp_ge (tgt := 39) dX12_keeps_15 (by decide) (pc2 := 18) rfl (fun c5 => ?_) (fun c5 => ?_)
  · have hf := if_t c5 hf
    refine ev_sub [0] rfl ?_
    exact hk39 s hf
  · have hf := if_f c5 hf
    refine e_aload_n dX12_keeps_18 0 rfl rfl (pc2 := 19) rfl ?_
    refine e_getR (r := 148) fl_X12_150 dX12_keeps_19 so_101 (rs_101_58 s.2.2) (by decide) (pc2 := 22) rfl ?_
    refine e_iload_n dX12_keeps_22 1 rfl rfl (pc2 := 23) rfl ?_
    refine e_aload_n dX12_keeps_23 0 rfl rfl (pc2 := 24) rfl ?_
    refine e_getR (r := 148) fl_X12_150 dX12_keeps_24 so_101 (rs_101_58 s.2.2) (by decide) (pc2 := 27) rfl ?_
    refine e_iload_n dX12_keeps_27 1 rfl rfl (pc2 := 28) rfl ?_
    refine e_bipush (x := 9) dX12_keeps_28 (by decide) (pc2 := 30) rfl ?_
    refine e_iadd dX12_keeps_30 (pc2 := 31) rfl ?_
    obtain ⟨g6, hf⟩ := gd_some hf
    refine e_iald dX12_keeps_31 sa_148 (inb_v g6) (pc2 := 32) rfl ?_
    obtain ⟨g8, hf⟩ := gd_some hf
    obtain ⟨s7, es7, hf⟩ := ltb_s hf
    refine e_iast dX12_keeps_32 sa_148 (inb_v g8) (h2 := hp s7) (by rw [es7]; rfl) (pc2 := 33) rfl ?_
    obtain ⟨x9, ex9, hf⟩ := ltb_s hf
    refine e_iinc dX12_keeps_33 1 rfl (c9 := 1) (by decide) ex9.symm (by decide) (ls' := [(0, .ref 101), (1, .int x9)]) [1, 0] rfl (pc2 := 36) rfl ?_
    refine e_goto (tgt := 11) dX12_keeps_36 (by decide) ?_
    exact hk11 x9 s7 hf
def f_X12_keeps_l11 (k39 : HS → Option HS) : Nat → Int32 → HS → Option HS
  | 0, _, _ => none
  | n + 1, v1, s => f_X12_keeps_l11b v1 (f_X12_keeps_l11 k39 n) k39 s
set_option maxRecDepth 20000 in
set_option maxHeartbeats 2000000 in
theorem t_X12_keeps_l11  {t : HS} (k39 : HS → Option HS) (hk39 : ∀ (s : HS), k39 s = some t → Ev DDX12_keeps miX12_keeps NF none NF (hp t) 39 NF [(0, .ref 101)] [] (hp s)) : ∀ (n : Nat) (v1 : Int32) (s : HS), f_X12_keeps_l11 k39 n v1 s = some t → Ev DDX12_keeps miX12_keeps NF none NF (hp t) 11 NF [(0, .ref 101), (1, .int v1)] [] (hp s) := by
  intro n
  induction n with
  | zero =>
    intro v1 s hf
    have hf : none = some t := hf
    cases hf
  | succ n ih =>
    intro v1 s hf
    exact t_X12_keeps_l11b v1  s _ ih _ hk39 hf
def f_X12_keeps  (s : HS) : Option HS :=
  (if (s.1 101 60) = 16 then f_X12_keeps_l11 (fun s10 => ltb (sI s10 101 60 ((s10.1 101 60) - 1)) fun s11 => f_X12_keeps_j49 s11) FU 0 s else f_X12_keeps_j49 s)
set_option maxRecDepth 20000 in
set_option maxHeartbeats 2000000 in
theorem t_X12_keeps  (s : HS) {t : HS} (hf : f_X12_keeps  s = some t) : Mt DDX12_keeps miX12_keeps [.ref 101] NF (hp s) none NF (hp t) := by
  refine Mt.of (by decide +kernel) (Nat.le_refl _) (Nat.le_of_ble_eq_true rfl) ?_
  show Ev DDX12_keeps miX12_keeps NF none NF (hp t) 0 NF [(0, .ref 101)] [] (hp s)
  unfold f_X12_keeps at hf
  refine e_aload_n dX12_keeps_0 0 rfl rfl (pc2 := 1) rfl ?_
  refine e_getI fl_X12_433 dX12_keeps_1 so_101 (by decide) (pc2 := 4) rfl ?_
  refine e_bipush (x := 16) dX12_keeps_4 (by decide) (pc2 := 6) rfl ?_
  refine e_icmp_ne (tgt := 49) dX12_keeps_6 (by decide) (pc2 := 9) rfl (fun c1 => ?_) (fun c1 => ?_)
  · have hf := if_f c1 hf
    exact t_X12_keeps_j49 s hf
  · have hf := if_t c1 hf
    refine e_iconst (x := 0) dX12_keeps_9 (by decide) (pc2 := 10) rfl ?_
    refine e_istore_n dX12_keeps_10 rfl (by decide) rfl (ls' := [(0, .ref 101), (1, .int 0)]) [1, 0] rfl (pc2 := 11) rfl ?_
    refine t_X12_keeps_l11 _ ?_ FU 0 s hf
    · intro s10 hf
      refine e_aload_n dX12_keeps_39 0 rfl rfl (pc2 := 40) rfl ?_
      refine e_dup dX12_keeps_40 rfl (pc2 := 41) rfl ?_
      refine e_getI fl_X12_433 dX12_keeps_41 so_101 (by decide) (pc2 := 44) rfl ?_
      refine e_iconst (x := 1) dX12_keeps_44 (by decide) (pc2 := 45) rfl ?_
      refine e_isub dX12_keeps_45 (pc2 := 46) rfl ?_
      obtain ⟨s11, es11, hf⟩ := ltb_s hf
      refine e_putI fl_X12_433 dX12_keeps_46 so_101 fn_11_60 (h2 := hp s11) (by rw [es11]; rfl) (pc2 := 49) rfl ?_
      exact t_X12_keeps_j49 s11 hf
abbrev DDX12_changes : Nat := 3
def f_X12_changes (v1 : Int32) (v2 : Int32) (v3 : Int32) (s : HS) : Option (Int32 × HS) :=
  gd (inb v1 9) ((if (s.1 145 v1.toNatClampNeg) = v2 then some (0, s) else (if v3 = 0 then gd (inb v1 9) (ltb (sI s 145 (v1.toNatClampNeg) v2) fun s4 => some (1, s4)) else bnd (f_X12_keeps s) fun s7 => gd (inb v1 9) (ltb (sI s7 145 (v1.toNatClampNeg) v2) fun s8 => some (1, s8)))))
set_option maxRecDepth 20000 in
set_option maxHeartbeats 2000000 in
theorem t_X12_changes (v1 : Int32) (v2 : Int32) (v3 : Int32) (s : HS) {x : Int32} {t : HS} (hf : f_X12_changes  v1 v2 v3 s = some (x, t)) : Mt DDX12_changes miX12_changes [.ref 101, .int v1, .int v2, .int v3] NF (hp s) (some (.int x)) NF (hp t) := by
  refine Mt.of (by decide +kernel) (Nat.le_refl _) (Nat.le_of_ble_eq_true rfl) ?_
  show Ev DDX12_changes miX12_changes NF (some (.int x)) NF (hp t) 0 NF [(0, .ref 101), (1, .int v1), (2, .int v2), (3, .int v3)] [] (hp s)
  unfold f_X12_changes at hf
  refine e_aload_n dX12_changes_0 0 rfl rfl (pc2 := 1) rfl ?_
  refine e_getR (r := 145) fl_X12_141 dX12_changes_1 so_101 (rs_101_55 s.2.2) (by decide) (pc2 := 4) rfl ?_
  refine e_iload_n dX12_changes_4 1 rfl rfl (pc2 := 5) rfl ?_
  obtain ⟨g1, hf⟩ := gd_some hf
  refine e_iald dX12_changes_5 sa_145 (inb_v g1) (pc2 := 6) rfl ?_
  refine e_iload_n dX12_changes_6 2 rfl rfl (pc2 := 7) rfl ?_
  refine e_icmp_ne (tgt := 12) dX12_changes_7 (by decide) (pc2 := 10) rfl (fun c2 => ?_) (fun c2 => ?_)
  · have hf := if_f c2 hf
    refine e_iload_n dX12_changes_12 3 rfl rfl (pc2 := 13) rfl ?_
    refine e_if_eq (tgt := 20) dX12_changes_13 (by decide) (pc2 := 16) rfl (fun c3 => ?_) (fun c3 => ?_)
    · have hf := if_t c3 hf
      refine e_aload_n dX12_changes_20 0 rfl rfl (pc2 := 21) rfl ?_
      refine e_getR (r := 145) fl_X12_141 dX12_changes_21 so_101 (rs_101_55 s.2.2) (by decide) (pc2 := 24) rfl ?_
      refine e_iload_n dX12_changes_24 1 rfl rfl (pc2 := 25) rfl ?_
      refine e_iload_n dX12_changes_25 2 rfl rfl (pc2 := 26) rfl ?_
      obtain ⟨g5, hf⟩ := gd_some hf
      obtain ⟨s4, es4, hf⟩ := ltb_s hf
      refine e_iast dX12_changes_26 sa_145 (inb_v g5) (h2 := hp s4) (by rw [es4]; rfl) (pc2 := 27) rfl ?_
      refine e_iconst (x := 1) dX12_changes_27 (by decide) (pc2 := 28) rfl ?_
      cases hf
      exact e_zret (by decide) rfl dX12_changes_28
    · have hf := if_f c3 hf
      refine e_aload_n dX12_changes_16 0 rfl rfl (pc2 := 17) rfl ?_
      obtain ⟨s7, hy6, hf⟩ := bnd_s hf
      refine e_callVn (t_X12_keeps  s hy6) dX12_changes_17 cv_X12_517 rfl so_101 rc_11 (by decide) (by first | exact Nat.le_of_ble_eq_true rfl | simp [rva_cat, vc_i, vc_r, vc_l, vc_n]) nn0 rfl (pc2 := 20) rfl ?_
      refine e_aload_n dX12_changes_20 0 rfl rfl (pc2 := 21) rfl ?_
      refine e_getR (r := 145) fl_X12_141 dX12_changes_21 so_101 (rs_101_55 s7.2.2) (by decide) (pc2 := 24) rfl ?_
      refine e_iload_n dX12_changes_24 1 rfl rfl (pc2 := 25) rfl ?_
      refine e_iload_n dX12_changes_25 2 rfl rfl (pc2 := 26) rfl ?_
      obtain ⟨g9, hf⟩ := gd_some hf
      obtain ⟨s8, es8, hf⟩ := ltb_s hf
      refine e_iast dX12_changes_26 sa_145 (inb_v g9) (h2 := hp s8) (by rw [es8]; rfl) (pc2 := 27) rfl ?_
      refine e_iconst (x := 1) dX12_changes_27 (by decide) (pc2 := 28) rfl ?_
      cases hf
      exact e_zret (by decide) rfl dX12_changes_28
  · have hf := if_t c2 hf
    refine e_iconst (x := 0) dX12_changes_10 (by decide) (pc2 := 11) rfl ?_
    cases hf
    exact e_zret (by decide) rfl dX12_changes_11
abbrev DDX12_outThen : Nat := 1
def f_X12_outThen (v1 : Int32) (v2 : Int32) (s : HS) : Int32 :=
  (if v2 = 0 then (s.1 145 0) &&& (((1 : Int32) <<< (v1 &&& 31)) ^^^ ((-1) : Int32)) else (s.1 145 0) ||| ((1 : Int32) <<< (v1 &&& 31)))
set_option maxRecDepth 20000 in
set_option maxHeartbeats 2000000 in
theorem t_X12_outThen (v1 : Int32) (v2 : Int32) (s : HS) {x : Int32} (hf : f_X12_outThen  v1 v2 s = x) : Mt DDX12_outThen miX12_outThen [.ref 101, .int v1, .int v2] NF (hp s) (some (.int x)) NF (hp s) := by
  refine Mt.of (by decide +kernel) (Nat.le_refl _) (Nat.le_of_ble_eq_true rfl) ?_
  show Ev DDX12_outThen miX12_outThen NF (some (.int x)) NF (hp s) 0 NF [(0, .ref 101), (1, .int v1), (2, .int v2)] [] (hp s)
  unfold f_X12_outThen at hf
  refine e_iload_n dX12_outThen_0 2 rfl rfl (pc2 := 1) rfl ?_
  refine e_if_eq (tgt := 17) dX12_outThen_1 (by decide) (pc2 := 4) rfl (fun c1 => ?_) (fun c1 => ?_)
  · have hf := if_t c1 hf
    refine e_aload_n dX12_outThen_17 0 rfl rfl (pc2 := 18) rfl ?_
    refine e_getR (r := 145) fl_X12_141 dX12_outThen_18 so_101 (rs_101_55 s.2.2) (by decide) (pc2 := 21) rfl ?_
    refine e_iconst (x := 0) dX12_outThen_21 (by decide) (pc2 := 22) rfl ?_
    refine e_iald dX12_outThen_22 sa_145 (inb_v (by decide)) (pc2 := 23) rfl ?_
    refine e_iconst (x := 1) dX12_outThen_23 (by decide) (pc2 := 24) rfl ?_
    refine e_iload_n dX12_outThen_24 1 rfl rfl (pc2 := 25) rfl ?_
    refine e_ishl dX12_outThen_25 (pc2 := 26) rfl ?_
    refine e_iconst (x := (-1)) dX12_outThen_26 (by decide) (pc2 := 27) rfl ?_
    refine e_ixor dX12_outThen_27 (pc2 := 28) rfl ?_
    refine e_iand dX12_outThen_28 (pc2 := 29) rfl ?_
    cases hf
    exact e_iret rfl dX12_outThen_29
  · have hf := if_f c1 hf
    refine e_aload_n dX12_outThen_4 0 rfl rfl (pc2 := 5) rfl ?_
    refine e_getR (r := 145) fl_X12_141 dX12_outThen_5 so_101 (rs_101_55 s.2.2) (by decide) (pc2 := 8) rfl ?_
    refine e_iconst (x := 0) dX12_outThen_8 (by decide) (pc2 := 9) rfl ?_
    refine e_iald dX12_outThen_9 sa_145 (inb_v (by decide)) (pc2 := 10) rfl ?_
    refine e_iconst (x := 1) dX12_outThen_10 (by decide) (pc2 := 11) rfl ?_
    refine e_iload_n dX12_outThen_11 1 rfl rfl (pc2 := 12) rfl ?_
    refine e_ishl dX12_outThen_12 (pc2 := 13) rfl ?_
    refine e_ior dX12_outThen_13 (pc2 := 14) rfl ?_
    refine e_goto (tgt := 29) dX12_outThen_14 (by decide) ?_
    cases hf
    exact e_iret rfl dX12_outThen_29
abbrev DDX12_out : Nat := 4
def f_X12_out (v1 : Int32) (v2 : Int32) (s : HS) : Option (Int32 × HS) :=
  ltb (sI s 101 0 0) fun s1 => (if (f_X12_isBuyer v1 s1) = 0 then some (0, s1) else bnd2 (f_X12_changes 0 (f_X12_outThen v1 v2 s1) 1 s1) fun y3 s4 => (if y3 = 0 then some (0, s4) else some (1, s4)))
set_option maxRecDepth 20000 in
set_option maxHeartbeats 2000000 in
theorem t_X12_out (v1 : Int32) (v2 : Int32) (s : HS) {x : Int32} {t : HS} (hf : f_X12_out  v1 v2 s = some (x, t)) : Mt DDX12_out miX12_out [.ref 101, .int v1, .int v2] NF (hp s) (some (.int x)) NF (hp t) := by
  refine Mt.of (by decide +kernel) (Nat.le_refl _) (Nat.le_of_ble_eq_true rfl) ?_
  show Ev DDX12_out miX12_out NF (some (.int x)) NF (hp t) 0 NF [(0, .ref 101), (1, .int v1), (2, .int v2)] [] (hp s)
  unfold f_X12_out at hf
  refine e_aload_n dX12_out_0 0 rfl rfl (pc2 := 1) rfl ?_
  refine e_iconst (x := 0) dX12_out_1 (by decide) (pc2 := 2) rfl ?_
  obtain ⟨s1, es1, hf⟩ := ltb_s hf
  refine e_putI fl_X12_194 dX12_out_2 so_101 fn_11_0 (h2 := hp s1) (by rw [es1]; rfl) (pc2 := 5) rfl ?_
  refine e_aload_n dX12_out_5 0 rfl rfl (pc2 := 6) rfl ?_
  refine e_iload_n dX12_out_6 1 rfl rfl (pc2 := 7) rfl ?_
  refine e_callVs (t_X12_isBuyer v1 s1 rfl) dX12_out_7 cv_X12_510 rfl so_101 rc_11 (by decide) (by first | exact Nat.le_of_ble_eq_true rfl | simp [rva_cat, vc_i, vc_r, vc_l, vc_n]) nn0 rfl (pc2 := 10) rfl ?_
  refine e_if_eq (tgt := 32) dX12_out_10 (by decide) (pc2 := 13) rfl (fun c2 => ?_) (fun c2 => ?_)
  · have hf := if_t c2 hf
    refine e_iconst (x := 0) dX12_out_32 (by decide) (pc2 := 33) rfl ?_
    cases hf
    exact e_zret (by decide) rfl dX12_out_33
  · have hf := if_f c2 hf
    refine e_aload_n dX12_out_13 0 rfl rfl (pc2 := 14) rfl ?_
    refine e_iconst (x := 0) dX12_out_14 (by decide) (pc2 := 15) rfl ?_
    refine e_aload_n dX12_out_15 0 rfl rfl (pc2 := 16) rfl ?_
    refine e_iload_n dX12_out_16 1 rfl rfl (pc2 := 17) rfl ?_
    refine e_iload_n dX12_out_17 2 rfl rfl (pc2 := 18) rfl ?_
    refine e_callVs (t_X12_outThen v1 v2 s1 rfl) dX12_out_18 cv_X12_520 rfl so_101 rc_11 (by decide) (by first | exact Nat.le_of_ble_eq_true rfl | simp [rva_cat, vc_i, vc_r, vc_l, vc_n]) nn0 rfl (pc2 := 21) rfl ?_
    refine e_iconst (x := 1) dX12_out_21 (by decide) (pc2 := 22) rfl ?_
    obtain ⟨y3, s4, hy3, hf⟩ := bnd2_s hf
    refine e_callVs (t_X12_changes 0 (f_X12_outThen v1 v2 s1) 1 s1 hy3) dX12_out_22 cv_X12_524 rfl so_101 rc_11 (by decide) (by first | exact Nat.le_of_ble_eq_true rfl | simp [rva_cat, vc_i, vc_r, vc_l, vc_n]) nn0 rfl (pc2 := 25) rfl ?_
    refine e_if_eq (tgt := 32) dX12_out_25 (by decide) (pc2 := 28) rfl (fun c5 => ?_) (fun c5 => ?_)
    · have hf := if_t c5 hf
      refine e_iconst (x := 0) dX12_out_32 (by decide) (pc2 := 33) rfl ?_
      cases hf
      exact e_zret (by decide) rfl dX12_out_33
    · have hf := if_f c5 hf
      refine e_iconst (x := 1) dX12_out_28 (by decide) (pc2 := 29) rfl ?_
      refine e_goto (tgt := 33) dX12_out_29 (by decide) ?_
      cases hf
      exact e_zret (by decide) rfl dX12_out_33
