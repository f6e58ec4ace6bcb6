abbrev DDX12_readsBuyer : Nat := 5
def f_X12_readsBuyer_j93 (v1 : Int32) (v2 : Int64) (w0 : Int32) (w1 : Int32) (s : HS) : Option (Int32 × HS) :=
  gd (inb w1 12) (ltb (sI s 113 (w1.toNatClampNeg) w0) fun s15 => gd (inb v1 12) ((if 0 ≤ (s15.1 113 v1.toNatClampNeg) then bnd (f_X12_nextToken s15) fun s20 => bnd2 (f_X12_needsWord 1890386 s20) fun y21 s22 => (if y21 = 0 then some (0, s22) else (if (f_X12_isKept s22) = 0 then bnd (f_X12_coachNamed s22) fun y25 => gd (inb v1 12) (ltb (sI s22 114 (v1.toNatClampNeg) y25) fun s26 => gd (inb v1 12) ((if 0 ≤ (s26.1 114 v1.toNatClampNeg) then bnd (f_X12_nextToken s26) fun s31 => bnd2 (f_X12_needsBoth 298288 0 10 s31) fun y32 s33 => (if y32 = 0 then some (0, s33) else gd (inb v1 12) (ltb (sI s33 115 (v1.toNatClampNeg) (s33.1 101 44)) fun s35 => bnd2 (f_X12_needsBoth 82422 0 99 s35) fun y37 s38 => (if y37 = 0 then some (0, s38) else gd (inb v1 12) (ltb (sI s38 116 (v1.toNatClampNeg) (s38.1 101 44)) fun s40 => bnd2 (f_X12_needsWord 12253591 s40) fun y42 s43 => (if y42 = 0 then some (0, s43) else bnd2 (f_X12_readsWants v1 s43) fun y45 s46 => (if y45 = 0 then some (0, s46) else gd (inb v1 12) (ltb (sL s46 106 (v1.toNatClampNeg) v2) fun s48 => ltb (sI s48 103 (12) ((s48.1 103 12) + 1)) fun s51 => bnd2 (f_X12_closes s51) fun y52 s53 => gd (isb y52) (some (y52, s53))))))))) else bnd2 (f_X12_fails 2 s26) fun y55 s56 => gd (isb y55) (some (y55, s56))))) else bnd2 (f_X12_fails 1 s22) fun y58 s59 => gd (isb y58) (some (y58, s59)))) else bnd2 (f_X12_fails 1 s15) fun y61 s62 => gd (isb y61) (some (y61, s62)))))
set_option maxRecDepth 20000 in
set_option maxHeartbeats 2000000 in
theorem t_X12_readsBuyer_j93 (v1 : Int32) (v2 : Int64) (w0 : Int32) (w1 : Int32) (s : HS) {x : Int32} {t : HS}  (hf : f_X12_readsBuyer_j93 v1 v2 w0 w1 s = some (x, t)) : Ev DDX12_readsBuyer miX12_readsBuyer NF (some (.int x)) NF (hp t) 93 NF [(0, .ref 101), (1, .int v1), (2, .long v2)] [.int w0, .int w1, .ref 113] (hp s) := by
  obtain ⟨g16, hf⟩ := gd_some hf
  obtain ⟨s15, es15, hf⟩ := ltb_s hf
  refine e_iast dX12_readsBuyer_93 sa_113 (inb_v g16) (h2 := hp s15) (by rw [es15]; rfl) (pc2 := 94) rfl ?_
  refine e_aload_n dX12_readsBuyer_94 0 rfl rfl (pc2 := 95) rfl ?_
  refine e_getR (r := 113) fl_X12_44 dX12_readsBuyer_95 so_101 (rs_101_20 s15.2.2) (by decide) (pc2 := 98) rfl ?_
  refine e_iload_n dX12_readsBuyer_98 1 rfl rfl (pc2 := 99) rfl ?_
  obtain ⟨g17, hf⟩ := gd_some hf
  refine e_iald dX12_readsBuyer_99 sa_113 (inb_v g17) (pc2 := 100) rfl ?_
  refine e_if_ge (tgt := 109) dX12_readsBuyer_100 (by decide) (pc2 := 103) rfl (fun c18 => ?_) (fun c18 => ?_)
  · have hf := if_t c18 hf
    refine e_aload_n dX12_readsBuyer_109 0 rfl rfl (pc2 := 110) rfl ?_
    obtain ⟨s20, hy19, hf⟩ := bnd_s hf
    refine e_callVn (t_X12_nextToken  s15 hy19) dX12_readsBuyer_110 cv_X12_263 rfl so_101 rc_11 (by decide) (by first | exact Nat.le_of_ble_eq_true rfl | simp [rva_cat, vc_i, vc_r, vc_l, vc_n]) nn0 rfl (pc2 := 113) rfl ?_
    refine e_aload_n dX12_readsBuyer_113 0 rfl rfl (pc2 := 114) rfl ?_
    refine e_ldc2 dX12_readsBuyer_114 lk_X12_283 (pc2 := 117) rfl ?_
    obtain ⟨y21, s22, hy21, hf⟩ := bnd2_s hf
    refine e_callVs (t_X12_needsWord 1890386 s20 hy21) dX12_readsBuyer_117 cv_X12_350 rfl so_101 rc_11 (by decide) (by first | exact Nat.le_of_ble_eq_true rfl | simp [rva_cat, vc_i, vc_r, vc_l, vc_n]) nn0 rfl (pc2 := 120) rfl ?_
    refine e_if_ne (tgt := 125) dX12_readsBuyer_120 (by decide) (pc2 := 123) rfl (fun c23 => ?_) (fun c23 => ?_)
    · have hf := if_f c23 hf
      refine e_aload_n dX12_readsBuyer_125 0 rfl rfl (pc2 := 126) rfl ?_
      refine e_callVs (t_X12_isKept  s22 rfl) dX12_readsBuyer_126 cv_X12_357 rfl so_101 rc_11 (by decide) (by first | exact Nat.le_of_ble_eq_true rfl | simp [rva_cat, vc_i, vc_r, vc_l, vc_n]) nn0 rfl (pc2 := 129) rfl ?_
      refine e_if_eq (tgt := 138) dX12_readsBuyer_129 (by decide) (pc2 := 132) rfl (fun c24 => ?_) (fun c24 => ?_)
      · have hf := if_t c24 hf
        refine e_aload_n dX12_readsBuyer_138 0 rfl rfl (pc2 := 139) rfl ?_
        refine e_getR (r := 114) fl_X12_47 dX12_readsBuyer_139 so_101 (rs_101_21 s22.2.2) (by decide) (pc2 := 142) rfl ?_
        refine e_iload_n dX12_readsBuyer_142 1 rfl rfl (pc2 := 143) rfl ?_
        refine e_aload_n dX12_readsBuyer_143 0 rfl rfl (pc2 := 144) rfl ?_
        obtain ⟨y25, hy25, hf⟩ := bnd_s hf
        refine e_callVs (t_X12_coachNamed  s22 hy25) dX12_readsBuyer_144 cv_X12_361 rfl so_101 rc_11 (by decide) (by first | exact Nat.le_of_ble_eq_true rfl | simp [rva_cat, vc_i, vc_r, vc_l, vc_n]) nn0 rfl (pc2 := 147) rfl ?_
        obtain ⟨g27, hf⟩ := gd_some hf
        obtain ⟨s26, es26, hf⟩ := ltb_s hf
        refine e_iast dX12_readsBuyer_147 sa_114 (inb_v g27) (h2 := hp s26) (by rw [es26]; rfl) (pc2 := 148) rfl ?_
        refine e_aload_n dX12_readsBuyer_148 0 rfl rfl (pc2 := 149) rfl ?_
        refine e_getR (r := 114) fl_X12_47 dX12_readsBuyer_149 so_101 (rs_101_21 s26.2.2) (by decide) (pc2 := 152) rfl ?_
        refine e_iload_n dX12_readsBuyer_152 1 rfl rfl (pc2 := 153) rfl ?_
        obtain ⟨g28, hf⟩ := gd_some hf
        refine e_iald dX12_readsBuyer_153 sa_114 (inb_v g28) (pc2 := 154) rfl ?_
        refine e_if_ge (tgt := 163) dX12_readsBuyer_154 (by decide) (pc2 := 157) rfl (fun c29 => ?_) (fun c29 => ?_)
        · have hf := if_t c29 hf
          refine e_aload_n dX12_readsBuyer_163 0 rfl rfl (pc2 := 164) rfl ?_
          obtain ⟨s31, hy30, hf⟩ := bnd_s hf
          refine e_callVn (t_X12_nextToken  s26 hy30) dX12_readsBuyer_164 cv_X12_263 rfl so_101 rc_11 (by decide) (by first | exact Nat.le_of_ble_eq_true rfl | simp [rva_cat, vc_i, vc_r, vc_l, vc_n]) nn0 rfl (pc2 := 167) rfl ?_
          refine e_aload_n dX12_readsBuyer_167 0 rfl rfl (pc2 := 168) rfl ?_
          refine e_ldc2 dX12_readsBuyer_168 lk_X12_299 (pc2 := 171) rfl ?_
          refine e_iconst (x := 0) dX12_readsBuyer_171 (by decide) (pc2 := 172) rfl ?_
          refine e_bipush (x := 10) dX12_readsBuyer_172 (by decide) (pc2 := 174) rfl ?_
          obtain ⟨y32, s33, hy32, hf⟩ := bnd2_s hf
          refine e_callVs (t_X12_needsBoth 298288 0 10 s31 hy32) dX12_readsBuyer_174 cv_X12_376 rfl so_101 rc_11 (by decide) (by first | exact Nat.le_of_ble_eq_true rfl | simp [rva_cat, vc_i, vc_r, vc_l, vc_n]) nn0 rfl (pc2 := 177) rfl ?_
          refine e_if_ne (tgt := 182) dX12_readsBuyer_177 (by decide) (pc2 := 180) rfl (fun c34 => ?_) (fun c34 => ?_)
          · have hf := if_f c34 hf
            refine e_aload_n dX12_readsBuyer_182 0 rfl rfl (pc2 := 183) rfl ?_
            refine e_getR (r := 115) fl_X12_50 dX12_readsBuyer_183 so_101 (rs_101_22 s33.2.2) (by decide) (pc2 := 186) rfl ?_
            refine e_iload_n dX12_readsBuyer_186 1 rfl rfl (pc2 := 187) rfl ?_
            refine e_aload_n dX12_readsBuyer_187 0 rfl rfl (pc2 := 188) rfl ?_
            refine e_getI fl_X12_347 dX12_readsBuyer_188 so_101 (by decide) (pc2 := 191) rfl ?_
            obtain ⟨g36, hf⟩ := gd_some hf
            obtain ⟨s35, es35, hf⟩ := ltb_s hf
            refine e_iast dX12_readsBuyer_191 sa_115 (inb_v g36) (h2 := hp s35) (by rw [es35]; rfl) (pc2 := 192) rfl ?_
            refine e_aload_n dX12_readsBuyer_192 0 rfl rfl (pc2 := 193) rfl ?_
            refine e_ldc2 dX12_readsBuyer_193 lk_X12_301 (pc2 := 196) rfl ?_
            refine e_iconst (x := 0) dX12_readsBuyer_196 (by decide) (pc2 := 197) rfl ?_
            refine e_bipush (x := 99) dX12_readsBuyer_197 (by decide) (pc2 := 199) rfl ?_
            obtain ⟨y37, s38, hy37, hf⟩ := bnd2_s hf
            refine e_callVs (t_X12_needsBoth 82422 0 99 s35 hy37) dX12_readsBuyer_199 cv_X12_376 rfl so_101 rc_11 (by decide) (by first | exact Nat.le_of_ble_eq_true rfl | simp [rva_cat, vc_i, vc_r, vc_l, vc_n]) nn0 rfl (pc2 := 202) rfl ?_
            refine e_if_ne (tgt := 207) dX12_readsBuyer_202 (by decide) (pc2 := 205) rfl (fun c39 => ?_) (fun c39 => ?_)
            · have hf := if_f c39 hf
              refine e_aload_n dX12_readsBuyer_207 0 rfl rfl (pc2 := 208) rfl ?_
              refine e_getR (r := 116) fl_X12_53 dX12_readsBuyer_208 so_101 (rs_101_23 s38.2.2) (by decide) (pc2 := 211) rfl ?_
              refine e_iload_n dX12_readsBuyer_211 1 rfl rfl (pc2 := 212) rfl ?_
              refine e_aload_n dX12_readsBuyer_212 0 rfl rfl (pc2 := 213) rfl ?_
              refine e_getI fl_X12_347 dX12_readsBuyer_213 so_101 (by decide) (pc2 := 216) rfl ?_
              obtain ⟨g41, hf⟩ := gd_some hf
              obtain ⟨s40, es40, hf⟩ := ltb_s hf
              refine e_iast dX12_readsBuyer_216 sa_116 (inb_v g41) (h2 := hp s40) (by rw [es40]; rfl) (pc2 := 217) rfl ?_
              refine e_aload_n dX12_readsBuyer_217 0 rfl rfl (pc2 := 218) rfl ?_
              refine e_ldc2 dX12_readsBuyer_218 lk_X12_303 (pc2 := 221) rfl ?_
              obtain ⟨y42, s43, hy42, hf⟩ := bnd2_s hf
              refine e_callVs (t_X12_needsWord 12253591 s40 hy42) dX12_readsBuyer_221 cv_X12_350 rfl so_101 rc_11 (by decide) (by first | exact Nat.le_of_ble_eq_true rfl | simp [rva_cat, vc_i, vc_r, vc_l, vc_n]) nn0 rfl (pc2 := 224) rfl ?_
              refine e_if_eq (tgt := 235) dX12_readsBuyer_224 (by decide) (pc2 := 227) rfl (fun c44 => ?_) (fun c44 => ?_)
              · have hf := if_t c44 hf
                refine e_iconst (x := 0) dX12_readsBuyer_235 (by decide) (pc2 := 236) rfl ?_
                cases hf
                exact e_zret (by decide) rfl dX12_readsBuyer_236
              · have hf := if_f c44 hf
                refine e_aload_n dX12_readsBuyer_227 0 rfl rfl (pc2 := 228) rfl ?_
                refine e_iload_n dX12_readsBuyer_228 1 rfl rfl (pc2 := 229) rfl ?_
                obtain ⟨y45, s46, hy45, hf⟩ := bnd2_s hf
                refine e_callVs (t_X12_readsWants v1 s43 hy45) dX12_readsBuyer_229 cv_X12_389 rfl so_101 rc_11 (by decide) (by first | exact Nat.le_of_ble_eq_true rfl | simp [rva_cat, vc_i, vc_r, vc_l, vc_n]) nn0 rfl (pc2 := 232) rfl ?_
                refine e_if_ne (tgt := 237) dX12_readsBuyer_232 (by decide) (pc2 := 235) rfl (fun c47 => ?_) (fun c47 => ?_)
                · have hf := if_f c47 hf
                  refine e_aload_n dX12_readsBuyer_237 0 rfl rfl (pc2 := 238) rfl ?_
                  refine e_getR (r := 106) fl_X12_23 dX12_readsBuyer_238 so_101 (rs_101_13 s46.2.2) (by decide) (pc2 := 241) rfl ?_
                  refine e_iload_n dX12_readsBuyer_241 1 rfl rfl (pc2 := 242) rfl ?_
                  refine e_lload_n dX12_readsBuyer_242 2 rfl rfl (pc2 := 243) rfl ?_
                  obtain ⟨g49, hf⟩ := gd_some hf
                  obtain ⟨s48, es48, hf⟩ := ltb_s hf
                  refine e_last dX12_readsBuyer_243 sa_106 (inb_v g49) (h2 := hp s48) (by rw [es48]; rfl) (pc2 := 244) rfl ?_
                  refine e_aload_n dX12_readsBuyer_244 0 rfl rfl (pc2 := 245) rfl ?_
                  refine e_getR (r := 103) fl_X12_13 dX12_readsBuyer_245 so_101 (rs_101_10 s48.2.2) (by decide) (pc2 := 248) rfl ?_
                  refine e_bipush (x := 12) dX12_readsBuyer_248 (by decide) (pc2 := 250) rfl ?_
                  refine e_dup2 dX12_readsBuyer_250 rfl rfl (pc2 := 251) rfl ?_
                  refine e_iald dX12_readsBuyer_251 sa_103 (inb_v (by decide)) (pc2 := 252) rfl ?_
                  refine e_iconst (x := 1) dX12_readsBuyer_252 (by decide) (pc2 := 253) rfl ?_
                  refine e_iadd dX12_readsBuyer_253 (pc2 := 254) rfl ?_
                  obtain ⟨s51, es51, hf⟩ := ltb_s hf
                  refine e_iast dX12_readsBuyer_254 sa_103 (inb_v (by decide)) (h2 := hp s51) (by rw [es51]; rfl) (pc2 := 255) rfl ?_
                  refine e_aload_n dX12_readsBuyer_255 0 rfl rfl (pc2 := 256) rfl ?_
                  obtain ⟨y52, s53, hy52, hf⟩ := bnd2_s hf
                  refine e_callVs (t_X12_closes  s51 hy52) dX12_readsBuyer_256 cv_X12_380 rfl so_101 rc_11 (by decide) (by first | exact Nat.le_of_ble_eq_true rfl | simp [rva_cat, vc_i, vc_r, vc_l, vc_n]) nn0 rfl (pc2 := 259) rfl ?_
                  obtain ⟨g54, hf⟩ := gd_some hf
                  cases hf
                  exact e_zret (isb_n g54) rfl dX12_readsBuyer_259
                · have hf := if_t c47 hf
                  refine e_iconst (x := 0) dX12_readsBuyer_235 (by decide) (pc2 := 236) rfl ?_
                  cases hf
                  exact e_zret (by decide) rfl dX12_readsBuyer_236
            · have hf := if_t c39 hf
              refine e_iconst (x := 0) dX12_readsBuyer_205 (by decide) (pc2 := 206) rfl ?_
              cases hf
              exact e_zret (by decide) rfl dX12_readsBuyer_206
          · have hf := if_t c34 hf
            refine e_iconst (x := 0) dX12_readsBuyer_180 (by decide) (pc2 := 181) rfl ?_
            cases hf
            exact e_zret (by decide) rfl dX12_readsBuyer_181
        · have hf := if_f c29 hf
          refine e_aload_n dX12_readsBuyer_157 0 rfl rfl (pc2 := 158) rfl ?_
          refine e_iconst (x := 2) dX12_readsBuyer_158 (by decide) (pc2 := 159) rfl ?_
          obtain ⟨y55, s56, hy55, hf⟩ := bnd2_s hf
          refine e_callVs (t_X12_fails 2 s26 hy55) dX12_readsBuyer_159 cv_X12_257 rfl so_101 rc_11 (by decide) (by first | exact Nat.le_of_ble_eq_true rfl | simp [rva_cat, vc_i, vc_r, vc_l, vc_n]) nn0 rfl (pc2 := 162) rfl ?_
          obtain ⟨g57, hf⟩ := gd_some hf
          cases hf
          exact e_zret (isb_n g57) rfl dX12_readsBuyer_162
      · have hf := if_f c24 hf
        refine e_aload_n dX12_readsBuyer_132 0 rfl rfl (pc2 := 133) rfl ?_
        refine e_iconst (x := 1) dX12_readsBuyer_133 (by decide) (pc2 := 134) rfl ?_
        obtain ⟨y58, s59, hy58, hf⟩ := bnd2_s hf
        refine e_callVs (t_X12_fails 1 s22 hy58) dX12_readsBuyer_134 cv_X12_257 rfl so_101 rc_11 (by decide) (by first | exact Nat.le_of_ble_eq_true rfl | simp [rva_cat, vc_i, vc_r, vc_l, vc_n]) nn0 rfl (pc2 := 137) rfl ?_
        obtain ⟨g60, hf⟩ := gd_some hf
        cases hf
        exact e_zret (isb_n g60) rfl dX12_readsBuyer_137
    · have hf := if_t c23 hf
      refine e_iconst (x := 0) dX12_readsBuyer_123 (by decide) (pc2 := 124) rfl ?_
      cases hf
      exact e_zret (by decide) rfl dX12_readsBuyer_124
  · have hf := if_f c18 hf
    refine e_aload_n dX12_readsBuyer_103 0 rfl rfl (pc2 := 104) rfl ?_
    refine e_iconst (x := 1) dX12_readsBuyer_104 (by decide) (pc2 := 105) rfl ?_
    obtain ⟨y61, s62, hy61, hf⟩ := bnd2_s hf
    refine e_callVs (t_X12_fails 1 s15 hy61) dX12_readsBuyer_105 cv_X12_257 rfl so_101 rc_11 (by decide) (by first | exact Nat.le_of_ble_eq_true rfl | simp [rva_cat, vc_i, vc_r, vc_l, vc_n]) nn0 rfl (pc2 := 108) rfl ?_
    obtain ⟨g63, hf⟩ := gd_some hf
    cases hf
    exact e_zret (isb_n g63) rfl dX12_readsBuyer_108
def f_X12_readsBuyer  (s : HS) : Option (Int32 × HS) :=
  ltb (6 + (s.1 103 12)) fun x2 => (if x2 = 12 then bnd2 (f_X12_fails 5 s) fun y64 s65 => gd (isb y64) (some (y64, s65)) else bnd (f_X12_nextToken s) fun s5 => bnd2 (f_X12_isNew s5) fun y6 s7 => (if y6 = 0 then some (0, s7) else ltb (s7.2.1 101 7) fun x9 => bnd (f_X12_nextToken s7) fun s11 => (if (f_X12_isWord 8740238 s11) = 0 then (if (f_X12_isWord 8813992 s11) = 0 then (if (f_X12_isWord 2690359 s11) = 0 then f_X12_readsBuyer_j93 x2 x9 (-1) x2 s11 else f_X12_readsBuyer_j93 x2 x9 2 x2 s11) else f_X12_readsBuyer_j93 x2 x9 1 x2 s11) else f_X12_readsBuyer_j93 x2 x9 0 x2 s11)))
set_option maxRecDepth 20000 in
set_option maxHeartbeats 2000000 in
theorem t_X12_readsBuyer  (s : HS) {x : Int32} {t : HS} (hf : f_X12_readsBuyer  s = some (x, t)) : Mt DDX12_readsBuyer miX12_readsBuyer [.ref 101] NF (hp s) (some (.int x)) NF (hp t) := by
  refine Mt.of (by decide +kernel) (Nat.le_refl _) (Nat.le_of_ble_eq_true rfl) ?_
  show Ev DDX12_readsBuyer miX12_readsBuyer NF (some (.int x)) NF (hp t) 0 NF [(0, .ref 101)] [] (hp s)
  unfold f_X12_readsBuyer at hf
  refine e_bipush (x := 6) dX12_readsBuyer_0 (by decide) (pc2 := 2) rfl ?_
  refine e_aload_n dX12_readsBuyer_2 0 rfl rfl (pc2 := 3) rfl ?_
  refine e_getR (r := 103) fl_X12_13 dX12_readsBuyer_3 so_101 (rs_101_10 s.2.2) (by decide) (pc2 := 6) rfl ?_
  refine e_bipush (x := 12) dX12_readsBuyer_6 (by decide) (pc2 := 8) rfl ?_
  refine e_iald dX12_readsBuyer_8 sa_103 (inb_v (by decide)) (pc2 := 9) rfl ?_
  refine e_iadd dX12_readsBuyer_9 (pc2 := 10) rfl ?_
  obtain ⟨x2, ex2, hf⟩ := ltb_s hf
  refine e_istore_n dX12_readsBuyer_10 rfl (by decide) ex2.symm (ls' := [(0, .ref 101), (1, .int x2)]) [1, 0] rfl (pc2 := 11) rfl ?_
  refine e_iload_n dX12_readsBuyer_11 1 rfl rfl (pc2 := 12) rfl ?_
  refine e_bipush (x := 12) dX12_readsBuyer_12 (by decide) (pc2 := 14) rfl ?_
  refine e_icmp_ne (tgt := 23) dX12_readsBuyer_14 (by decide) (pc2 := 17) rfl (fun c3 => ?_) (fun c3 => ?_)
  · have hf := if_f c3 hf
    refine e_aload_n dX12_readsBuyer_23 0 rfl rfl (pc2 := 24) rfl ?_
    obtain ⟨s5, hy4, hf⟩ := bnd_s hf
    refine e_callVn (t_X12_nextToken  s hy4) dX12_readsBuyer_24 cv_X12_263 rfl so_101 rc_11 (by decide) (by first | exact Nat.le_of_ble_eq_true rfl | simp [rva_cat, vc_i, vc_r, vc_l, vc_n]) nn0 rfl (pc2 := 27) rfl ?_
    refine e_aload_n dX12_readsBuyer_27 0 rfl rfl (pc2 := 28) rfl ?_
    obtain ⟨y6, s7, hy6, hf⟩ := bnd2_s hf
    refine e_callVs (t_X12_isNew  s5 hy6) dX12_readsBuyer_28 cv_X12_383 rfl so_101 rc_11 (by decide) (by first | exact Nat.le_of_ble_eq_true rfl | simp [rva_cat, vc_i, vc_r, vc_l, vc_n]) nn0 rfl (pc2 := 31) rfl ?_
    refine e_if_ne (tgt := 36) dX12_readsBuyer_31 (by decide) (pc2 := 34) rfl (fun c8 => ?_) (fun c8 => ?_)
    · have hf := if_f c8 hf
      refine e_aload_n dX12_readsBuyer_36 0 rfl rfl (pc2 := 37) rfl ?_
      refine e_getL fl_X12_211 dX12_readsBuyer_37 so_101 rfl (pc2 := 40) rfl ?_
      obtain ⟨x9, ex9, hf⟩ := ltb_s hf
      refine e_lstore_n dX12_readsBuyer_40 rfl (by decide) ex9.symm (ls' := [(0, .ref 101), (1, .int x2), (2, .long x9)]) [1, 2, 0] rfl (pc2 := 41) rfl ?_
      refine e_aload_n dX12_readsBuyer_41 0 rfl rfl (pc2 := 42) rfl ?_
      obtain ⟨s11, hy10, hf⟩ := bnd_s hf
      refine e_callVn (t_X12_nextToken  s7 hy10) dX12_readsBuyer_42 cv_X12_263 rfl so_101 rc_11 (by decide) (by first | exact Nat.le_of_ble_eq_true rfl | simp [rva_cat, vc_i, vc_r, vc_l, vc_n]) nn0 rfl (pc2 := 45) rfl ?_
      refine e_aload_n dX12_readsBuyer_45 0 rfl rfl (pc2 := 46) rfl ?_
      refine e_getR (r := 113) fl_X12_44 dX12_readsBuyer_46 so_101 (rs_101_20 s11.2.2) (by decide) (pc2 := 49) rfl ?_
      refine e_iload_n dX12_readsBuyer_49 1 rfl rfl (pc2 := 50) rfl ?_
      refine e_aload_n dX12_readsBuyer_50 0 rfl rfl (pc2 := 51) rfl ?_
      refine e_ldc2 dX12_readsBuyer_51 lk_X12_333 (pc2 := 54) rfl ?_
      refine e_callVs (t_X12_isWord 8740238 s11 rfl) dX12_readsBuyer_54 cv_X12_249 rfl so_101 rc_11 (by decide) (by first | exact Nat.le_of_ble_eq_true rfl | simp [rva_cat, vc_i, vc_r, vc_l, vc_n]) nn0 rfl (pc2 := 57) rfl ?_
      refine e_if_eq (tgt := 64) dX12_readsBuyer_57 (by decide) (pc2 := 60) rfl (fun c12 => ?_) (fun c12 => ?_)
      · have hf := if_t c12 hf
        refine e_aload_n dX12_readsBuyer_64 0 rfl rfl (pc2 := 65) rfl ?_
        refine e_ldc2 dX12_readsBuyer_65 lk_X12_335 (pc2 := 68) rfl ?_
        refine e_callVs (t_X12_isWord 8813992 s11 rfl) dX12_readsBuyer_68 cv_X12_249 rfl so_101 rc_11 (by decide) (by first | exact Nat.le_of_ble_eq_true rfl | simp [rva_cat, vc_i, vc_r, vc_l, vc_n]) nn0 rfl (pc2 := 71) rfl ?_
        refine e_if_eq (tgt := 78) dX12_readsBuyer_71 (by decide) (pc2 := 74) rfl (fun c13 => ?_) (fun c13 => ?_)
        · have hf := if_t c13 hf
          refine e_aload_n dX12_readsBuyer_78 0 rfl rfl (pc2 := 79) rfl ?_
          refine e_ldc2 dX12_readsBuyer_79 lk_X12_337 (pc2 := 82) rfl ?_
          refine e_callVs (t_X12_isWord 2690359 s11 rfl) dX12_readsBuyer_82 cv_X12_249 rfl so_101 rc_11 (by decide) (by first | exact Nat.le_of_ble_eq_true rfl | simp [rva_cat, vc_i, vc_r, vc_l, vc_n]) nn0 rfl (pc2 := 85) rfl ?_
          refine e_if_eq (tgt := 92) dX12_readsBuyer_85 (by decide) (pc2 := 88) rfl (fun c14 => ?_) (fun c14 => ?_)
          · have hf := if_t c14 hf
            refine e_iconst (x := (-1)) dX12_readsBuyer_92 (by decide) (pc2 := 93) rfl ?_
            exact t_X12_readsBuyer_j93 x2 x9 (-1) x2 s11 hf
          · have hf := if_f c14 hf
            refine e_iconst (x := 2) dX12_readsBuyer_88 (by decide) (pc2 := 89) rfl ?_
            refine e_goto (tgt := 93) dX12_readsBuyer_89 (by decide) ?_
            exact t_X12_readsBuyer_j93 x2 x9 2 x2 s11 hf
        · have hf := if_f c13 hf
          refine e_iconst (x := 1) dX12_readsBuyer_74 (by decide) (pc2 := 75) rfl ?_
          refine e_goto (tgt := 93) dX12_readsBuyer_75 (by decide) ?_
          exact t_X12_readsBuyer_j93 x2 x9 1 x2 s11 hf
      · have hf := if_f c12 hf
        refine e_iconst (x := 0) dX12_readsBuyer_60 (by decide) (pc2 := 61) rfl ?_
        refine e_goto (tgt := 93) dX12_readsBuyer_61 (by decide) ?_
        exact t_X12_readsBuyer_j93 x2 x9 0 x2 s11 hf
    · have hf := if_t c8 hf
      refine e_iconst (x := 0) dX12_readsBuyer_34 (by decide) (pc2 := 35) rfl ?_
      cases hf
      exact e_zret (by decide) rfl dX12_readsBuyer_35
  · have hf := if_t c3 hf
    refine e_aload_n dX12_readsBuyer_17 0 rfl rfl (pc2 := 18) rfl ?_
    refine e_iconst (x := 5) dX12_readsBuyer_18 (by decide) (pc2 := 19) rfl ?_
    obtain ⟨y64, s65, hy64, hf⟩ := bnd2_s hf
    refine e_callVs (t_X12_fails 5 s hy64) dX12_readsBuyer_19 cv_X12_257 rfl so_101 rc_11 (by decide) (by first | exact Nat.le_of_ble_eq_true rfl | simp [rva_cat, vc_i, vc_r, vc_l, vc_n]) nn0 rfl (pc2 := 22) rfl ?_
    obtain ⟨g66, hf⟩ := gd_some hf
    cases hf
    exact e_zret (isb_n g66) rfl dX12_readsBuyer_22
abbrev DDX12_readsOne : Nat := 4
def f_X12_readsOne (v1 : Int32) (v2 : Int32) (v3 : Int32) (s : HS) : Option (Int32 × HS) :=
  bnd2 (f_X12_isTwice v1 s) fun y1 s2 => (if y1 = 0 then bnd (f_X12_nextToken s2) fun s5 => bnd2 (f_X12_needsNumber v2 v3 s5) fun y6 s7 => (if y6 = 0 then some (0, s7) else gd (inb (10 + v1) 20) (ltb (sI s7 103 ((10 + v1).toNatClampNeg) (s7.1 101 44)) fun s9 => bnd2 (f_X12_closes s9) fun y11 s12 => gd (isb y11) (some (y11, s12)))) else bnd2 (f_X12_fails 3 s2) fun y14 s15 => gd (isb y14) (some (y14, s15)))
set_option maxRecDepth 20000 in
set_option maxHeartbeats 2000000 in
theorem t_X12_readsOne (v1 : Int32) (v2 : Int32) (v3 : Int32) (s : HS) {x : Int32} {t : HS} (hf : f_X12_readsOne  v1 v2 v3 s = some (x, t)) : Mt DDX12_readsOne miX12_readsOne [.ref 101, .int v1, .int v2, .int v3] NF (hp s) (some (.int x)) NF (hp t) := by
  refine Mt.of (by decide +kernel) (Nat.le_refl _) (Nat.le_of_ble_eq_true rfl) ?_
  show Ev DDX12_readsOne miX12_readsOne NF (some (.int x)) NF (hp t) 0 NF [(0, .ref 101), (1, .int v1), (2, .int v2), (3, .int v3)] [] (hp s)
  unfold f_X12_readsOne at hf
  refine e_aload_n dX12_readsOne_0 0 rfl rfl (pc2 := 1) rfl ?_
  refine e_iload_n dX12_readsOne_1 1 rfl rfl (pc2 := 2) rfl ?_
  obtain ⟨y1, s2, hy1, hf⟩ := bnd2_s hf
  refine e_callVs (t_X12_isTwice v1 s hy1) dX12_readsOne_2 cv_X12_373 rfl so_101 rc_11 (by decide) (by first | exact Nat.le_of_ble_eq_true rfl | simp [rva_cat, vc_i, vc_r, vc_l, vc_n]) nn0 rfl (pc2 := 5) rfl ?_
  refine e_if_eq (tgt := 14) dX12_readsOne_5 (by decide) (pc2 := 8) rfl (fun c3 => ?_) (fun c3 => ?_)
  · have hf := if_t c3 hf
    refine e_aload_n dX12_readsOne_14 0 rfl rfl (pc2 := 15) rfl ?_
    obtain ⟨s5, hy4, hf⟩ := bnd_s hf
    refine e_callVn (t_X12_nextToken  s2 hy4) dX12_readsOne_15 cv_X12_263 rfl so_101 rc_11 (by decide) (by first | exact Nat.le_of_ble_eq_true rfl | simp [rva_cat, vc_i, vc_r, vc_l, vc_n]) nn0 rfl (pc2 := 18) rfl ?_
    refine e_aload_n dX12_readsOne_18 0 rfl rfl (pc2 := 19) rfl ?_
    refine e_iload_n dX12_readsOne_19 2 rfl rfl (pc2 := 20) rfl ?_
    refine e_iload_n dX12_readsOne_20 3 rfl rfl (pc2 := 21) rfl ?_
    obtain ⟨y6, s7, hy6, hf⟩ := bnd2_s hf
    refine e_callVs (t_X12_needsNumber v2 v3 s5 hy6) dX12_readsOne_21 cv_X12_353 rfl so_101 rc_11 (by decide) (by first | exact Nat.le_of_ble_eq_true rfl | simp [rva_cat, vc_i, vc_r, vc_l, vc_n]) nn0 rfl (pc2 := 24) rfl ?_
    refine e_if_ne (tgt := 29) dX12_readsOne_24 (by decide) (pc2 := 27) rfl (fun c8 => ?_) (fun c8 => ?_)
    · have hf := if_f c8 hf
      refine e_aload_n dX12_readsOne_29 0 rfl rfl (pc2 := 30) rfl ?_
      refine e_getR (r := 103) fl_X12_13 dX12_readsOne_30 so_101 (rs_101_10 s7.2.2) (by decide) (pc2 := 33) rfl ?_
      refine e_bipush (x := 10) dX12_readsOne_33 (by decide) (pc2 := 35) rfl ?_
      refine e_iload_n dX12_readsOne_35 1 rfl rfl (pc2 := 36) rfl ?_
      refine e_iadd dX12_readsOne_36 (pc2 := 37) rfl ?_
      refine e_aload_n dX12_readsOne_37 0 rfl rfl (pc2 := 38) rfl ?_
      refine e_getI fl_X12_347 dX12_readsOne_38 so_101 (by decide) (pc2 := 41) rfl ?_
      obtain ⟨g10, hf⟩ := gd_some hf
      obtain ⟨s9, es9, hf⟩ := ltb_s hf
      refine e_iast dX12_readsOne_41 sa_103 (inb_v g10) (h2 := hp s9) (by rw [es9]; rfl) (pc2 := 42) rfl ?_
      refine e_aload_n dX12_readsOne_42 0 rfl rfl (pc2 := 43) rfl ?_
      obtain ⟨y11, s12, hy11, hf⟩ := bnd2_s hf
      refine e_callVs (t_X12_closes  s9 hy11) dX12_readsOne_43 cv_X12_380 rfl so_101 rc_11 (by decide) (by first | exact Nat.le_of_ble_eq_true rfl | simp [rva_cat, vc_i, vc_r, vc_l, vc_n]) nn0 rfl (pc2 := 46) rfl ?_
      obtain ⟨g13, hf⟩ := gd_some hf
      cases hf
      exact e_zret (isb_n g13) rfl dX12_readsOne_46
    · have hf := if_t c8 hf
      refine e_iconst (x := 0) dX12_readsOne_27 (by decide) (pc2 := 28) rfl ?_
      cases hf
      exact e_zret (by decide) rfl dX12_readsOne_28
  · have hf := if_f c3 hf
    refine e_aload_n dX12_readsOne_8 0 rfl rfl (pc2 := 9) rfl ?_
    refine e_iconst (x := 3) dX12_readsOne_9 (by decide) (pc2 := 10) rfl ?_
    obtain ⟨y14, s15, hy14, hf⟩ := bnd2_s hf
    refine e_callVs (t_X12_fails 3 s2 hy14) dX12_readsOne_10 cv_X12_257 rfl so_101 rc_11 (by decide) (by first | exact Nat.le_of_ble_eq_true rfl | simp [rva_cat, vc_i, vc_r, vc_l, vc_n]) nn0 rfl (pc2 := 13) rfl ?_
    obtain ⟨g16, hf⟩ := gd_some hf
    cases hf
    exact e_zret (isb_n g16) rfl dX12_readsOne_13
abbrev DDX12_readsLate : Nat := 4
def f_X12_readsLate_j55 (v1 : Int32) (v2 : Int32) (w0 : Int32) (w1 : Int32) (k22 : Int32 → Int32 → HS → Option (Int32 × HS)) (s : HS) : Option (Int32 × HS) :=
  bnd2 (f_X12_needsNumber w1 w0 s) fun y12 s13 => (if y12 = 0 then some (0, s13) else gd (inb (4 + v2) 8) (ltb (sI s13 119 ((4 + v2).toNatClampNeg) (s13.1 101 44)) fun s15 => ltb (v1 + (s15.1 101 44)) fun x17 => ltb (v2 + 1) fun x18 => k22 x17 x18 s15))
set_option maxRecDepth 20000 in
set_option maxHeartbeats 2000000 in
theorem t_X12_readsLate_j55 (v1 : Int32) (v2 : Int32) (w0 : Int32) (w1 : Int32) (s : HS) {x : Int32} {t : HS} (k22 : Int32 → Int32 → HS → Option (Int32 × HS)) (hk22 : ∀ (a1 : Int32) (a2 : Int32) (s : HS), k22 a1 a2 s = some (x, t) → Ev DDX12_readsLate miX12_readsLate NF (some (.int x)) NF (hp t) 22 NF [(0, .ref 101), (1, .int a1), (2, .int a2)] [] (hp s)) (hf : f_X12_readsLate_j55 v1 v2 w0 w1 k22 s = some (x, t)) : Ev DDX12_readsLate miX12_readsLate NF (some (.int x)) NF (hp t) 55 NF [(0, .ref 101), (1, .int v1), (2, .int v2)] [.int w0, .int w1, .ref 101] (hp s) := by
  obtain ⟨y12, s13, hy12, hf⟩ := bnd2_s hf
  refine e_callVs (t_X12_needsNumber w1 w0 s hy12) dX12_readsLate_55 cv_X12_353 rfl so_101 rc_11 (by decide) (by first | exact Nat.le_of_ble_eq_true rfl | simp [rva_cat, vc_i, vc_r, vc_l, vc_n]) nn0 rfl (pc2 := 58) rfl ?_
  refine e_if_ne (tgt := 63) dX12_readsLate_58 (by decide) (pc2 := 61) rfl (fun c14 => ?_) (fun c14 => ?_)
  · have hf := if_f c14 hf
    refine e_aload_n dX12_readsLate_63 0 rfl rfl (pc2 := 64) rfl ?_
    refine e_getR (r := 119) fl_X12_62 dX12_readsLate_64 so_101 (rs_101_26 s13.2.2) (by decide) (pc2 := 67) rfl ?_
    refine e_iconst (x := 4) dX12_readsLate_67 (by decide) (pc2 := 68) rfl ?_
    refine e_iload_n dX12_readsLate_68 2 rfl rfl (pc2 := 69) rfl ?_
    refine e_iadd dX12_readsLate_69 (pc2 := 70) rfl ?_
    refine e_aload_n dX12_readsLate_70 0 rfl rfl (pc2 := 71) rfl ?_
    refine e_getI fl_X12_347 dX12_readsLate_71 so_101 (by decide) (pc2 := 74) rfl ?_
    obtain ⟨g16, hf⟩ := gd_some hf
    obtain ⟨s15, es15, hf⟩ := ltb_s hf
    refine e_iast dX12_readsLate_74 sa_119 (inb_v g16) (h2 := hp s15) (by rw [es15]; rfl) (pc2 := 75) rfl ?_
    refine e_iload_n dX12_readsLate_75 1 rfl rfl (pc2 := 76) rfl ?_
    refine e_aload_n dX12_readsLate_76 0 rfl rfl (pc2 := 77) rfl ?_
    refine e_getI fl_X12_347 dX12_readsLate_77 so_101 (by decide) (pc2 := 80) rfl ?_
    refine e_iadd dX12_readsLate_80 (pc2 := 81) rfl ?_
    obtain ⟨x17, ex17, hf⟩ := ltb_s hf
    refine e_istore_n dX12_readsLate_81 rfl (by decide) ex17.symm (ls' := [(0, .ref 101), (1, .int x17), (2, .int v2)]) [1, 0, 2] rfl (pc2 := 82) rfl ?_
    obtain ⟨x18, ex18, hf⟩ := ltb_s hf
    refine e_iinc dX12_readsLate_82 2 rfl (c9 := 1) (by decide) ex18.symm (by decide) (ls' := [(0, .ref 101), (1, .int x17), (2, .int x18)]) [1, 2, 0] rfl (pc2 := 85) rfl ?_
    refine e_goto (tgt := 22) dX12_readsLate_85 (by decide) ?_
    exact hk22 x17 x18 s15 hf
  · have hf := if_t c14 hf
    refine e_iconst (x := 0) dX12_readsLate_61 (by decide) (pc2 := 62) rfl ?_
    cases hf
    exact e_zret (by decide) rfl dX12_readsLate_62
def f_X12_readsLate_j41 (v1 : Int32) (v2 : Int32) (w0 : Int32) (k22 : Int32 → Int32 → HS → Option (Int32 × HS)) (s : HS) : Option (Int32 × HS) :=
  (if v2 = 3 then f_X12_readsLate_j55 v1 v2 (10 - v1) w0 k22 s else f_X12_readsLate_j55 v1 v2 10 w0 k22 s)
set_option maxRecDepth 20000 in
set_option maxHeartbeats 2000000 in
theorem t_X12_readsLate_j41 (v1 : Int32) (v2 : Int32) (w0 : Int32) (s : HS) {x : Int32} {t : HS} (k22 : Int32 → Int32 → HS → Option (Int32 × HS)) (hk22 : ∀ (a1 : Int32) (a2 : Int32) (s : HS), k22 a1 a2 s = some (x, t) → Ev DDX12_readsLate miX12_readsLate NF (some (.int x)) NF (hp t) 22 NF [(0, .ref 101), (1, .int a1), (2, .int a2)] [] (hp s)) (hf : f_X12_readsLate_j41 v1 v2 w0 k22 s = some (x, t)) : Ev DDX12_readsLate miX12_readsLate NF (some (.int x)) NF (hp t) 41 NF [(0, .ref 101), (1, .int v1), (2, .int v2)] [.int w0, .ref 101] (hp s) := by
  refine e_iload_n dX12_readsLate_41 2 rfl rfl (pc2 := 42) rfl ?_
  refine e_iconst (x := 3) dX12_readsLate_42 (by decide) (pc2 := 43) rfl ?_
  refine e_icmp_ne (tgt := 53) dX12_readsLate_43 (by decide) (pc2 := 46) rfl (fun c11 => ?_) (fun c11 => ?_)
  · have hf := if_f c11 hf
    refine e_bipush (x := 10) dX12_readsLate_53 (by decide) (pc2 := 55) rfl ?_
    exact t_X12_readsLate_j55 v1 v2 10 w0 s _ hk22 hf
  · have hf := if_t c11 hf
    refine e_bipush (x := 10) dX12_readsLate_46 (by decide) (pc2 := 48) rfl ?_
    refine e_iload_n dX12_readsLate_48 1 rfl rfl (pc2 := 49) rfl ?_
    refine e_isub dX12_readsLate_49 (pc2 := 50) rfl ?_
    refine e_goto (tgt := 55) dX12_readsLate_50 (by decide) ?_
    exact t_X12_readsLate_j55 v1 v2 (10 - v1) w0 s _ hk22 hf
def f_X12_readsLate_l22b (v1 : Int32) (v2 : Int32) (k22 : Int32 → Int32 → HS → Option (Int32 × HS)) (s : HS) : Option (Int32 × HS) :=
  (if 4 ≤ v2 then bnd2 (f_X12_closes s) fun y7 s8 => gd (isb y7) (some (y7, s8)) else (if v2 = 3 then f_X12_readsLate_j41 v1 v2 (10 - v1) k22 s else f_X12_readsLate_j41 v1 v2 0 k22 s))
set_option maxRecDepth 20000 in
set_option maxHeartbeats 2000000 in
theorem t_X12_readsLate_l22b (v1 : Int32) (v2 : Int32) (s : HS) {x : Int32} {t : HS} (k22 : Int32 → Int32 → HS → Option (Int32 × HS)) (hk22 : ∀ (a1 : Int32) (a2 : Int32) (s : HS), k22 a1 a2 s = some (x, t) → Ev DDX12_readsLate miX12_readsLate NF (some (.int x)) NF (hp t) 22 NF [(0, .ref 101), (1, .int a1), (2, .int a2)] [] (hp s)) (hf : f_X12_readsLate_l22b v1 v2 k22 s = some (x, t)) : Ev DDX12_readsLate miX12_readsLate NF (some (.int x)) NF (hp t) 22 NF [(0, .ref 101), (1, .int v1), (2, .int v2)] [] (hp s) := by
  refine e_iload_n dX12_readsLate_22 2 rfl rfl (pc2 := 23) rfl ?_
  refine e_iconst (x := 4) dX12_readsLate_23 (by decide) (pc2 := 24) rfl ?_
  refine e_icmp_ge (tgt := 88) dX12_readsLate_24 (by decide) (pc2 := 27) rfl (fun c6 => ?_) (fun c6 => ?_)
  · have hf := if_t c6 hf
    refine e_aload_n dX12_readsLate_88 0 rfl rfl (pc2 := 89) rfl ?_
    obtain ⟨y7, s8, hy7, hf⟩ := bnd2_s hf
    refine e_callVs (t_X12_closes  s hy7) dX12_readsLate_89 cv_X12_380 rfl so_101 rc_11 (by decide) (by first | exact Nat.le_of_ble_eq_true rfl | simp [rva_cat, vc_i, vc_r, vc_l, vc_n]) nn0 rfl (pc2 := 92) rfl ?_
    obtain ⟨g9, hf⟩ := gd_some hf
    cases hf
    exact e_zret (isb_n g9) rfl dX12_readsLate_92
  · have hf := if_f c6 hf
    refine e_aload_n dX12_readsLate_27 0 rfl rfl (pc2 := 28) rfl ?_
    refine e_iload_n dX12_readsLate_28 2 rfl rfl (pc2 := 29) rfl ?_
    refine e_iconst (x := 3) dX12_readsLate_29 (by decide) (pc2 := 30) rfl ?_
    refine e_icmp_ne (tgt := 40) dX12_readsLate_30 (by decide) (pc2 := 33) rfl (fun c10 => ?_) (fun c10 => ?_)
    · have hf := if_f c10 hf
      refine e_iconst (x := 0) dX12_readsLate_40 (by decide) (pc2 := 41) rfl ?_
      exact t_X12_readsLate_j41 v1 v2 0 s _ hk22 hf
    · have hf := if_t c10 hf
      refine e_bipush (x := 10) dX12_readsLate_33 (by decide) (pc2 := 35) rfl ?_
      refine e_iload_n dX12_readsLate_35 1 rfl rfl (pc2 := 36) rfl ?_
      refine e_isub dX12_readsLate_36 (pc2 := 37) rfl ?_
      refine e_goto (tgt := 41) dX12_readsLate_37 (by decide) ?_
      exact t_X12_readsLate_j41 v1 v2 (10 - v1) s _ hk22 hf
def f_X12_readsLate_l22  : Nat → Int32 → Int32 → HS → Option (Int32 × HS)
  | 0, _, _, _ => none
  | n + 1, v1, v2, s => f_X12_readsLate_l22b v1 v2 (f_X12_readsLate_l22  n)  s
set_option maxRecDepth 20000 in
set_option maxHeartbeats 2000000 in
theorem t_X12_readsLate_l22  {x : Int32} {t : HS}  : ∀ (n : Nat) (v1 : Int32) (v2 : Int32) (s : HS), f_X12_readsLate_l22  n v1 v2 s = some (x, t) → Ev DDX12_readsLate miX12_readsLate NF (some (.int x)) NF (hp t) 22 NF [(0, .ref 101), (1, .int v1), (2, .int v2)] [] (hp s) := by
  intro n
  induction n with
  | zero =>
    intro v1 v2 s hf
    have hf : none = some (x, t) := hf
    cases hf
  | succ n ih =>
    intro v1 v2 s hf
    exact t_X12_readsLate_l22b v1 v2  s _ ih  hf
def f_X12_readsLate  (s : HS) : Option (Int32 × HS) :=
  bnd2 (f_X12_isTwice 1 s) fun y1 s2 => (if y1 = 0 then bnd (f_X12_nextToken s2) fun s5 => f_X12_readsLate_l22 FU 0 0 s5 else bnd2 (f_X12_fails 3 s2) fun y19 s20 => gd (isb y19) (some (y19, s20)))
set_option maxRecDepth 20000 in
set_option maxHeartbeats 2000000 in
theorem t_X12_readsLate  (s : HS) {x : Int32} {t : HS} (hf : f_X12_readsLate  s = some (x, t)) : Mt DDX12_readsLate miX12_readsLate [.ref 101] NF (hp s) (some (.int x)) NF (hp t) := by
  refine Mt.of (by decide +kernel) (Nat.le_refl _) (Nat.le_of_ble_eq_true rfl) ?_
  show Ev DDX12_readsLate miX12_readsLate NF (some (.int x)) NF (hp t) 0 NF [(0, .ref 101)] [] (hp s)
  unfold f_X12_readsLate at hf
  refine e_aload_n dX12_readsLate_0 0 rfl rfl (pc2 := 1) rfl ?_
  refine e_iconst (x := 1) dX12_readsLate_1 (by decide) (pc2 := 2) rfl ?_
  obtain ⟨y1, s2, hy1, hf⟩ := bnd2_s hf
  refine e_callVs (t_X12_isTwice 1 s hy1) dX12_readsLate_2 cv_X12_373 rfl so_101 rc_11 (by decide) (by first | exact Nat.le_of_ble_eq_true rfl | simp [rva_cat, vc_i, vc_r, vc_l, vc_n]) nn0 rfl (pc2 := 5) rfl ?_
  refine e_if_eq (tgt := 14) dX12_readsLate_5 (by decide) (pc2 := 8) rfl (fun c3 => ?_) (fun c3 => ?_)
  · have hf := if_t c3 hf
    refine e_aload_n dX12_readsLate_14 0 rfl rfl (pc2 := 15) rfl ?_
    obtain ⟨s5, hy4, hf⟩ := bnd_s hf
    refine e_callVn (t_X12_nextToken  s2 hy4) dX12_readsLate_15 cv_X12_263 rfl so_101 rc_11 (by decide) (by first | exact Nat.le_of_ble_eq_true rfl | simp [rva_cat, vc_i, vc_r, vc_l, vc_n]) nn0 rfl (pc2 := 18) rfl ?_
    refine e_iconst (x := 0) dX12_readsLate_18 (by decide) (pc2 := 19) rfl ?_
    refine e_istore_n dX12_readsLate_19 rfl (by decide) rfl (ls' := [(0, .ref 101), (1, .int 0)]) [1, 0] rfl (pc2 := 20) rfl ?_
    refine e_iconst (x := 0) dX12_readsLate_20 (by decide) (pc2 := 21) rfl ?_
    refine e_istore_n dX12_readsLate_21 rfl (by decide) rfl (ls' := [(0, .ref 101), (1, .int 0), (2, .int 0)]) [1, 2, 0] rfl (pc2 := 22) rfl ?_
    refine t_X12_readsLate_l22 FU 0 0 s5 hf
  · have hf := if_f c3 hf
    refine e_aload_n dX12_readsLate_8 0 rfl rfl (pc2 := 9) rfl ?_
    refine e_iconst (x := 3) dX12_readsLate_9 (by decide) (pc2 := 10) rfl ?_
    obtain ⟨y19, s20, hy19, hf⟩ := bnd2_s hf
    refine e_callVs (t_X12_fails 3 s2 hy19) dX12_readsLate_10 cv_X12_257 rfl so_101 rc_11 (by decide) (by first | exact Nat.le_of_ble_eq_true rfl | simp [rva_cat, vc_i, vc_r, vc_l, vc_n]) nn0 rfl (pc2 := 13) rfl ?_
    obtain ⟨g21, hf⟩ := gd_some hf
    cases hf
    exact e_zret (isb_n g21) rfl dX12_readsLate_13
abbrev DDX12_readsOrder : Nat := 4
def f_X12_readsOrder  (s : HS) : Option (Int32 × HS) :=
  (if (s.1 121 1) ≤ (s.1 120 1) then bnd (f_X12_nextToken s) fun s5 => ltb (sI s5 120 (1) (s5.1 101 30)) fun s6 => bnd2 (f_X12_reads s6) fun y7 s8 => (if y7 = 0 then some (0, s8) else ltb (sI s8 121 (1) (s8.1 101 30)) fun s10 => some (1, s10)) else bnd2 (f_X12_fails 3 s) fun y11 s12 => gd (isb y11) (some (y11, s12)))
set_option maxRecDepth 20000 in
set_option maxHeartbeats 2000000 in
theorem t_X12_readsOrder  (s : HS) {x : Int32} {t : HS} (hf : f_X12_readsOrder  s = some (x, t)) : Mt DDX12_readsOrder miX12_readsOrder [.ref 101] NF (hp s) (some (.int x)) NF (hp t) := by
  refine Mt.of (by decide +kernel) (Nat.le_refl _) (Nat.le_of_ble_eq_true rfl) ?_
  show Ev DDX12_readsOrder miX12_readsOrder NF (some (.int x)) NF (hp t) 0 NF [(0, .ref 101)] [] (hp s)
  unfold f_X12_readsOrder at hf
  refine e_aload_n dX12_readsOrder_0 0 rfl rfl (pc2 := 1) rfl ?_
  refine e_getR (r := 121) fl_X12_68 dX12_readsOrder_1 so_101 (rs_101_28 s.2.2) (by decide) (pc2 := 4) rfl ?_
  refine e_iconst (x := 1) dX12_readsOrder_4 (by decide) (pc2 := 5) rfl ?_
  refine e_iald dX12_readsOrder_5 sa_121 (inb_v (by decide)) (pc2 := 6) rfl ?_
  refine e_aload_n dX12_readsOrder_6 0 rfl rfl (pc2 := 7) rfl ?_
  refine e_getR (r := 120) fl_X12_65 dX12_readsOrder_7 so_101 (rs_101_27 s.2.2) (by decide) (pc2 := 10) rfl ?_
  refine e_iconst (x := 1) dX12_readsOrder_10 (by decide) (pc2 := 11) rfl ?_
  refine e_iald dX12_readsOrder_11 sa_120 (inb_v (by decide)) (pc2 := 12) rfl ?_
  refine e_icmp_le (tgt := 21) dX12_readsOrder_12 (by decide) (pc2 := 15) rfl (fun c3 => ?_) (fun c3 => ?_)
  · have hf := if_t c3 hf
    refine e_aload_n dX12_readsOrder_21 0 rfl rfl (pc2 := 22) rfl ?_
    obtain ⟨s5, hy4, hf⟩ := bnd_s hf
    refine e_callVn (t_X12_nextToken  s hy4) dX12_readsOrder_22 cv_X12_263 rfl so_101 rc_11 (by decide) (by first | exact Nat.le_of_ble_eq_true rfl | simp [rva_cat, vc_i, vc_r, vc_l, vc_n]) nn0 rfl (pc2 := 25) rfl ?_
    refine e_aload_n dX12_readsOrder_25 0 rfl rfl (pc2 := 26) rfl ?_
    refine e_getR (r := 120) fl_X12_65 dX12_readsOrder_26 so_101 (rs_101_27 s5.2.2) (by decide) (pc2 := 29) rfl ?_
    refine e_iconst (x := 1) dX12_readsOrder_29 (by decide) (pc2 := 30) rfl ?_
    refine e_aload_n dX12_readsOrder_30 0 rfl rfl (pc2 := 31) rfl ?_
    refine e_getI fl_X12_232 dX12_readsOrder_31 so_101 (by decide) (pc2 := 34) rfl ?_
    obtain ⟨s6, es6, hf⟩ := ltb_s hf
    refine e_iast dX12_readsOrder_34 sa_120 (inb_v (by decide)) (h2 := hp s6) (by rw [es6]; rfl) (pc2 := 35) rfl ?_
    refine e_aload_n dX12_readsOrder_35 0 rfl rfl (pc2 := 36) rfl ?_
    obtain ⟨y7, s8, hy7, hf⟩ := bnd2_s hf
    refine e_callVs (t_X12_reads  s6 hy7) dX12_readsOrder_36 cv_X12_392 rfl so_101 rc_11 (by decide) (by first | exact Nat.le_of_ble_eq_true rfl | simp [rva_cat, vc_i, vc_r, vc_l, vc_n]) nn0 rfl (pc2 := 39) rfl ?_
    refine e_if_ne (tgt := 44) dX12_readsOrder_39 (by decide) (pc2 := 42) rfl (fun c9 => ?_) (fun c9 => ?_)
    · have hf := if_f c9 hf
      refine e_aload_n dX12_readsOrder_44 0 rfl rfl (pc2 := 45) rfl ?_
      refine e_getR (r := 121) fl_X12_68 dX12_readsOrder_45 so_101 (rs_101_28 s8.2.2) (by decide) (pc2 := 48) rfl ?_
      refine e_iconst (x := 1) dX12_readsOrder_48 (by decide) (pc2 := 49) rfl ?_
      refine e_aload_n dX12_readsOrder_49 0 rfl rfl (pc2 := 50) rfl ?_
      refine e_getI fl_X12_232 dX12_readsOrder_50 so_101 (by decide) (pc2 := 53) rfl ?_
      obtain ⟨s10, es10, hf⟩ := ltb_s hf
      refine e_iast dX12_readsOrder_53 sa_121 (inb_v (by decide)) (h2 := hp s10) (by rw [es10]; rfl) (pc2 := 54) rfl ?_
      refine e_iconst (x := 1) dX12_readsOrder_54 (by decide) (pc2 := 55) rfl ?_
      cases hf
      exact e_zret (by decide) rfl dX12_readsOrder_55
    · have hf := if_t c9 hf
      refine e_iconst (x := 0) dX12_readsOrder_42 (by decide) (pc2 := 43) rfl ?_
      cases hf
      exact e_zret (by decide) rfl dX12_readsOrder_43
  · have hf := if_f c3 hf
    refine e_aload_n dX12_readsOrder_15 0 rfl rfl (pc2 := 16) rfl ?_
    refine e_iconst (x := 3) dX12_readsOrder_16 (by decide) (pc2 := 17) rfl ?_
    obtain ⟨y11, s12, hy11, hf⟩ := bnd2_s hf
    refine e_callVs (t_X12_fails 3 s hy11) dX12_readsOrder_17 cv_X12_257 rfl so_101 rc_11 (by decide) (by first | exact Nat.le_of_ble_eq_true rfl | simp [rva_cat, vc_i, vc_r, vc_l, vc_n]) nn0 rfl (pc2 := 20) rfl ?_
    obtain ⟨g13, hf⟩ := gd_some hf
    cases hf
    exact e_zret (isb_n g13) rfl dX12_readsOrder_20
abbrev DDX12_starts : Nat := 3
def f_X12_starts  (s : HS) : Option HS :=
  ltb (sI s 101 3 (s.1 101 1)) fun s1 => ltb (sI s1 101 1 0) fun s2 => ltb (sI s2 101 4 0) fun s3 => bnd (f_X12_nextToken s3) fun s5 => some s5
set_option maxRecDepth 20000 in
set_option maxHeartbeats 2000000 in
theorem t_X12_starts  (s : HS) {t : HS} (hf : f_X12_starts  s = some t) : Mt DDX12_starts miX12_starts [.ref 101] NF (hp s) none NF (hp t) := by
  refine Mt.of (by decide +kernel) (Nat.le_refl _) (Nat.le_of_ble_eq_true rfl) ?_
  show Ev DDX12_starts miX12_starts NF none NF (hp t) 0 NF [(0, .ref 101)] [] (hp s)
  unfold f_X12_starts at hf
  refine e_aload_n dX12_starts_0 0 rfl rfl (pc2 := 1) rfl ?_
  refine e_aload_n dX12_starts_1 0 rfl rfl (pc2 := 2) rfl ?_
  refine e_getI fl_X12_199 dX12_starts_2 so_101 (by decide) (pc2 := 5) rfl ?_
  obtain ⟨s1, es1, hf⟩ := ltb_s hf
  refine e_putI fl_X12_202 dX12_starts_5 so_101 fn_11_3 (h2 := hp s1) (by rw [es1]; rfl) (pc2 := 8) rfl ?_
  refine e_aload_n dX12_starts_8 0 rfl rfl (pc2 := 9) rfl ?_
  refine e_iconst (x := 0) dX12_starts_9 (by decide) (pc2 := 10) rfl ?_
  obtain ⟨s2, es2, hf⟩ := ltb_s hf
  refine e_putI fl_X12_199 dX12_starts_10 so_101 fn_11_1 (h2 := hp s2) (by rw [es2]; rfl) (pc2 := 13) rfl ?_
  refine e_aload_n dX12_starts_13 0 rfl rfl (pc2 := 14) rfl ?_
  refine e_iconst (x := 0) dX12_starts_14 (by decide) (pc2 := 15) rfl ?_
  obtain ⟨s3, es3, hf⟩ := ltb_s hf
  refine e_putI fl_X12_205 dX12_starts_15 so_101 fn_11_4 (h2 := hp s3) (by rw [es3]; rfl) (pc2 := 18) rfl ?_
  refine e_aload_n dX12_starts_18 0 rfl rfl (pc2 := 19) rfl ?_
  obtain ⟨s5, hy4, hf⟩ := bnd_s hf
  refine e_callVn (t_X12_nextToken  s3 hy4) dX12_starts_19 cv_X12_263 rfl so_101 rc_11 (by decide) (by first | exact Nat.le_of_ble_eq_true rfl | simp [rva_cat, vc_i, vc_r, vc_l, vc_n]) nn0 rfl (pc2 := 22) rfl ?_
  cases hf
  exact e_vret rfl dX12_starts_22
abbrev DDX12_readsAll : Nat := 6
def f_X12_readsAll_j243 (w0 : Int32) (k21 : HS → Option (Int32 × HS)) (s : HS) : Option (Int32 × HS) :=
  (if w0 = 0 then some (0, s) else k21 s)
set_option maxRecDepth 20000 in
set_option maxHeartbeats 2000000 in
theorem t_X12_readsAll_j243 (w0 : Int32) (s : HS) {x : Int32} {t : HS} (k21 : HS → Option (Int32 × HS)) (hk21 : ∀ (s : HS), k21 s = some (x, t) → Ev DDX12_readsAll miX12_readsAll NF (some (.int x)) NF (hp t) 21 NF [(0, .ref 101)] [] (hp s)) (hf : f_X12_readsAll_j243 w0 k21 s = some (x, t)) : Ev DDX12_readsAll miX12_readsAll NF (some (.int x)) NF (hp t) 243 NF [(0, .ref 101)] [.int w0] (hp s) := by
  refine e_istore_n dX12_readsAll_243 rfl (by decide) rfl (ls' := [(0, .ref 101), (1, .int w0)]) [1, 0] rfl (pc2 := 244) rfl ?_
  refine e_iload_n dX12_readsAll_244 1 rfl rfl (pc2 := 245) rfl ?_
  refine e_if_ne (tgt := 250) dX12_readsAll_245 (by decide) (pc2 := 248) rfl (fun c21 => ?_) (fun c21 => ?_)
  · have hf := if_f c21 hf
    refine e_goto (tgt := 21) dX12_readsAll_250 (by decide) ?_
    refine ev_sub [0] rfl ?_
    exact hk21 s hf
  · have hf := if_t c21 hf
    refine e_iconst (x := 0) dX12_readsAll_248 (by decide) (pc2 := 249) rfl ?_
    cases hf
    exact e_zret (by decide) rfl dX12_readsAll_249
def f_X12_readsAll_l21b (k21 : HS → Option (Int32 × HS)) (s : HS) : Option (Int32 × HS) :=
  (if (s.1 101 6) = 0 then some (1, s) else (if (f_X12_isWord 388978 s) = 0 then (if (f_X12_isWord 1890386 s) = 0 then (if (f_X12_isWord 10793230 s) = 0 then (if (f_X12_isWord 1494603 s) = 0 then (if (f_X12_isWord 12528014 s) = 0 then (if (f_X12_isWord 47328332 s) = 0 then (if (f_X12_isWord 243208 s) = 0 then (if (f_X12_isWord 14110 s) = 0 then (if (f_X12_isWord 315743 s) = 0 then (if (f_X12_isWord 237470 s) = 0 then (if (f_X12_isWord 8328978 s) = 0 then bnd2 (f_X12_fails 1 s) fun y19 s20 => f_X12_readsAll_j243 y19 k21 s20 else bnd2 (f_X12_readsOrder s) fun y22 s23 => f_X12_readsAll_j243 y22 k21 s23) else bnd2 (f_X12_readsLate s) fun y24 s25 => f_X12_readsAll_j243 y24 k21 s25) else bnd2 (f_X12_readsOne 9 1 30 s) fun y26 s27 => f_X12_readsAll_j243 y26 k21 s27) else bnd2 (f_X12_readsOne 8 1 120 s) fun y28 s29 => f_X12_readsAll_j243 y28 k21 s29) else bnd2 (f_X12_readsOne 7 0 99 s) fun y30 s31 => f_X12_readsAll_j243 y30 k21 s31) else bnd2 (f_X12_readsOne 6 0 60 s) fun y32 s33 => f_X12_readsAll_j243 y32 k21 s33) else bnd2 (f_X12_readsOne 5 1 2 s) fun y34 s35 => f_X12_readsAll_j243 y34 k21 s35) else bnd2 (f_X12_readsBuyer s) fun y36 s37 => f_X12_readsAll_j243 y36 k21 s37) else bnd2 (f_X12_readsThing s) fun y38 s39 => f_X12_readsAll_j243 y38 k21 s39) else bnd2 (f_X12_readsCoach s) fun y40 s41 => f_X12_readsAll_j243 y40 k21 s41) else bnd2 (f_X12_readsStop s) fun y42 s43 => f_X12_readsAll_j243 y42 k21 s43))
set_option maxRecDepth 20000 in
set_option maxHeartbeats 2000000 in
theorem t_X12_readsAll_l21b  (s : HS) {x : Int32} {t : HS} (k21 : HS → Option (Int32 × HS)) (hk21 : ∀ (s : HS), k21 s = some (x, t) → Ev DDX12_readsAll miX12_readsAll NF (some (.int x)) NF (hp t) 21 NF [(0, .ref 101)] [] (hp s)) (hf : f_X12_readsAll_l21b k21 s = some (x, t)) : Ev DDX12_readsAll miX12_readsAll NF (some (.int x)) NF (hp t) 21 NF [(0, .ref 101)] [] (hp s) := by
  refine e_aload_n dX12_readsAll_21 0 rfl rfl (pc2 := 22) rfl ?_
  refine e_getI fl_X12_218 dX12_readsAll_22 so_101 (by decide) (pc2 := 25) rfl ?_
  refine e_if_eq (tgt := 253) dX12_readsAll_25 (by decide) (pc2 := 28) rfl (fun c7 => ?_) (fun c7 => ?_)
  · have hf := if_t c7 hf
    refine e_iconst (x := 1) dX12_readsAll_253 (by decide) (pc2 := 254) rfl ?_
    cases hf
    exact e_zret (by decide) rfl dX12_readsAll_254
  · have hf := if_f c7 hf
    refine e_aload_n dX12_readsAll_28 0 rfl rfl (pc2 := 29) rfl ?_
    refine e_ldc2 dX12_readsAll_29 lk_X12_279 (pc2 := 32) rfl ?_
    refine e_callVs (t_X12_isWord 388978 s rfl) dX12_readsAll_32 cv_X12_249 rfl so_101 rc_11 (by decide) (by first | exact Nat.le_of_ble_eq_true rfl | simp [rva_cat, vc_i, vc_r, vc_l, vc_n]) nn0 rfl (pc2 := 35) rfl ?_
    refine e_if_eq (tgt := 45) dX12_readsAll_35 (by decide) (pc2 := 38) rfl (fun c8 => ?_) (fun c8 => ?_)
    · have hf := if_t c8 hf
      refine e_aload_n dX12_readsAll_45 0 rfl rfl (pc2 := 46) rfl ?_
      refine e_ldc2 dX12_readsAll_46 lk_X12_283 (pc2 := 49) rfl ?_
      refine e_callVs (t_X12_isWord 1890386 s rfl) dX12_readsAll_49 cv_X12_249 rfl so_101 rc_11 (by decide) (by first | exact Nat.le_of_ble_eq_true rfl | simp [rva_cat, vc_i, vc_r, vc_l, vc_n]) nn0 rfl (pc2 := 52) rfl ?_
      refine e_if_eq (tgt := 62) dX12_readsAll_52 (by decide) (pc2 := 55) rfl (fun c9 => ?_) (fun c9 => ?_)
      · have hf := if_t c9 hf
        refine e_aload_n dX12_readsAll_62 0 rfl rfl (pc2 := 63) rfl ?_
        refine e_ldc2 dX12_readsAll_63 lk_X12_287 (pc2 := 66) rfl ?_
        refine e_callVs (t_X12_isWord 10793230 s rfl) dX12_readsAll_66 cv_X12_249 rfl so_101 rc_11 (by decide) (by first | exact Nat.le_of_ble_eq_true rfl | simp [rva_cat, vc_i, vc_r, vc_l, vc_n]) nn0 rfl (pc2 := 69) rfl ?_
        refine e_if_eq (tgt := 79) dX12_readsAll_69 (by decide) (pc2 := 72) rfl (fun c10 => ?_) (fun c10 => ?_)
        · have hf := if_t c10 hf
          refine e_aload_n dX12_readsAll_79 0 rfl rfl (pc2 := 80) rfl ?_
          refine e_ldc2 dX12_readsAll_80 lk_X12_297 (pc2 := 83) rfl ?_
          refine e_callVs (t_X12_isWord 1494603 s rfl) dX12_readsAll_83 cv_X12_249 rfl so_101 rc_11 (by decide) (by first | exact Nat.le_of_ble_eq_true rfl | simp [rva_cat, vc_i, vc_r, vc_l, vc_n]) nn0 rfl (pc2 := 86) rfl ?_
          refine e_if_eq (tgt := 96) dX12_readsAll_86 (by decide) (pc2 := 89) rfl (fun c11 => ?_) (fun c11 => ?_)
          · have hf := if_t c11 hf
            refine e_aload_n dX12_readsAll_96 0 rfl rfl (pc2 := 97) rfl ?_
            refine e_ldc2 dX12_readsAll_97 lk_X12_305 (pc2 := 100) rfl ?_
            refine e_callVs (t_X12_isWord 12528014 s rfl) dX12_readsAll_100 cv_X12_249 rfl so_101 rc_11 (by decide) (by first | exact Nat.le_of_ble_eq_true rfl | simp [rva_cat, vc_i, vc_r, vc_l, vc_n]) nn0 rfl (pc2 := 103) rfl ?_
            refine e_if_eq (tgt := 116) dX12_readsAll_103 (by decide) (pc2 := 106) rfl (fun c12 => ?_) (fun c12 => ?_)
            · have hf := if_t c12 hf
              refine e_aload_n dX12_readsAll_116 0 rfl rfl (pc2 := 117) rfl ?_
              refine e_ldc2 dX12_readsAll_117 lk_X12_307 (pc2 := 120) rfl ?_
              refine e_callVs (t_X12_isWord 47328332 s rfl) dX12_readsAll_120 cv_X12_249 rfl so_101 rc_11 (by decide) (by first | exact Nat.le_of_ble_eq_true rfl | simp [rva_cat, vc_i, vc_r, vc_l, vc_n]) nn0 rfl (pc2 := 123) rfl ?_
              refine e_if_eq (tgt := 138) dX12_readsAll_123 (by decide) (pc2 := 126) rfl (fun c13 => ?_) (fun c13 => ?_)
              · have hf := if_t c13 hf
                refine e_aload_n dX12_readsAll_138 0 rfl rfl (pc2 := 139) rfl ?_
                refine e_ldc2 dX12_readsAll_139 lk_X12_309 (pc2 := 142) rfl ?_
                refine e_callVs (t_X12_isWord 243208 s rfl) dX12_readsAll_142 cv_X12_249 rfl so_101 rc_11 (by decide) (by first | exact Nat.le_of_ble_eq_true rfl | simp [rva_cat, vc_i, vc_r, vc_l, vc_n]) nn0 rfl (pc2 := 145) rfl ?_
                refine e_if_eq (tgt := 160) dX12_readsAll_145 (by decide) (pc2 := 148) rfl (fun c14 => ?_) (fun c14 => ?_)
                · have hf := if_t c14 hf
                  refine e_aload_n dX12_readsAll_160 0 rfl rfl (pc2 := 161) rfl ?_
                  refine e_ldc2 dX12_readsAll_161 lk_X12_311 (pc2 := 164) rfl ?_
                  refine e_callVs (t_X12_isWord 14110 s rfl) dX12_readsAll_164 cv_X12_249 rfl so_101 rc_11 (by decide) (by first | exact Nat.le_of_ble_eq_true rfl | simp [rva_cat, vc_i, vc_r, vc_l, vc_n]) nn0 rfl (pc2 := 167) rfl ?_
                  refine e_if_eq (tgt := 182) dX12_readsAll_167 (by decide) (pc2 := 170) rfl (fun c15 => ?_) (fun c15 => ?_)
                  · have hf := if_t c15 hf
                    refine e_aload_n dX12_readsAll_182 0 rfl rfl (pc2 := 183) rfl ?_
                    refine e_ldc2 dX12_readsAll_183 lk_X12_313 (pc2 := 186) rfl ?_
                    refine e_callVs (t_X12_isWord 315743 s rfl) dX12_readsAll_186 cv_X12_249 rfl so_101 rc_11 (by decide) (by first | exact Nat.le_of_ble_eq_true rfl | simp [rva_cat, vc_i, vc_r, vc_l, vc_n]) nn0 rfl (pc2 := 189) rfl ?_
                    refine e_if_eq (tgt := 204) dX12_readsAll_189 (by decide) (pc2 := 192) rfl (fun c16 => ?_) (fun c16 => ?_)
                    · have hf := if_t c16 hf
                      refine e_aload_n dX12_readsAll_204 0 rfl rfl (pc2 := 205) rfl ?_
                      refine e_ldc2 dX12_readsAll_205 lk_X12_315 (pc2 := 208) rfl ?_
                      refine e_callVs (t_X12_isWord 237470 s rfl) dX12_readsAll_208 cv_X12_249 rfl so_101 rc_11 (by decide) (by first | exact Nat.le_of_ble_eq_true rfl | simp [rva_cat, vc_i, vc_r, vc_l, vc_n]) nn0 rfl (pc2 := 211) rfl ?_
                      refine e_if_eq (tgt := 221) dX12_readsAll_211 (by decide) (pc2 := 214) rfl (fun c17 => ?_) (fun c17 => ?_)
                      · have hf := if_t c17 hf
                        refine e_aload_n dX12_readsAll_221 0 rfl rfl (pc2 := 222) rfl ?_
                        refine e_ldc2 dX12_readsAll_222 lk_X12_317 (pc2 := 225) rfl ?_
                        refine e_callVs (t_X12_isWord 8328978 s rfl) dX12_readsAll_225 cv_X12_249 rfl so_101 rc_11 (by decide) (by first | exact Nat.le_of_ble_eq_true rfl | simp [rva_cat, vc_i, vc_r, vc_l, vc_n]) nn0 rfl (pc2 := 228) rfl ?_
                        refine e_if_eq (tgt := 238) dX12_readsAll_228 (by decide) (pc2 := 231) rfl (fun c18 => ?_) (fun c18 => ?_)
                        · have hf := if_t c18 hf
                          refine e_aload_n dX12_readsAll_238 0 rfl rfl (pc2 := 239) rfl ?_
                          refine e_iconst (x := 1) dX12_readsAll_239 (by decide) (pc2 := 240) rfl ?_
                          obtain ⟨y19, s20, hy19, hf⟩ := bnd2_s hf
                          refine e_callVs (t_X12_fails 1 s hy19) dX12_readsAll_240 cv_X12_257 rfl so_101 rc_11 (by decide) (by first | exact Nat.le_of_ble_eq_true rfl | simp [rva_cat, vc_i, vc_r, vc_l, vc_n]) nn0 rfl (pc2 := 243) rfl ?_
                          exact t_X12_readsAll_j243 y19 s20 _ hk21 hf
                        · have hf := if_f c18 hf
                          refine e_aload_n dX12_readsAll_231 0 rfl rfl (pc2 := 232) rfl ?_
                          obtain ⟨y22, s23, hy22, hf⟩ := bnd2_s hf
                          refine e_callVs (t_X12_readsOrder  s hy22) dX12_readsAll_232 cv_X12_416 rfl so_101 rc_11 (by decide) (by first | exact Nat.le_of_ble_eq_true rfl | simp [rva_cat, vc_i, vc_r, vc_l, vc_n]) nn0 rfl (pc2 := 235) rfl ?_
                          refine e_goto (tgt := 243) dX12_readsAll_235 (by decide) ?_
                          exact t_X12_readsAll_j243 y22 s23 _ hk21 hf
                      · have hf := if_f c17 hf
                        refine e_aload_n dX12_readsAll_214 0 rfl rfl (pc2 := 215) rfl ?_
                        obtain ⟨y24, s25, hy24, hf⟩ := bnd2_s hf
                        refine e_callVs (t_X12_readsLate  s hy24) dX12_readsAll_215 cv_X12_413 rfl so_101 rc_11 (by decide) (by first | exact Nat.le_of_ble_eq_true rfl | simp [rva_cat, vc_i, vc_r, vc_l, vc_n]) nn0 rfl (pc2 := 218) rfl ?_
                        refine e_goto (tgt := 243) dX12_readsAll_218 (by decide) ?_
                        exact t_X12_readsAll_j243 y24 s25 _ hk21 hf
                    · have hf := if_f c16 hf
                      refine e_aload_n dX12_readsAll_192 0 rfl rfl (pc2 := 193) rfl ?_
                      refine e_bipush (x := 9) dX12_readsAll_193 (by decide) (pc2 := 195) rfl ?_
                      refine e_iconst (x := 1) dX12_readsAll_195 (by decide) (pc2 := 196) rfl ?_
                      refine e_bipush (x := 30) dX12_readsAll_196 (by decide) (pc2 := 198) rfl ?_
                      obtain ⟨y26, s27, hy26, hf⟩ := bnd2_s hf
                      refine e_callVs (t_X12_readsOne 9 1 30 s hy26) dX12_readsAll_198 cv_X12_410 rfl so_101 rc_11 (by decide) (by first | exact Nat.le_of_ble_eq_true rfl | simp [rva_cat, vc_i, vc_r, vc_l, vc_n]) nn0 rfl (pc2 := 201) rfl ?_
                      refine e_goto (tgt := 243) dX12_readsAll_201 (by decide) ?_
                      exact t_X12_readsAll_j243 y26 s27 _ hk21 hf
                  · have hf := if_f c15 hf
                    refine e_aload_n dX12_readsAll_170 0 rfl rfl (pc2 := 171) rfl ?_
                    refine e_bipush (x := 8) dX12_readsAll_171 (by decide) (pc2 := 173) rfl ?_
                    refine e_iconst (x := 1) dX12_readsAll_173 (by decide) (pc2 := 174) rfl ?_
                    refine e_bipush (x := 120) dX12_readsAll_174 (by decide) (pc2 := 176) rfl ?_
                    obtain ⟨y28, s29, hy28, hf⟩ := bnd2_s hf
                    refine e_callVs (t_X12_readsOne 8 1 120 s hy28) dX12_readsAll_176 cv_X12_410 rfl so_101 rc_11 (by decide) (by first | exact Nat.le_of_ble_eq_true rfl | simp [rva_cat, vc_i, vc_r, vc_l, vc_n]) nn0 rfl (pc2 := 179) rfl ?_
                    refine e_goto (tgt := 243) dX12_readsAll_179 (by decide) ?_
                    exact t_X12_readsAll_j243 y28 s29 _ hk21 hf
                · have hf := if_f c14 hf
                  refine e_aload_n dX12_readsAll_148 0 rfl rfl (pc2 := 149) rfl ?_
                  refine e_bipush (x := 7) dX12_readsAll_149 (by decide) (pc2 := 151) rfl ?_
                  refine e_iconst (x := 0) dX12_readsAll_151 (by decide) (pc2 := 152) rfl ?_
                  refine e_bipush (x := 99) dX12_readsAll_152 (by decide) (pc2 := 154) rfl ?_
                  obtain ⟨y30, s31, hy30, hf⟩ := bnd2_s hf
                  refine e_callVs (t_X12_readsOne 7 0 99 s hy30) dX12_readsAll_154 cv_X12_410 rfl so_101 rc_11 (by decide) (by first | exact Nat.le_of_ble_eq_true rfl | simp [rva_cat, vc_i, vc_r, vc_l, vc_n]) nn0 rfl (pc2 := 157) rfl ?_
                  refine e_goto (tgt := 243) dX12_readsAll_157 (by decide) ?_
                  exact t_X12_readsAll_j243 y30 s31 _ hk21 hf
              · have hf := if_f c13 hf
                refine e_aload_n dX12_readsAll_126 0 rfl rfl (pc2 := 127) rfl ?_
                refine e_bipush (x := 6) dX12_readsAll_127 (by decide) (pc2 := 129) rfl ?_
                refine e_iconst (x := 0) dX12_readsAll_129 (by decide) (pc2 := 130) rfl ?_
                refine e_bipush (x := 60) dX12_readsAll_130 (by decide) (pc2 := 132) rfl ?_
                obtain ⟨y32, s33, hy32, hf⟩ := bnd2_s hf
                refine e_callVs (t_X12_readsOne 6 0 60 s hy32) dX12_readsAll_132 cv_X12_410 rfl so_101 rc_11 (by decide) (by first | exact Nat.le_of_ble_eq_true rfl | simp [rva_cat, vc_i, vc_r, vc_l, vc_n]) nn0 rfl (pc2 := 135) rfl ?_
                refine e_goto (tgt := 243) dX12_readsAll_135 (by decide) ?_
                exact t_X12_readsAll_j243 y32 s33 _ hk21 hf
            · have hf := if_f c12 hf
              refine e_aload_n dX12_readsAll_106 0 rfl rfl (pc2 := 107) rfl ?_
              refine e_iconst (x := 5) dX12_readsAll_107 (by decide) (pc2 := 108) rfl ?_
              refine e_iconst (x := 1) dX12_readsAll_108 (by decide) (pc2 := 109) rfl ?_
              refine e_iconst (x := 2) dX12_readsAll_109 (by decide) (pc2 := 110) rfl ?_
              obtain ⟨y34, s35, hy34, hf⟩ := bnd2_s hf
              refine e_callVs (t_X12_readsOne 5 1 2 s hy34) dX12_readsAll_110 cv_X12_410 rfl so_101 rc_11 (by decide) (by first | exact Nat.le_of_ble_eq_true rfl | simp [rva_cat, vc_i, vc_r, vc_l, vc_n]) nn0 rfl (pc2 := 113) rfl ?_
              refine e_goto (tgt := 243) dX12_readsAll_113 (by decide) ?_
              exact t_X12_readsAll_j243 y34 s35 _ hk21 hf
          · have hf := if_f c11 hf
            refine e_aload_n dX12_readsAll_89 0 rfl rfl (pc2 := 90) rfl ?_
            obtain ⟨y36, s37, hy36, hf⟩ := bnd2_s hf
            refine e_callVs (t_X12_readsBuyer  s hy36) dX12_readsAll_90 cv_X12_407 rfl so_101 rc_11 (by decide) (by first | exact Nat.le_of_ble_eq_true rfl | simp [rva_cat, vc_i, vc_r, vc_l, vc_n]) nn0 rfl (pc2 := 93) rfl ?_
            refine e_goto (tgt := 243) dX12_readsAll_93 (by decide) ?_
            exact t_X12_readsAll_j243 y36 s37 _ hk21 hf
        · have hf := if_f c10 hf
          refine e_aload_n dX12_readsAll_72 0 rfl rfl (pc2 := 73) rfl ?_
          obtain ⟨y38, s39, hy38, hf⟩ := bnd2_s hf
          refine e_callVs (t_X12_readsThing  s hy38) dX12_readsAll_73 cv_X12_404 rfl so_101 rc_11 (by decide) (by first | exact Nat.le_of_ble_eq_true rfl | simp [rva_cat, vc_i, vc_r, vc_l, vc_n]) nn0 rfl (pc2 := 76) rfl ?_
          refine e_goto (tgt := 243) dX12_readsAll_76 (by decide) ?_
          exact t_X12_readsAll_j243 y38 s39 _ hk21 hf
      · have hf := if_f c9 hf
        refine e_aload_n dX12_readsAll_55 0 rfl rfl (pc2 := 56) rfl ?_
        obtain ⟨y40, s41, hy40, hf⟩ := bnd2_s hf
        refine e_callVs (t_X12_readsCoach  s hy40) dX12_readsAll_56 cv_X12_401 rfl so_101 rc_11 (by decide) (by first | exact Nat.le_of_ble_eq_true rfl | simp [rva_cat, vc_i, vc_r, vc_l, vc_n]) nn0 rfl (pc2 := 59) rfl ?_
        refine e_goto (tgt := 243) dX12_readsAll_59 (by decide) ?_
        exact t_X12_readsAll_j243 y40 s41 _ hk21 hf
    · have hf := if_f c8 hf
      refine e_aload_n dX12_readsAll_38 0 rfl rfl (pc2 := 39) rfl ?_
      obtain ⟨y42, s43, hy42, hf⟩ := bnd2_s hf
      refine e_callVs (t_X12_readsStop  s hy42) dX12_readsAll_39 cv_X12_398 rfl so_101 rc_11 (by decide) (by first | exact Nat.le_of_ble_eq_true rfl | simp [rva_cat, vc_i, vc_r, vc_l, vc_n]) nn0 rfl (pc2 := 42) rfl ?_
      refine e_goto (tgt := 243) dX12_readsAll_42 (by decide) ?_
      exact t_X12_readsAll_j243 y42 s43 _ hk21 hf
def f_X12_readsAll_l21  : Nat → HS → Option (Int32 × HS)
  | 0, _ => none
  | n + 1, s => f_X12_readsAll_l21b  (f_X12_readsAll_l21  n)  s
set_option maxRecDepth 20000 in
set_option maxHeartbeats 2000000 in
theorem t_X12_readsAll_l21  {x : Int32} {t : HS}  : ∀ (n : Nat)  (s : HS), f_X12_readsAll_l21  n s = some (x, t) → Ev DDX12_readsAll miX12_readsAll NF (some (.int x)) NF (hp t) 21 NF [(0, .ref 101)] [] (hp s) := by
  intro n
  induction n with
  | zero =>
    intro s hf
    have hf : none = some (x, t) := hf
    cases hf
  | succ n ih =>
    intro s hf
    exact t_X12_readsAll_l21b   s _ ih  hf
def f_X12_readsAll  (s : HS) : Option (Int32 × HS) :=
  bnd (f_X12_plain 1 s) fun s2 => ltb (sI s2 101 31 0) fun s3 => ltb (sI s3 101 30 1000) fun s4 => bnd (f_X12_starts s4) fun s6 => f_X12_readsAll_l21 FU s6
set_option maxRecDepth 20000 in
set_option maxHeartbeats 2000000 in
theorem t_X12_readsAll  (s : HS) {x : Int32} {t : HS} (hf : f_X12_readsAll  s = some (x, t)) : Mt DDX12_readsAll miX12_readsAll [.ref 101] NF (hp s) (some (.int x)) NF (hp t) := by
  refine Mt.of (by decide +kernel) (Nat.le_refl _) (Nat.le_of_ble_eq_true rfl) ?_
  show Ev DDX12_readsAll miX12_readsAll NF (some (.int x)) NF (hp t) 0 NF [(0, .ref 101)] [] (hp s)
  unfold f_X12_readsAll at hf
  refine e_aload_n dX12_readsAll_0 0 rfl rfl (pc2 := 1) rfl ?_
  refine e_iconst (x := 1) dX12_readsAll_1 (by decide) (pc2 := 2) rfl ?_
  obtain ⟨s2, hy1, hf⟩ := bnd_s hf
  refine e_callVn (t_X12_plain 1 s hy1) dX12_readsAll_2 cv_X12_187 rfl so_101 rc_11 (by decide) (by first | exact Nat.le_of_ble_eq_true rfl | simp [rva_cat, vc_i, vc_r, vc_l, vc_n]) nn0 rfl (pc2 := 5) rfl ?_
  refine e_aload_n dX12_readsAll_5 0 rfl rfl (pc2 := 6) rfl ?_
  refine e_iconst (x := 0) dX12_readsAll_6 (by decide) (pc2 := 7) rfl ?_
  obtain ⟨s3, es3, hf⟩ := ltb_s hf
  refine e_putI fl_X12_370 dX12_readsAll_7 so_101 fn_11_31 (h2 := hp s3) (by rw [es3]; rfl) (pc2 := 10) rfl ?_
  refine e_aload_n dX12_readsAll_10 0 rfl rfl (pc2 := 11) rfl ?_
  refine e_sipush (x := 1000) dX12_readsAll_11 (by decide) (pc2 := 14) rfl ?_
  obtain ⟨s4, es4, hf⟩ := ltb_s hf
  refine e_putI fl_X12_232 dX12_readsAll_14 so_101 fn_11_30 (h2 := hp s4) (by rw [es4]; rfl) (pc2 := 17) rfl ?_
  refine e_aload_n dX12_readsAll_17 0 rfl rfl (pc2 := 18) rfl ?_
  obtain ⟨s6, hy5, hf⟩ := bnd_s hf
  refine e_callVn (t_X12_starts  s4 hy5) dX12_readsAll_18 cv_X12_395 rfl so_101 rc_11 (by decide) (by first | exact Nat.le_of_ble_eq_true rfl | simp [rva_cat, vc_i, vc_r, vc_l, vc_n]) nn0 rfl (pc2 := 21) rfl ?_
  refine t_X12_readsAll_l21 FU s6 hf
abbrev DDX12_moves : Nat := 1
def f_X12_moves_l2b (v0 : Nat) (v1 : Int32) (v2 : Int32) (k2 : Int32 → HS → Option HS) (s : HS) : Option HS :=
  (if v1 ≤ v2 then some s else gd (inb (v1 + v2) (sk v0).2) (gd (inb v2 (sk v0).2) (ltb (sI s v0 (v2.toNatClampNeg) (s.1 v0 (v1 + v2).toNatClampNeg)) fun s3 => ltb (v2 + 1) fun x5 => k2 x5 s3)))
set_option maxRecDepth 20000 in
set_option maxHeartbeats 2000000 in
theorem t_X12_moves_l2b (v0 : Nat) (v1 : Int32) (v2 : Int32) (hv0 : aok 1 v0 = true) (s : HS) {t : HS} (k2 : Int32 → HS → Option HS) (hk2 : ∀ (a2 : Int32) (s : HS), k2 a2 s = some t → Ev DDX12_moves miX12_moves NF none NF (hp t) 2 NF [(0, .ref v0), (1, .int v1), (2, .int a2)] [] (hp s)) (hf : f_X12_moves_l2b v0 v1 v2 k2 s = some t) : Ev DDX12_moves miX12_moves NF none NF (hp t) 2 NF [(0, .ref v0), (1, .int v1), (2, .int v2)] [] (hp s) := by
  refine e_iload_n dX12_moves_2 2 rfl rfl (pc2 := 3) rfl ?_
  refine e_iload_n dX12_moves_3 1 rfl rfl (pc2 := 4) rfl ?_
  refine e_icmp_ge (tgt := 21) dX12_moves_4 (by decide) (pc2 := 7) rfl (fun c1 => ?_) (fun c1 => ?_)
  · have hf := if_t c1 hf
    cases hf
    exact e_vret rfl dX12_moves_21
  · have hf := if_f c1 hf
    refine e_aload_n dX12_moves_7 0 rfl rfl (pc2 := 8) rfl ?_
    refine e_iload_n dX12_moves_8 2 rfl rfl (pc2 := 9) rfl ?_
    refine e_aload_n dX12_moves_9 0 rfl rfl (pc2 := 10) rfl ?_
    refine e_iload_n dX12_moves_10 1 rfl rfl (pc2 := 11) rfl ?_
    refine e_iload_n dX12_moves_11 2 rfl rfl (pc2 := 12) rfl ?_
    refine e_iadd dX12_moves_12 (pc2 := 13) rfl ?_
    obtain ⟨g2, hf⟩ := gd_some hf
    refine e_iald dX12_moves_13 (aok_a hv0) (inb_v g2) (pc2 := 14) rfl ?_
    obtain ⟨g4, hf⟩ := gd_some hf
    obtain ⟨s3, es3, hf⟩ := ltb_s hf
    refine e_iast dX12_moves_14 (aok_a hv0) (inb_v g4) (h2 := hp s3) (by rw [es3]; rfl) (pc2 := 15) rfl ?_
    obtain ⟨x5, ex5, hf⟩ := ltb_s hf
    refine e_iinc dX12_moves_15 2 rfl (c9 := 1) (by decide) ex5.symm (by decide) (ls' := [(0, .ref v0), (1, .int v1), (2, .int x5)]) [1, 2, 0] rfl (pc2 := 18) rfl ?_
    refine e_goto (tgt := 2) dX12_moves_18 (by decide) ?_
    exact hk2 x5 s3 hf
def f_X12_moves_l2 (v0 : Nat) (v1 : Int32) : Nat → Int32 → HS → Option HS
  | 0, _, _ => none
  | n + 1, v2, s => f_X12_moves_l2b v0 v1 v2 (f_X12_moves_l2 v0 v1 n)  s
set_option maxRecDepth 20000 in
set_option maxHeartbeats 2000000 in
theorem t_X12_moves_l2 (v0 : Nat) (v1 : Int32) (hv0 : aok 1 v0 = true) {t : HS}  : ∀ (n : Nat) (v2 : Int32) (s : HS), f_X12_moves_l2 v0 v1 n v2 s = some t → Ev DDX12_moves miX12_moves NF none NF (hp t) 2 NF [(0, .ref v0), (1, .int v1), (2, .int v2)] [] (hp s) := by
  intro n
  induction n with
  | zero =>
    intro v2 s hf
    have hf : none = some t := hf
    cases hf
  | succ n ih =>
    intro v2 s hf
    exact t_X12_moves_l2b v0 v1 v2 hv0 s _ ih  hf
def f_X12_moves (v0 : Nat) (v1 : Int32) (s : HS) : Option HS :=
  f_X12_moves_l2 v0 v1 FU 0 s
set_option maxRecDepth 20000 in
set_option maxHeartbeats 2000000 in
theorem t_X12_moves (v0 : Nat) (hv0 : aok 1 v0 = true) (v1 : Int32) (s : HS) {t : HS} (hf : f_X12_moves  v0 v1 s = some t) : Mt DDX12_moves miX12_moves [.ref v0, .int v1] NF (hp s) none NF (hp t) := by
  refine Mt.of (by decide +kernel) (Nat.le_refl _) (Nat.le_of_ble_eq_true rfl) ?_
  show Ev DDX12_moves miX12_moves NF none NF (hp t) 0 NF [(0, .ref v0), (1, .int v1)] [] (hp s)
  unfold f_X12_moves at hf
  refine e_iconst (x := 0) dX12_moves_0 (by decide) (pc2 := 1) rfl ?_
  refine e_istore_n dX12_moves_1 rfl (by decide) rfl (ls' := [(0, .ref v0), (1, .int v1), (2, .int 0)]) [1, 2, 0] rfl (pc2 := 2) rfl ?_
  refine t_X12_moves_l2 v0 v1 hv0 FU 0 s hf
abbrev DDX12_movesNames : Nat := 1
def f_X12_movesNames_l2b (v0 : Nat) (v1 : Int32) (v2 : Int32) (k2 : Int32 → HS → Option HS) (s : HS) : Option HS :=
  (if v1 ≤ v2 then some s else gd (inb (v1 + v2) (sk v0).2) (gd (inb v2 (sk v0).2) (ltb (sL s v0 (v2.toNatClampNeg) (s.2.1 v0 (v1 + v2).toNatClampNeg)) fun s3 => ltb (v2 + 1) fun x5 => k2 x5 s3)))
set_option maxRecDepth 20000 in
set_option maxHeartbeats 2000000 in
theorem t_X12_movesNames_l2b (v0 : Nat) (v1 : Int32) (v2 : Int32) (hv0 : aok 2 v0 = true) (s : HS) {t : HS} (k2 : Int32 → HS → Option HS) (hk2 : ∀ (a2 : Int32) (s : HS), k2 a2 s = some t → Ev DDX12_movesNames miX12_movesNames NF none NF (hp t) 2 NF [(0, .ref v0), (1, .int v1), (2, .int a2)] [] (hp s)) (hf : f_X12_movesNames_l2b v0 v1 v2 k2 s = some t) : Ev DDX12_movesNames miX12_movesNames NF none NF (hp t) 2 NF [(0, .ref v0), (1, .int v1), (2, .int v2)] [] (hp s) := by
  refine e_iload_n dX12_movesNames_2 2 rfl rfl (pc2 := 3) rfl ?_
  refine e_iload_n dX12_movesNames_3 1 rfl rfl (pc2 := 4) rfl ?_
  refine e_icmp_ge (tgt := 21) dX12_movesNames_4 (by decide) (pc2 := 7) rfl (fun c1 => ?_) (fun c1 => ?_)
  · have hf := if_t c1 hf
    cases hf
    exact e_vret rfl dX12_movesNames_21
  · have hf := if_f c1 hf
    refine e_aload_n dX12_movesNames_7 0 rfl rfl (pc2 := 8) rfl ?_
    refine e_iload_n dX12_movesNames_8 2 rfl rfl (pc2 := 9) rfl ?_
    refine e_aload_n dX12_movesNames_9 0 rfl rfl (pc2 := 10) rfl ?_
    refine e_iload_n dX12_movesNames_10 1 rfl rfl (pc2 := 11) rfl ?_
    refine e_iload_n dX12_movesNames_11 2 rfl rfl (pc2 := 12) rfl ?_
    refine e_iadd dX12_movesNames_12 (pc2 := 13) rfl ?_
    obtain ⟨g2, hf⟩ := gd_some hf
    refine e_lald dX12_movesNames_13 (aok_a hv0) (inb_v g2) (pc2 := 14) rfl ?_
    obtain ⟨g4, hf⟩ := gd_some hf
    obtain ⟨s3, es3, hf⟩ := ltb_s hf
    refine e_last dX12_movesNames_14 (aok_a hv0) (inb_v g4) (h2 := hp s3) (by rw [es3]; rfl) (pc2 := 15) rfl ?_
    obtain ⟨x5, ex5, hf⟩ := ltb_s hf
    refine e_iinc dX12_movesNames_15 2 rfl (c9 := 1) (by decide) ex5.symm (by decide) (ls' := [(0, .ref v0), (1, .int v1), (2, .int x5)]) [1, 2, 0] rfl (pc2 := 18) rfl ?_
    refine e_goto (tgt := 2) dX12_movesNames_18 (by decide) ?_
    exact hk2 x5 s3 hf
def f_X12_movesNames_l2 (v0 : Nat) (v1 : Int32) : Nat → Int32 → HS → Option HS
  | 0, _, _ => none
  | n + 1, v2, s => f_X12_movesNames_l2b v0 v1 v2 (f_X12_movesNames_l2 v0 v1 n)  s
set_option maxRecDepth 20000 in
set_option maxHeartbeats 2000000 in
theorem t_X12_movesNames_l2 (v0 : Nat) (v1 : Int32) (hv0 : aok 2 v0 = true) {t : HS}  : ∀ (n : Nat) (v2 : Int32) (s : HS), f_X12_movesNames_l2 v0 v1 n v2 s = some t → Ev DDX12_movesNames miX12_movesNames NF none NF (hp t) 2 NF [(0, .ref v0), (1, .int v1), (2, .int v2)] [] (hp s) := by
  intro n
  induction n with
  | zero =>
    intro v2 s hf
    have hf : none = some t := hf
    cases hf
  | succ n ih =>
    intro v2 s hf
    exact t_X12_movesNames_l2b v0 v1 v2 hv0 s _ ih  hf
def f_X12_movesNames (v0 : Nat) (v1 : Int32) (s : HS) : Option HS :=
  f_X12_movesNames_l2 v0 v1 FU 0 s
set_option maxRecDepth 20000 in
set_option maxHeartbeats 2000000 in
theorem t_X12_movesNames (v0 : Nat) (hv0 : aok 2 v0 = true) (v1 : Int32) (s : HS) {t : HS} (hf : f_X12_movesNames  v0 v1 s = some t) : Mt DDX12_movesNames miX12_movesNames [.ref v0, .int v1] NF (hp s) none NF (hp t) := by
  refine Mt.of (by decide +kernel) (Nat.le_refl _) (Nat.le_of_ble_eq_true rfl) ?_
  show Ev DDX12_movesNames miX12_movesNames NF none NF (hp t) 0 NF [(0, .ref v0), (1, .int v1)] [] (hp s)
  unfold f_X12_movesNames at hf
  refine e_iconst (x := 0) dX12_movesNames_0 (by decide) (pc2 := 1) rfl ?_
  refine e_istore_n dX12_movesNames_1 rfl (by decide) rfl (ls' := [(0, .ref v0), (1, .int v1), (2, .int 0)]) [1, 2, 0] rfl (pc2 := 2) rfl ?_
  refine t_X12_movesNames_l2 v0 v1 hv0 FU 0 s hf
abbrev DDX12_lays : Nat := 2
def f_X12_lays  (s : HS) : Option HS :=
  bnd (f_X12_moves 103 10 s) fun s2 => bnd (f_X12_movesNames 104 6 s2) fun s4 => bnd (f_X12_movesNames 105 5 s4) fun s6 => bnd (f_X12_movesNames 106 6 s6) fun s8 => bnd (f_X12_moves 107 6 s8) fun s10 => bnd (f_X12_moves 108 5 s10) fun s12 => bnd (f_X12_moves 109 5 s12) fun s14 => bnd (f_X12_moves 110 5 s14) fun s16 => bnd (f_X12_moves 111 5 s16) fun s18 => bnd (f_X12_moves 112 5 s18) fun s20 => bnd (f_X12_moves 113 6 s20) fun s22 => bnd (f_X12_moves 114 6 s22) fun s24 => bnd (f_X12_moves 115 6 s24) fun s26 => bnd (f_X12_moves 116 6 s26) fun s28 => bnd (f_X12_moves 117 18 s28) fun s30 => bnd (f_X12_moves 118 6 s30) fun s32 => bnd (f_X12_moves 119 4 s32) fun s34 => bnd (f_X12_moves 122 1000 s34) fun s36 => ltb (sI s36 120 (0) ((s36.1 120 1) - 1000)) fun s38 => ltb (sI s38 121 (0) ((s38.1 121 1) - 1000)) fun s40 => some s40
set_option maxRecDepth 20000 in
set_option maxHeartbeats 2000000 in
theorem t_X12_lays  (s : HS) {t : HS} (hf : f_X12_lays  s = some t) : Mt DDX12_lays miX12_lays [.ref 101] NF (hp s) none NF (hp t) := by
  refine Mt.of (by decide +kernel) (Nat.le_refl _) (Nat.le_of_ble_eq_true rfl) ?_
  show Ev DDX12_lays miX12_lays NF none NF (hp t) 0 NF [(0, .ref 101)] [] (hp s)
  unfold f_X12_lays at hf
  refine e_aload_n dX12_lays_0 0 rfl rfl (pc2 := 1) rfl ?_
  refine e_getR (r := 103) fl_X12_13 dX12_lays_1 so_101 (rs_101_10 s.2.2) (by decide) (pc2 := 4) rfl ?_
  refine e_bipush (x := 10) dX12_lays_4 (by decide) (pc2 := 6) rfl ?_
  obtain ⟨s2, hy1, hf⟩ := bnd_s hf
  refine e_callSn (t_X12_moves 103 (by decide) 10 s hy1) dX12_lays_6 cs_X12_419 rfl (by decide) (by first | exact Nat.le_of_ble_eq_true rfl | simp [rva_cat, vc_i, vc_r, vc_l, vc_n]) nn0 rfl (pc2 := 9) rfl ?_
  refine e_aload_n dX12_lays_9 0 rfl rfl (pc2 := 10) rfl ?_
  refine e_getR (r := 104) fl_X12_16 dX12_lays_10 so_101 (rs_101_11 s2.2.2) (by decide) (pc2 := 13) rfl ?_
  refine e_bipush (x := 6) dX12_lays_13 (by decide) (pc2 := 15) rfl ?_
  obtain ⟨s4, hy3, hf⟩ := bnd_s hf
  refine e_callSn (t_X12_movesNames 104 (by decide) 6 s2 hy3) dX12_lays_15 cs_X12_423 rfl (by decide) (by first | exact Nat.le_of_ble_eq_true rfl | simp [rva_cat, vc_i, vc_r, vc_l, vc_n]) nn0 rfl (pc2 := 18) rfl ?_
  refine e_aload_n dX12_lays_18 0 rfl rfl (pc2 := 19) rfl ?_
  refine e_getR (r := 105) fl_X12_20 dX12_lays_19 so_101 (rs_101_12 s4.2.2) (by decide) (pc2 := 22) rfl ?_
  refine e_iconst (x := 5) dX12_lays_22 (by decide) (pc2 := 23) rfl ?_
  obtain ⟨s6, hy5, hf⟩ := bnd_s hf
  refine e_callSn (t_X12_movesNames 105 (by decide) 5 s4 hy5) dX12_lays_23 cs_X12_423 rfl (by decide) (by first | exact Nat.le_of_ble_eq_true rfl | simp [rva_cat, vc_i, vc_r, vc_l, vc_n]) nn0 rfl (pc2 := 26) rfl ?_
  refine e_aload_n dX12_lays_26 0 rfl rfl (pc2 := 27) rfl ?_
  refine e_getR (r := 106) fl_X12_23 dX12_lays_27 so_101 (rs_101_13 s6.2.2) (by decide) (pc2 := 30) rfl ?_
  refine e_bipush (x := 6) dX12_lays_30 (by decide) (pc2 := 32) rfl ?_
  obtain ⟨s8, hy7, hf⟩ := bnd_s hf
  refine e_callSn (t_X12_movesNames 106 (by decide) 6 s6 hy7) dX12_lays_32 cs_X12_423 rfl (by decide) (by first | exact Nat.le_of_ble_eq_true rfl | simp [rva_cat, vc_i, vc_r, vc_l, vc_n]) nn0 rfl (pc2 := 35) rfl ?_
  refine e_aload_n dX12_lays_35 0 rfl rfl (pc2 := 36) rfl ?_
  refine e_getR (r := 107) fl_X12_26 dX12_lays_36 so_101 (rs_101_14 s8.2.2) (by decide) (pc2 := 39) rfl ?_
  refine e_bipush (x := 6) dX12_lays_39 (by decide) (pc2 := 41) rfl ?_
  obtain ⟨s10, hy9, hf⟩ := bnd_s hf
  refine e_callSn (t_X12_moves 107 (by decide) 6 s8 hy9) dX12_lays_41 cs_X12_419 rfl (by decide) (by first | exact Nat.le_of_ble_eq_true rfl | simp [rva_cat, vc_i, vc_r, vc_l, vc_n]) nn0 rfl (pc2 := 44) rfl ?_
  refine e_aload_n dX12_lays_44 0 rfl rfl (pc2 := 45) rfl ?_
  refine e_getR (r := 108) fl_X12_29 dX12_lays_45 so_101 (rs_101_15 s10.2.2) (by decide) (pc2 := 48) rfl ?_
  refine e_iconst (x := 5) dX12_lays_48 (by decide) (pc2 := 49) rfl ?_
  obtain ⟨s12, hy11, hf⟩ := bnd_s hf
  refine e_callSn (t_X12_moves 108 (by decide) 5 s10 hy11) dX12_lays_49 cs_X12_419 rfl (by decide) (by first | exact Nat.le_of_ble_eq_true rfl | simp [rva_cat, vc_i, vc_r, vc_l, vc_n]) nn0 rfl (pc2 := 52) rfl ?_
  refine e_aload_n dX12_lays_52 0 rfl rfl (pc2 := 53) rfl ?_
  refine e_getR (r := 109) fl_X12_32 dX12_lays_53 so_101 (rs_101_16 s12.2.2) (by decide) (pc2 := 56) rfl ?_
  refine e_iconst (x := 5) dX12_lays_56 (by decide) (pc2 := 57) rfl ?_
  obtain ⟨s14, hy13, hf⟩ := bnd_s hf
  refine e_callSn (t_X12_moves 109 (by decide) 5 s12 hy13) dX12_lays_57 cs_X12_419 rfl (by decide) (by first | exact Nat.le_of_ble_eq_true rfl | simp [rva_cat, vc_i, vc_r, vc_l, vc_n]) nn0 rfl (pc2 := 60) rfl ?_
  refine e_aload_n dX12_lays_60 0 rfl rfl (pc2 := 61) rfl ?_
  refine e_getR (r := 110) fl_X12_35 dX12_lays_61 so_101 (rs_101_17 s14.2.2) (by decide) (pc2 := 64) rfl ?_
  refine e_iconst (x := 5) dX12_lays_64 (by decide) (pc2 := 65) rfl ?_
  obtain ⟨s16, hy15, hf⟩ := bnd_s hf
  refine e_callSn (t_X12_moves 110 (by decide) 5 s14 hy15) dX12_lays_65 cs_X12_419 rfl (by decide) (by first | exact Nat.le_of_ble_eq_true rfl | simp [rva_cat, vc_i, vc_r, vc_l, vc_n]) nn0 rfl (pc2 := 68) rfl ?_
  refine e_aload_n dX12_lays_68 0 rfl rfl (pc2 := 69) rfl ?_
  refine e_getR (r := 111) fl_X12_38 dX12_lays_69 so_101 (rs_101_18 s16.2.2) (by decide) (pc2 := 72) rfl ?_
  refine e_iconst (x := 5) dX12_lays_72 (by decide) (pc2 := 73) rfl ?_
  obtain ⟨s18, hy17, hf⟩ := bnd_s hf
  refine e_callSn (t_X12_moves 111 (by decide) 5 s16 hy17) dX12_lays_73 cs_X12_419 rfl (by decide) (by first | exact Nat.le_of_ble_eq_true rfl | simp [rva_cat, vc_i, vc_r, vc_l, vc_n]) nn0 rfl (pc2 := 76) rfl ?_
  refine e_aload_n dX12_lays_76 0 rfl rfl (pc2 := 77) rfl ?_
  refine e_getR (r := 112) fl_X12_41 dX12_lays_77 so_101 (rs_101_19 s18.2.2) (by decide) (pc2 := 80) rfl ?_
  refine e_iconst (x := 5) dX12_lays_80 (by decide) (pc2 := 81) rfl ?_
  obtain ⟨s20, hy19, hf⟩ := bnd_s hf
  refine e_callSn (t_X12_moves 112 (by decide) 5 s18 hy19) dX12_lays_81 cs_X12_419 rfl (by decide) (by first | exact Nat.le_of_ble_eq_true rfl | simp [rva_cat, vc_i, vc_r, vc_l, vc_n]) nn0 rfl (pc2 := 84) rfl ?_
  refine e_aload_n dX12_lays_84 0 rfl rfl (pc2 := 85) rfl ?_
  refine e_getR (r := 113) fl_X12_44 dX12_lays_85 so_101 (rs_101_20 s20.2.2) (by decide) (pc2 := 88) rfl ?_
  refine e_bipush (x := 6) dX12_lays_88 (by decide) (pc2 := 90) rfl ?_
  obtain ⟨s22, hy21, hf⟩ := bnd_s hf
  refine e_callSn (t_X12_moves 113 (by decide) 6 s20 hy21) dX12_lays_90 cs_X12_419 rfl (by decide) (by first | exact Nat.le_of_ble_eq_true rfl | simp [rva_cat, vc_i, vc_r, vc_l, vc_n]) nn0 rfl (pc2 := 93) rfl ?_
  refine e_aload_n dX12_lays_93 0 rfl rfl (pc2 := 94) rfl ?_
  refine e_getR (r := 114) fl_X12_47 dX12_lays_94 so_101 (rs_101_21 s22.2.2) (by decide) (pc2 := 97) rfl ?_
  refine e_bipush (x := 6) dX12_lays_97 (by decide) (pc2 := 99) rfl ?_
  obtain ⟨s24, hy23, hf⟩ := bnd_s hf
  refine e_callSn (t_X12_moves 114 (by decide) 6 s22 hy23) dX12_lays_99 cs_X12_419 rfl (by decide) (by first | exact Nat.le_of_ble_eq_true rfl | simp [rva_cat, vc_i, vc_r, vc_l, vc_n]) nn0 rfl (pc2 := 102) rfl ?_
  refine e_aload_n dX12_lays_102 0 rfl rfl (pc2 := 103) rfl ?_
  refine e_getR (r := 115) fl_X12_50 dX12_lays_103 so_101 (rs_101_22 s24.2.2) (by decide) (pc2 := 106) rfl ?_
  refine e_bipush (x := 6) dX12_lays_106 (by decide) (pc2 := 108) rfl ?_
  obtain ⟨s26, hy25, hf⟩ := bnd_s hf
  refine e_callSn (t_X12_moves 115 (by decide) 6 s24 hy25) dX12_lays_108 cs_X12_419 rfl (by decide) (by first | exact Nat.le_of_ble_eq_true rfl | simp [rva_cat, vc_i, vc_r, vc_l, vc_n]) nn0 rfl (pc2 := 111) rfl ?_
  refine e_aload_n dX12_lays_111 0 rfl rfl (pc2 := 112) rfl ?_
  refine e_getR (r := 116) fl_X12_53 dX12_lays_112 so_101 (rs_101_23 s26.2.2) (by decide) (pc2 := 115) rfl ?_
  refine e_bipush (x := 6) dX12_lays_115 (by decide) (pc2 := 117) rfl ?_
  obtain ⟨s28, hy27, hf⟩ := bnd_s hf
  refine e_callSn (t_X12_moves 116 (by decide) 6 s26 hy27) dX12_lays_117 cs_X12_419 rfl (by decide) (by first | exact Nat.le_of_ble_eq_true rfl | simp [rva_cat, vc_i, vc_r, vc_l, vc_n]) nn0 rfl (pc2 := 120) rfl ?_
  refine e_aload_n dX12_lays_120 0 rfl rfl (pc2 := 121) rfl ?_
  refine e_getR (r := 117) fl_X12_56 dX12_lays_121 so_101 (rs_101_24 s28.2.2) (by decide) (pc2 := 124) rfl ?_
  refine e_bipush (x := 18) dX12_lays_124 (by decide) (pc2 := 126) rfl ?_
  obtain ⟨s30, hy29, hf⟩ := bnd_s hf
  refine e_callSn (t_X12_moves 117 (by decide) 18 s28 hy29) dX12_lays_126 cs_X12_419 rfl (by decide) (by first | exact Nat.le_of_ble_eq_true rfl | simp [rva_cat, vc_i, vc_r, vc_l, vc_n]) nn0 rfl (pc2 := 129) rfl ?_
  refine e_aload_n dX12_lays_129 0 rfl rfl (pc2 := 130) rfl ?_
  refine e_getR (r := 118) fl_X12_59 dX12_lays_130 so_101 (rs_101_25 s30.2.2) (by decide) (pc2 := 133) rfl ?_
  refine e_bipush (x := 6) dX12_lays_133 (by decide) (pc2 := 135) rfl ?_
  obtain ⟨s32, hy31, hf⟩ := bnd_s hf
  refine e_callSn (t_X12_moves 118 (by decide) 6 s30 hy31) dX12_lays_135 cs_X12_419 rfl (by decide) (by first | exact Nat.le_of_ble_eq_true rfl | simp [rva_cat, vc_i, vc_r, vc_l, vc_n]) nn0 rfl (pc2 := 138) rfl ?_
  refine e_aload_n dX12_lays_138 0 rfl rfl (pc2 := 139) rfl ?_
  refine e_getR (r := 119) fl_X12_62 dX12_lays_139 so_101 (rs_101_26 s32.2.2) (by decide) (pc2 := 142) rfl ?_
  refine e_iconst (x := 4) dX12_lays_142 (by decide) (pc2 := 143) rfl ?_
  obtain ⟨s34, hy33, hf⟩ := bnd_s hf
  refine e_callSn (t_X12_moves 119 (by decide) 4 s32 hy33) dX12_lays_143 cs_X12_419 rfl (by decide) (by first | exact Nat.le_of_ble_eq_true rfl | simp [rva_cat, vc_i, vc_r, vc_l, vc_n]) nn0 rfl (pc2 := 146) rfl ?_
  refine e_aload_n dX12_lays_146 0 rfl rfl (pc2 := 147) rfl ?_
  refine e_getR (r := 122) fl_X12_71 dX12_lays_147 so_101 (rs_101_29 s34.2.2) (by decide) (pc2 := 150) rfl ?_
  refine e_sipush (x := 1000) dX12_lays_150 (by decide) (pc2 := 153) rfl ?_
  obtain ⟨s36, hy35, hf⟩ := bnd_s hf
  refine e_callSn (t_X12_moves 122 (by decide) 1000 s34 hy35) dX12_lays_153 cs_X12_419 rfl (by decide) (by first | exact Nat.le_of_ble_eq_true rfl | simp [rva_cat, vc_i, vc_r, vc_l, vc_n]) nn0 rfl (pc2 := 156) rfl ?_
  refine e_aload_n dX12_lays_156 0 rfl rfl (pc2 := 157) rfl ?_
  refine e_getR (r := 120) fl_X12_65 dX12_lays_157 so_101 (rs_101_27 s36.2.2) (by decide) (pc2 := 160) rfl ?_
  refine e_iconst (x := 0) dX12_lays_160 (by decide) (pc2 := 161) rfl ?_
  refine e_aload_n dX12_lays_161 0 rfl rfl (pc2 := 162) rfl ?_
  refine e_getR (r := 120) fl_X12_65 dX12_lays_162 so_101 (rs_101_27 s36.2.2) (by decide) (pc2 := 165) rfl ?_
  refine e_iconst (x := 1) dX12_lays_165 (by decide) (pc2 := 166) rfl ?_
  refine e_iald dX12_lays_166 sa_120 (inb_v (by decide)) (pc2 := 167) rfl ?_
  refine e_sipush (x := 1000) dX12_lays_167 (by decide) (pc2 := 170) rfl ?_
  refine e_isub dX12_lays_170 (pc2 := 171) rfl ?_
  obtain ⟨s38, es38, hf⟩ := ltb_s hf
  refine e_iast dX12_lays_171 sa_120 (inb_v (by decide)) (h2 := hp s38) (by rw [es38]; rfl) (pc2 := 172) rfl ?_
  refine e_aload_n dX12_lays_172 0 rfl rfl (pc2 := 173) rfl ?_
  refine e_getR (r := 121) fl_X12_68 dX12_lays_173 so_101 (rs_101_28 s38.2.2) (by decide) (pc2 := 176) rfl ?_
  refine e_iconst (x := 0) dX12_lays_176 (by decide) (pc2 := 177) rfl ?_
  refine e_aload_n dX12_lays_177 0 rfl rfl (pc2 := 178) rfl ?_
  refine e_getR (r := 121) fl_X12_68 dX12_lays_178 so_101 (rs_101_28 s38.2.2) (by decide) (pc2 := 181) rfl ?_
  refine e_iconst (x := 1) dX12_lays_181 (by decide) (pc2 := 182) rfl ?_
  refine e_iald dX12_lays_182 sa_121 (inb_v (by decide)) (pc2 := 183) rfl ?_
  refine e_sipush (x := 1000) dX12_lays_183 (by decide) (pc2 := 186) rfl ?_
  refine e_isub dX12_lays_186 (pc2 := 187) rfl ?_
  obtain ⟨s40, es40, hf⟩ := ltb_s hf
  refine e_iast dX12_lays_187 sa_121 (inb_v (by decide)) (h2 := hp s40) (by rw [es40]; rfl) (pc2 := 188) rfl ?_
  cases hf
  exact e_vret rfl dX12_lays_188
abbrev DDX12_copies : Nat := 1
def f_X12_copies_l3b (v0 : Nat) (v1 : Int32) (v2 : Nat) (v3 : Int32) (v4 : Int32) (k3 : Int32 → HS → Option HS) (s : HS) : Option HS :=
  (if 9 ≤ v4 then some s else gd (inb (v1 + v4) (sk v0).2) (gd (inb (v3 + v4) (sk v2).2) (ltb (sI s v2 ((v3 + v4).toNatClampNeg) (s.1 v0 (v1 + v4).toNatClampNeg)) fun s3 => ltb (v4 + 1) fun x5 => k3 x5 s3)))
set_option maxRecDepth 20000 in
set_option maxHeartbeats 2000000 in
theorem t_X12_copies_l3b (v0 : Nat) (v1 : Int32) (v2 : Nat) (v3 : Int32) (v4 : Int32) (hv0 : aok 1 v0 = true) (hv2 : aok 1 v2 = true) (s : HS) {t : HS} (k3 : Int32 → HS → Option HS) (hk3 : ∀ (a4 : Int32) (s : HS), k3 a4 s = some t → Ev DDX12_copies miX12_copies NF none NF (hp t) 3 NF [(0, .ref v0), (1, .int v1), (2, .ref v2), (3, .int v3), (4, .int a4)] [] (hp s)) (hf : f_X12_copies_l3b v0 v1 v2 v3 v4 k3 s = some t) : Ev DDX12_copies miX12_copies NF none NF (hp t) 3 NF [(0, .ref v0), (1, .int v1), (2, .ref v2), (3, .int v3), (4, .int v4)] [] (hp s) := by
  refine e_iload dX12_copies_3 4 rfl (pc2 := 5) rfl ?_
  refine e_bipush (x := 9) dX12_copies_5 (by decide) (pc2 := 7) rfl ?_
  refine e_icmp_ge (tgt := 28) dX12_copies_7 (by decide) (pc2 := 10) rfl (fun c1 => ?_) (fun c1 => ?_)
  · have hf := if_t c1 hf
    cases hf
    exact e_vret rfl dX12_copies_28
  · have hf := if_f c1 hf
    refine e_aload_n dX12_copies_10 2 rfl rfl (pc2 := 11) rfl ?_
    refine e_iload_n dX12_copies_11 3 rfl rfl (pc2 := 12) rfl ?_
    refine e_iload dX12_copies_12 4 rfl (pc2 := 14) rfl ?_
    refine e_iadd dX12_copies_14 (pc2 := 15) rfl ?_
    refine e_aload_n dX12_copies_15 0 rfl rfl (pc2 := 16) rfl ?_
    refine e_iload_n dX12_copies_16 1 rfl rfl (pc2 := 17) rfl ?_
    refine e_iload dX12_copies_17 4 rfl (pc2 := 19) rfl ?_
    refine e_iadd dX12_copies_19 (pc2 := 20) rfl ?_
    obtain ⟨g2, hf⟩ := gd_some hf
    refine e_iald dX12_copies_20 (aok_a hv0) (inb_v g2) (pc2 := 21) rfl ?_
    obtain ⟨g4, hf⟩ := gd_some hf
    obtain ⟨s3, es3, hf⟩ := ltb_s hf
    refine e_iast dX12_copies_21 (aok_a hv2) (inb_v g4) (h2 := hp s3) (by rw [es3]; rfl) (pc2 := 22) rfl ?_
    obtain ⟨x5, ex5, hf⟩ := ltb_s hf
    refine e_iinc dX12_copies_22 4 rfl (c9 := 1) (by decide) ex5.symm (by decide) (ls' := [(0, .ref v0), (1, .int v1), (2, .ref v2), (3, .int v3), (4, .int x5)]) [1, 2, 3, 4, 0] rfl (pc2 := 25) rfl ?_
    refine e_goto (tgt := 3) dX12_copies_25 (by decide) ?_
    exact hk3 x5 s3 hf
def f_X12_copies_l3 (v0 : Nat) (v1 : Int32) (v2 : Nat) (v3 : Int32) : Nat → Int32 → HS → Option HS
  | 0, _, _ => none
  | n + 1, v4, s => f_X12_copies_l3b v0 v1 v2 v3 v4 (f_X12_copies_l3 v0 v1 v2 v3 n)  s
set_option maxRecDepth 20000 in
set_option maxHeartbeats 2000000 in
theorem t_X12_copies_l3 (v0 : Nat) (v1 : Int32) (v2 : Nat) (v3 : Int32) (hv0 : aok 1 v0 = true) (hv2 : aok 1 v2 = true) {t : HS}  : ∀ (n : Nat) (v4 : Int32) (s : HS), f_X12_copies_l3 v0 v1 v2 v3 n v4 s = some t → Ev DDX12_copies miX12_copies NF none NF (hp t) 3 NF [(0, .ref v0), (1, .int v1), (2, .ref v2), (3, .int v3), (4, .int v4)] [] (hp s) := by
  intro n
  induction n with
  | zero =>
    intro v4 s hf
    have hf : none = some t := hf
    cases hf
  | succ n ih =>
    intro v4 s hf
    exact t_X12_copies_l3b v0 v1 v2 v3 v4 hv0 hv2 s _ ih  hf
def f_X12_copies (v0 : Nat) (v1 : Int32) (v2 : Nat) (v3 : Int32) (s : HS) : Option HS :=
  f_X12_copies_l3 v0 v1 v2 v3 FU 0 s
set_option maxRecDepth 20000 in
set_option maxHeartbeats 2000000 in
theorem t_X12_copies (v0 : Nat) (hv0 : aok 1 v0 = true) (v1 : Int32) (v2 : Nat) (hv2 : aok 1 v2 = true) (v3 : Int32) (s : HS) {t : HS} (hf : f_X12_copies  v0 v1 v2 v3 s = some t) : Mt DDX12_copies miX12_copies [.ref v0, .int v1, .ref v2, .int v3] NF (hp s) none NF (hp t) := by
  refine Mt.of (by decide +kernel) (Nat.le_refl _) (Nat.le_of_ble_eq_true rfl) ?_
  show Ev DDX12_copies miX12_copies NF none NF (hp t) 0 NF [(0, .ref v0), (1, .int v1), (2, .ref v2), (3, .int v3)] [] (hp s)
  unfold f_X12_copies at hf
  refine e_iconst (x := 0) dX12_copies_0 (by decide) (pc2 := 1) rfl ?_
  refine e_istore dX12_copies_1 (by decide) rfl (ls' := [(0, .ref v0), (1, .int v1), (2, .ref v2), (3, .int v3), (4, .int 0)]) [1, 2, 3, 4, 0] rfl (pc2 := 3) rfl ?_
  refine t_X12_copies_l3 v0 v1 v2 v3 hv0 hv2 FU 0 s hf
abbrev DDX12_readsLine : Nat := 4
def f_X12_readsLine_j308  (s : HS) : Option (Int32 × HS) :=
  ltb (sI s 135 (5) ((s.1 135 5) + 1)) fun s21 => bnd2 (f_X12_closes s21) fun y22 s23 => gd (isb y22) (some (y22, s23))
set_option maxRecDepth 20000 in
set_option maxHeartbeats 2000000 in
theorem t_X12_readsLine_j308  (s : HS) {x : Int32} {t : HS}  (hf : f_X12_readsLine_j308 s = some (x, t)) : Ev DDX12_readsLine miX12_readsLine NF (some (.int x)) NF (hp t) 308 NF [(0, .ref 101)] [] (hp s) := by
  refine e_aload_n dX12_readsLine_308 0 rfl rfl (pc2 := 309) rfl ?_
  refine e_getR (r := 135) fl_X12_111 dX12_readsLine_309 so_101 (rs_101_45 s.2.2) (by decide) (pc2 := 312) rfl ?_
  refine e_iconst (x := 5) dX12_readsLine_312 (by decide) (pc2 := 313) rfl ?_
  refine e_dup2 dX12_readsLine_313 rfl rfl (pc2 := 314) rfl ?_
  refine e_iald dX12_readsLine_314 sa_135 (inb_v (by decide)) (pc2 := 315) rfl ?_
  refine e_iconst (x := 1) dX12_readsLine_315 (by decide) (pc2 := 316) rfl ?_
  refine e_iadd dX12_readsLine_316 (pc2 := 317) rfl ?_
  obtain ⟨s21, es21, hf⟩ := ltb_s hf
  refine e_iast dX12_readsLine_317 sa_135 (inb_v (by decide)) (h2 := hp s21) (by rw [es21]; rfl) (pc2 := 318) rfl ?_
  refine e_aload_n dX12_readsLine_318 0 rfl rfl (pc2 := 319) rfl ?_
  obtain ⟨y22, s23, hy22, hf⟩ := bnd2_s hf
  refine e_callVs (t_X12_closes  s21 hy22) dX12_readsLine_319 cv_X12_380 rfl so_101 rc_11 (by decide) (by first | exact Nat.le_of_ble_eq_true rfl | simp [rva_cat, vc_i, vc_r, vc_l, vc_n]) nn0 rfl (pc2 := 322) rfl ?_
  obtain ⟨g24, hf⟩ := gd_some hf
  cases hf
  exact e_zret (isb_n g24) rfl dX12_readsLine_322
def f_X12_readsLine_j290 (v2 : Int32) (w0 : Int32) (w1 : Int32) (s : HS) : Option (Int32 × HS) :=
  bnd2 (f_X12_needsNumber w1 w0 s) fun y30 s31 => (if y30 = 0 then some (0, s31) else gd (inb v2 240) (ltb (sI s31 138 (v2.toNatClampNeg) (s31.1 101 44)) fun s33 => f_X12_readsLine_j308 s33))
set_option maxRecDepth 20000 in
set_option maxHeartbeats 2000000 in
theorem t_X12_readsLine_j290 (v2 : Int32) (w0 : Int32) (w1 : Int32) (s : HS) {x : Int32} {t : HS}  (hf : f_X12_readsLine_j290 v2 w0 w1 s = some (x, t)) : Ev DDX12_readsLine miX12_readsLine NF (some (.int x)) NF (hp t) 290 NF [(0, .ref 101), (2, .int v2)] [.int w0, .int w1, .ref 101] (hp s) := by
  obtain ⟨y30, s31, hy30, hf⟩ := bnd2_s hf
  refine e_callVs (t_X12_needsNumber w1 w0 s hy30) dX12_readsLine_290 cv_X12_353 rfl so_101 rc_11 (by decide) (by first | exact Nat.le_of_ble_eq_true rfl | simp [rva_cat, vc_i, vc_r, vc_l, vc_n]) nn0 rfl (pc2 := 293) rfl ?_
  refine e_if_ne (tgt := 298) dX12_readsLine_293 (by decide) (pc2 := 296) rfl (fun c32 => ?_) (fun c32 => ?_)
  · have hf := if_f c32 hf
    refine e_aload_n dX12_readsLine_298 0 rfl rfl (pc2 := 299) rfl ?_
    refine e_getR (r := 138) fl_X12_120 dX12_readsLine_299 so_101 (rs_101_48 s31.2.2) (by decide) (pc2 := 302) rfl ?_
    refine e_iload_n dX12_readsLine_302 1 rfl rfl (pc2 := 303) rfl ?_
    refine e_aload_n dX12_readsLine_303 0 rfl rfl (pc2 := 304) rfl ?_
    refine e_getI fl_X12_347 dX12_readsLine_304 so_101 (by decide) (pc2 := 307) rfl ?_
    obtain ⟨g34, hf⟩ := gd_some hf
    obtain ⟨s33, es33, hf⟩ := ltb_s hf
    refine e_iast dX12_readsLine_307 sa_138 (inb_v g34) (h2 := hp s33) (by rw [es33]; rfl) (pc2 := 308) rfl ?_
    refine ev_sub [0] rfl ?_
    exact t_X12_readsLine_j308 s33 hf
  · have hf := if_t c32 hf
    refine e_iconst (x := 0) dX12_readsLine_296 (by decide) (pc2 := 297) rfl ?_
    cases hf
    exact e_zret (by decide) rfl dX12_readsLine_297
def f_X12_readsLine_j257 (v1 : Int32) (v2 : Int32) (w0 : Int32) (s : HS) : Option (Int32 × HS) :=
  (if v1 = 2 then f_X12_readsLine_j290 v2 900 w0 s else (if v1 = 3 then f_X12_readsLine_j290 v2 200 w0 s else (if v1 = 4 then f_X12_readsLine_j290 v2 2 w0 s else f_X12_readsLine_j290 v2 99 w0 s)))
set_option maxRecDepth 20000 in
set_option maxHeartbeats 2000000 in
theorem t_X12_readsLine_j257 (v1 : Int32) (v2 : Int32) (w0 : Int32) (s : HS) {x : Int32} {t : HS}  (hf : f_X12_readsLine_j257 v1 v2 w0 s = some (x, t)) : Ev DDX12_readsLine miX12_readsLine NF (some (.int x)) NF (hp t) 257 NF [(0, .ref 101), (1, .int v1), (2, .int v2)] [.int w0, .ref 101] (hp s) := by
  refine e_iload_n dX12_readsLine_257 1 rfl rfl (pc2 := 258) rfl ?_
  refine e_iconst (x := 2) dX12_readsLine_258 (by decide) (pc2 := 259) rfl ?_
  refine e_icmp_ne (tgt := 268) dX12_readsLine_259 (by decide) (pc2 := 262) rfl (fun c27 => ?_) (fun c27 => ?_)
  · have hf := if_f c27 hf
    refine e_iload_n dX12_readsLine_268 1 rfl rfl (pc2 := 269) rfl ?_
    refine e_iconst (x := 3) dX12_readsLine_269 (by decide) (pc2 := 270) rfl ?_
    refine e_icmp_ne (tgt := 279) dX12_readsLine_270 (by decide) (pc2 := 273) rfl (fun c28 => ?_) (fun c28 => ?_)
    · have hf := if_f c28 hf
      refine e_iload_n dX12_readsLine_279 1 rfl rfl (pc2 := 280) rfl ?_
      refine e_iconst (x := 4) dX12_readsLine_280 (by decide) (pc2 := 281) rfl ?_
      refine e_icmp_ne (tgt := 288) dX12_readsLine_281 (by decide) (pc2 := 284) rfl (fun c29 => ?_) (fun c29 => ?_)
      · have hf := if_f c29 hf
        refine e_bipush (x := 99) dX12_readsLine_288 (by decide) (pc2 := 290) rfl ?_
        refine ev_sub [0, 2] rfl ?_
        exact t_X12_readsLine_j290 v2 99 w0 s hf
      · have hf := if_t c29 hf
        refine e_iconst (x := 2) dX12_readsLine_284 (by decide) (pc2 := 285) rfl ?_
        refine e_goto (tgt := 290) dX12_readsLine_285 (by decide) ?_
        refine ev_sub [0, 2] rfl ?_
        exact t_X12_readsLine_j290 v2 2 w0 s hf
    · have hf := if_t c28 hf
      refine e_sipush (x := 200) dX12_readsLine_273 (by decide) (pc2 := 276) rfl ?_
      refine e_goto (tgt := 290) dX12_readsLine_276 (by decide) ?_
      refine ev_sub [0, 2] rfl ?_
      exact t_X12_readsLine_j290 v2 200 w0 s hf
  · have hf := if_t c27 hf
    refine e_sipush (x := 900) dX12_readsLine_262 (by decide) (pc2 := 265) rfl ?_
    refine e_goto (tgt := 290) dX12_readsLine_265 (by decide) ?_
    refine ev_sub [0, 2] rfl ?_
    exact t_X12_readsLine_j290 v2 900 w0 s hf
def f_X12_readsLine_j252 (v1 : Int32) (v2 : Int32) (s : HS) : Option (Int32 × HS) :=
  f_X12_readsLine_j257 v1 v2 1 s
set_option maxRecDepth 20000 in
set_option maxHeartbeats 2000000 in
theorem t_X12_readsLine_j252 (v1 : Int32) (v2 : Int32) (s : HS) {x : Int32} {t : HS}  (hf : f_X12_readsLine_j252 v1 v2 s = some (x, t)) : Ev DDX12_readsLine miX12_readsLine NF (some (.int x)) NF (hp t) 252 NF [(0, .ref 101), (1, .int v1), (2, .int v2)] [.ref 101] (hp s) := by
  refine e_iconst (x := 1) dX12_readsLine_252 (by decide) (pc2 := 253) rfl ?_
  refine e_goto (tgt := 257) dX12_readsLine_253 (by decide) ?_
  exact t_X12_readsLine_j257 v1 v2 1 s hf
def f_X12_readsLine_j230 (v1 : Int32) (v2 : Int32) (s : HS) : Option (Int32 × HS) :=
  (if v1 ≤ 1 then f_X12_readsLine_j308 s else (if 6 ≤ v1 then f_X12_readsLine_j308 s else (if v1 = 2 then f_X12_readsLine_j252 v1 v2 s else (if v1 = 4 then f_X12_readsLine_j252 v1 v2 s else f_X12_readsLine_j257 v1 v2 0 s))))
set_option maxRecDepth 20000 in
set_option maxHeartbeats 2000000 in
theorem t_X12_readsLine_j230 (v1 : Int32) (v2 : Int32) (s : HS) {x : Int32} {t : HS}  (hf : f_X12_readsLine_j230 v1 v2 s = some (x, t)) : Ev DDX12_readsLine miX12_readsLine NF (some (.int x)) NF (hp t) 230 NF [(0, .ref 101), (1, .int v1), (2, .int v2)] [] (hp s) := by
  refine e_iload_n dX12_readsLine_230 1 rfl rfl (pc2 := 231) rfl ?_
  refine e_iconst (x := 1) dX12_readsLine_231 (by decide) (pc2 := 232) rfl ?_
  refine e_icmp_le (tgt := 308) dX12_readsLine_232 (by decide) (pc2 := 235) rfl (fun c19 => ?_) (fun c19 => ?_)
  · have hf := if_t c19 hf
    refine ev_sub [0] rfl ?_
    exact t_X12_readsLine_j308 s hf
  · have hf := if_f c19 hf
    refine e_iload_n dX12_readsLine_235 1 rfl rfl (pc2 := 236) rfl ?_
    refine e_bipush (x := 6) dX12_readsLine_236 (by decide) (pc2 := 238) rfl ?_
    refine e_icmp_ge (tgt := 308) dX12_readsLine_238 (by decide) (pc2 := 241) rfl (fun c25 => ?_) (fun c25 => ?_)
    · have hf := if_t c25 hf
      refine ev_sub [0] rfl ?_
      exact t_X12_readsLine_j308 s hf
    · have hf := if_f c25 hf
      refine e_aload_n dX12_readsLine_241 0 rfl rfl (pc2 := 242) rfl ?_
      refine e_iload_n dX12_readsLine_242 1 rfl rfl (pc2 := 243) rfl ?_
      refine e_iconst (x := 2) dX12_readsLine_243 (by decide) (pc2 := 244) rfl ?_
      refine e_icmp_eq (tgt := 252) dX12_readsLine_244 (by decide) (pc2 := 247) rfl (fun c26 => ?_) (fun c26 => ?_)
      · have hf := if_t c26 hf
        exact t_X12_readsLine_j252 v1 v2 s hf
      · have hf := if_f c26 hf
        refine e_iload_n dX12_readsLine_247 1 rfl rfl (pc2 := 248) rfl ?_
        refine e_iconst (x := 4) dX12_readsLine_248 (by decide) (pc2 := 249) rfl ?_
        refine e_icmp_ne (tgt := 256) dX12_readsLine_249 (by decide) (pc2 := 252) rfl (fun c35 => ?_) (fun c35 => ?_)
        · have hf := if_f c35 hf
          refine e_iconst (x := 0) dX12_readsLine_256 (by decide) (pc2 := 257) rfl ?_
          exact t_X12_readsLine_j257 v1 v2 0 s hf
        · have hf := if_t c35 hf
          exact t_X12_readsLine_j252 v1 v2 s hf
def f_X12_readsLine_j100 (w0 : Int32) (s : HS) : Option (Int32 × HS) :=
  (if 0 ≤ w0 then (if (s.1 135 5) = 40 then bnd2 (f_X12_fails 5 s) fun y57 s58 => gd (isb y57) (some (y57, s58)) else bnd (f_X12_nextToken s) fun s12 => ltb (200 + (s12.1 135 5)) fun x14 => gd (inb x14 240) (ltb (sI s12 136 (x14.toNatClampNeg) w0) fun s15 => (if 1 < w0 then (if w0 = 5 then bnd2 (f_X12_needsThing 0 s15) fun y36 s37 => (if y36 = 0 then some (0, s37) else gd (inb x14 240) (ltb (sI s37 137 (x14.toNatClampNeg) (s37.1 101 44)) fun s39 => bnd (f_X12_nextToken s39) fun s42 => f_X12_readsLine_j230 w0 x14 s42)) else f_X12_readsLine_j230 w0 x14 s15) else (if (f_X12_isKept s15) = 0 then bnd (f_X12_buyerNamed 0 s15) fun y44 => gd (inb x14 240) (ltb (sI s15 137 (x14.toNatClampNeg) y44) fun s45 => gd (inb x14 240) ((if 0 ≤ (s45.1 137 x14.toNatClampNeg) then bnd (f_X12_nextToken s45) fun s50 => f_X12_readsLine_j230 w0 x14 s50 else bnd2 (f_X12_fails 2 s45) fun y51 s52 => gd (isb y51) (some (y51, s52))))) else bnd2 (f_X12_fails 1 s15) fun y54 s55 => gd (isb y54) (some (y54, s55)))))) else bnd2 (f_X12_fails 1 s) fun y60 s61 => gd (isb y60) (some (y60, s61)))
set_option maxRecDepth 20000 in
set_option maxHeartbeats 2000000 in
theorem t_X12_readsLine_j100 (w0 : Int32) (s : HS) {x : Int32} {t : HS}  (hf : f_X12_readsLine_j100 w0 s = some (x, t)) : Ev DDX12_readsLine miX12_readsLine NF (some (.int x)) NF (hp t) 100 NF [(0, .ref 101)] [.int w0] (hp s) := by
  refine e_istore_n dX12_readsLine_100 rfl (by decide) rfl (ls' := [(0, .ref 101), (1, .int w0)]) [1, 0] rfl (pc2 := 101) rfl ?_
  refine e_iload_n dX12_readsLine_101 1 rfl rfl (pc2 := 102) rfl ?_
  refine e_if_ge (tgt := 111) dX12_readsLine_102 (by decide) (pc2 := 105) rfl (fun c8 => ?_) (fun c8 => ?_)
  · have hf := if_t c8 hf
    refine e_aload_n dX12_readsLine_111 0 rfl rfl (pc2 := 112) rfl ?_
    refine e_getR (r := 135) fl_X12_111 dX12_readsLine_112 so_101 (rs_101_45 s.2.2) (by decide) (pc2 := 115) rfl ?_
    refine e_iconst (x := 5) dX12_readsLine_115 (by decide) (pc2 := 116) rfl ?_
    refine e_iald dX12_readsLine_116 sa_135 (inb_v (by decide)) (pc2 := 117) rfl ?_
    refine e_bipush (x := 40) dX12_readsLine_117 (by decide) (pc2 := 119) rfl ?_
    refine e_icmp_ne (tgt := 128) dX12_readsLine_119 (by decide) (pc2 := 122) rfl (fun c10 => ?_) (fun c10 => ?_)
    · have hf := if_f c10 hf
      refine e_aload_n dX12_readsLine_128 0 rfl rfl (pc2 := 129) rfl ?_
      obtain ⟨s12, hy11, hf⟩ := bnd_s hf
      refine e_callVn (t_X12_nextToken  s hy11) dX12_readsLine_129 cv_X12_263 rfl so_101 rc_11 (by decide) (by first | exact Nat.le_of_ble_eq_true rfl | simp [rva_cat, vc_i, vc_r, vc_l, vc_n]) nn0 rfl (pc2 := 132) rfl ?_
      refine e_sipush (x := 200) dX12_readsLine_132 (by decide) (pc2 := 135) rfl ?_
      refine e_aload_n dX12_readsLine_135 0 rfl rfl (pc2 := 136) rfl ?_
      refine e_getR (r := 135) fl_X12_111 dX12_readsLine_136 so_101 (rs_101_45 s12.2.2) (by decide) (pc2 := 139) rfl ?_
      refine e_iconst (x := 5) dX12_readsLine_139 (by decide) (pc2 := 140) rfl ?_
      refine e_iald dX12_readsLine_140 sa_135 (inb_v (by decide)) (pc2 := 141) rfl ?_
      refine e_iadd dX12_readsLine_141 (pc2 := 142) rfl ?_
      obtain ⟨x14, ex14, hf⟩ := ltb_s hf
      refine e_istore_n dX12_readsLine_142 rfl (by decide) ex14.symm (ls' := [(0, .ref 101), (1, .int w0), (2, .int x14)]) [1, 2, 0] rfl (pc2 := 143) rfl ?_
      refine e_aload_n dX12_readsLine_143 0 rfl rfl (pc2 := 144) rfl ?_
      refine e_getR (r := 136) fl_X12_114 dX12_readsLine_144 so_101 (rs_101_46 s12.2.2) (by decide) (pc2 := 147) rfl ?_
      refine e_iload_n dX12_readsLine_147 2 rfl rfl (pc2 := 148) rfl ?_
      refine e_iload_n dX12_readsLine_148 1 rfl rfl (pc2 := 149) rfl ?_
      obtain ⟨g16, hf⟩ := gd_some hf
      obtain ⟨s15, es15, hf⟩ := ltb_s hf
      refine e_iast dX12_readsLine_149 sa_136 (inb_v g16) (h2 := hp s15) (by rw [es15]; rfl) (pc2 := 150) rfl ?_
      refine e_iload_n dX12_readsLine_150 1 rfl rfl (pc2 := 151) rfl ?_
      refine e_iconst (x := 1) dX12_readsLine_151 (by decide) (pc2 := 152) rfl ?_
      refine e_icmp_gt (tgt := 201) dX12_readsLine_152 (by decide) (pc2 := 155) rfl (fun c17 => ?_) (fun c17 => ?_)
      · have hf := if_t c17 hf
        refine e_iload_n dX12_readsLine_201 1 rfl rfl (pc2 := 202) rfl ?_
        refine e_iconst (x := 5) dX12_readsLine_202 (by decide) (pc2 := 203) rfl ?_
        refine e_icmp_ne (tgt := 230) dX12_readsLine_203 (by decide) (pc2 := 206) rfl (fun c18 => ?_) (fun c18 => ?_)
        · have hf := if_f c18 hf
          exact t_X12_readsLine_j230 w0 x14 s15 hf
        · have hf := if_t c18 hf
          refine e_aload_n dX12_readsLine_206 0 rfl rfl (pc2 := 207) rfl ?_
          refine e_iconst (x := 0) dX12_readsLine_207 (by decide) (pc2 := 208) rfl ?_
          obtain ⟨y36, s37, hy36, hf⟩ := bnd2_s hf
          refine e_callVs (t_X12_needsThing 0 s15 hy36) dX12_readsLine_208 cv_X12_386 rfl so_101 rc_11 (by decide) (by first | exact Nat.le_of_ble_eq_true rfl | simp [rva_cat, vc_i, vc_r, vc_l, vc_n]) nn0 rfl (pc2 := 211) rfl ?_
          refine e_if_ne (tgt := 216) dX12_readsLine_211 (by decide) (pc2 := 214) rfl (fun c38 => ?_) (fun c38 => ?_)
          · have hf := if_f c38 hf
            refine e_aload_n dX12_readsLine_216 0 rfl rfl (pc2 := 217) rfl ?_
            refine e_getR (r := 137) fl_X12_117 dX12_readsLine_217 so_101 (rs_101_47 s37.2.2) (by decide) (pc2 := 220) rfl ?_
            refine e_iload_n dX12_readsLine_220 2 rfl rfl (pc2 := 221) rfl ?_
            refine e_aload_n dX12_readsLine_221 0 rfl rfl (pc2 := 222) rfl ?_
            refine e_getI fl_X12_347 dX12_readsLine_222 so_101 (by decide) (pc2 := 225) rfl ?_
            obtain ⟨g40, hf⟩ := gd_some hf
            obtain ⟨s39, es39, hf⟩ := ltb_s hf
            refine e_iast dX12_readsLine_225 sa_137 (inb_v g40) (h2 := hp s39) (by rw [es39]; rfl) (pc2 := 226) rfl ?_
            refine e_aload_n dX12_readsLine_226 0 rfl rfl (pc2 := 227) rfl ?_
            obtain ⟨s42, hy41, hf⟩ := bnd_s hf
            refine e_callVn (t_X12_nextToken  s39 hy41) dX12_readsLine_227 cv_X12_263 rfl so_101 rc_11 (by decide) (by first | exact Nat.le_of_ble_eq_true rfl | simp [rva_cat, vc_i, vc_r, vc_l, vc_n]) nn0 rfl (pc2 := 230) rfl ?_
            exact t_X12_readsLine_j230 w0 x14 s42 hf
          · have hf := if_t c38 hf
            refine e_iconst (x := 0) dX12_readsLine_214 (by decide) (pc2 := 215) rfl ?_
            cases hf
            exact e_zret (by decide) rfl dX12_readsLine_215
      · have hf := if_f c17 hf
        refine e_aload_n dX12_readsLine_155 0 rfl rfl (pc2 := 156) rfl ?_
        refine e_callVs (t_X12_isKept  s15 rfl) dX12_readsLine_156 cv_X12_357 rfl so_101 rc_11 (by decide) (by first | exact Nat.le_of_ble_eq_true rfl | simp [rva_cat, vc_i, vc_r, vc_l, vc_n]) nn0 rfl (pc2 := 159) rfl ?_
        refine e_if_eq (tgt := 168) dX12_readsLine_159 (by decide) (pc2 := 162) rfl (fun c43 => ?_) (fun c43 => ?_)
        · have hf := if_t c43 hf
          refine e_aload_n dX12_readsLine_168 0 rfl rfl (pc2 := 169) rfl ?_
          refine e_getR (r := 137) fl_X12_117 dX12_readsLine_169 so_101 (rs_101_47 s15.2.2) (by decide) (pc2 := 172) rfl ?_
          refine e_iload_n dX12_readsLine_172 2 rfl rfl (pc2 := 173) rfl ?_
          refine e_aload_n dX12_readsLine_173 0 rfl rfl (pc2 := 174) rfl ?_
          refine e_iconst (x := 0) dX12_readsLine_174 (by decide) (pc2 := 175) rfl ?_
          obtain ⟨y44, hy44, hf⟩ := bnd_s hf
          refine e_callVs (t_X12_buyerNamed 0 s15 hy44) dX12_readsLine_175 cv_X12_367 rfl so_101 rc_11 (by decide) (by first | exact Nat.le_of_ble_eq_true rfl | simp [rva_cat, vc_i, vc_r, vc_l, vc_n]) nn0 rfl (pc2 := 178) rfl ?_
          obtain ⟨g46, hf⟩ := gd_some hf
          obtain ⟨s45, es45, hf⟩ := ltb_s hf
          refine e_iast dX12_readsLine_178 sa_137 (inb_v g46) (h2 := hp s45) (by rw [es45]; rfl) (pc2 := 179) rfl ?_
          refine e_aload_n dX12_readsLine_179 0 rfl rfl (pc2 := 180) rfl ?_
          refine e_getR (r := 137) fl_X12_117 dX12_readsLine_180 so_101 (rs_101_47 s45.2.2) (by decide) (pc2 := 183) rfl ?_
          refine e_iload_n dX12_readsLine_183 2 rfl rfl (pc2 := 184) rfl ?_
          obtain ⟨g47, hf⟩ := gd_some hf
          refine e_iald dX12_readsLine_184 sa_137 (inb_v g47) (pc2 := 185) rfl ?_
          refine e_if_ge (tgt := 194) dX12_readsLine_185 (by decide) (pc2 := 188) rfl (fun c48 => ?_) (fun c48 => ?_)
          · have hf := if_t c48 hf
            refine e_aload_n dX12_readsLine_194 0 rfl rfl (pc2 := 195) rfl ?_
            obtain ⟨s50, hy49, hf⟩ := bnd_s hf
            refine e_callVn (t_X12_nextToken  s45 hy49) dX12_readsLine_195 cv_X12_263 rfl so_101 rc_11 (by decide) (by first | exact Nat.le_of_ble_eq_true rfl | simp [rva_cat, vc_i, vc_r, vc_l, vc_n]) nn0 rfl (pc2 := 198) rfl ?_
            refine e_goto (tgt := 230) dX12_readsLine_198 (by decide) ?_
            exact t_X12_readsLine_j230 w0 x14 s50 hf
          · have hf := if_f c48 hf
            refine e_aload_n dX12_readsLine_188 0 rfl rfl (pc2 := 189) rfl ?_
            refine e_iconst (x := 2) dX12_readsLine_189 (by decide) (pc2 := 190) rfl ?_
            obtain ⟨y51, s52, hy51, hf⟩ := bnd2_s hf
            refine e_callVs (t_X12_fails 2 s45 hy51) dX12_readsLine_190 cv_X12_257 rfl so_101 rc_11 (by decide) (by first | exact Nat.le_of_ble_eq_true rfl | simp [rva_cat, vc_i, vc_r, vc_l, vc_n]) nn0 rfl (pc2 := 193) rfl ?_
            obtain ⟨g53, hf⟩ := gd_some hf
            cases hf
            exact e_zret (isb_n g53) rfl dX12_readsLine_193
        · have hf := if_f c43 hf
          refine e_aload_n dX12_readsLine_162 0 rfl rfl (pc2 := 163) rfl ?_
          refine e_iconst (x := 1) dX12_readsLine_163 (by decide) (pc2 := 164) rfl ?_
          obtain ⟨y54, s55, hy54, hf⟩ := bnd2_s hf
          refine e_callVs (t_X12_fails 1 s15 hy54) dX12_readsLine_164 cv_X12_257 rfl so_101 rc_11 (by decide) (by first | exact Nat.le_of_ble_eq_true rfl | simp [rva_cat, vc_i, vc_r, vc_l, vc_n]) nn0 rfl (pc2 := 167) rfl ?_
          obtain ⟨g56, hf⟩ := gd_some hf
          cases hf
          exact e_zret (isb_n g56) rfl dX12_readsLine_167
    · have hf := if_t c10 hf
      refine e_aload_n dX12_readsLine_122 0 rfl rfl (pc2 := 123) rfl ?_
      refine e_iconst (x := 5) dX12_readsLine_123 (by decide) (pc2 := 124) rfl ?_
      obtain ⟨y57, s58, hy57, hf⟩ := bnd2_s hf
      refine e_callVs (t_X12_fails 5 s hy57) dX12_readsLine_124 cv_X12_257 rfl so_101 rc_11 (by decide) (by first | exact Nat.le_of_ble_eq_true rfl | simp [rva_cat, vc_i, vc_r, vc_l, vc_n]) nn0 rfl (pc2 := 127) rfl ?_
      obtain ⟨g59, hf⟩ := gd_some hf
      cases hf
      exact e_zret (isb_n g59) rfl dX12_readsLine_127
  · have hf := if_f c8 hf
    refine e_aload_n dX12_readsLine_105 0 rfl rfl (pc2 := 106) rfl ?_
    refine e_iconst (x := 1) dX12_readsLine_106 (by decide) (pc2 := 107) rfl ?_
    obtain ⟨y60, s61, hy60, hf⟩ := bnd2_s hf
    refine e_callVs (t_X12_fails 1 s hy60) dX12_readsLine_107 cv_X12_257 rfl so_101 rc_11 (by decide) (by first | exact Nat.le_of_ble_eq_true rfl | simp [rva_cat, vc_i, vc_r, vc_l, vc_n]) nn0 rfl (pc2 := 110) rfl ?_
    obtain ⟨g62, hf⟩ := gd_some hf
    cases hf
    exact e_zret (isb_n g62) rfl dX12_readsLine_110
def f_X12_readsLine  (s : HS) : Option (Int32 × HS) :=
  (if (f_X12_isWord 11522 s) = 0 then (if (f_X12_isWord 257 s) = 0 then (if (f_X12_isWord 43347 s) = 0 then (if (f_X12_isWord 15809 s) = 0 then (if (f_X12_isWord 12528014 s) = 0 then (if (f_X12_isWord 6257 s) = 0 then (if (f_X12_isWord 13703 s) = 0 then f_X12_readsLine_j100 (-1) s else f_X12_readsLine_j100 6 s) else f_X12_readsLine_j100 5 s) else f_X12_readsLine_j100 4 s) else f_X12_readsLine_j100 3 s) else f_X12_readsLine_j100 2 s) else f_X12_readsLine_j100 1 s) else f_X12_readsLine_j100 0 s)
set_option maxRecDepth 20000 in
set_option maxHeartbeats 2000000 in
theorem t_X12_readsLine  (s : HS) {x : Int32} {t : HS} (hf : f_X12_readsLine  s = some (x, t)) : Mt DDX12_readsLine miX12_readsLine [.ref 101] NF (hp s) (some (.int x)) NF (hp t) := by
  refine Mt.of (by decide +kernel) (Nat.le_refl _) (Nat.le_of_ble_eq_true rfl) ?_
  show Ev DDX12_readsLine miX12_readsLine NF (some (.int x)) NF (hp t) 0 NF [(0, .ref 101)] [] (hp s)
  unfold f_X12_readsLine at hf
  refine e_aload_n dX12_readsLine_0 0 rfl rfl (pc2 := 1) rfl ?_
  refine e_ldc2 dX12_readsLine_1 lk_X12_319 (pc2 := 4) rfl ?_
  refine e_callVs (t_X12_isWord 11522 s rfl) dX12_readsLine_4 cv_X12_249 rfl so_101 rc_11 (by decide) (by first | exact Nat.le_of_ble_eq_true rfl | simp [rva_cat, vc_i, vc_r, vc_l, vc_n]) nn0 rfl (pc2 := 7) rfl ?_
  refine e_if_eq (tgt := 14) dX12_readsLine_7 (by decide) (pc2 := 10) rfl (fun c1 => ?_) (fun c1 => ?_)
  · have hf := if_t c1 hf
    refine e_aload_n dX12_readsLine_14 0 rfl rfl (pc2 := 15) rfl ?_
    refine e_ldc2 dX12_readsLine_15 lk_X12_321 (pc2 := 18) rfl ?_
    refine e_callVs (t_X12_isWord 257 s rfl) dX12_readsLine_18 cv_X12_249 rfl so_101 rc_11 (by decide) (by first | exact Nat.le_of_ble_eq_true rfl | simp [rva_cat, vc_i, vc_r, vc_l, vc_n]) nn0 rfl (pc2 := 21) rfl ?_
    refine e_if_eq (tgt := 28) dX12_readsLine_21 (by decide) (pc2 := 24) rfl (fun c2 => ?_) (fun c2 => ?_)
    · have hf := if_t c2 hf
      refine e_aload_n dX12_readsLine_28 0 rfl rfl (pc2 := 29) rfl ?_
      refine e_ldc2 dX12_readsLine_29 lk_X12_281 (pc2 := 32) rfl ?_
      refine e_callVs (t_X12_isWord 43347 s rfl) dX12_readsLine_32 cv_X12_249 rfl so_101 rc_11 (by decide) (by first | exact Nat.le_of_ble_eq_true rfl | simp [rva_cat, vc_i, vc_r, vc_l, vc_n]) nn0 rfl (pc2 := 35) rfl ?_
      refine e_if_eq (tgt := 42) dX12_readsLine_35 (by decide) (pc2 := 38) rfl (fun c3 => ?_) (fun c3 => ?_)
      · have hf := if_t c3 hf
        refine e_aload_n dX12_readsLine_42 0 rfl rfl (pc2 := 43) rfl ?_
        refine e_ldc2 dX12_readsLine_43 lk_X12_323 (pc2 := 46) rfl ?_
        refine e_callVs (t_X12_isWord 15809 s rfl) dX12_readsLine_46 cv_X12_249 rfl so_101 rc_11 (by decide) (by first | exact Nat.le_of_ble_eq_true rfl | simp [rva_cat, vc_i, vc_r, vc_l, vc_n]) nn0 rfl (pc2 := 49) rfl ?_
        refine e_if_eq (tgt := 56) dX12_readsLine_49 (by decide) (pc2 := 52) rfl (fun c4 => ?_) (fun c4 => ?_)
        · have hf := if_t c4 hf
          refine e_aload_n dX12_readsLine_56 0 rfl rfl (pc2 := 57) rfl ?_
          refine e_ldc2 dX12_readsLine_57 lk_X12_305 (pc2 := 60) rfl ?_
          refine e_callVs (t_X12_isWord 12528014 s rfl) dX12_readsLine_60 cv_X12_249 rfl so_101 rc_11 (by decide) (by first | exact Nat.le_of_ble_eq_true rfl | simp [rva_cat, vc_i, vc_r, vc_l, vc_n]) nn0 rfl (pc2 := 63) rfl ?_
          refine e_if_eq (tgt := 70) dX12_readsLine_63 (by decide) (pc2 := 66) rfl (fun c5 => ?_) (fun c5 => ?_)
          · have hf := if_t c5 hf
            refine e_aload_n dX12_readsLine_70 0 rfl rfl (pc2 := 71) rfl ?_
            refine e_ldc2 dX12_readsLine_71 lk_X12_293 (pc2 := 74) rfl ?_
            refine e_callVs (t_X12_isWord 6257 s rfl) dX12_readsLine_74 cv_X12_249 rfl so_101 rc_11 (by decide) (by first | exact Nat.le_of_ble_eq_true rfl | simp [rva_cat, vc_i, vc_r, vc_l, vc_n]) nn0 rfl (pc2 := 77) rfl ?_
            refine e_if_eq (tgt := 84) dX12_readsLine_77 (by decide) (pc2 := 80) rfl (fun c6 => ?_) (fun c6 => ?_)
            · have hf := if_t c6 hf
              refine e_aload_n dX12_readsLine_84 0 rfl rfl (pc2 := 85) rfl ?_
              refine e_ldc2 dX12_readsLine_85 lk_X12_325 (pc2 := 88) rfl ?_
              refine e_callVs (t_X12_isWord 13703 s rfl) dX12_readsLine_88 cv_X12_249 rfl so_101 rc_11 (by decide) (by first | exact Nat.le_of_ble_eq_true rfl | simp [rva_cat, vc_i, vc_r, vc_l, vc_n]) nn0 rfl (pc2 := 91) rfl ?_
              refine e_if_eq (tgt := 99) dX12_readsLine_91 (by decide) (pc2 := 94) rfl (fun c7 => ?_) (fun c7 => ?_)
              · have hf := if_t c7 hf
                refine e_iconst (x := (-1)) dX12_readsLine_99 (by decide) (pc2 := 100) rfl ?_
                exact t_X12_readsLine_j100 (-1) s hf
              · have hf := if_f c7 hf
                refine e_bipush (x := 6) dX12_readsLine_94 (by decide) (pc2 := 96) rfl ?_
                refine e_goto (tgt := 100) dX12_readsLine_96 (by decide) ?_
                exact t_X12_readsLine_j100 6 s hf
            · have hf := if_f c6 hf
              refine e_iconst (x := 5) dX12_readsLine_80 (by decide) (pc2 := 81) rfl ?_
              refine e_goto (tgt := 100) dX12_readsLine_81 (by decide) ?_
              exact t_X12_readsLine_j100 5 s hf
          · have hf := if_f c5 hf
            refine e_iconst (x := 4) dX12_readsLine_66 (by decide) (pc2 := 67) rfl ?_
            refine e_goto (tgt := 100) dX12_readsLine_67 (by decide) ?_
            exact t_X12_readsLine_j100 4 s hf
        · have hf := if_f c4 hf
          refine e_iconst (x := 3) dX12_readsLine_52 (by decide) (pc2 := 53) rfl ?_
          refine e_goto (tgt := 100) dX12_readsLine_53 (by decide) ?_
          exact t_X12_readsLine_j100 3 s hf
      · have hf := if_f c3 hf
        refine e_iconst (x := 2) dX12_readsLine_38 (by decide) (pc2 := 39) rfl ?_
        refine e_goto (tgt := 100) dX12_readsLine_39 (by decide) ?_
        exact t_X12_readsLine_j100 2 s hf
    · have hf := if_f c2 hf
      refine e_iconst (x := 1) dX12_readsLine_24 (by decide) (pc2 := 25) rfl ?_
      refine e_goto (tgt := 100) dX12_readsLine_25 (by decide) ?_
      exact t_X12_readsLine_j100 1 s hf
  · have hf := if_f c1 hf
    refine e_iconst (x := 0) dX12_readsLine_10 (by decide) (pc2 := 11) rfl ?_
    refine e_goto (tgt := 100) dX12_readsLine_11 (by decide) ?_
    exact t_X12_readsLine_j100 0 s hf
abbrev DDX12_laysLines : Nat := 1
def f_X12_laysLines_l14b (v1 : Int32) (v2 : Int32) (v3 : Int32) (k14 : Int32 → HS → Option HS) (s : HS) : Option HS :=
  (if 40 ≤ v3 then some s else gd (inb ((40 * v1) + v3) 240) (gd (inb ((40 * v2) + v3) 240) (ltb (sI s 136 (((40 * v2) + v3).toNatClampNeg) (s.1 136 ((40 * v1) + v3).toNatClampNeg)) fun s6 => gd (inb ((40 * v1) + v3) 240) (gd (inb ((40 * v2) + v3) 240) (ltb (sI s6 137 (((40 * v2) + v3).toNatClampNeg) (s6.1 137 ((40 * v1) + v3).toNatClampNeg)) fun s9 => gd (inb ((40 * v1) + v3) 240) (gd (inb ((40 * v2) + v3) 240) (ltb (sI s9 138 (((40 * v2) + v3).toNatClampNeg) (s9.1 138 ((40 * v1) + v3).toNatClampNeg)) fun s12 => ltb (v3 + 1) fun x14 => k14 x14 s12)))))))
set_option maxRecDepth 20000 in
set_option maxHeartbeats 2000000 in
theorem t_X12_laysLines_l14b (v1 : Int32) (v2 : Int32) (v3 : Int32) (s : HS) {t : HS} (k14 : Int32 → HS → Option HS) (hk14 : ∀ (a3 : Int32) (s : HS), k14 a3 s = some t → Ev DDX12_laysLines miX12_laysLines NF none NF (hp t) 14 NF [(0, .ref 101), (1, .int v1), (2, .int v2), (3, .int a3)] [] (hp s)) (hf : f_X12_laysLines_l14b v1 v2 v3 k14 s = some t) : Ev DDX12_laysLines miX12_laysLines NF none NF (hp t) 14 NF [(0, .ref 101), (1, .int v1), (2, .int v2), (3, .int v3)] [] (hp s) := by
  refine e_iload_n dX12_laysLines_14 3 rfl rfl (pc2 := 15) rfl ?_
  refine e_bipush (x := 40) dX12_laysLines_15 (by decide) (pc2 := 17) rfl ?_
  refine e_icmp_ge (tgt := 92) dX12_laysLines_17 (by decide) (pc2 := 20) rfl (fun c4 => ?_) (fun c4 => ?_)
  · have hf := if_t c4 hf
    cases hf
    exact e_vret rfl dX12_laysLines_92
  · have hf := if_f c4 hf
    refine e_aload_n dX12_laysLines_20 0 rfl rfl (pc2 := 21) rfl ?_
    refine e_getR (r := 136) fl_X12_114 dX12_laysLines_21 so_101 (rs_101_46 s.2.2) (by decide) (pc2 := 24) rfl ?_
    refine e_bipush (x := 40) dX12_laysLines_24 (by decide) (pc2 := 26) rfl ?_
    refine e_iload_n dX12_laysLines_26 2 rfl rfl (pc2 := 27) rfl ?_
    refine e_imul dX12_laysLines_27 (pc2 := 28) rfl ?_
    refine e_iload_n dX12_laysLines_28 3 rfl rfl (pc2 := 29) rfl ?_
    refine e_iadd dX12_laysLines_29 (pc2 := 30) rfl ?_
    refine e_aload_n dX12_laysLines_30 0 rfl rfl (pc2 := 31) rfl ?_
    refine e_getR (r := 136) fl_X12_114 dX12_laysLines_31 so_101 (rs_101_46 s.2.2) (by decide) (pc2 := 34) rfl ?_
    refine e_bipush (x := 40) dX12_laysLines_34 (by decide) (pc2 := 36) rfl ?_
    refine e_iload_n dX12_laysLines_36 1 rfl rfl (pc2 := 37) rfl ?_
    refine e_imul dX12_laysLines_37 (pc2 := 38) rfl ?_
    refine e_iload_n dX12_laysLines_38 3 rfl rfl (pc2 := 39) rfl ?_
    refine e_iadd dX12_laysLines_39 (pc2 := 40) rfl ?_
    obtain ⟨g5, hf⟩ := gd_some hf
    refine e_iald dX12_laysLines_40 sa_136 (inb_v g5) (pc2 := 41) rfl ?_
    obtain ⟨g7, hf⟩ := gd_some hf
    obtain ⟨s6, es6, hf⟩ := ltb_s hf
    refine e_iast dX12_laysLines_41 sa_136 (inb_v g7) (h2 := hp s6) (by rw [es6]; rfl) (pc2 := 42) rfl ?_
    refine e_aload_n dX12_laysLines_42 0 rfl rfl (pc2 := 43) rfl ?_
    refine e_getR (r := 137) fl_X12_117 dX12_laysLines_43 so_101 (rs_101_47 s6.2.2) (by decide) (pc2 := 46) rfl ?_
    refine e_bipush (x := 40) dX12_laysLines_46 (by decide) (pc2 := 48) rfl ?_
    refine e_iload_n dX12_laysLines_48 2 rfl rfl (pc2 := 49) rfl ?_
    refine e_imul dX12_laysLines_49 (pc2 := 50) rfl ?_
    refine e_iload_n dX12_laysLines_50 3 rfl rfl (pc2 := 51) rfl ?_
    refine e_iadd dX12_laysLines_51 (pc2 := 52) rfl ?_
    refine e_aload_n dX12_laysLines_52 0 rfl rfl (pc2 := 53) rfl ?_
    refine e_getR (r := 137) fl_X12_117 dX12_laysLines_53 so_101 (rs_101_47 s6.2.2) (by decide) (pc2 := 56) rfl ?_
    refine e_bipush (x := 40) dX12_laysLines_56 (by decide) (pc2 := 58) rfl ?_
    refine e_iload_n dX12_laysLines_58 1 rfl rfl (pc2 := 59) rfl ?_
    refine e_imul dX12_laysLines_59 (pc2 := 60) rfl ?_
    refine e_iload_n dX12_laysLines_60 3 rfl rfl (pc2 := 61) rfl ?_
    refine e_iadd dX12_laysLines_61 (pc2 := 62) rfl ?_
    obtain ⟨g8, hf⟩ := gd_some hf
    refine e_iald dX12_laysLines_62 sa_137 (inb_v g8) (pc2 := 63) rfl ?_
    obtain ⟨g10, hf⟩ := gd_some hf
    obtain ⟨s9, es9, hf⟩ := ltb_s hf
    refine e_iast dX12_laysLines_63 sa_137 (inb_v g10) (h2 := hp s9) (by rw [es9]; rfl) (pc2 := 64) rfl ?_
    refine e_aload_n dX12_laysLines_64 0 rfl rfl (pc2 := 65) rfl ?_
    refine e_getR (r := 138) fl_X12_120 dX12_laysLines_65 so_101 (rs_101_48 s9.2.2) (by decide) (pc2 := 68) rfl ?_
    refine e_bipush (x := 40) dX12_laysLines_68 (by decide) (pc2 := 70) rfl ?_
    refine e_iload_n dX12_laysLines_70 2 rfl rfl (pc2 := 71) rfl ?_
    refine e_imul dX12_laysLines_71 (pc2 := 72) rfl ?_
    refine e_iload_n dX12_laysLines_72 3 rfl rfl (pc2 := 73) rfl ?_
    refine e_iadd dX12_laysLines_73 (pc2 := 74) rfl ?_
    refine e_aload_n dX12_laysLines_74 0 rfl rfl (pc2 := 75) rfl ?_
    refine e_getR (r := 138) fl_X12_120 dX12_laysLines_75 so_101 (rs_101_48 s9.2.2) (by decide) (pc2 := 78) rfl ?_
    refine e_bipush (x := 40) dX12_laysLines_78 (by decide) (pc2 := 80) rfl ?_
    refine e_iload_n dX12_laysLines_80 1 rfl rfl (pc2 := 81) rfl ?_
    refine e_imul dX12_laysLines_81 (pc2 := 82) rfl ?_
    refine e_iload_n dX12_laysLines_82 3 rfl rfl (pc2 := 83) rfl ?_
    refine e_iadd dX12_laysLines_83 (pc2 := 84) rfl ?_
    obtain ⟨g11, hf⟩ := gd_some hf
    refine e_iald dX12_laysLines_84 sa_138 (inb_v g11) (pc2 := 85) rfl ?_
    obtain ⟨g13, hf⟩ := gd_some hf
    obtain ⟨s12, es12, hf⟩ := ltb_s hf
    refine e_iast dX12_laysLines_85 sa_138 (inb_v g13) (h2 := hp s12) (by rw [es12]; rfl) (pc2 := 86) rfl ?_
    obtain ⟨x14, ex14, hf⟩ := ltb_s hf
    refine e_iinc dX12_laysLines_86 3 rfl (c9 := 1) (by decide) ex14.symm (by decide) (ls' := [(0, .ref 101), (1, .int v1), (2, .int v2), (3, .int x14)]) [1, 2, 3, 0] rfl (pc2 := 89) rfl ?_
    refine e_goto (tgt := 14) dX12_laysLines_89 (by decide) ?_
    exact hk14 x14 s12 hf
def f_X12_laysLines_l14 (v1 : Int32) (v2 : Int32) : Nat → Int32 → HS → Option HS
  | 0, _, _ => none
  | n + 1, v3, s => f_X12_laysLines_l14b v1 v2 v3 (f_X12_laysLines_l14 v1 v2 n)  s
set_option maxRecDepth 20000 in
set_option maxHeartbeats 2000000 in
theorem t_X12_laysLines_l14 (v1 : Int32) (v2 : Int32) {t : HS}  : ∀ (n : Nat) (v3 : Int32) (s : HS), f_X12_laysLines_l14 v1 v2 n v3 s = some t → Ev DDX12_laysLines miX12_laysLines NF none NF (hp t) 14 NF [(0, .ref 101), (1, .int v1), (2, .int v2), (3, .int v3)] [] (hp s) := by
  intro n
  induction n with
  | zero =>
    intro v3 s hf
    have hf : none = some t := hf
    cases hf
  | succ n ih =>
    intro v3 s hf
    exact t_X12_laysLines_l14b v1 v2 v3  s _ ih  hf
def f_X12_laysLines (v1 : Int32) (v2 : Int32) (s : HS) : Option HS :=
  gd (inb v1 6) (gd (inb v2 6) (ltb (sI s 135 (v2.toNatClampNeg) (s.1 135 v1.toNatClampNeg)) fun s2 => f_X12_laysLines_l14 v1 v2 FU 0 s2))
set_option maxRecDepth 20000 in
set_option maxHeartbeats 2000000 in
theorem t_X12_laysLines (v1 : Int32) (v2 : Int32) (s : HS) {t : HS} (hf : f_X12_laysLines  v1 v2 s = some t) : Mt DDX12_laysLines miX12_laysLines [.ref 101, .int v1, .int v2] NF (hp s) none NF (hp t) := by
  refine Mt.of (by decide +kernel) (Nat.le_refl _) (Nat.le_of_ble_eq_true rfl) ?_
  show Ev DDX12_laysLines miX12_laysLines NF none NF (hp t) 0 NF [(0, .ref 101), (1, .int v1), (2, .int v2)] [] (hp s)
  unfold f_X12_laysLines at hf
  refine e_aload_n dX12_laysLines_0 0 rfl rfl (pc2 := 1) rfl ?_
  refine e_getR (r := 135) fl_X12_111 dX12_laysLines_1 so_101 (rs_101_45 s.2.2) (by decide) (pc2 := 4) rfl ?_
  refine e_iload_n dX12_laysLines_4 2 rfl rfl (pc2 := 5) rfl ?_
  refine e_aload_n dX12_laysLines_5 0 rfl rfl (pc2 := 6) rfl ?_
  refine e_getR (r := 135) fl_X12_111 dX12_laysLines_6 so_101 (rs_101_45 s.2.2) (by decide) (pc2 := 9) rfl ?_
  refine e_iload_n dX12_laysLines_9 1 rfl rfl (pc2 := 10) rfl ?_
  obtain ⟨g1, hf⟩ := gd_some hf
  refine e_iald dX12_laysLines_10 sa_135 (inb_v g1) (pc2 := 11) rfl ?_
  obtain ⟨g3, hf⟩ := gd_some hf
  obtain ⟨s2, es2, hf⟩ := ltb_s hf
  refine e_iast dX12_laysLines_11 sa_135 (inb_v g3) (h2 := hp s2) (by rw [es2]; rfl) (pc2 := 12) rfl ?_
  refine e_iconst (x := 0) dX12_laysLines_12 (by decide) (pc2 := 13) rfl ?_
  refine e_istore_n dX12_laysLines_13 rfl (by decide) rfl (ls' := [(0, .ref 101), (1, .int v1), (2, .int v2), (3, .int 0)]) [1, 2, 3, 0] rfl (pc2 := 14) rfl ?_
  refine t_X12_laysLines_l14 v1 v2 FU 0 s2 hf
