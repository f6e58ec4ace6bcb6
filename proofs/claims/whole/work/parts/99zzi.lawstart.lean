/-! The law's beginning: both objects and the array are made -/
abbrev miL_law : MI := (yL_law, cL_law, 7, ret)
theorem fd_10 : FD 10 := ⟨RX11, TX11, _, tyX11, rfl, tgX11, tyX11_ok, rfl, by decide +kernel, rfl⟩
theorem fd_11 : FD 11 := ⟨RX12, TX12, _, tyX12, rfl, tgX12, tyX12_ok, rfl, by decide +kernel, rfl⟩
theorem ci_L_15 : CI RL 15 yX11_init cX11_init 5 0 := ⟨tgk (by decide +kernel) rfl, Or.inl (tgk (by decide +kernel) rfl), tgk (by decide +kernel) rfl, ⟨by decide +kernel, by decide +kernel, by decide +kernel⟩, by decide, rfl, tgk (by decide +kernel) rfl⟩
theorem ci_L_18 : CI RL 18 yX12_init cX12_init 1 0 := ⟨tgk (by decide +kernel) rfl, Or.inl (tgk (by decide +kernel) rfl), tgk (by decide +kernel) rfl, ⟨by decide +kernel, by decide +kernel, by decide +kernel⟩, by decide, rfl, tgk (by decide +kernel) rfl⟩
set_option maxRecDepth 20000 in
theorem law_start {Z : ZT} {b L : Nat} {xs : Nat → Int32} (k : Ex room_1 (GW b L xs) Z miL_law 0 158 (sl 158) 23 158 [(0, .ref 500), (1, .ref 1), (2, .ref 101), (3, .ref 158), (4, .int 0)] [] (hp s_0)) : Ex room_1 (GW b L xs) Z miL_law 0 0 0 0 0 [(0, .ref 500)] [] H_0 := by
  refine x_new dL_law_0 fd_10 (tgk (by decide +kernel) rfl) (tgk (by decide +kernel) rfl) (tgk (by decide +kernel) rfl) rfl hb_0_0 ⟨by decide, by decide⟩ ⟨by decide, by decide +kernel⟩ (c2 := 1) (s2 := sl 1) (by decide) (by decide +kernel) (by simp [okr]) (by simp [okr]) (pc2 := 3) rfl ?_
  refine x_dup dL_law_3 rfl (pc2 := 4) rfl ?_
  refine x_callI c1_X11_init dL_law_4 ci_L_15 rfl ⟨by decide, by decide⟩ (by decide) ⟨by decide, by decide⟩ ⟨by decide, by decide +kernel⟩ (c2 := 100) (s2 := sl 100) (by decide) (by decide +kernel) (by simp [okr2]) (by simp [okr2]) rfl (pc2 := 7) rfl ?_
  refine x_astore_n dL_law_7 rfl (by decide) rfl (ls' := [(0, .ref 500), (1, .ref 1)]) [1, 0] rfl (pc2 := 8) rfl ?_
  refine x_new dL_law_8 fd_11 (tgk (by decide +kernel) rfl) (tgk (by decide +kernel) rfl) (tgk (by decide +kernel) rfl) rfl hb_138_100 ⟨by decide, by decide⟩ ⟨by decide, by decide +kernel⟩ (c2 := 101) (s2 := sl 101) (by decide) (by decide +kernel) (by simp [okr]) (by simp [okr]) (pc2 := 11) rfl ?_
  refine x_dup dL_law_11 rfl (pc2 := 12) rfl ?_
  refine x_callI c42_X12_init dL_law_12 ci_L_18 rfl ⟨by decide, by decide⟩ (by decide) ⟨by decide, by decide⟩ ⟨by decide, by decide +kernel⟩ (c2 := 157) (s2 := sl 157) (by decide) (by decide +kernel) (by simp [okr2]) (by simp [okr2]) rfl (pc2 := 15) rfl ?_
  refine x_astore_n dL_law_15 rfl (by decide) rfl (ls' := [(0, .ref 500), (1, .ref 1), (2, .ref 101)]) [1, 2, 0] rfl (pc2 := 16) rfl ?_
  refine x_iconst (x := 1) dL_law_16 (by decide) (pc2 := 17) rfl ?_
  refine x_newL (m0 := 1) dL_law_17 (by decide) (by decide) (by decide) (tgk (by decide +kernel) rfl) rfl hb_228_157 ⟨by decide, by decide⟩ ⟨by decide, by decide +kernel⟩ (c2 := 158) (s2 := sl 158) (by decide) (by decide +kernel) (by simp [okr]) (by simp [okr]) (pc2 := 19) rfl ?_
  refine x_astore_n dL_law_19 rfl (by decide) rfl (ls' := [(0, .ref 500), (1, .ref 1), (2, .ref 101), (3, .ref 158)]) [1, 2, 3, 0] rfl (pc2 := 20) rfl ?_
  refine x_iconst (x := 0) dL_law_20 (by decide) (pc2 := 21) rfl ?_
  refine x_istore dL_law_21 (by decide) rfl (ls' := [(0, .ref 500), (1, .ref 1), (2, .ref 101), (3, .ref 158), (4, .int 0)]) [1, 2, 3, 4, 0] rfl (pc2 := 23) rfl ?_
  exact x_agree H_end k
