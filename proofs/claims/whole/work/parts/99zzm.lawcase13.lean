/-! The law's case of rests, its rows -/
theorem lg_cmp_rf (x : Int64) : lg_cmp x x = 0 := by
  unfold lg_cmp
  rw [if_neg (by simp [Int64.lt_irrefl]), if_pos rfl]
section LCASE3
variable {Z : ZT} {b L : Nat} {xs : Nat → Int32} {j : Int32} {cc ss : Nat} {u : HS}
set_option maxRecDepth 20000 in
theorem lc_13_rests (hw : WIN j L) (hcs : cc + 1 ≤ room_1.cells ∧ ss + 6 ≤ room_1.slots) (E : RE u) (k : ∀ u', RE u' → Ex room_1 (GW b L xs) Z miL_law 0 (cc + 1) (ss + 6) 1259 NF (LSj j) [] (hp u')) : Ex room_1 (GW b L xs) Z miL_law 0 cc ss 675 NF (LSj j) [] (hp u) := by
  obtain ⟨r, s', x, t', hc, hm, E', d4, h158⟩ := law_restsO E (xs (j + 1).toNatClampNeg) (xs (j + 2).toNatClampNeg)
  have hy : t'.1 101 0 = lrV r := by
    rcases d4 with ⟨rfl, h⟩ | ⟨rfl, h⟩ <;> exact h
  refine x_aload_n dL_law_675 1 rfl rfl (pc2 := 676) rfl ?_
  refine x_aload_n dL_law_676 0 rfl rfl (pc2 := 677) rfl ?_
  refine x_iload dL_law_677 4 rfl (pc2 := 679) rfl ?_
  refine x_iconst (x := 1) dL_law_679 (by decide) (pc2 := 680) rfl ?_
  refine x_iadd dL_law_680 (pc2 := 681) rfl ?_
  refine x_sld dL_law_681 (by decide) (hw 1 (by decide)) rfl (pc2 := 682) rfl ?_
  refine x_aload_n dL_law_682 0 rfl rfl (pc2 := 683) rfl ?_
  refine x_iload dL_law_683 4 rfl (pc2 := 685) rfl ?_
  refine x_iconst (x := 2) dL_law_685 (by decide) (pc2 := 686) rfl ?_
  refine x_iadd dL_law_686 (pc2 := 687) rfl ?_
  refine x_sld dL_law_687 (by decide) (hw 2 (by decide)) rfl (pc2 := 688) rfl ?_
  refine x_aload_n dL_law_688 3 rfl rfl (pc2 := 689) rfl ?_
  refine x_lrest hc rfl dL_law_689 ⟨by decide, by decide⟩ hcs (by decide) rfl rfl (pc2 := 692) rfl ?_
  refine x_istore dL_law_692 (by decide) rfl (ls' := [(0, .ref 500), (1, .ref 1), (2, .ref 101), (3, .ref 158), (4, .int j), (5, .int (lrV r))]) [1, 2, 3, 4, 5, 0] rfl (pc2 := 694) rfl ?_
  refine x_aload_n dL_law_694 2 rfl rfl (pc2 := 695) rfl ?_
  refine x_aload_n dL_law_695 0 rfl rfl (pc2 := 696) rfl ?_
  refine x_iload dL_law_696 4 rfl (pc2 := 698) rfl ?_
  refine x_iconst (x := 1) dL_law_698 (by decide) (pc2 := 699) rfl ?_
  refine x_iadd dL_law_699 (pc2 := 700) rfl ?_
  refine x_sld dL_law_700 (by decide) (hw 1 (by decide)) rfl (pc2 := 701) rfl ?_
  refine x_aload_n dL_law_701 0 rfl rfl (pc2 := 702) rfl ?_
  refine x_iload dL_law_702 4 rfl (pc2 := 704) rfl ?_
  refine x_iconst (x := 2) dL_law_704 (by decide) (pc2 := 705) rfl ?_
  refine x_iadd dL_law_705 (pc2 := 706) rfl ?_
  refine x_sld dL_law_706 (by decide) (hw 2 (by decide)) rfl (pc2 := 707) rfl ?_
  refine x_callVs (t_X12_rests (xs (j + 1).toNatClampNeg) (xs (j + 2).toNatClampNeg) (lrO r s') hm) dL_law_707 cv_L_84 rfl so_101 rc_11 ⟨by decide, by decide⟩ (by first | exact Nat.le_of_ble_eq_true rfl | simp [rva_cat, vc_i, vc_r, vc_l, vc_n]) hcs rfl (pc2 := 710) rfl ?_
  refine x_istore dL_law_710 (by decide) rfl (ls' := [(0, .ref 500), (1, .ref 1), (2, .ref 101), (3, .ref 158), (4, .int j), (5, .int (lrV r)), (6, .int x)]) [1, 2, 3, 4, 5, 6, 0] rfl (pc2 := 712) rfl ?_
  refine x_aload_n dL_law_712 2 rfl rfl (pc2 := 713) rfl ?_
  refine x_callVs (t_X12_thrown t' hy) dL_law_713 cv_L_85 rfl so_101 rc_11 ⟨by decide, by decide⟩ (by first | exact Nat.le_of_ble_eq_true rfl | simp [rva_cat, vc_i, vc_r, vc_l, vc_n]) hcs rfl (pc2 := 716) rfl ?_
  refine x_iload dL_law_716 5 rfl (pc2 := 718) rfl ?_
  refine x_icmp_eq (tgt := 723) dL_law_718 (by decide) (pc2 := 721) rfl (fun _ => ?_) (fun c => absurd rfl c)
  refine x_iload dL_law_723 5 rfl (pc2 := 725) rfl ?_
  have k740 : Ex room_1 (GW b L xs) Z miL_law 0 (cc + 1) (ss + 6) 740 NF [(0, .ref 500), (1, .ref 1), (2, .ref 101), (3, .ref 158), (4, .int j), (5, .int (lrV r)), (6, .int x)] [] (hp t') := by
    refine x_goto (tgt := 1259) dL_law_740 (by decide) ?_
    exact xv_sub (ls' := LSj j) [0, 1, 2, 3, 4] rfl (k t' E')
  refine x_if_ne (tgt := 740) dL_law_725 (by decide) (pc2 := 728) rfl (fun _ => k740) (fun c => ?_)
  have hx : (hp t').2.1 158 (0 : Int32).toNatClampNeg = x.toInt64 := by
    rcases d4 with ⟨rfl, h⟩ | ⟨rfl, h⟩
    · exact absurd c (by decide)
    · show t'.2.1 158 0 = x.toInt64
      rw [h158]
      rfl
  refine x_aload_n dL_law_728 3 rfl rfl (pc2 := 729) rfl ?_
  refine x_iconst (x := 0) dL_law_729 (by decide) (pc2 := 730) rfl ?_
  refine x_lald dL_law_730 sa_158 (inb_v rfl) (pc2 := 731) rfl ?_
  refine x_iload dL_law_731 6 rfl (pc2 := 733) rfl ?_
  refine x_i2l dL_law_733 (pc2 := 734) rfl ?_
  refine x_lcmp dL_law_734 (pc2 := 735) rfl ?_
  refine x_if_eq (tgt := 740) dL_law_735 (by decide) (pc2 := 738) rfl (fun _ => k740) (fun c => absurd ?_ c)
  rw [hx]
  exact lg_cmp_rf _
end LCASE3
