theorem ev_topI {d : Nat} {μ : MI} {N0 : Nat} {v : Option Value} {N' : Nat} {h' : HP} {pc N : Nat} {ls : List (Nat × Value)} {st : List Value} {h : HP} {x y : Int32} (e : x = y) (k : Ev d μ N0 v N' h' pc N ls (.int y :: st) h) : Ev d μ N0 v N' h' pc N ls (.int x :: st) h := by subst e; exact k
def H_0 : HP := (fun _ _ => 0, fun _ _ => 0, fun _ _ => 0)
theorem hb_0_0 : HB 0 H_0 := ⟨fun _ _ => Nat.zero_le _, fun _ _ _ => ⟨rfl, rfl, rfl⟩⟩
theorem tgo_1 : Cond.instanceMethod Lib.objectInit ∈ TG := TG_t1 33 (by decide +kernel) rfl
theorem tgo_2 : Cond.code Lib.objectInit ⟨#[0xb1]⟩ 1 none ∈ TG := TG_in (by decide +kernel) rfl
theorem hb_0_1 : HB 1 H_0 := hb_0_0.up
theorem hb_0_2 : HB 2 H_0 := hb_0_1.up
theorem hb_0_3 : HB 3 H_0 := hb_0_2.up
def H_1 : HP := uR H_0 2 7 3
theorem hb_1_3 : HB 3 H_1 := hb_0_3.putR (by decide) (by decide)
theorem hb_1_4 : HB 4 H_1 := hb_1_3.up
theorem hb_1_5 : HB 5 H_1 := hb_1_4.up
def H_2 : HP := uR H_1 4 0 5
theorem hb_2_5 : HB 5 H_2 := hb_1_5.putR (by decide) (by decide)
theorem hb_2_6 : HB 6 H_2 := hb_2_5.up
def H_3 : HP := uR H_2 4 2 6
theorem hb_3_6 : HB 6 H_3 := hb_2_6.putR (by decide) (by decide)
def H_4 : HP := uR H_3 2 8 4
theorem hb_4_6 : HB 6 H_4 := hb_3_6.putR (by decide) (by decide)
theorem hb_4_7 : HB 7 H_4 := hb_4_6.up
def H_5 : HP := uR H_4 2 10 7
theorem hb_5_7 : HB 7 H_5 := hb_4_7.putR (by decide) (by decide)
theorem hb_5_8 : HB 8 H_5 := hb_5_7.up
def H_6 : HP := uR H_5 2 11 8
theorem hb_6_8 : HB 8 H_6 := hb_5_8.putR (by decide) (by decide)
theorem hb_6_9 : HB 9 H_6 := hb_6_8.up
def H_7 : HP := uR H_6 2 13 9
theorem hb_7_9 : HB 9 H_7 := hb_6_9.putR (by decide) (by decide)
theorem hb_7_10 : HB 10 H_7 := hb_7_9.up
def H_8 : HP := uR H_7 2 15 10
theorem hb_8_10 : HB 10 H_8 := hb_7_10.putR (by decide) (by decide)
def H_9 : HP := uI H_8 2 0 600
theorem hb_9_10 : HB 10 H_9 := hb_8_10.putI (by decide)
def H_10 : HP := uI H_9 2 1 540
theorem hb_10_10 : HB 10 H_10 := hb_9_10.putI (by decide)
def H_11 : HP := uI H_10 2 2 2
theorem hb_11_10 : HB 10 H_11 := hb_10_10.putI (by decide)
def H_12 : HP := uI H_11 2 3 10
theorem hb_12_10 : HB 10 H_12 := hb_11_10.putI (by decide)
def H_13 : HP := uI H_12 2 4 60
theorem hb_13_10 : HB 10 H_13 := hb_12_10.putI (by decide)
def H_14 : HP := uI H_13 2 5 30
theorem hb_14_10 : HB 10 H_14 := hb_13_10.putI (by decide)
def H_15 : HP := uI H_14 2 6 5
theorem hb_15_10 : HB 10 H_15 := hb_14_10.putI (by decide)
def H_16 : HP := uI H_15 3 0 10
theorem hb_16_10 : HB 10 H_16 := hb_15_10.putI (by decide)
def H_17 : HP := uI H_16 3 1 0
theorem hb_17_10 : HB 10 H_17 := hb_16_10.putI (by decide)
def H_18 : HP := uI H_17 3 2 0
theorem hb_18_10 : HB 10 H_18 := hb_17_10.putI (by decide)
def H_19 : HP := uI H_18 3 3 0
theorem hb_19_10 : HB 10 H_19 := hb_18_10.putI (by decide)
def H_20 : HP := uI H_19 4 1 0
theorem hb_20_10 : HB 10 H_20 := hb_19_10.putI (by decide)
def H_21 : HP := uI H_20 2 9 0
theorem hb_21_10 : HB 10 H_21 := hb_20_10.putI (by decide)
def H_22 : HP := uI H_21 2 12 0
theorem hb_22_10 : HB 10 H_22 := hb_21_10.putI (by decide)
def H_23 : HP := uI H_22 2 14 0
theorem hb_23_10 : HB 10 H_23 := hb_22_10.putI (by decide)
theorem hb_23_11 : HB 11 H_23 := hb_23_10.up
def H_24 : HP := uR H_23 9 0 11
theorem hb_24_11 : HB 11 H_24 := hb_23_11.putR (by decide) (by decide)
theorem hb_24_12 : HB 12 H_24 := hb_24_11.up
def H_25 : HP := uR H_24 9 1 12
theorem hb_25_12 : HB 12 H_25 := hb_24_12.putR (by decide) (by decide)
theorem hb_25_13 : HB 13 H_25 := hb_25_12.up
def H_26 : HP := uR H_25 9 2 13
theorem hb_26_13 : HB 13 H_26 := hb_25_13.putR (by decide) (by decide)
theorem hb_26_14 : HB 14 H_26 := hb_26_13.up
def H_27 : HP := uR H_26 9 3 14
theorem hb_27_14 : HB 14 H_27 := hb_26_14.putR (by decide) (by decide)
theorem hb_27_15 : HB 15 H_27 := hb_27_14.up
def H_28 : HP := uR H_27 9 4 15
theorem hb_28_15 : HB 15 H_28 := hb_27_15.putR (by decide) (by decide)
theorem hb_28_16 : HB 16 H_28 := hb_28_15.up
theorem hb_28_17 : HB 17 H_28 := hb_28_16.up
def H_29 : HP := uR H_28 16 5 17
theorem hb_29_17 : HB 17 H_29 := hb_28_17.putR (by decide) (by decide)
def H_30 : HP := uR H_29 10 0 16
theorem hb_30_17 : HB 17 H_30 := hb_29_17.putR (by decide) (by decide)
theorem hb_30_18 : HB 18 H_30 := hb_30_17.up
theorem hb_30_19 : HB 19 H_30 := hb_30_18.up
def H_31 : HP := uR H_30 18 5 19
theorem hb_31_19 : HB 19 H_31 := hb_30_19.putR (by decide) (by decide)
def H_32 : HP := uR H_31 10 1 18
theorem hb_32_19 : HB 19 H_32 := hb_31_19.putR (by decide) (by decide)
theorem hb_32_20 : HB 20 H_32 := hb_32_19.up
theorem hb_32_21 : HB 21 H_32 := hb_32_20.up
def H_33 : HP := uR H_32 20 5 21
theorem hb_33_21 : HB 21 H_33 := hb_32_21.putR (by decide) (by decide)
def H_34 : HP := uR H_33 10 2 20
theorem hb_34_21 : HB 21 H_34 := hb_33_21.putR (by decide) (by decide)
theorem hb_34_22 : HB 22 H_34 := hb_34_21.up
theorem hb_34_23 : HB 23 H_34 := hb_34_22.up
def H_35 : HP := uR H_34 22 5 23
theorem hb_35_23 : HB 23 H_35 := hb_34_23.putR (by decide) (by decide)
def H_36 : HP := uR H_35 10 3 22
theorem hb_36_23 : HB 23 H_36 := hb_35_23.putR (by decide) (by decide)
theorem hb_36_24 : HB 24 H_36 := hb_36_23.up
theorem hb_36_25 : HB 25 H_36 := hb_36_24.up
def H_37 : HP := uR H_36 24 5 25
theorem hb_37_25 : HB 25 H_37 := hb_36_25.putR (by decide) (by decide)
def H_38 : HP := uR H_37 10 4 24
theorem hb_38_25 : HB 25 H_38 := hb_37_25.putR (by decide) (by decide)
theorem hb_38_26 : HB 26 H_38 := hb_38_25.up
theorem hb_38_27 : HB 27 H_38 := hb_38_26.up
def H_39 : HP := uR H_38 26 5 27
theorem hb_39_27 : HB 27 H_39 := hb_38_27.putR (by decide) (by decide)
def H_40 : HP := uR H_39 10 5 26
theorem hb_40_27 : HB 27 H_40 := hb_39_27.putR (by decide) (by decide)
def H_41 : HP := uR H_40 1 4 2
theorem hb_41_27 : HB 27 H_41 := hb_40_27.putR (by decide) (by decide)
theorem hb_41_28 : HB 28 H_41 := hb_41_27.up
theorem hb_41_29 : HB 29 H_41 := hb_41_28.up
def H_42 : HP := uR H_41 28 4 29
theorem hb_42_29 : HB 29 H_42 := hb_41_29.putR (by decide) (by decide)
theorem hb_42_30 : HB 30 H_42 := hb_42_29.up
def H_43 : HP := uR H_42 28 5 30
theorem hb_43_30 : HB 30 H_43 := hb_42_30.putR (by decide) (by decide)
theorem hb_43_31 : HB 31 H_43 := hb_43_30.up
def H_44 : HP := uR H_43 28 7 31
theorem hb_44_31 : HB 31 H_44 := hb_43_31.putR (by decide) (by decide)
theorem hb_44_32 : HB 32 H_44 := hb_44_31.up
def H_45 : HP := uR H_44 28 9 32
theorem hb_45_32 : HB 32 H_45 := hb_44_32.putR (by decide) (by decide)
def H_46 : HP := uR H_45 1 6 28
theorem hb_46_32 : HB 32 H_46 := hb_45_32.putR (by decide) (by decide)
theorem hb_46_33 : HB 33 H_46 := hb_46_32.up
def H_47 : HP := uR H_46 1 7 33
theorem hb_47_33 : HB 33 H_47 := hb_46_33.putR (by decide) (by decide)
theorem hb_47_34 : HB 34 H_47 := hb_47_33.up
def H_48 : HP := uR H_47 1 9 34
theorem hb_48_34 : HB 34 H_48 := hb_47_34.putR (by decide) (by decide)
theorem hb_48_35 : HB 35 H_48 := hb_48_34.up
def H_49 : HP := uR H_48 1 11 35
theorem hb_49_35 : HB 35 H_49 := hb_48_35.putR (by decide) (by decide)
theorem hb_49_36 : HB 36 H_49 := hb_49_35.up
theorem hb_49_37 : HB 37 H_49 := hb_49_36.up
def H_50 : HP := uR H_49 36 0 37
theorem hb_50_37 : HB 37 H_50 := hb_49_37.putR (by decide) (by decide)
theorem hb_50_38 : HB 38 H_50 := hb_50_37.up
theorem hb_50_39 : HB 39 H_50 := hb_50_38.up
def H_51 : HP := uR H_50 38 7 39
theorem hb_51_39 : HB 39 H_51 := hb_50_39.putR (by decide) (by decide)
theorem hb_51_40 : HB 40 H_51 := hb_51_39.up
theorem hb_51_41 : HB 41 H_51 := hb_51_40.up
def H_52 : HP := uR H_51 40 0 41
theorem hb_52_41 : HB 41 H_52 := hb_51_41.putR (by decide) (by decide)
theorem hb_52_42 : HB 42 H_52 := hb_52_41.up
def H_53 : HP := uR H_52 40 2 42
theorem hb_53_42 : HB 42 H_53 := hb_52_42.putR (by decide) (by decide)
def H_54 : HP := uR H_53 38 8 40
theorem hb_54_42 : HB 42 H_54 := hb_53_42.putR (by decide) (by decide)
theorem hb_54_43 : HB 43 H_54 := hb_54_42.up
def H_55 : HP := uR H_54 38 10 43
theorem hb_55_43 : HB 43 H_55 := hb_54_43.putR (by decide) (by decide)
theorem hb_55_44 : HB 44 H_55 := hb_55_43.up
def H_56 : HP := uR H_55 38 11 44
theorem hb_56_44 : HB 44 H_56 := hb_55_44.putR (by decide) (by decide)
theorem hb_56_45 : HB 45 H_56 := hb_56_44.up
def H_57 : HP := uR H_56 38 13 45
theorem hb_57_45 : HB 45 H_57 := hb_56_45.putR (by decide) (by decide)
theorem hb_57_46 : HB 46 H_57 := hb_57_45.up
def H_58 : HP := uR H_57 38 15 46
theorem hb_58_46 : HB 46 H_58 := hb_57_46.putR (by decide) (by decide)
def H_59 : HP := uI H_58 38 0 600
theorem hb_59_46 : HB 46 H_59 := hb_58_46.putI (by decide)
def H_60 : HP := uI H_59 38 1 540
theorem hb_60_46 : HB 46 H_60 := hb_59_46.putI (by decide)
def H_61 : HP := uI H_60 38 2 2
theorem hb_61_46 : HB 46 H_61 := hb_60_46.putI (by decide)
def H_62 : HP := uI H_61 38 3 10
theorem hb_62_46 : HB 46 H_62 := hb_61_46.putI (by decide)
def H_63 : HP := uI H_62 38 4 60
theorem hb_63_46 : HB 46 H_63 := hb_62_46.putI (by decide)
def H_64 : HP := uI H_63 38 5 30
theorem hb_64_46 : HB 46 H_64 := hb_63_46.putI (by decide)
def H_65 : HP := uI H_64 38 6 5
theorem hb_65_46 : HB 46 H_65 := hb_64_46.putI (by decide)
def H_66 : HP := uI H_65 39 0 10
theorem hb_66_46 : HB 46 H_66 := hb_65_46.putI (by decide)
def H_67 : HP := uI H_66 39 1 0
theorem hb_67_46 : HB 46 H_67 := hb_66_46.putI (by decide)
def H_68 : HP := uI H_67 39 2 0
theorem hb_68_46 : HB 46 H_68 := hb_67_46.putI (by decide)
def H_69 : HP := uI H_68 39 3 0
theorem hb_69_46 : HB 46 H_69 := hb_68_46.putI (by decide)
def H_70 : HP := uI H_69 40 1 0
theorem hb_70_46 : HB 46 H_70 := hb_69_46.putI (by decide)
def H_71 : HP := uI H_70 38 9 0
theorem hb_71_46 : HB 46 H_71 := hb_70_46.putI (by decide)
def H_72 : HP := uI H_71 38 12 0
theorem hb_72_46 : HB 46 H_72 := hb_71_46.putI (by decide)
def H_73 : HP := uI H_72 38 14 0
theorem hb_73_46 : HB 46 H_73 := hb_72_46.putI (by decide)
theorem hb_73_47 : HB 47 H_73 := hb_73_46.up
def H_74 : HP := uR H_73 45 0 47
theorem hb_74_47 : HB 47 H_74 := hb_73_47.putR (by decide) (by decide)
theorem hb_74_48 : HB 48 H_74 := hb_74_47.up
def H_75 : HP := uR H_74 45 1 48
theorem hb_75_48 : HB 48 H_75 := hb_74_48.putR (by decide) (by decide)
theorem hb_75_49 : HB 49 H_75 := hb_75_48.up
def H_76 : HP := uR H_75 45 2 49
theorem hb_76_49 : HB 49 H_76 := hb_75_49.putR (by decide) (by decide)
theorem hb_76_50 : HB 50 H_76 := hb_76_49.up
def H_77 : HP := uR H_76 45 3 50
theorem hb_77_50 : HB 50 H_77 := hb_76_50.putR (by decide) (by decide)
theorem hb_77_51 : HB 51 H_77 := hb_77_50.up
def H_78 : HP := uR H_77 45 4 51
theorem hb_78_51 : HB 51 H_78 := hb_77_51.putR (by decide) (by decide)
theorem hb_78_52 : HB 52 H_78 := hb_78_51.up
theorem hb_78_53 : HB 53 H_78 := hb_78_52.up
def H_79 : HP := uR H_78 52 5 53
theorem hb_79_53 : HB 53 H_79 := hb_78_53.putR (by decide) (by decide)
def H_80 : HP := uR H_79 46 0 52
theorem hb_80_53 : HB 53 H_80 := hb_79_53.putR (by decide) (by decide)
theorem hb_80_54 : HB 54 H_80 := hb_80_53.up
theorem hb_80_55 : HB 55 H_80 := hb_80_54.up
def H_81 : HP := uR H_80 54 5 55
theorem hb_81_55 : HB 55 H_81 := hb_80_55.putR (by decide) (by decide)
def H_82 : HP := uR H_81 46 1 54
theorem hb_82_55 : HB 55 H_82 := hb_81_55.putR (by decide) (by decide)
theorem hb_82_56 : HB 56 H_82 := hb_82_55.up
theorem hb_82_57 : HB 57 H_82 := hb_82_56.up
def H_83 : HP := uR H_82 56 5 57
theorem hb_83_57 : HB 57 H_83 := hb_82_57.putR (by decide) (by decide)
def H_84 : HP := uR H_83 46 2 56
theorem hb_84_57 : HB 57 H_84 := hb_83_57.putR (by decide) (by decide)
theorem hb_84_58 : HB 58 H_84 := hb_84_57.up
theorem hb_84_59 : HB 59 H_84 := hb_84_58.up
def H_85 : HP := uR H_84 58 5 59
theorem hb_85_59 : HB 59 H_85 := hb_84_59.putR (by decide) (by decide)
def H_86 : HP := uR H_85 46 3 58
theorem hb_86_59 : HB 59 H_86 := hb_85_59.putR (by decide) (by decide)
theorem hb_86_60 : HB 60 H_86 := hb_86_59.up
theorem hb_86_61 : HB 61 H_86 := hb_86_60.up
def H_87 : HP := uR H_86 60 5 61
theorem hb_87_61 : HB 61 H_87 := hb_86_61.putR (by decide) (by decide)
def H_88 : HP := uR H_87 46 4 60
theorem hb_88_61 : HB 61 H_88 := hb_87_61.putR (by decide) (by decide)
theorem hb_88_62 : HB 62 H_88 := hb_88_61.up
theorem hb_88_63 : HB 63 H_88 := hb_88_62.up
def H_89 : HP := uR H_88 62 5 63
theorem hb_89_63 : HB 63 H_89 := hb_88_63.putR (by decide) (by decide)
def H_90 : HP := uR H_89 46 5 62
theorem hb_90_63 : HB 63 H_90 := hb_89_63.putR (by decide) (by decide)
theorem hb_90_64 : HB 64 H_90 := hb_90_63.up
theorem hb_90_65 : HB 65 H_90 := hb_90_64.up
def H_91 : HP := uR H_90 64 4 65
theorem hb_91_65 : HB 65 H_91 := hb_90_65.putR (by decide) (by decide)
theorem hb_91_66 : HB 66 H_91 := hb_91_65.up
def H_92 : HP := uR H_91 64 5 66
theorem hb_92_66 : HB 66 H_92 := hb_91_66.putR (by decide) (by decide)
theorem hb_92_67 : HB 67 H_92 := hb_92_66.up
def H_93 : HP := uR H_92 64 7 67
theorem hb_93_67 : HB 67 H_93 := hb_92_67.putR (by decide) (by decide)
theorem hb_93_68 : HB 68 H_93 := hb_93_67.up
def H_94 : HP := uR H_93 64 9 68
theorem hb_94_68 : HB 68 H_94 := hb_93_68.putR (by decide) (by decide)
def H_95 : HP := uI H_94 64 0 0
theorem hb_95_68 : HB 68 H_95 := hb_94_68.putI (by decide)
def H_96 : HP := uI H_95 64 1 540
theorem hb_96_68 : HB 68 H_96 := hb_95_68.putI (by decide)
def H_97 : HP := uI H_96 64 2 0
theorem hb_97_68 : HB 68 H_97 := hb_96_68.putI (by decide)
def H_98 : HP := uI H_97 64 3 2
theorem hb_98_68 : HB 68 H_98 := hb_97_68.putI (by decide)
def H_99 : HP := uR H_98 1 0 36
theorem hb_99_68 : HB 68 H_99 := hb_98_68.putR (by decide) (by decide)
theorem hb_99_69 : HB 69 H_99 := hb_99_68.up
def H_100 : HP := uR H_99 69 0 36
theorem hb_100_69 : HB 69 H_100 := hb_99_69.putR (by decide) (by decide)
theorem hb_100_70 : HB 70 H_100 := hb_100_69.up
def H_101 : HP := uR H_100 70 0 36
theorem hb_101_70 : HB 70 H_101 := hb_100_70.putR (by decide) (by decide)
def H_102 : HP := uR H_101 69 1 70
theorem hb_102_70 : HB 70 H_102 := hb_101_70.putR (by decide) (by decide)
def H_103 : HP := uR H_102 1 1 69
theorem hb_103_70 : HB 70 H_103 := hb_102_70.putR (by decide) (by decide)
theorem hb_103_71 : HB 71 H_103 := hb_103_70.up
theorem hb_103_72 : HB 72 H_103 := hb_103_71.up
def H_104 : HP := uR H_103 71 1 72
theorem hb_104_72 : HB 72 H_104 := hb_103_72.putR (by decide) (by decide)
def H_105 : HP := uR H_104 71 0 36
theorem hb_105_72 : HB 72 H_105 := hb_104_72.putR (by decide) (by decide)
def H_106 : HP := uR H_105 1 2 71
theorem hb_106_72 : HB 72 H_106 := hb_105_72.putR (by decide) (by decide)
def H_107 : HP := uR H_106 1 3 38
theorem hb_107_72 : HB 72 H_107 := hb_106_72.putR (by decide) (by decide)
def H_108 : HP := uR H_107 1 5 64
theorem hb_108_72 : HB 72 H_108 := hb_107_72.putR (by decide) (by decide)
theorem hb_108_73 : HB 73 H_108 := hb_108_72.up
theorem hb_108_74 : HB 74 H_108 := hb_108_73.up
def H_109 : HP := uR H_108 73 8 74
theorem hb_109_74 : HB 74 H_109 := hb_108_74.putR (by decide) (by decide)
theorem hb_109_75 : HB 75 H_109 := hb_109_74.up
def H_110 : HP := uR H_109 73 9 75
theorem hb_110_75 : HB 75 H_110 := hb_109_75.putR (by decide) (by decide)
theorem hb_110_76 : HB 76 H_110 := hb_110_75.up
def H_111 : HP := uR H_110 73 10 76
theorem hb_111_76 : HB 76 H_111 := hb_110_76.putR (by decide) (by decide)
theorem hb_111_77 : HB 77 H_111 := hb_111_76.up
def H_112 : HP := uR H_111 73 11 77
theorem hb_112_77 : HB 77 H_112 := hb_111_77.putR (by decide) (by decide)
theorem hb_112_78 : HB 78 H_112 := hb_112_77.up
def H_113 : HP := uR H_112 73 12 78
theorem hb_113_78 : HB 78 H_113 := hb_112_78.putR (by decide) (by decide)
theorem hb_113_79 : HB 79 H_113 := hb_113_78.up
def H_114 : HP := uR H_113 73 13 79
theorem hb_114_79 : HB 79 H_114 := hb_113_79.putR (by decide) (by decide)
theorem hb_114_80 : HB 80 H_114 := hb_114_79.up
def H_115 : HP := uR H_114 73 14 80
theorem hb_115_80 : HB 80 H_115 := hb_114_80.putR (by decide) (by decide)
def H_116 : HP := uR H_115 73 0 38
theorem hb_116_80 : HB 80 H_116 := hb_115_80.putR (by decide) (by decide)
def H_117 : HP := uR H_116 73 1 64
theorem hb_117_80 : HB 80 H_117 := hb_116_80.putR (by decide) (by decide)
def H_118 : HP := uR H_117 1 8 73
theorem hb_118_80 : HB 80 H_118 := hb_117_80.putR (by decide) (by decide)
theorem hb_118_81 : HB 81 H_118 := hb_118_80.up
theorem hb_118_82 : HB 82 H_118 := hb_118_81.up
def H_119 : HP := uR H_118 81 4 82
theorem hb_119_82 : HB 82 H_119 := hb_118_82.putR (by decide) (by decide)
theorem hb_119_83 : HB 83 H_119 := hb_119_82.up
def H_120 : HP := uR H_119 81 5 83
theorem hb_120_83 : HB 83 H_120 := hb_119_83.putR (by decide) (by decide)
theorem hb_120_84 : HB 84 H_120 := hb_120_83.up
def H_121 : HP := uR H_120 81 7 84
theorem hb_121_84 : HB 84 H_121 := hb_120_84.putR (by decide) (by decide)
theorem hb_121_85 : HB 85 H_121 := hb_121_84.up
def H_122 : HP := uR H_121 81 9 85
theorem hb_122_85 : HB 85 H_122 := hb_121_85.putR (by decide) (by decide)
def H_123 : HP := uR H_122 33 0 81
theorem hb_123_85 : HB 85 H_123 := hb_122_85.putR (by decide) (by decide)
theorem hb_123_86 : HB 86 H_123 := hb_123_85.up
theorem hb_123_87 : HB 87 H_123 := hb_123_86.up
def H_124 : HP := uR H_123 86 4 87
theorem hb_124_87 : HB 87 H_124 := hb_123_87.putR (by decide) (by decide)
theorem hb_124_88 : HB 88 H_124 := hb_124_87.up
def H_125 : HP := uR H_124 86 5 88
theorem hb_125_88 : HB 88 H_125 := hb_124_88.putR (by decide) (by decide)
theorem hb_125_89 : HB 89 H_125 := hb_125_88.up
def H_126 : HP := uR H_125 86 7 89
theorem hb_126_89 : HB 89 H_126 := hb_125_89.putR (by decide) (by decide)
theorem hb_126_90 : HB 90 H_126 := hb_126_89.up
def H_127 : HP := uR H_126 86 9 90
theorem hb_127_90 : HB 90 H_127 := hb_126_90.putR (by decide) (by decide)
def H_128 : HP := uR H_127 33 1 86
theorem hb_128_90 : HB 90 H_128 := hb_127_90.putR (by decide) (by decide)
theorem hb_128_91 : HB 91 H_128 := hb_128_90.up
theorem hb_128_92 : HB 92 H_128 := hb_128_91.up
def H_129 : HP := uR H_128 91 4 92
theorem hb_129_92 : HB 92 H_129 := hb_128_92.putR (by decide) (by decide)
theorem hb_129_93 : HB 93 H_129 := hb_129_92.up
def H_130 : HP := uR H_129 91 5 93
theorem hb_130_93 : HB 93 H_130 := hb_129_93.putR (by decide) (by decide)
theorem hb_130_94 : HB 94 H_130 := hb_130_93.up
def H_131 : HP := uR H_130 91 7 94
theorem hb_131_94 : HB 94 H_131 := hb_130_94.putR (by decide) (by decide)
theorem hb_131_95 : HB 95 H_131 := hb_131_94.up
def H_132 : HP := uR H_131 91 9 95
theorem hb_132_95 : HB 95 H_132 := hb_131_95.putR (by decide) (by decide)
def H_133 : HP := uR H_132 33 2 91
theorem hb_133_95 : HB 95 H_133 := hb_132_95.putR (by decide) (by decide)
theorem hb_133_96 : HB 96 H_133 := hb_133_95.up
theorem hb_133_97 : HB 97 H_133 := hb_133_96.up
def H_134 : HP := uR H_133 96 4 97
theorem hb_134_97 : HB 97 H_134 := hb_133_97.putR (by decide) (by decide)
theorem hb_134_98 : HB 98 H_134 := hb_134_97.up
def H_135 : HP := uR H_134 96 5 98
theorem hb_135_98 : HB 98 H_135 := hb_134_98.putR (by decide) (by decide)
theorem hb_135_99 : HB 99 H_135 := hb_135_98.up
def H_136 : HP := uR H_135 96 7 99
theorem hb_136_99 : HB 99 H_136 := hb_135_99.putR (by decide) (by decide)
theorem hb_136_100 : HB 100 H_136 := hb_136_99.up
def H_137 : HP := uR H_136 96 9 100
theorem hb_137_100 : HB 100 H_137 := hb_136_100.putR (by decide) (by decide)
def H_138 : HP := uR H_137 33 3 96
theorem hb_138_100 : HB 100 H_138 := hb_137_100.putR (by decide) (by decide)
theorem hb_138_101 : HB 101 H_138 := hb_138_100.up
theorem hb_138_102 : HB 102 H_138 := hb_138_101.up
def H_139 : HP := uR H_138 101 2 102
theorem hb_139_102 : HB 102 H_139 := hb_138_102.putR (by decide) (by decide)
theorem hb_139_103 : HB 103 H_139 := hb_139_102.up
def H_140 : HP := uR H_139 101 10 103
theorem hb_140_103 : HB 103 H_140 := hb_139_103.putR (by decide) (by decide)
theorem hb_140_104 : HB 104 H_140 := hb_140_103.up
def H_141 : HP := uR H_140 101 11 104
theorem hb_141_104 : HB 104 H_141 := hb_140_104.putR (by decide) (by decide)
theorem hb_141_105 : HB 105 H_141 := hb_141_104.up
def H_142 : HP := uR H_141 101 12 105
theorem hb_142_105 : HB 105 H_142 := hb_141_105.putR (by decide) (by decide)
theorem hb_142_106 : HB 106 H_142 := hb_142_105.up
def H_143 : HP := uR H_142 101 13 106
theorem hb_143_106 : HB 106 H_143 := hb_142_106.putR (by decide) (by decide)
theorem hb_143_107 : HB 107 H_143 := hb_143_106.up
def H_144 : HP := uR H_143 101 14 107
theorem hb_144_107 : HB 107 H_144 := hb_143_107.putR (by decide) (by decide)
theorem hb_144_108 : HB 108 H_144 := hb_144_107.up
def H_145 : HP := uR H_144 101 15 108
theorem hb_145_108 : HB 108 H_145 := hb_144_108.putR (by decide) (by decide)
theorem hb_145_109 : HB 109 H_145 := hb_145_108.up
def H_146 : HP := uR H_145 101 16 109
theorem hb_146_109 : HB 109 H_146 := hb_145_109.putR (by decide) (by decide)
theorem hb_146_110 : HB 110 H_146 := hb_146_109.up
def H_147 : HP := uR H_146 101 17 110
theorem hb_147_110 : HB 110 H_147 := hb_146_110.putR (by decide) (by decide)
theorem hb_147_111 : HB 111 H_147 := hb_147_110.up
def H_148 : HP := uR H_147 101 18 111
theorem hb_148_111 : HB 111 H_148 := hb_147_111.putR (by decide) (by decide)
theorem hb_148_112 : HB 112 H_148 := hb_148_111.up
def H_149 : HP := uR H_148 101 19 112
theorem hb_149_112 : HB 112 H_149 := hb_148_112.putR (by decide) (by decide)
theorem hb_149_113 : HB 113 H_149 := hb_149_112.up
def H_150 : HP := uR H_149 101 20 113
theorem hb_150_113 : HB 113 H_150 := hb_149_113.putR (by decide) (by decide)
theorem hb_150_114 : HB 114 H_150 := hb_150_113.up
def H_151 : HP := uR H_150 101 21 114
theorem hb_151_114 : HB 114 H_151 := hb_150_114.putR (by decide) (by decide)
theorem hb_151_115 : HB 115 H_151 := hb_151_114.up
def H_152 : HP := uR H_151 101 22 115
theorem hb_152_115 : HB 115 H_152 := hb_151_115.putR (by decide) (by decide)
theorem hb_152_116 : HB 116 H_152 := hb_152_115.up
def H_153 : HP := uR H_152 101 23 116
theorem hb_153_116 : HB 116 H_153 := hb_152_116.putR (by decide) (by decide)
theorem hb_153_117 : HB 117 H_153 := hb_153_116.up
def H_154 : HP := uR H_153 101 24 117
theorem hb_154_117 : HB 117 H_154 := hb_153_117.putR (by decide) (by decide)
theorem hb_154_118 : HB 118 H_154 := hb_154_117.up
def H_155 : HP := uR H_154 101 25 118
theorem hb_155_118 : HB 118 H_155 := hb_154_118.putR (by decide) (by decide)
theorem hb_155_119 : HB 119 H_155 := hb_155_118.up
def H_156 : HP := uR H_155 101 26 119
theorem hb_156_119 : HB 119 H_156 := hb_155_119.putR (by decide) (by decide)
theorem hb_156_120 : HB 120 H_156 := hb_156_119.up
def H_157 : HP := uR H_156 101 27 120
theorem hb_157_120 : HB 120 H_157 := hb_156_120.putR (by decide) (by decide)
theorem hb_157_121 : HB 121 H_157 := hb_157_120.up
def H_158 : HP := uR H_157 101 28 121
theorem hb_158_121 : HB 121 H_158 := hb_157_121.putR (by decide) (by decide)
theorem hb_158_122 : HB 122 H_158 := hb_158_121.up
def H_159 : HP := uR H_158 101 29 122
theorem hb_159_122 : HB 122 H_159 := hb_158_122.putR (by decide) (by decide)
theorem hb_159_123 : HB 123 H_159 := hb_159_122.up
def H_160 : HP := uR H_159 101 32 123
theorem hb_160_123 : HB 123 H_160 := hb_159_123.putR (by decide) (by decide)
theorem hb_160_124 : HB 124 H_160 := hb_160_123.up
def H_161 : HP := uR H_160 101 33 124
theorem hb_161_124 : HB 124 H_161 := hb_160_124.putR (by decide) (by decide)
theorem hb_161_125 : HB 125 H_161 := hb_161_124.up
def H_162 : HP := uR H_161 101 34 125
theorem hb_162_125 : HB 125 H_162 := hb_161_125.putR (by decide) (by decide)
theorem hb_162_126 : HB 126 H_162 := hb_162_125.up
def H_163 : HP := uR H_162 101 35 126
theorem hb_163_126 : HB 126 H_163 := hb_162_126.putR (by decide) (by decide)
theorem hb_163_127 : HB 127 H_163 := hb_163_126.up
def H_164 : HP := uR H_163 101 36 127
theorem hb_164_127 : HB 127 H_164 := hb_163_127.putR (by decide) (by decide)
theorem hb_164_128 : HB 128 H_164 := hb_164_127.up
def H_165 : HP := uR H_164 101 37 128
theorem hb_165_128 : HB 128 H_165 := hb_164_128.putR (by decide) (by decide)
theorem hb_165_129 : HB 129 H_165 := hb_165_128.up
def H_166 : HP := uR H_165 101 38 129
theorem hb_166_129 : HB 129 H_166 := hb_165_129.putR (by decide) (by decide)
theorem hb_166_130 : HB 130 H_166 := hb_166_129.up
def H_167 : HP := uR H_166 101 39 130
theorem hb_167_130 : HB 130 H_167 := hb_166_130.putR (by decide) (by decide)
theorem hb_167_131 : HB 131 H_167 := hb_167_130.up
def H_168 : HP := uR H_167 101 40 131
theorem hb_168_131 : HB 131 H_168 := hb_167_131.putR (by decide) (by decide)
theorem hb_168_132 : HB 132 H_168 := hb_168_131.up
def H_169 : HP := uR H_168 101 41 132
theorem hb_169_132 : HB 132 H_169 := hb_168_132.putR (by decide) (by decide)
theorem hb_169_133 : HB 133 H_169 := hb_169_132.up
def H_170 : HP := uR H_169 101 42 133
theorem hb_170_133 : HB 133 H_170 := hb_169_133.putR (by decide) (by decide)
theorem hb_170_134 : HB 134 H_170 := hb_170_133.up
def H_171 : HP := uR H_170 101 43 134
theorem hb_171_134 : HB 134 H_171 := hb_170_134.putR (by decide) (by decide)
theorem hb_171_135 : HB 135 H_171 := hb_171_134.up
def H_172 : HP := uR H_171 101 45 135
theorem hb_172_135 : HB 135 H_172 := hb_171_135.putR (by decide) (by decide)
theorem hb_172_136 : HB 136 H_172 := hb_172_135.up
def H_173 : HP := uR H_172 101 46 136
theorem hb_173_136 : HB 136 H_173 := hb_172_136.putR (by decide) (by decide)
theorem hb_173_137 : HB 137 H_173 := hb_173_136.up
def H_174 : HP := uR H_173 101 47 137
theorem hb_174_137 : HB 137 H_174 := hb_173_137.putR (by decide) (by decide)
theorem hb_174_138 : HB 138 H_174 := hb_174_137.up
def H_175 : HP := uR H_174 101 48 138
theorem hb_175_138 : HB 138 H_175 := hb_174_138.putR (by decide) (by decide)
theorem hb_175_139 : HB 139 H_175 := hb_175_138.up
def H_176 : HP := uR H_175 101 49 139
theorem hb_176_139 : HB 139 H_176 := hb_175_139.putR (by decide) (by decide)
theorem hb_176_140 : HB 140 H_176 := hb_176_139.up
def H_177 : HP := uR H_176 101 50 140
theorem hb_177_140 : HB 140 H_177 := hb_176_140.putR (by decide) (by decide)
theorem hb_177_141 : HB 141 H_177 := hb_177_140.up
def H_178 : HP := uR H_177 101 51 141
theorem hb_178_141 : HB 141 H_178 := hb_177_141.putR (by decide) (by decide)
theorem hb_178_142 : HB 142 H_178 := hb_178_141.up
def H_179 : HP := uR H_178 101 52 142
theorem hb_179_142 : HB 142 H_179 := hb_178_142.putR (by decide) (by decide)
theorem hb_179_143 : HB 143 H_179 := hb_179_142.up
def H_180 : HP := uR H_179 101 53 143
theorem hb_180_143 : HB 143 H_180 := hb_179_143.putR (by decide) (by decide)
theorem hb_180_144 : HB 144 H_180 := hb_180_143.up
def H_181 : HP := uR H_180 101 54 144
theorem hb_181_144 : HB 144 H_181 := hb_180_144.putR (by decide) (by decide)
theorem hb_181_145 : HB 145 H_181 := hb_181_144.up
def H_182 : HP := uR H_181 101 55 145
theorem hb_182_145 : HB 145 H_182 := hb_181_145.putR (by decide) (by decide)
theorem hb_182_146 : HB 146 H_182 := hb_182_145.up
def H_183 : HP := uR H_182 101 56 146
theorem hb_183_146 : HB 146 H_183 := hb_182_146.putR (by decide) (by decide)
theorem hb_183_147 : HB 147 H_183 := hb_183_146.up
def H_184 : HP := uR H_183 101 57 147
theorem hb_184_147 : HB 147 H_184 := hb_183_147.putR (by decide) (by decide)
theorem hb_184_148 : HB 148 H_184 := hb_184_147.up
def H_185 : HP := uR H_184 101 58 148
theorem hb_185_148 : HB 148 H_185 := hb_184_148.putR (by decide) (by decide)
theorem hb_185_149 : HB 149 H_185 := hb_185_148.up
def H_186 : HP := uR H_185 101 59 149
theorem hb_186_149 : HB 149 H_186 := hb_185_149.putR (by decide) (by decide)
def H_187 : HP := uI H_186 101 62 (-1)
theorem hb_187_149 : HB 149 H_187 := hb_186_149.putI (by decide)
def H_188 : HP := uI H_187 101 64 (-1)
theorem hb_188_149 : HB 149 H_188 := hb_187_149.putI (by decide)
theorem hb_188_150 : HB 150 H_188 := hb_188_149.up
def H_189 : HP := uR H_188 101 67 150
theorem hb_189_150 : HB 150 H_189 := hb_188_150.putR (by decide) (by decide)
theorem hb_189_151 : HB 151 H_189 := hb_189_150.up
def H_190 : HP := uR H_189 101 68 151
theorem hb_190_151 : HB 151 H_190 := hb_189_151.putR (by decide) (by decide)
theorem hb_190_152 : HB 152 H_190 := hb_190_151.up
def H_191 : HP := uR H_190 101 69 152
theorem hb_191_152 : HB 152 H_191 := hb_190_152.putR (by decide) (by decide)
theorem hb_191_153 : HB 153 H_191 := hb_191_152.up
def H_192 : HP := uR H_191 101 70 153
theorem hb_192_153 : HB 153 H_192 := hb_191_153.putR (by decide) (by decide)
theorem hb_192_154 : HB 154 H_192 := hb_192_153.up
def H_193 : HP := uR H_192 101 71 154
theorem hb_193_154 : HB 154 H_193 := hb_192_154.putR (by decide) (by decide)
theorem hb_193_155 : HB 155 H_193 := hb_193_154.up
def H_194 : HP := uR H_193 101 72 155
theorem hb_194_155 : HB 155 H_194 := hb_193_155.putR (by decide) (by decide)
theorem hb_194_156 : HB 156 H_194 := hb_194_155.up
def H_195 : HP := uR H_194 101 73 156
theorem hb_195_156 : HB 156 H_195 := hb_194_156.putR (by decide) (by decide)
theorem hb_195_157 : HB 157 H_195 := hb_195_156.up
def H_196 : HP := uR H_195 101 76 157
theorem hb_196_157 : HB 157 H_196 := hb_195_157.putR (by decide) (by decide)
def H_197 : HP := uI H_196 103 0 0
theorem hb_197_157 : HB 157 H_197 := hb_196_157.putI (by decide)
def H_198 : HP := uI H_197 103 1 0
theorem hb_198_157 : HB 157 H_198 := hb_197_157.putI (by decide)
def H_199 : HP := uI H_198 103 2 0
theorem hb_199_157 : HB 157 H_199 := hb_198_157.putI (by decide)
def H_200 : HP := uI H_199 103 3 0
theorem hb_200_157 : HB 157 H_200 := hb_199_157.putI (by decide)
def H_201 : HP := uI H_200 103 4 0
theorem hb_201_157 : HB 157 H_201 := hb_200_157.putI (by decide)
def H_202 : HP := uI H_201 103 5 0
theorem hb_202_157 : HB 157 H_202 := hb_201_157.putI (by decide)
def H_203 : HP := uI H_202 103 6 0
theorem hb_203_157 : HB 157 H_203 := hb_202_157.putI (by decide)
def H_204 : HP := uI H_203 103 7 0
theorem hb_204_157 : HB 157 H_204 := hb_203_157.putI (by decide)
def H_205 : HP := uI H_204 103 8 0
theorem hb_205_157 : HB 157 H_205 := hb_204_157.putI (by decide)
def H_206 : HP := uI H_205 103 9 0
theorem hb_206_157 : HB 157 H_206 := hb_205_157.putI (by decide)
def H_207 : HP := uI H_206 103 3 600
theorem hb_207_157 : HB 157 H_207 := hb_206_157.putI (by decide)
def H_208 : HP := uI H_207 103 4 540
theorem hb_208_157 : HB 157 H_208 := hb_207_157.putI (by decide)
def H_209 : HP := uI H_208 103 5 2
theorem hb_209_157 : HB 157 H_209 := hb_208_157.putI (by decide)
def H_210 : HP := uI H_209 103 6 10
theorem hb_210_157 : HB 157 H_210 := hb_209_157.putI (by decide)
def H_211 : HP := uI H_210 103 7 60
theorem hb_211_157 : HB 157 H_211 := hb_210_157.putI (by decide)
def H_212 : HP := uI H_211 103 8 30
theorem hb_212_157 : HB 157 H_212 := hb_211_157.putI (by decide)
def H_213 : HP := uI H_212 103 9 5
theorem hb_213_157 : HB 157 H_213 := hb_212_157.putI (by decide)
def H_214 : HP := uI H_213 119 0 10
theorem hb_214_157 : HB 157 H_214 := hb_213_157.putI (by decide)
def H_215 : HP := uI H_214 119 1 0
theorem hb_215_157 : HB 157 H_215 := hb_214_157.putI (by decide)
def H_216 : HP := uI H_215 119 2 0
theorem hb_216_157 : HB 157 H_216 := hb_215_157.putI (by decide)
def H_217 : HP := uI H_216 119 3 0
theorem hb_217_157 : HB 157 H_217 := hb_216_157.putI (by decide)
def H_218 : HP := uI H_217 120 0 0
theorem hb_218_157 : HB 157 H_218 := hb_217_157.putI (by decide)
def H_219 : HP := uI H_218 121 0 0
theorem hb_219_157 : HB 157 H_219 := hb_218_157.putI (by decide)
def H_220 : HP := uI H_219 145 0 0
theorem hb_220_157 : HB 157 H_220 := hb_219_157.putI (by decide)
def H_221 : HP := uI H_220 145 1 540
theorem hb_221_157 : HB 157 H_221 := hb_220_157.putI (by decide)
def H_222 : HP := uI H_221 145 2 0
theorem hb_222_157 : HB 157 H_222 := hb_221_157.putI (by decide)
def H_223 : HP := uI H_222 145 3 2
theorem hb_223_157 : HB 157 H_223 := hb_222_157.putI (by decide)
def H_224 : HP := uI H_223 145 4 0
theorem hb_224_157 : HB 157 H_224 := hb_223_157.putI (by decide)
def H_225 : HP := uI H_224 145 5 0
theorem hb_225_157 : HB 157 H_225 := hb_224_157.putI (by decide)
def H_226 : HP := uI H_225 145 6 0
theorem hb_226_157 : HB 157 H_226 := hb_225_157.putI (by decide)
def H_227 : HP := uI H_226 145 7 0
theorem hb_227_157 : HB 157 H_227 := hb_226_157.putI (by decide)
def H_228 : HP := uI H_227 145 8 0
theorem hb_228_157 : HB 157 H_228 := hb_227_157.putI (by decide)
theorem fd_4 : FD 4 := ⟨RX4, TX4, 16, tyX4, rfl, tgX4, tyX4_ok, rfl, by decide +kernel, rfl⟩
theorem fd_2 : FD 2 := ⟨RX2, TX2, 3, tyX2, rfl, tgX2, tyX2_ok, rfl, by decide +kernel, rfl⟩
theorem fd_9 : FD 9 := ⟨RX9, TX9, 6, tyX9, rfl, tgX9, tyX9_ok, rfl, by decide +kernel, rfl⟩
theorem fd_0 : FD 0 := ⟨RX0, TX0, 8, tyX0, rfl, tgX0, tyX0_ok, rfl, by decide +kernel, rfl⟩
theorem fd_7 : FD 7 := ⟨RX7, TX7, 12, tyX7, rfl, tgX7, tyX7_ok, rfl, by decide +kernel, rfl⟩
theorem fd_8 : FD 8 := ⟨RX8, TX8, 10, tyX8, rfl, tgX8, tyX8_ok, rfl, by decide +kernel, rfl⟩
theorem fd_5 : FD 5 := ⟨RX5, TX5, 3, tyX5, rfl, tgX5, tyX5_ok, rfl, by decide +kernel, rfl⟩
theorem fd_3 : FD 3 := ⟨RX3, TX3, 1, tyX3, rfl, tgX3, tyX3_ok, rfl, by decide +kernel, rfl⟩
theorem fd_1 : FD 1 := ⟨RX1, TX1, 3, tyX1, rfl, tgX1, tyX1_ok, rfl, by decide +kernel, rfl⟩
theorem fd_6 : FD 6 := ⟨RX6, TX6, 17, tyX6, rfl, tgX6, tyX6_ok, rfl, by decide +kernel, rfl⟩
theorem frc_4_7 : FR 4 7 := ⟨_, _, _, (.array .int), rfl, by decide +kernel, fun _ => ⟨rfl, rfl⟩, rfl, rfl⟩
theorem frc_2_0 : FR 2 0 := ⟨_, _, _, (.array .int), rfl, by decide +kernel, fun _ => ⟨rfl, rfl⟩, rfl, rfl⟩
theorem frc_2_2 : FR 2 2 := ⟨_, _, _, (.array .int), rfl, by decide +kernel, fun _ => ⟨rfl, rfl⟩, rfl, rfl⟩
set_option maxRecDepth 100000 in
theorem ci_X4_17 : CI RX4 17 yX2_init cX2_init 1 0 := ⟨TG_t1 45 rfl rfl, Or.inr (by simp [NWL, RX0, RX1, RX2, RX3, RX4, RX5, RX6, RX7, RX8, RX9, RX11, RX12, yX2_init]), TG_t1 3 (by decide +kernel) rfl, ⟨by decide +kernel, by decide +kernel, by decide +kernel⟩, by decide, rfl, TG_t1 44 (by decide +kernel) rfl⟩
theorem frc_4_10 : FR 4 10 := ⟨_, _, _, (.array .long), rfl, by decide +kernel, fun _ => ⟨rfl, rfl⟩, rfl, rfl⟩
theorem frc_4_11 : FR 4 11 := ⟨_, _, _, (.array .int), rfl, by decide +kernel, fun _ => ⟨rfl, rfl⟩, rfl, rfl⟩
theorem frc_4_13 : FR 4 13 := ⟨_, _, _, (.array (.object "TeaJunction$Thing")), rfl, by decide +kernel, fun _ => ⟨rfl, rfl⟩, rfl, rfl⟩
theorem frc_4_15 : FR 4 15 := ⟨_, _, _, (.array (.object "TeaJunction$Buyer")), rfl, by decide +kernel, fun _ => ⟨rfl, rfl⟩, rfl, rfl⟩
set_option maxRecDepth 100000 in
theorem ci_X4_44 : CI RX4 44 yX9_init cX9_init 1 0 := ⟨TG_t1 70 rfl rfl, Or.inr (by simp [NWL, RX0, RX1, RX2, RX3, RX4, RX5, RX6, RX7, RX8, RX9, RX11, RX12, yX9_init]), TG_t1 4 (by decide +kernel) rfl, ⟨by decide +kernel, by decide +kernel, by decide +kernel⟩, by decide, rfl, TG_t1 69 (by decide +kernel) rfl⟩
theorem frc_0_5 : FR 0 5 := ⟨_, _, _, (.array .int), rfl, by decide +kernel, fun _ => ⟨rfl, rfl⟩, rfl, rfl⟩
set_option maxRecDepth 100000 in
theorem ci_X4_45 : CI RX4 45 yX0_init cX0_init 1 0 := ⟨TG_t1 107 rfl rfl, Or.inr (by simp [NWL, RX0, RX1, RX2, RX3, RX4, RX5, RX6, RX7, RX8, RX9, RX11, RX12, yX0_init]), TG_t1 5 (by decide +kernel) rfl, ⟨by decide +kernel, by decide +kernel, by decide +kernel⟩, by decide, rfl, TG_t1 106 (by decide +kernel) rfl⟩
set_option maxRecDepth 100000 in
theorem ci_X11_9 : CI RX11 9 yX4_init cX4_init 2 0 := ⟨TG_t1 39 rfl rfl, Or.inl (TG_t1 37 (by decide +kernel) rfl), TG_t1 2 (by decide +kernel) rfl, ⟨by decide +kernel, by decide +kernel, by decide +kernel⟩, by decide, rfl, TG_t1 38 (by decide +kernel) rfl⟩
theorem frc_7_4 : FR 7 4 := ⟨_, _, _, (.array .int), rfl, by decide +kernel, fun _ => ⟨rfl, rfl⟩, rfl, rfl⟩
theorem frc_7_5 : FR 7 5 := ⟨_, _, _, (.array .int), rfl, by decide +kernel, fun _ => ⟨rfl, rfl⟩, rfl, rfl⟩
theorem frc_7_7 : FR 7 7 := ⟨_, _, _, (.array .int), rfl, by decide +kernel, fun _ => ⟨rfl, rfl⟩, rfl, rfl⟩
theorem frc_7_9 : FR 7 9 := ⟨_, _, _, (.array .int), rfl, by decide +kernel, fun _ => ⟨rfl, rfl⟩, rfl, rfl⟩
set_option maxRecDepth 100000 in
theorem ci_X11_18 : CI RX11 18 yX7_init cX7_init 1 0 := ⟨TG_t2 0 rfl rfl, Or.inr (by simp [NWL, RX0, RX1, RX2, RX3, RX4, RX5, RX6, RX7, RX8, RX9, RX11, RX12, yX7_init]), TG_t1 6 (by decide +kernel) rfl, ⟨by decide +kernel, by decide +kernel, by decide +kernel⟩, by decide, rfl, TG_t1 239 (by decide +kernel) rfl⟩
theorem frc_10_7 : FR 10 7 := ⟨_, _, _, (.array (.object "TeaJunction$State")), rfl, by decide +kernel, fun _ => ⟨rfl, rfl⟩, rfl, rfl⟩
theorem frc_10_9 : FR 10 9 := ⟨_, _, _, (.array .int), rfl, by decide +kernel, fun _ => ⟨rfl, rfl⟩, rfl, rfl⟩
theorem frc_10_11 : FR 10 11 := ⟨_, _, _, (.array .int), rfl, by decide +kernel, fun _ => ⟨rfl, rfl⟩, rfl, rfl⟩
theorem frc_8_0 : FR 8 0 := ⟨_, _, _, (.array .char), rfl, by decide +kernel, fun _ => ⟨rfl, rfl⟩, rfl, rfl⟩
set_option maxRecDepth 100000 in
theorem ci_X11_36 : CI RX11 36 yX8_init cX8_init 1 0 := ⟨TG_t2 60 rfl rfl, Or.inr (by simp [NWL, RX0, RX1, RX2, RX3, RX4, RX5, RX6, RX7, RX8, RX9, RX11, RX12, yX8_init]), TG_t1 7 (by decide +kernel) rfl, ⟨by decide +kernel, by decide +kernel, by decide +kernel⟩, by decide, rfl, TG_t2 59 (by decide +kernel) rfl⟩
set_option maxRecDepth 100000 in
theorem ci_X5_17 : CI RX5 17 yX3_init cX3_init 2 1 := ⟨TG_t2 117 rfl rfl, Or.inl (TG_t2 115 (by decide +kernel) rfl), TG_t1 9 (by decide +kernel) rfl, ⟨by decide +kernel, by decide +kernel, by decide +kernel⟩, by decide, rfl, TG_t2 116 (by decide +kernel) rfl⟩
set_option maxRecDepth 100000 in
theorem ci_X11_47 : CI RX11 47 yX5_init cX5_init 2 1 := ⟨TG_t2 111 rfl rfl, Or.inl (TG_t2 109 (by decide +kernel) rfl), TG_t1 8 (by decide +kernel) rfl, ⟨by decide +kernel, by decide +kernel, by decide +kernel⟩, by decide, rfl, TG_t2 110 (by decide +kernel) rfl⟩
theorem frc_1_1 : FR 1 1 := ⟨_, _, _, (.array .int), rfl, by decide +kernel, fun _ => ⟨rfl, rfl⟩, rfl, rfl⟩
set_option maxRecDepth 100000 in
theorem ci_X11_56 : CI RX11 56 yX1_init cX1_init 2 1 := ⟨TG_t2 137 rfl rfl, Or.inl (TG_t2 135 (by decide +kernel) rfl), TG_t1 10 (by decide +kernel) rfl, ⟨by decide +kernel, by decide +kernel, by decide +kernel⟩, by decide, rfl, TG_t2 136 (by decide +kernel) rfl⟩
theorem frc_6_8 : FR 6 8 := ⟨_, _, _, (.array .int), rfl, by decide +kernel, fun _ => ⟨rfl, rfl⟩, rfl, rfl⟩
theorem frc_6_9 : FR 6 9 := ⟨_, _, _, (.array .int), rfl, by decide +kernel, fun _ => ⟨rfl, rfl⟩, rfl, rfl⟩
theorem frc_6_10 : FR 6 10 := ⟨_, _, _, (.array .int), rfl, by decide +kernel, fun _ => ⟨rfl, rfl⟩, rfl, rfl⟩
theorem frc_6_11 : FR 6 11 := ⟨_, _, _, (.array .int), rfl, by decide +kernel, fun _ => ⟨rfl, rfl⟩, rfl, rfl⟩
theorem frc_6_12 : FR 6 12 := ⟨_, _, _, (.array .int), rfl, by decide +kernel, fun _ => ⟨rfl, rfl⟩, rfl, rfl⟩
theorem frc_6_13 : FR 6 13 := ⟨_, _, _, (.array .int), rfl, by decide +kernel, fun _ => ⟨rfl, rfl⟩, rfl, rfl⟩
theorem frc_6_14 : FR 6 14 := ⟨_, _, _, (.array .int), rfl, by decide +kernel, fun _ => ⟨rfl, rfl⟩, rfl, rfl⟩
set_option maxRecDepth 100000 in
theorem ci_X11_69 : CI RX11 69 yX6_init cX6_init 3 2 := ⟨TG_t2 155 rfl rfl, Or.inl (TG_t2 153 (by decide +kernel) rfl), TG_t1 11 (by decide +kernel) rfl, ⟨by decide +kernel, by decide +kernel, by decide +kernel⟩, by decide, rfl, TG_t2 154 (by decide +kernel) rfl⟩
theorem frc_11_2 : FR 11 2 := ⟨_, _, _, (.array .int), rfl, by decide +kernel, fun _ => ⟨rfl, rfl⟩, rfl, rfl⟩
theorem frc_11_10 : FR 11 10 := ⟨_, _, _, (.array .int), rfl, by decide +kernel, fun _ => ⟨rfl, rfl⟩, rfl, rfl⟩
theorem frc_11_11 : FR 11 11 := ⟨_, _, _, (.array .long), rfl, by decide +kernel, fun _ => ⟨rfl, rfl⟩, rfl, rfl⟩
theorem frc_11_12 : FR 11 12 := ⟨_, _, _, (.array .long), rfl, by decide +kernel, fun _ => ⟨rfl, rfl⟩, rfl, rfl⟩
theorem frc_11_13 : FR 11 13 := ⟨_, _, _, (.array .long), rfl, by decide +kernel, fun _ => ⟨rfl, rfl⟩, rfl, rfl⟩
theorem frc_11_14 : FR 11 14 := ⟨_, _, _, (.array .int), rfl, by decide +kernel, fun _ => ⟨rfl, rfl⟩, rfl, rfl⟩
theorem frc_11_15 : FR 11 15 := ⟨_, _, _, (.array .int), rfl, by decide +kernel, fun _ => ⟨rfl, rfl⟩, rfl, rfl⟩
theorem frc_11_16 : FR 11 16 := ⟨_, _, _, (.array .int), rfl, by decide +kernel, fun _ => ⟨rfl, rfl⟩, rfl, rfl⟩
theorem frc_11_17 : FR 11 17 := ⟨_, _, _, (.array .int), rfl, by decide +kernel, fun _ => ⟨rfl, rfl⟩, rfl, rfl⟩
theorem frc_11_18 : FR 11 18 := ⟨_, _, _, (.array .int), rfl, by decide +kernel, fun _ => ⟨rfl, rfl⟩, rfl, rfl⟩
theorem frc_11_19 : FR 11 19 := ⟨_, _, _, (.array .int), rfl, by decide +kernel, fun _ => ⟨rfl, rfl⟩, rfl, rfl⟩
theorem frc_11_20 : FR 11 20 := ⟨_, _, _, (.array .int), rfl, by decide +kernel, fun _ => ⟨rfl, rfl⟩, rfl, rfl⟩
theorem frc_11_21 : FR 11 21 := ⟨_, _, _, (.array .int), rfl, by decide +kernel, fun _ => ⟨rfl, rfl⟩, rfl, rfl⟩
theorem frc_11_22 : FR 11 22 := ⟨_, _, _, (.array .int), rfl, by decide +kernel, fun _ => ⟨rfl, rfl⟩, rfl, rfl⟩
theorem frc_11_23 : FR 11 23 := ⟨_, _, _, (.array .int), rfl, by decide +kernel, fun _ => ⟨rfl, rfl⟩, rfl, rfl⟩
theorem frc_11_24 : FR 11 24 := ⟨_, _, _, (.array .int), rfl, by decide +kernel, fun _ => ⟨rfl, rfl⟩, rfl, rfl⟩
theorem frc_11_25 : FR 11 25 := ⟨_, _, _, (.array .int), rfl, by decide +kernel, fun _ => ⟨rfl, rfl⟩, rfl, rfl⟩
theorem frc_11_26 : FR 11 26 := ⟨_, _, _, (.array .int), rfl, by decide +kernel, fun _ => ⟨rfl, rfl⟩, rfl, rfl⟩
theorem frc_11_27 : FR 11 27 := ⟨_, _, _, (.array .int), rfl, by decide +kernel, fun _ => ⟨rfl, rfl⟩, rfl, rfl⟩
theorem frc_11_28 : FR 11 28 := ⟨_, _, _, (.array .int), rfl, by decide +kernel, fun _ => ⟨rfl, rfl⟩, rfl, rfl⟩
theorem frc_11_29 : FR 11 29 := ⟨_, _, _, (.array .int), rfl, by decide +kernel, fun _ => ⟨rfl, rfl⟩, rfl, rfl⟩
theorem frc_11_32 : FR 11 32 := ⟨_, _, _, (.array .int), rfl, by decide +kernel, fun _ => ⟨rfl, rfl⟩, rfl, rfl⟩
theorem frc_11_33 : FR 11 33 := ⟨_, _, _, (.array .boolean), rfl, by decide +kernel, fun _ => ⟨rfl, rfl⟩, rfl, rfl⟩
theorem frc_11_34 : FR 11 34 := ⟨_, _, _, (.array .int), rfl, by decide +kernel, fun _ => ⟨rfl, rfl⟩, rfl, rfl⟩
theorem frc_11_35 : FR 11 35 := ⟨_, _, _, (.array .int), rfl, by decide +kernel, fun _ => ⟨rfl, rfl⟩, rfl, rfl⟩
theorem frc_11_36 : FR 11 36 := ⟨_, _, _, (.array .int), rfl, by decide +kernel, fun _ => ⟨rfl, rfl⟩, rfl, rfl⟩
theorem frc_11_37 : FR 11 37 := ⟨_, _, _, (.array .int), rfl, by decide +kernel, fun _ => ⟨rfl, rfl⟩, rfl, rfl⟩
theorem frc_11_38 : FR 11 38 := ⟨_, _, _, (.array .int), rfl, by decide +kernel, fun _ => ⟨rfl, rfl⟩, rfl, rfl⟩
theorem frc_11_39 : FR 11 39 := ⟨_, _, _, (.array .int), rfl, by decide +kernel, fun _ => ⟨rfl, rfl⟩, rfl, rfl⟩
theorem frc_11_40 : FR 11 40 := ⟨_, _, _, (.array .int), rfl, by decide +kernel, fun _ => ⟨rfl, rfl⟩, rfl, rfl⟩
theorem frc_11_41 : FR 11 41 := ⟨_, _, _, (.array .int), rfl, by decide +kernel, fun _ => ⟨rfl, rfl⟩, rfl, rfl⟩
theorem frc_11_42 : FR 11 42 := ⟨_, _, _, (.array .int), rfl, by decide +kernel, fun _ => ⟨rfl, rfl⟩, rfl, rfl⟩
theorem frc_11_43 : FR 11 43 := ⟨_, _, _, (.array .int), rfl, by decide +kernel, fun _ => ⟨rfl, rfl⟩, rfl, rfl⟩
theorem frc_11_45 : FR 11 45 := ⟨_, _, _, (.array .int), rfl, by decide +kernel, fun _ => ⟨rfl, rfl⟩, rfl, rfl⟩
theorem frc_11_46 : FR 11 46 := ⟨_, _, _, (.array .int), rfl, by decide +kernel, fun _ => ⟨rfl, rfl⟩, rfl, rfl⟩
theorem frc_11_47 : FR 11 47 := ⟨_, _, _, (.array .int), rfl, by decide +kernel, fun _ => ⟨rfl, rfl⟩, rfl, rfl⟩
theorem frc_11_48 : FR 11 48 := ⟨_, _, _, (.array .int), rfl, by decide +kernel, fun _ => ⟨rfl, rfl⟩, rfl, rfl⟩
theorem frc_11_49 : FR 11 49 := ⟨_, _, _, (.array .int), rfl, by decide +kernel, fun _ => ⟨rfl, rfl⟩, rfl, rfl⟩
theorem frc_11_50 : FR 11 50 := ⟨_, _, _, (.array .int), rfl, by decide +kernel, fun _ => ⟨rfl, rfl⟩, rfl, rfl⟩
theorem frc_11_51 : FR 11 51 := ⟨_, _, _, (.array .int), rfl, by decide +kernel, fun _ => ⟨rfl, rfl⟩, rfl, rfl⟩
theorem frc_11_52 : FR 11 52 := ⟨_, _, _, (.array .int), rfl, by decide +kernel, fun _ => ⟨rfl, rfl⟩, rfl, rfl⟩
theorem frc_11_53 : FR 11 53 := ⟨_, _, _, (.array .int), rfl, by decide +kernel, fun _ => ⟨rfl, rfl⟩, rfl, rfl⟩
theorem frc_11_54 : FR 11 54 := ⟨_, _, _, (.array .int), rfl, by decide +kernel, fun _ => ⟨rfl, rfl⟩, rfl, rfl⟩
theorem frc_11_55 : FR 11 55 := ⟨_, _, _, (.array .int), rfl, by decide +kernel, fun _ => ⟨rfl, rfl⟩, rfl, rfl⟩
theorem frc_11_56 : FR 11 56 := ⟨_, _, _, (.array .int), rfl, by decide +kernel, fun _ => ⟨rfl, rfl⟩, rfl, rfl⟩
theorem frc_11_57 : FR 11 57 := ⟨_, _, _, (.array .int), rfl, by decide +kernel, fun _ => ⟨rfl, rfl⟩, rfl, rfl⟩
theorem frc_11_58 : FR 11 58 := ⟨_, _, _, (.array .int), rfl, by decide +kernel, fun _ => ⟨rfl, rfl⟩, rfl, rfl⟩
theorem frc_11_59 : FR 11 59 := ⟨_, _, _, (.array .boolean), rfl, by decide +kernel, fun _ => ⟨rfl, rfl⟩, rfl, rfl⟩
theorem frc_11_67 : FR 11 67 := ⟨_, _, _, (.array .int), rfl, by decide +kernel, fun _ => ⟨rfl, rfl⟩, rfl, rfl⟩
theorem frc_11_68 : FR 11 68 := ⟨_, _, _, (.array .int), rfl, by decide +kernel, fun _ => ⟨rfl, rfl⟩, rfl, rfl⟩
theorem frc_11_69 : FR 11 69 := ⟨_, _, _, (.array .int), rfl, by decide +kernel, fun _ => ⟨rfl, rfl⟩, rfl, rfl⟩
theorem frc_11_70 : FR 11 70 := ⟨_, _, _, (.array .int), rfl, by decide +kernel, fun _ => ⟨rfl, rfl⟩, rfl, rfl⟩
theorem frc_11_71 : FR 11 71 := ⟨_, _, _, (.array .int), rfl, by decide +kernel, fun _ => ⟨rfl, rfl⟩, rfl, rfl⟩
theorem frc_11_72 : FR 11 72 := ⟨_, _, _, (.array .boolean), rfl, by decide +kernel, fun _ => ⟨rfl, rfl⟩, rfl, rfl⟩
theorem frc_11_73 : FR 11 73 := ⟨_, _, _, (.array .int), rfl, by decide +kernel, fun _ => ⟨rfl, rfl⟩, rfl, rfl⟩
theorem frc_11_76 : FR 11 76 := ⟨_, _, _, (.array .int), rfl, by decide +kernel, fun _ => ⟨rfl, rfl⟩, rfl, rfl⟩
