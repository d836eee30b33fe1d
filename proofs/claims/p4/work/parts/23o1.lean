/-! THE REFERENCE'S RULES: all of them hold (printed by tools/gen61.py) -/
set_option maxRecDepth 100000 in
theorem hN_en : zenO 16 0 hNL = [(1, [hn_1_1_0, hn_1_0_0]), (2, [hn_2_1_0, hn_2_0_0, hn_2_0_1]), (3, [hn_3_0_0, hn_3_0_1]), (4, [hn_4_0_0, hn_4_0_1]), (5, [hn_5_0_0, hn_5_0_1]), (6, [hn_6_1_0, hn_6_0_0, hn_6_0_1]), (7, [hn_7_1_0, hn_7_0_0, hn_7_0_1]), (8, [hn_8_1_0, hn_8_0_0]), (10, [hn_10_1_0, hn_10_0_0, hn_10_0_1, hn_10_0_2, hn_10_0_3]), (12, [hn_12_8_0]), (14, [hn_14_3_0, hn_14_3_1, hn_14_3_2]), (15, [hn_15_3_0, hn_15_3_1]), (16, [hn_16_2_0, hn_16_2_1]), (17, [hn_17_3_0, hn_17_3_1, hn_17_3_2]), (18, [hn_18_4_0, hn_18_4_1, hn_18_4_2]), (19, [hn_19_5_0, hn_19_5_1, hn_19_5_2, hn_19_5_3]), (20, [hn_20_1_0, hn_20_1_1]), (21, [hn_21_1_0, hn_21_1_1, hn_21_1_2, hn_21_1_3, hn_21_1_4, hn_21_1_5, hn_21_1_6, hn_21_1_7]), (22, [hn_22_1_0, hn_22_1_1, hn_22_1_2, hn_22_1_3]), (23, [hn_23_0_0, hn_23_0_1]), (24, [hn_24_0_0, hn_24_0_1]), (25, [hn_25_2_0, hn_25_2_1]), (32, [hn_32_3_0]), (33, [hn_33_3_0, hn_33_3_1, hn_33_3_2]), (40, [hn_40_3_0, hn_40_3_1, hn_40_3_2, hn_40_3_3, hn_40_3_4, hn_40_3_5, hn_40_3_6, hn_40_3_7]), (41, [hn_41_3_0]), (50, [hn_50_1_0]), (60, [hn_60_3_0, hn_60_3_1]), (61, [hn_61_2_0, hn_61_2_1]), (62, [hn_62_1_0]), (71, [hn_71_7_0, hn_71_7_1]), (72, [hn_72_8_0, hn_72_8_1, hn_72_8_2, hn_72_8_3, hn_72_8_4]), (75, [hn_75_2_0, hn_75_2_1]), (80, [hn_80_1_0, hn_80_1_1]), (81, [hn_81_2_0, hn_81_2_1]), (82, [hn_82_3_0, hn_82_3_1]), (83, [hn_83_5_0, hn_83_5_1, hn_83_5_2, hn_83_5_3, hn_83_5_4, hn_83_5_5, hn_83_5_6, hn_83_5_7, hn_83_5_8, hn_83_5_9]), (84, [hn_84_2_0, hn_84_2_1]), (85, [hn_85_2_0, hn_85_2_1]), (86, [hn_86_3_0, hn_86_3_1, hn_86_3_2]), (87, [hn_87_4_0, hn_87_4_1, hn_87_4_2, hn_87_4_3]), (88, [hn_88_5_0, hn_88_5_1, hn_88_5_2, hn_88_5_3, hn_88_5_4, hn_88_5_5, hn_88_5_6, hn_88_5_7, hn_88_5_8, hn_88_5_9]), (89, [hn_89_4_0, hn_89_4_1, hn_89_4_2, hn_89_4_3, hn_89_4_4, hn_89_4_5, hn_89_4_6]), (90, [hn_90_2_0, hn_90_2_1]), (91, [hn_91_2_0]), (92, [hn_92_1_0]), (93, [hn_93_1_0, hn_93_1_1]), (94, [hn_94_1_0, hn_94_1_1, hn_94_1_2]), (103, [hn_103_1_0]), (104, [hn_104_1_0]), (105, [hn_105_1_0]), (132, [hn_132_1_0]), (137, [hn_137_1_0])] := rfl
theorem hN_a1 : ∀ r ∈ [hn_1_1_0, hn_1_0_0], vN rQ 1 r := List.forall_mem_cons.mpr ⟨tN_1_1_0, List.forall_mem_cons.mpr ⟨tN_1_0_0, List.forall_mem_nil _⟩⟩
theorem hN_a2 : ∀ r ∈ [hn_2_1_0, hn_2_0_0, hn_2_0_1], vN rQ 2 r := List.forall_mem_cons.mpr ⟨tN_2_1_0, List.forall_mem_cons.mpr ⟨tN_2_0_0, List.forall_mem_cons.mpr ⟨tN_2_0_1, List.forall_mem_nil _⟩⟩⟩
theorem hN_a3 : ∀ r ∈ [hn_3_0_0, hn_3_0_1], vN rQ 3 r := List.forall_mem_cons.mpr ⟨tN_3_0_0, List.forall_mem_cons.mpr ⟨tN_3_0_1, List.forall_mem_nil _⟩⟩
theorem hN_a4 : ∀ r ∈ [hn_4_0_0, hn_4_0_1], vN rQ 4 r := List.forall_mem_cons.mpr ⟨tN_4_0_0, List.forall_mem_cons.mpr ⟨tN_4_0_1, List.forall_mem_nil _⟩⟩
theorem hN_a5 : ∀ r ∈ [hn_5_0_0, hn_5_0_1], vN rQ 5 r := List.forall_mem_cons.mpr ⟨tN_5_0_0, List.forall_mem_cons.mpr ⟨tN_5_0_1, List.forall_mem_nil _⟩⟩
theorem hN_a6 : ∀ r ∈ [hn_6_1_0, hn_6_0_0, hn_6_0_1], vN rQ 6 r := List.forall_mem_cons.mpr ⟨tN_6_1_0, List.forall_mem_cons.mpr ⟨tN_6_0_0, List.forall_mem_cons.mpr ⟨tN_6_0_1, List.forall_mem_nil _⟩⟩⟩
theorem hN_a7 : ∀ r ∈ [hn_7_1_0, hn_7_0_0, hn_7_0_1], vN rQ 7 r := List.forall_mem_cons.mpr ⟨tN_7_1_0, List.forall_mem_cons.mpr ⟨tN_7_0_0, List.forall_mem_cons.mpr ⟨tN_7_0_1, List.forall_mem_nil _⟩⟩⟩
theorem hN_a8 : ∀ r ∈ [hn_8_1_0, hn_8_0_0], vN rQ 8 r := List.forall_mem_cons.mpr ⟨tN_8_1_0, List.forall_mem_cons.mpr ⟨tN_8_0_0, List.forall_mem_nil _⟩⟩
theorem hN_a10 : ∀ r ∈ [hn_10_1_0, hn_10_0_0, hn_10_0_1, hn_10_0_2, hn_10_0_3], vN rQ 10 r := List.forall_mem_cons.mpr ⟨tN_10_1_0, List.forall_mem_cons.mpr ⟨tN_10_0_0, List.forall_mem_cons.mpr ⟨tN_10_0_1, List.forall_mem_cons.mpr ⟨tN_10_0_2, List.forall_mem_cons.mpr ⟨tN_10_0_3, List.forall_mem_nil _⟩⟩⟩⟩⟩
theorem hN_a12 : ∀ r ∈ [hn_12_8_0], vN rQ 12 r := List.forall_mem_cons.mpr ⟨tN_12_8_0, List.forall_mem_nil _⟩
theorem hN_a14 : ∀ r ∈ [hn_14_3_0, hn_14_3_1, hn_14_3_2], vN rQ 14 r := List.forall_mem_cons.mpr ⟨tN_14_3_0, List.forall_mem_cons.mpr ⟨tN_14_3_1, List.forall_mem_cons.mpr ⟨tN_14_3_2, List.forall_mem_nil _⟩⟩⟩
theorem hN_a15 : ∀ r ∈ [hn_15_3_0, hn_15_3_1], vN rQ 15 r := List.forall_mem_cons.mpr ⟨tN_15_3_0, List.forall_mem_cons.mpr ⟨tN_15_3_1, List.forall_mem_nil _⟩⟩
theorem hN_a16 : ∀ r ∈ [hn_16_2_0, hn_16_2_1], vN rQ 16 r := List.forall_mem_cons.mpr ⟨tN_16_2_0, List.forall_mem_cons.mpr ⟨tN_16_2_1, List.forall_mem_nil _⟩⟩
theorem hN_a17 : ∀ r ∈ [hn_17_3_0, hn_17_3_1, hn_17_3_2], vN rQ 17 r := List.forall_mem_cons.mpr ⟨tN_17_3_0, List.forall_mem_cons.mpr ⟨tN_17_3_1, List.forall_mem_cons.mpr ⟨tN_17_3_2, List.forall_mem_nil _⟩⟩⟩
theorem hN_a18 : ∀ r ∈ [hn_18_4_0, hn_18_4_1, hn_18_4_2], vN rQ 18 r := List.forall_mem_cons.mpr ⟨tN_18_4_0, List.forall_mem_cons.mpr ⟨tN_18_4_1, List.forall_mem_cons.mpr ⟨tN_18_4_2, List.forall_mem_nil _⟩⟩⟩
theorem hN_a19 : ∀ r ∈ [hn_19_5_0, hn_19_5_1, hn_19_5_2, hn_19_5_3], vN rQ 19 r := List.forall_mem_cons.mpr ⟨tN_19_5_0, List.forall_mem_cons.mpr ⟨tN_19_5_1, List.forall_mem_cons.mpr ⟨tN_19_5_2, List.forall_mem_cons.mpr ⟨tN_19_5_3, List.forall_mem_nil _⟩⟩⟩⟩
theorem hN_a20 : ∀ r ∈ [hn_20_1_0, hn_20_1_1], vN rQ 20 r := List.forall_mem_cons.mpr ⟨tN_20_1_0, List.forall_mem_cons.mpr ⟨tN_20_1_1, List.forall_mem_nil _⟩⟩
theorem hN_a21 : ∀ r ∈ [hn_21_1_0, hn_21_1_1, hn_21_1_2, hn_21_1_3, hn_21_1_4, hn_21_1_5, hn_21_1_6, hn_21_1_7], vN rQ 21 r := List.forall_mem_cons.mpr ⟨tN_21_1_0, List.forall_mem_cons.mpr ⟨tN_21_1_1, List.forall_mem_cons.mpr ⟨tN_21_1_2, List.forall_mem_cons.mpr ⟨tN_21_1_3, List.forall_mem_cons.mpr ⟨tN_21_1_4, List.forall_mem_cons.mpr ⟨tN_21_1_5, List.forall_mem_cons.mpr ⟨tN_21_1_6, List.forall_mem_cons.mpr ⟨tN_21_1_7, List.forall_mem_nil _⟩⟩⟩⟩⟩⟩⟩⟩
theorem hN_a22 : ∀ r ∈ [hn_22_1_0, hn_22_1_1, hn_22_1_2, hn_22_1_3], vN rQ 22 r := List.forall_mem_cons.mpr ⟨tN_22_1_0, List.forall_mem_cons.mpr ⟨tN_22_1_1, List.forall_mem_cons.mpr ⟨tN_22_1_2, List.forall_mem_cons.mpr ⟨tN_22_1_3, List.forall_mem_nil _⟩⟩⟩⟩
theorem hN_a23 : ∀ r ∈ [hn_23_0_0, hn_23_0_1], vN rQ 23 r := List.forall_mem_cons.mpr ⟨tN_23_0_0, List.forall_mem_cons.mpr ⟨tN_23_0_1, List.forall_mem_nil _⟩⟩
theorem hN_a24 : ∀ r ∈ [hn_24_0_0, hn_24_0_1], vN rQ 24 r := List.forall_mem_cons.mpr ⟨tN_24_0_0, List.forall_mem_cons.mpr ⟨tN_24_0_1, List.forall_mem_nil _⟩⟩
theorem hN_a25 : ∀ r ∈ [hn_25_2_0, hn_25_2_1], vN rQ 25 r := List.forall_mem_cons.mpr ⟨tN_25_2_0, List.forall_mem_cons.mpr ⟨tN_25_2_1, List.forall_mem_nil _⟩⟩
theorem hN_a32 : ∀ r ∈ [hn_32_3_0], vN rQ 32 r := List.forall_mem_cons.mpr ⟨tN_32_3_0, List.forall_mem_nil _⟩
theorem hN_a33 : ∀ r ∈ [hn_33_3_0, hn_33_3_1, hn_33_3_2], vN rQ 33 r := List.forall_mem_cons.mpr ⟨tN_33_3_0, List.forall_mem_cons.mpr ⟨tN_33_3_1, List.forall_mem_cons.mpr ⟨tN_33_3_2, List.forall_mem_nil _⟩⟩⟩
theorem hN_a40 : ∀ r ∈ [hn_40_3_0, hn_40_3_1, hn_40_3_2, hn_40_3_3, hn_40_3_4, hn_40_3_5, hn_40_3_6, hn_40_3_7], vN rQ 40 r := List.forall_mem_cons.mpr ⟨tN_40_3_0, List.forall_mem_cons.mpr ⟨tN_40_3_1, List.forall_mem_cons.mpr ⟨tN_40_3_2, List.forall_mem_cons.mpr ⟨tN_40_3_3, List.forall_mem_cons.mpr ⟨tN_40_3_4, List.forall_mem_cons.mpr ⟨tN_40_3_5, List.forall_mem_cons.mpr ⟨tN_40_3_6, List.forall_mem_cons.mpr ⟨tN_40_3_7, List.forall_mem_nil _⟩⟩⟩⟩⟩⟩⟩⟩
theorem hN_a41 : ∀ r ∈ [hn_41_3_0], vN rQ 41 r := List.forall_mem_cons.mpr ⟨tN_41_3_0, List.forall_mem_nil _⟩
theorem hN_a50 : ∀ r ∈ [hn_50_1_0], vN rQ 50 r := List.forall_mem_cons.mpr ⟨tN_50_1_0, List.forall_mem_nil _⟩
theorem hN_a60 : ∀ r ∈ [hn_60_3_0, hn_60_3_1], vN rQ 60 r := List.forall_mem_cons.mpr ⟨tN_60_3_0, List.forall_mem_cons.mpr ⟨tN_60_3_1, List.forall_mem_nil _⟩⟩
theorem hN_a61 : ∀ r ∈ [hn_61_2_0, hn_61_2_1], vN rQ 61 r := List.forall_mem_cons.mpr ⟨tN_61_2_0, List.forall_mem_cons.mpr ⟨tN_61_2_1, List.forall_mem_nil _⟩⟩
theorem hN_a62 : ∀ r ∈ [hn_62_1_0], vN rQ 62 r := List.forall_mem_cons.mpr ⟨tN_62_1_0, List.forall_mem_nil _⟩
theorem hN_a71 : ∀ r ∈ [hn_71_7_0, hn_71_7_1], vN rQ 71 r := List.forall_mem_cons.mpr ⟨tN_71_7_0, List.forall_mem_cons.mpr ⟨tN_71_7_1, List.forall_mem_nil _⟩⟩
theorem hN_a72 : ∀ r ∈ [hn_72_8_0, hn_72_8_1, hn_72_8_2, hn_72_8_3, hn_72_8_4], vN rQ 72 r := List.forall_mem_cons.mpr ⟨tN_72_8_0, List.forall_mem_cons.mpr ⟨tN_72_8_1, List.forall_mem_cons.mpr ⟨tN_72_8_2, List.forall_mem_cons.mpr ⟨tN_72_8_3, List.forall_mem_cons.mpr ⟨tN_72_8_4, List.forall_mem_nil _⟩⟩⟩⟩⟩
theorem hN_a75 : ∀ r ∈ [hn_75_2_0, hn_75_2_1], vN rQ 75 r := List.forall_mem_cons.mpr ⟨tN_75_2_0, List.forall_mem_cons.mpr ⟨tN_75_2_1, List.forall_mem_nil _⟩⟩
theorem hN_a80 : ∀ r ∈ [hn_80_1_0, hn_80_1_1], vN rQ 80 r := List.forall_mem_cons.mpr ⟨tN_80_1_0, List.forall_mem_cons.mpr ⟨tN_80_1_1, List.forall_mem_nil _⟩⟩
theorem hN_a81 : ∀ r ∈ [hn_81_2_0, hn_81_2_1], vN rQ 81 r := List.forall_mem_cons.mpr ⟨tN_81_2_0, List.forall_mem_cons.mpr ⟨tN_81_2_1, List.forall_mem_nil _⟩⟩
theorem hN_a82 : ∀ r ∈ [hn_82_3_0, hn_82_3_1], vN rQ 82 r := List.forall_mem_cons.mpr ⟨tN_82_3_0, List.forall_mem_cons.mpr ⟨tN_82_3_1, List.forall_mem_nil _⟩⟩
theorem hN_a83 : ∀ r ∈ [hn_83_5_0, hn_83_5_1, hn_83_5_2, hn_83_5_3, hn_83_5_4, hn_83_5_5, hn_83_5_6, hn_83_5_7, hn_83_5_8, hn_83_5_9], vN rQ 83 r := List.forall_mem_cons.mpr ⟨tN_83_5_0, List.forall_mem_cons.mpr ⟨tN_83_5_1, List.forall_mem_cons.mpr ⟨tN_83_5_2, List.forall_mem_cons.mpr ⟨tN_83_5_3, List.forall_mem_cons.mpr ⟨tN_83_5_4, List.forall_mem_cons.mpr ⟨tN_83_5_5, List.forall_mem_cons.mpr ⟨tN_83_5_6, List.forall_mem_cons.mpr ⟨tN_83_5_7, List.forall_mem_cons.mpr ⟨tN_83_5_8, List.forall_mem_cons.mpr ⟨tN_83_5_9, List.forall_mem_nil _⟩⟩⟩⟩⟩⟩⟩⟩⟩⟩
theorem hN_a84 : ∀ r ∈ [hn_84_2_0, hn_84_2_1], vN rQ 84 r := List.forall_mem_cons.mpr ⟨tN_84_2_0, List.forall_mem_cons.mpr ⟨tN_84_2_1, List.forall_mem_nil _⟩⟩
theorem hN_a85 : ∀ r ∈ [hn_85_2_0, hn_85_2_1], vN rQ 85 r := List.forall_mem_cons.mpr ⟨tN_85_2_0, List.forall_mem_cons.mpr ⟨tN_85_2_1, List.forall_mem_nil _⟩⟩
theorem hN_a86 : ∀ r ∈ [hn_86_3_0, hn_86_3_1, hn_86_3_2], vN rQ 86 r := List.forall_mem_cons.mpr ⟨tN_86_3_0, List.forall_mem_cons.mpr ⟨tN_86_3_1, List.forall_mem_cons.mpr ⟨tN_86_3_2, List.forall_mem_nil _⟩⟩⟩
theorem hN_a87 : ∀ r ∈ [hn_87_4_0, hn_87_4_1, hn_87_4_2, hn_87_4_3], vN rQ 87 r := List.forall_mem_cons.mpr ⟨tN_87_4_0, List.forall_mem_cons.mpr ⟨tN_87_4_1, List.forall_mem_cons.mpr ⟨tN_87_4_2, List.forall_mem_cons.mpr ⟨tN_87_4_3, List.forall_mem_nil _⟩⟩⟩⟩
theorem hN_a88 : ∀ r ∈ [hn_88_5_0, hn_88_5_1, hn_88_5_2, hn_88_5_3, hn_88_5_4, hn_88_5_5, hn_88_5_6, hn_88_5_7, hn_88_5_8, hn_88_5_9], vN rQ 88 r := List.forall_mem_cons.mpr ⟨tN_88_5_0, List.forall_mem_cons.mpr ⟨tN_88_5_1, List.forall_mem_cons.mpr ⟨tN_88_5_2, List.forall_mem_cons.mpr ⟨tN_88_5_3, List.forall_mem_cons.mpr ⟨tN_88_5_4, List.forall_mem_cons.mpr ⟨tN_88_5_5, List.forall_mem_cons.mpr ⟨tN_88_5_6, List.forall_mem_cons.mpr ⟨tN_88_5_7, List.forall_mem_cons.mpr ⟨tN_88_5_8, List.forall_mem_cons.mpr ⟨tN_88_5_9, List.forall_mem_nil _⟩⟩⟩⟩⟩⟩⟩⟩⟩⟩
theorem hN_a89 : ∀ r ∈ [hn_89_4_0, hn_89_4_1, hn_89_4_2, hn_89_4_3, hn_89_4_4, hn_89_4_5, hn_89_4_6], vN rQ 89 r := List.forall_mem_cons.mpr ⟨tN_89_4_0, List.forall_mem_cons.mpr ⟨tN_89_4_1, List.forall_mem_cons.mpr ⟨tN_89_4_2, List.forall_mem_cons.mpr ⟨tN_89_4_3, List.forall_mem_cons.mpr ⟨tN_89_4_4, List.forall_mem_cons.mpr ⟨tN_89_4_5, List.forall_mem_cons.mpr ⟨tN_89_4_6, List.forall_mem_nil _⟩⟩⟩⟩⟩⟩⟩
theorem hN_a90 : ∀ r ∈ [hn_90_2_0, hn_90_2_1], vN rQ 90 r := List.forall_mem_cons.mpr ⟨tN_90_2_0, List.forall_mem_cons.mpr ⟨tN_90_2_1, List.forall_mem_nil _⟩⟩
theorem hN_a91 : ∀ r ∈ [hn_91_2_0], vN rQ 91 r := List.forall_mem_cons.mpr ⟨tN_91_2_0, List.forall_mem_nil _⟩
theorem hN_a92 : ∀ r ∈ [hn_92_1_0], vN rQ 92 r := List.forall_mem_cons.mpr ⟨tN_92_1_0, List.forall_mem_nil _⟩
theorem hN_a93 : ∀ r ∈ [hn_93_1_0, hn_93_1_1], vN rQ 93 r := List.forall_mem_cons.mpr ⟨tN_93_1_0, List.forall_mem_cons.mpr ⟨tN_93_1_1, List.forall_mem_nil _⟩⟩
theorem hN_a94 : ∀ r ∈ [hn_94_1_0, hn_94_1_1, hn_94_1_2], vN rQ 94 r := List.forall_mem_cons.mpr ⟨tN_94_1_0, List.forall_mem_cons.mpr ⟨tN_94_1_1, List.forall_mem_cons.mpr ⟨tN_94_1_2, List.forall_mem_nil _⟩⟩⟩
theorem hN_a103 : ∀ r ∈ [hn_103_1_0], vN rQ 103 r := List.forall_mem_cons.mpr ⟨tN_103_1_0, List.forall_mem_nil _⟩
theorem hN_a104 : ∀ r ∈ [hn_104_1_0], vN rQ 104 r := List.forall_mem_cons.mpr ⟨tN_104_1_0, List.forall_mem_nil _⟩
theorem hN_a105 : ∀ r ∈ [hn_105_1_0], vN rQ 105 r := List.forall_mem_cons.mpr ⟨tN_105_1_0, List.forall_mem_nil _⟩
theorem hN_a132 : ∀ r ∈ [hn_132_1_0], vN rQ 132 r := List.forall_mem_cons.mpr ⟨tN_132_1_0, List.forall_mem_nil _⟩
theorem hN_a137 : ∀ r ∈ [hn_137_1_0], vN rQ 137 r := List.forall_mem_cons.mpr ⟨tN_137_1_0, List.forall_mem_nil _⟩
theorem hN_ok : ∀ n, ∀ r ∈ hNT n, vN rQ n r := by
  have hA : ∀ p ∈ zenO 16 0 hNL, ∀ r ∈ p.2, vN rQ p.1 r := by
    rw [hN_en]
    exact List.forall_mem_cons.mpr ⟨hN_a1, List.forall_mem_cons.mpr ⟨hN_a2, List.forall_mem_cons.mpr ⟨hN_a3, List.forall_mem_cons.mpr ⟨hN_a4, List.forall_mem_cons.mpr ⟨hN_a5, List.forall_mem_cons.mpr ⟨hN_a6, List.forall_mem_cons.mpr ⟨hN_a7, List.forall_mem_cons.mpr ⟨hN_a8, List.forall_mem_cons.mpr ⟨hN_a10, List.forall_mem_cons.mpr ⟨hN_a12, List.forall_mem_cons.mpr ⟨hN_a14, List.forall_mem_cons.mpr ⟨hN_a15, List.forall_mem_cons.mpr ⟨hN_a16, List.forall_mem_cons.mpr ⟨hN_a17, List.forall_mem_cons.mpr ⟨hN_a18, List.forall_mem_cons.mpr ⟨hN_a19, List.forall_mem_cons.mpr ⟨hN_a20, List.forall_mem_cons.mpr ⟨hN_a21, List.forall_mem_cons.mpr ⟨hN_a22, List.forall_mem_cons.mpr ⟨hN_a23, List.forall_mem_cons.mpr ⟨hN_a24, List.forall_mem_cons.mpr ⟨hN_a25, List.forall_mem_cons.mpr ⟨hN_a32, List.forall_mem_cons.mpr ⟨hN_a33, List.forall_mem_cons.mpr ⟨hN_a40, List.forall_mem_cons.mpr ⟨hN_a41, List.forall_mem_cons.mpr ⟨hN_a50, List.forall_mem_cons.mpr ⟨hN_a60, List.forall_mem_cons.mpr ⟨hN_a61, List.forall_mem_cons.mpr ⟨hN_a62, List.forall_mem_cons.mpr ⟨hN_a71, List.forall_mem_cons.mpr ⟨hN_a72, List.forall_mem_cons.mpr ⟨hN_a75, List.forall_mem_cons.mpr ⟨hN_a80, List.forall_mem_cons.mpr ⟨hN_a81, List.forall_mem_cons.mpr ⟨hN_a82, List.forall_mem_cons.mpr ⟨hN_a83, List.forall_mem_cons.mpr ⟨hN_a84, List.forall_mem_cons.mpr ⟨hN_a85, List.forall_mem_cons.mpr ⟨hN_a86, List.forall_mem_cons.mpr ⟨hN_a87, List.forall_mem_cons.mpr ⟨hN_a88, List.forall_mem_cons.mpr ⟨hN_a89, List.forall_mem_cons.mpr ⟨hN_a90, List.forall_mem_cons.mpr ⟨hN_a91, List.forall_mem_cons.mpr ⟨hN_a92, List.forall_mem_cons.mpr ⟨hN_a93, List.forall_mem_cons.mpr ⟨hN_a94, List.forall_mem_cons.mpr ⟨hN_a103, List.forall_mem_cons.mpr ⟨hN_a104, List.forall_mem_cons.mpr ⟨hN_a105, List.forall_mem_cons.mpr ⟨hN_a132, List.forall_mem_cons.mpr ⟨hN_a137, List.forall_mem_nil _⟩⟩⟩⟩⟩⟩⟩⟩⟩⟩⟩⟩⟩⟩⟩⟩⟩⟩⟩⟩⟩⟩⟩⟩⟩⟩⟩⟩⟩⟩⟩⟩⟩⟩⟩⟩⟩⟩⟩⟩⟩⟩⟩⟩⟩⟩⟩⟩⟩⟩⟩⟩⟩
  intro n r h
  unfold hNT at h
  cases hq : zlook 16 hNL n with
  | none => rw [hq] at h; cases h
  | some l =>
    rw [hq] at h
    exact hA (n, l) (zlook_en hq) r h
set_option maxRecDepth 100000 in
theorem hU_en : zenO 16 0 hUL = [(12, [hu_12_8_0, hu_12_8_1, hu_12_8_2, hu_12_8_3, hu_12_8_4, hu_12_8_5, hu_12_8_6, hu_12_8_7, hu_12_8_8, hu_12_8_9, hu_12_8_10, hu_12_8_11, hu_12_8_12, hu_12_8_13, hu_12_8_14, hu_12_8_15])] := rfl
theorem hU_a12 : ∀ r ∈ [hu_12_8_0, hu_12_8_1, hu_12_8_2, hu_12_8_3, hu_12_8_4, hu_12_8_5, hu_12_8_6, hu_12_8_7, hu_12_8_8, hu_12_8_9, hu_12_8_10, hu_12_8_11, hu_12_8_12, hu_12_8_13, hu_12_8_14, hu_12_8_15], vU rQ 12 r := List.forall_mem_cons.mpr ⟨tU_12_8_0, List.forall_mem_cons.mpr ⟨tU_12_8_1, List.forall_mem_cons.mpr ⟨tU_12_8_2, List.forall_mem_cons.mpr ⟨tU_12_8_3, List.forall_mem_cons.mpr ⟨tU_12_8_4, List.forall_mem_cons.mpr ⟨tU_12_8_5, List.forall_mem_cons.mpr ⟨tU_12_8_6, List.forall_mem_cons.mpr ⟨tU_12_8_7, List.forall_mem_cons.mpr ⟨tU_12_8_8, List.forall_mem_cons.mpr ⟨tU_12_8_9, List.forall_mem_cons.mpr ⟨tU_12_8_10, List.forall_mem_cons.mpr ⟨tU_12_8_11, List.forall_mem_cons.mpr ⟨tU_12_8_12, List.forall_mem_cons.mpr ⟨tU_12_8_13, List.forall_mem_cons.mpr ⟨tU_12_8_14, List.forall_mem_cons.mpr ⟨tU_12_8_15, List.forall_mem_nil _⟩⟩⟩⟩⟩⟩⟩⟩⟩⟩⟩⟩⟩⟩⟩⟩
theorem hU_ok : ∀ n, ∀ r ∈ hUT n, vU rQ n r := by
  have hA : ∀ p ∈ zenO 16 0 hUL, ∀ r ∈ p.2, vU rQ p.1 r := by
    rw [hU_en]
    exact List.forall_mem_cons.mpr ⟨hU_a12, List.forall_mem_nil _⟩
  intro n r h
  unfold hUT at h
  cases hq : zlook 16 hUL n with
  | none => rw [hq] at h; cases h
  | some l =>
    rw [hq] at h
    exact hA (n, l) (zlook_en hq) r h
set_option maxRecDepth 100000 in
theorem hS_en : zenO 16 0 hSL = [(1, [hs_1_0_0, hs_1_1_0, hs_1_1_1]), (2, [hs_2_0_0, hs_2_0_1, hs_2_0_2, hs_2_0_3, hs_2_0_4, hs_2_1_0]), (3, [hs_3_0_0, hs_3_0_1, hs_3_0_2, hs_3_1_0]), (4, [hs_4_0_0, hs_4_0_1, hs_4_0_2, hs_4_1_0]), (5, [hs_5_0_0, hs_5_0_1, hs_5_0_2, hs_5_0_3, hs_5_0_4, hs_5_0_5, hs_5_0_6, hs_5_0_7, hs_5_0_8, hs_5_1_0, hs_5_1_1]), (6, [hs_6_0_0, hs_6_1_0]), (7, [hs_7_0_0, hs_7_1_0]), (8, [hs_8_0_0, hs_8_1_0, hs_8_1_1]), (12, [hs_12_8_0, hs_12_8_1, hs_12_8_2, hs_12_8_3, hs_12_8_4, hs_12_8_5, hs_12_8_6, hs_12_8_7, hs_12_8_8, hs_12_8_9, hs_12_8_10, hs_12_8_11, hs_12_8_12, hs_12_8_13, hs_12_8_14, hs_12_8_15, hs_12_8_16, hs_12_8_17, hs_12_8_18, hs_12_8_19, hs_12_8_20, hs_12_8_21, hs_12_8_22, hs_12_8_23, hs_12_8_24, hs_12_8_25, hs_12_8_26, hs_12_8_27, hs_12_8_28, hs_12_8_29]), (17, [hs_17_3_0]), (23, [hs_23_0_0]), (24, [hs_24_0_0]), (50, [hs_50_1_0, hs_50_1_1, hs_50_1_2]), (61, [hs_61_2_0]), (62, [hs_62_1_0]), (71, [hs_71_7_0, hs_71_7_1, hs_71_7_2]), (72, [hs_72_8_0]), (82, [hs_82_3_0, hs_82_3_1]), (83, [hs_83_5_0]), (88, [hs_88_5_0]), (89, [hs_89_4_0, hs_89_4_1, hs_89_4_2]), (90, [hs_90_2_0, hs_90_2_1, hs_90_2_2, hs_90_2_3])] := rfl
theorem hS_a1 : ∀ r ∈ [hs_1_0_0, hs_1_1_0, hs_1_1_1], vS rQ 1 r := List.forall_mem_cons.mpr ⟨tS_1_0_0, List.forall_mem_cons.mpr ⟨tS_1_1_0, List.forall_mem_cons.mpr ⟨tS_1_1_1, List.forall_mem_nil _⟩⟩⟩
theorem hS_a2 : ∀ r ∈ [hs_2_0_0, hs_2_0_1, hs_2_0_2, hs_2_0_3, hs_2_0_4, hs_2_1_0], vS rQ 2 r := List.forall_mem_cons.mpr ⟨tS_2_0_0, List.forall_mem_cons.mpr ⟨tS_2_0_1, List.forall_mem_cons.mpr ⟨tS_2_0_2, List.forall_mem_cons.mpr ⟨tS_2_0_3, List.forall_mem_cons.mpr ⟨tS_2_0_4, List.forall_mem_cons.mpr ⟨tS_2_1_0, List.forall_mem_nil _⟩⟩⟩⟩⟩⟩
theorem hS_a3 : ∀ r ∈ [hs_3_0_0, hs_3_0_1, hs_3_0_2, hs_3_1_0], vS rQ 3 r := List.forall_mem_cons.mpr ⟨tS_3_0_0, List.forall_mem_cons.mpr ⟨tS_3_0_1, List.forall_mem_cons.mpr ⟨tS_3_0_2, List.forall_mem_cons.mpr ⟨tS_3_1_0, List.forall_mem_nil _⟩⟩⟩⟩
theorem hS_a4 : ∀ r ∈ [hs_4_0_0, hs_4_0_1, hs_4_0_2, hs_4_1_0], vS rQ 4 r := List.forall_mem_cons.mpr ⟨tS_4_0_0, List.forall_mem_cons.mpr ⟨tS_4_0_1, List.forall_mem_cons.mpr ⟨tS_4_0_2, List.forall_mem_cons.mpr ⟨tS_4_1_0, List.forall_mem_nil _⟩⟩⟩⟩
theorem hS_a5 : ∀ r ∈ [hs_5_0_0, hs_5_0_1, hs_5_0_2, hs_5_0_3, hs_5_0_4, hs_5_0_5, hs_5_0_6, hs_5_0_7, hs_5_0_8, hs_5_1_0, hs_5_1_1], vS rQ 5 r := List.forall_mem_cons.mpr ⟨tS_5_0_0, List.forall_mem_cons.mpr ⟨tS_5_0_1, List.forall_mem_cons.mpr ⟨tS_5_0_2, List.forall_mem_cons.mpr ⟨tS_5_0_3, List.forall_mem_cons.mpr ⟨tS_5_0_4, List.forall_mem_cons.mpr ⟨tS_5_0_5, List.forall_mem_cons.mpr ⟨tS_5_0_6, List.forall_mem_cons.mpr ⟨tS_5_0_7, List.forall_mem_cons.mpr ⟨tS_5_0_8, List.forall_mem_cons.mpr ⟨tS_5_1_0, List.forall_mem_cons.mpr ⟨tS_5_1_1, List.forall_mem_nil _⟩⟩⟩⟩⟩⟩⟩⟩⟩⟩⟩
theorem hS_a6 : ∀ r ∈ [hs_6_0_0, hs_6_1_0], vS rQ 6 r := List.forall_mem_cons.mpr ⟨tS_6_0_0, List.forall_mem_cons.mpr ⟨tS_6_1_0, List.forall_mem_nil _⟩⟩
theorem hS_a7 : ∀ r ∈ [hs_7_0_0, hs_7_1_0], vS rQ 7 r := List.forall_mem_cons.mpr ⟨tS_7_0_0, List.forall_mem_cons.mpr ⟨tS_7_1_0, List.forall_mem_nil _⟩⟩
theorem hS_a8 : ∀ r ∈ [hs_8_0_0, hs_8_1_0, hs_8_1_1], vS rQ 8 r := List.forall_mem_cons.mpr ⟨tS_8_0_0, List.forall_mem_cons.mpr ⟨tS_8_1_0, List.forall_mem_cons.mpr ⟨tS_8_1_1, List.forall_mem_nil _⟩⟩⟩
theorem hS_a12 : ∀ r ∈ [hs_12_8_0, hs_12_8_1, hs_12_8_2, hs_12_8_3, hs_12_8_4, hs_12_8_5, hs_12_8_6, hs_12_8_7, hs_12_8_8, hs_12_8_9, hs_12_8_10, hs_12_8_11, hs_12_8_12, hs_12_8_13, hs_12_8_14, hs_12_8_15, hs_12_8_16, hs_12_8_17, hs_12_8_18, hs_12_8_19, hs_12_8_20, hs_12_8_21, hs_12_8_22, hs_12_8_23, hs_12_8_24, hs_12_8_25, hs_12_8_26, hs_12_8_27, hs_12_8_28, hs_12_8_29], vS rQ 12 r := List.forall_mem_cons.mpr ⟨tS_12_8_0, List.forall_mem_cons.mpr ⟨tS_12_8_1, List.forall_mem_cons.mpr ⟨tS_12_8_2, List.forall_mem_cons.mpr ⟨tS_12_8_3, List.forall_mem_cons.mpr ⟨tS_12_8_4, List.forall_mem_cons.mpr ⟨tS_12_8_5, List.forall_mem_cons.mpr ⟨tS_12_8_6, List.forall_mem_cons.mpr ⟨tS_12_8_7, List.forall_mem_cons.mpr ⟨tS_12_8_8, List.forall_mem_cons.mpr ⟨tS_12_8_9, List.forall_mem_cons.mpr ⟨tS_12_8_10, List.forall_mem_cons.mpr ⟨tS_12_8_11, List.forall_mem_cons.mpr ⟨tS_12_8_12, List.forall_mem_cons.mpr ⟨tS_12_8_13, List.forall_mem_cons.mpr ⟨tS_12_8_14, List.forall_mem_cons.mpr ⟨tS_12_8_15, List.forall_mem_cons.mpr ⟨tS_12_8_16, List.forall_mem_cons.mpr ⟨tS_12_8_17, List.forall_mem_cons.mpr ⟨tS_12_8_18, List.forall_mem_cons.mpr ⟨tS_12_8_19, List.forall_mem_cons.mpr ⟨tS_12_8_20, List.forall_mem_cons.mpr ⟨tS_12_8_21, List.forall_mem_cons.mpr ⟨tS_12_8_22, List.forall_mem_cons.mpr ⟨tS_12_8_23, List.forall_mem_cons.mpr ⟨tS_12_8_24, List.forall_mem_cons.mpr ⟨tS_12_8_25, List.forall_mem_cons.mpr ⟨tS_12_8_26, List.forall_mem_cons.mpr ⟨tS_12_8_27, List.forall_mem_cons.mpr ⟨tS_12_8_28, List.forall_mem_cons.mpr ⟨tS_12_8_29, List.forall_mem_nil _⟩⟩⟩⟩⟩⟩⟩⟩⟩⟩⟩⟩⟩⟩⟩⟩⟩⟩⟩⟩⟩⟩⟩⟩⟩⟩⟩⟩⟩⟩
theorem hS_a17 : ∀ r ∈ [hs_17_3_0], vS rQ 17 r := List.forall_mem_cons.mpr ⟨tS_17_3_0, List.forall_mem_nil _⟩
theorem hS_a23 : ∀ r ∈ [hs_23_0_0], vS rQ 23 r := List.forall_mem_cons.mpr ⟨tS_23_0_0, List.forall_mem_nil _⟩
theorem hS_a24 : ∀ r ∈ [hs_24_0_0], vS rQ 24 r := List.forall_mem_cons.mpr ⟨tS_24_0_0, List.forall_mem_nil _⟩
theorem hS_a50 : ∀ r ∈ [hs_50_1_0, hs_50_1_1, hs_50_1_2], vS rQ 50 r := List.forall_mem_cons.mpr ⟨tS_50_1_0, List.forall_mem_cons.mpr ⟨tS_50_1_1, List.forall_mem_cons.mpr ⟨tS_50_1_2, List.forall_mem_nil _⟩⟩⟩
theorem hS_a61 : ∀ r ∈ [hs_61_2_0], vS rQ 61 r := List.forall_mem_cons.mpr ⟨tS_61_2_0, List.forall_mem_nil _⟩
theorem hS_a62 : ∀ r ∈ [hs_62_1_0], vS rQ 62 r := List.forall_mem_cons.mpr ⟨tS_62_1_0, List.forall_mem_nil _⟩
theorem hS_a71 : ∀ r ∈ [hs_71_7_0, hs_71_7_1, hs_71_7_2], vS rQ 71 r := List.forall_mem_cons.mpr ⟨tS_71_7_0, List.forall_mem_cons.mpr ⟨tS_71_7_1, List.forall_mem_cons.mpr ⟨tS_71_7_2, List.forall_mem_nil _⟩⟩⟩
theorem hS_a72 : ∀ r ∈ [hs_72_8_0], vS rQ 72 r := List.forall_mem_cons.mpr ⟨tS_72_8_0, List.forall_mem_nil _⟩
theorem hS_a82 : ∀ r ∈ [hs_82_3_0, hs_82_3_1], vS rQ 82 r := List.forall_mem_cons.mpr ⟨tS_82_3_0, List.forall_mem_cons.mpr ⟨tS_82_3_1, List.forall_mem_nil _⟩⟩
theorem hS_a83 : ∀ r ∈ [hs_83_5_0], vS rQ 83 r := List.forall_mem_cons.mpr ⟨tS_83_5_0, List.forall_mem_nil _⟩
theorem hS_a88 : ∀ r ∈ [hs_88_5_0], vS rQ 88 r := List.forall_mem_cons.mpr ⟨tS_88_5_0, List.forall_mem_nil _⟩
theorem hS_a89 : ∀ r ∈ [hs_89_4_0, hs_89_4_1, hs_89_4_2], vS rQ 89 r := List.forall_mem_cons.mpr ⟨tS_89_4_0, List.forall_mem_cons.mpr ⟨tS_89_4_1, List.forall_mem_cons.mpr ⟨tS_89_4_2, List.forall_mem_nil _⟩⟩⟩
theorem hS_a90 : ∀ r ∈ [hs_90_2_0, hs_90_2_1, hs_90_2_2, hs_90_2_3], vS rQ 90 r := List.forall_mem_cons.mpr ⟨tS_90_2_0, List.forall_mem_cons.mpr ⟨tS_90_2_1, List.forall_mem_cons.mpr ⟨tS_90_2_2, List.forall_mem_cons.mpr ⟨tS_90_2_3, List.forall_mem_nil _⟩⟩⟩⟩
theorem hS_ok : ∀ n, ∀ r ∈ hST n, vS rQ n r := by
  have hA : ∀ p ∈ zenO 16 0 hSL, ∀ r ∈ p.2, vS rQ p.1 r := by
    rw [hS_en]
    exact List.forall_mem_cons.mpr ⟨hS_a1, List.forall_mem_cons.mpr ⟨hS_a2, List.forall_mem_cons.mpr ⟨hS_a3, List.forall_mem_cons.mpr ⟨hS_a4, List.forall_mem_cons.mpr ⟨hS_a5, List.forall_mem_cons.mpr ⟨hS_a6, List.forall_mem_cons.mpr ⟨hS_a7, List.forall_mem_cons.mpr ⟨hS_a8, List.forall_mem_cons.mpr ⟨hS_a12, List.forall_mem_cons.mpr ⟨hS_a17, List.forall_mem_cons.mpr ⟨hS_a23, List.forall_mem_cons.mpr ⟨hS_a24, List.forall_mem_cons.mpr ⟨hS_a50, List.forall_mem_cons.mpr ⟨hS_a61, List.forall_mem_cons.mpr ⟨hS_a62, List.forall_mem_cons.mpr ⟨hS_a71, List.forall_mem_cons.mpr ⟨hS_a72, List.forall_mem_cons.mpr ⟨hS_a82, List.forall_mem_cons.mpr ⟨hS_a83, List.forall_mem_cons.mpr ⟨hS_a88, List.forall_mem_cons.mpr ⟨hS_a89, List.forall_mem_cons.mpr ⟨hS_a90, List.forall_mem_nil _⟩⟩⟩⟩⟩⟩⟩⟩⟩⟩⟩⟩⟩⟩⟩⟩⟩⟩⟩⟩⟩⟩
  intro n r h
  unfold hST at h
  cases hq : zlook 16 hSL n with
  | none => rw [hq] at h; cases h
  | some l =>
    rw [hq] at h
    exact hA (n, l) (zlook_en hq) r h
set_option maxRecDepth 100000 in
theorem hX_en : zenO 16 0 hXL = [(6, [hx_6_0_0]), (10, [hx_10_0_0]), (12, [hx_12_8_0, hx_12_8_1, hx_12_8_2])] := rfl
theorem hX_a6 : ∀ r ∈ [hx_6_0_0], vX rQ 6 r := List.forall_mem_cons.mpr ⟨tX_6_0_0, List.forall_mem_nil _⟩
theorem hX_a10 : ∀ r ∈ [hx_10_0_0], vX rQ 10 r := List.forall_mem_cons.mpr ⟨tX_10_0_0, List.forall_mem_nil _⟩
theorem hX_a12 : ∀ r ∈ [hx_12_8_0, hx_12_8_1, hx_12_8_2], vX rQ 12 r := List.forall_mem_cons.mpr ⟨tX_12_8_0, List.forall_mem_cons.mpr ⟨tX_12_8_1, List.forall_mem_cons.mpr ⟨tX_12_8_2, List.forall_mem_nil _⟩⟩⟩
theorem hX_ok : ∀ n, ∀ r ∈ hXT n, vX rQ n r := by
  have hA : ∀ p ∈ zenO 16 0 hXL, ∀ r ∈ p.2, vX rQ p.1 r := by
    rw [hX_en]
    exact List.forall_mem_cons.mpr ⟨hX_a6, List.forall_mem_cons.mpr ⟨hX_a10, List.forall_mem_cons.mpr ⟨hX_a12, List.forall_mem_nil _⟩⟩⟩
  intro n r h
  unfold hXT at h
  cases hq : zlook 16 hXL n with
  | none => rw [hq] at h; cases h
  | some l =>
    rw [hq] at h
    exact hA (n, l) (zlook_en hq) r h
set_option maxRecDepth 100000 in
theorem hK_en : zenO 16 0 hKL = [(1, [hk_1_0_0, hk_1_0_1, hk_1_1_0]), (2, [hk_2_0_0, hk_2_0_1, hk_2_1_0, hk_2_1_1]), (3, [hk_3_0_0, hk_3_0_1]), (4, [hk_4_0_0, hk_4_0_1, hk_4_1_0]), (5, [hk_5_0_0, hk_5_0_1, hk_5_1_0]), (6, [hk_6_0_0, hk_6_0_1, hk_6_1_0, hk_6_1_1]), (7, [hk_7_0_0, hk_7_0_1, hk_7_1_0, hk_7_1_1]), (8, [hk_8_0_0, hk_8_0_1, hk_8_1_0, hk_8_1_1]), (10, [hk_10_0_0, hk_10_0_1, hk_10_1_0, hk_10_1_1]), (12, [hk_12_8_0]), (14, [hk_14_3_0]), (15, [hk_15_3_0]), (16, [hk_16_2_0]), (22, [hk_22_1_0]), (23, [hk_23_0_0, hk_23_0_1]), (24, [hk_24_0_0]), (41, [hk_41_3_0]), (60, [hk_60_3_0]), (62, [hk_62_1_0]), (80, [hk_80_1_0]), (81, [hk_81_2_0]), (82, [hk_82_3_0, hk_82_3_1]), (83, [hk_83_5_0]), (84, [hk_84_2_0]), (86, [hk_86_3_0]), (87, [hk_87_4_0]), (103, [hk_103_1_0]), (104, [hk_104_1_0]), (105, [hk_105_1_0])] := rfl
theorem hK_a1 : ∀ r ∈ [hk_1_0_0, hk_1_0_1, hk_1_1_0], vK rQ 1 r ∧ hpur r.2.2 = true := List.forall_mem_cons.mpr ⟨⟨tK_1_0_0, rfl⟩, List.forall_mem_cons.mpr ⟨⟨tK_1_0_1, rfl⟩, List.forall_mem_cons.mpr ⟨⟨tK_1_1_0, rfl⟩, List.forall_mem_nil _⟩⟩⟩
theorem hK_a2 : ∀ r ∈ [hk_2_0_0, hk_2_0_1, hk_2_1_0, hk_2_1_1], vK rQ 2 r ∧ hpur r.2.2 = true := List.forall_mem_cons.mpr ⟨⟨tK_2_0_0, rfl⟩, List.forall_mem_cons.mpr ⟨⟨tK_2_0_1, rfl⟩, List.forall_mem_cons.mpr ⟨⟨tK_2_1_0, rfl⟩, List.forall_mem_cons.mpr ⟨⟨tK_2_1_1, rfl⟩, List.forall_mem_nil _⟩⟩⟩⟩
theorem hK_a3 : ∀ r ∈ [hk_3_0_0, hk_3_0_1], vK rQ 3 r ∧ hpur r.2.2 = true := List.forall_mem_cons.mpr ⟨⟨tK_3_0_0, rfl⟩, List.forall_mem_cons.mpr ⟨⟨tK_3_0_1, rfl⟩, List.forall_mem_nil _⟩⟩
theorem hK_a4 : ∀ r ∈ [hk_4_0_0, hk_4_0_1, hk_4_1_0], vK rQ 4 r ∧ hpur r.2.2 = true := List.forall_mem_cons.mpr ⟨⟨tK_4_0_0, rfl⟩, List.forall_mem_cons.mpr ⟨⟨tK_4_0_1, rfl⟩, List.forall_mem_cons.mpr ⟨⟨tK_4_1_0, rfl⟩, List.forall_mem_nil _⟩⟩⟩
theorem hK_a5 : ∀ r ∈ [hk_5_0_0, hk_5_0_1, hk_5_1_0], vK rQ 5 r ∧ hpur r.2.2 = true := List.forall_mem_cons.mpr ⟨⟨tK_5_0_0, rfl⟩, List.forall_mem_cons.mpr ⟨⟨tK_5_0_1, rfl⟩, List.forall_mem_cons.mpr ⟨⟨tK_5_1_0, rfl⟩, List.forall_mem_nil _⟩⟩⟩
theorem hK_a6 : ∀ r ∈ [hk_6_0_0, hk_6_0_1, hk_6_1_0, hk_6_1_1], vK rQ 6 r ∧ hpur r.2.2 = true := List.forall_mem_cons.mpr ⟨⟨tK_6_0_0, rfl⟩, List.forall_mem_cons.mpr ⟨⟨tK_6_0_1, rfl⟩, List.forall_mem_cons.mpr ⟨⟨tK_6_1_0, rfl⟩, List.forall_mem_cons.mpr ⟨⟨tK_6_1_1, rfl⟩, List.forall_mem_nil _⟩⟩⟩⟩
theorem hK_a7 : ∀ r ∈ [hk_7_0_0, hk_7_0_1, hk_7_1_0, hk_7_1_1], vK rQ 7 r ∧ hpur r.2.2 = true := List.forall_mem_cons.mpr ⟨⟨tK_7_0_0, rfl⟩, List.forall_mem_cons.mpr ⟨⟨tK_7_0_1, rfl⟩, List.forall_mem_cons.mpr ⟨⟨tK_7_1_0, rfl⟩, List.forall_mem_cons.mpr ⟨⟨tK_7_1_1, rfl⟩, List.forall_mem_nil _⟩⟩⟩⟩
theorem hK_a8 : ∀ r ∈ [hk_8_0_0, hk_8_0_1, hk_8_1_0, hk_8_1_1], vK rQ 8 r ∧ hpur r.2.2 = true := List.forall_mem_cons.mpr ⟨⟨tK_8_0_0, rfl⟩, List.forall_mem_cons.mpr ⟨⟨tK_8_0_1, rfl⟩, List.forall_mem_cons.mpr ⟨⟨tK_8_1_0, rfl⟩, List.forall_mem_cons.mpr ⟨⟨tK_8_1_1, rfl⟩, List.forall_mem_nil _⟩⟩⟩⟩
theorem hK_a10 : ∀ r ∈ [hk_10_0_0, hk_10_0_1, hk_10_1_0, hk_10_1_1], vK rQ 10 r ∧ hpur r.2.2 = true := List.forall_mem_cons.mpr ⟨⟨tK_10_0_0, rfl⟩, List.forall_mem_cons.mpr ⟨⟨tK_10_0_1, rfl⟩, List.forall_mem_cons.mpr ⟨⟨tK_10_1_0, rfl⟩, List.forall_mem_cons.mpr ⟨⟨tK_10_1_1, rfl⟩, List.forall_mem_nil _⟩⟩⟩⟩
theorem hK_a12 : ∀ r ∈ [hk_12_8_0], vK rQ 12 r ∧ hpur r.2.2 = true := List.forall_mem_cons.mpr ⟨⟨tK_12_8_0, rfl⟩, List.forall_mem_nil _⟩
theorem hK_a14 : ∀ r ∈ [hk_14_3_0], vK rQ 14 r ∧ hpur r.2.2 = true := List.forall_mem_cons.mpr ⟨⟨tK_14_3_0, rfl⟩, List.forall_mem_nil _⟩
theorem hK_a15 : ∀ r ∈ [hk_15_3_0], vK rQ 15 r ∧ hpur r.2.2 = true := List.forall_mem_cons.mpr ⟨⟨tK_15_3_0, rfl⟩, List.forall_mem_nil _⟩
theorem hK_a16 : ∀ r ∈ [hk_16_2_0], vK rQ 16 r ∧ hpur r.2.2 = true := List.forall_mem_cons.mpr ⟨⟨tK_16_2_0, rfl⟩, List.forall_mem_nil _⟩
theorem hK_a22 : ∀ r ∈ [hk_22_1_0], vK rQ 22 r ∧ hpur r.2.2 = true := List.forall_mem_cons.mpr ⟨⟨tK_22_1_0, rfl⟩, List.forall_mem_nil _⟩
theorem hK_a23 : ∀ r ∈ [hk_23_0_0, hk_23_0_1], vK rQ 23 r ∧ hpur r.2.2 = true := List.forall_mem_cons.mpr ⟨⟨tK_23_0_0, rfl⟩, List.forall_mem_cons.mpr ⟨⟨tK_23_0_1, rfl⟩, List.forall_mem_nil _⟩⟩
theorem hK_a24 : ∀ r ∈ [hk_24_0_0], vK rQ 24 r ∧ hpur r.2.2 = true := List.forall_mem_cons.mpr ⟨⟨tK_24_0_0, rfl⟩, List.forall_mem_nil _⟩
theorem hK_a41 : ∀ r ∈ [hk_41_3_0], vK rQ 41 r ∧ hpur r.2.2 = true := List.forall_mem_cons.mpr ⟨⟨tK_41_3_0, rfl⟩, List.forall_mem_nil _⟩
theorem hK_a60 : ∀ r ∈ [hk_60_3_0], vK rQ 60 r ∧ hpur r.2.2 = true := List.forall_mem_cons.mpr ⟨⟨tK_60_3_0, rfl⟩, List.forall_mem_nil _⟩
theorem hK_a62 : ∀ r ∈ [hk_62_1_0], vK rQ 62 r ∧ hpur r.2.2 = true := List.forall_mem_cons.mpr ⟨⟨tK_62_1_0, rfl⟩, List.forall_mem_nil _⟩
theorem hK_a80 : ∀ r ∈ [hk_80_1_0], vK rQ 80 r ∧ hpur r.2.2 = true := List.forall_mem_cons.mpr ⟨⟨tK_80_1_0, rfl⟩, List.forall_mem_nil _⟩
theorem hK_a81 : ∀ r ∈ [hk_81_2_0], vK rQ 81 r ∧ hpur r.2.2 = true := List.forall_mem_cons.mpr ⟨⟨tK_81_2_0, rfl⟩, List.forall_mem_nil _⟩
theorem hK_a82 : ∀ r ∈ [hk_82_3_0, hk_82_3_1], vK rQ 82 r ∧ hpur r.2.2 = true := List.forall_mem_cons.mpr ⟨⟨tK_82_3_0, rfl⟩, List.forall_mem_cons.mpr ⟨⟨tK_82_3_1, rfl⟩, List.forall_mem_nil _⟩⟩
theorem hK_a83 : ∀ r ∈ [hk_83_5_0], vK rQ 83 r ∧ hpur r.2.2 = true := List.forall_mem_cons.mpr ⟨⟨tK_83_5_0, rfl⟩, List.forall_mem_nil _⟩
theorem hK_a84 : ∀ r ∈ [hk_84_2_0], vK rQ 84 r ∧ hpur r.2.2 = true := List.forall_mem_cons.mpr ⟨⟨tK_84_2_0, rfl⟩, List.forall_mem_nil _⟩
theorem hK_a86 : ∀ r ∈ [hk_86_3_0], vK rQ 86 r ∧ hpur r.2.2 = true := List.forall_mem_cons.mpr ⟨⟨tK_86_3_0, rfl⟩, List.forall_mem_nil _⟩
theorem hK_a87 : ∀ r ∈ [hk_87_4_0], vK rQ 87 r ∧ hpur r.2.2 = true := List.forall_mem_cons.mpr ⟨⟨tK_87_4_0, rfl⟩, List.forall_mem_nil _⟩
theorem hK_a103 : ∀ r ∈ [hk_103_1_0], vK rQ 103 r ∧ hpur r.2.2 = true := List.forall_mem_cons.mpr ⟨⟨tK_103_1_0, rfl⟩, List.forall_mem_nil _⟩
theorem hK_a104 : ∀ r ∈ [hk_104_1_0], vK rQ 104 r ∧ hpur r.2.2 = true := List.forall_mem_cons.mpr ⟨⟨tK_104_1_0, rfl⟩, List.forall_mem_nil _⟩
theorem hK_a105 : ∀ r ∈ [hk_105_1_0], vK rQ 105 r ∧ hpur r.2.2 = true := List.forall_mem_cons.mpr ⟨⟨tK_105_1_0, rfl⟩, List.forall_mem_nil _⟩
theorem hK_ok : ∀ n, ∀ r ∈ hKT n, vK rQ n r ∧ hpur r.2.2 = true := by
  have hA : ∀ p ∈ zenO 16 0 hKL, ∀ r ∈ p.2, vK rQ p.1 r ∧ hpur r.2.2 = true := by
    rw [hK_en]
    exact List.forall_mem_cons.mpr ⟨hK_a1, List.forall_mem_cons.mpr ⟨hK_a2, List.forall_mem_cons.mpr ⟨hK_a3, List.forall_mem_cons.mpr ⟨hK_a4, List.forall_mem_cons.mpr ⟨hK_a5, List.forall_mem_cons.mpr ⟨hK_a6, List.forall_mem_cons.mpr ⟨hK_a7, List.forall_mem_cons.mpr ⟨hK_a8, List.forall_mem_cons.mpr ⟨hK_a10, List.forall_mem_cons.mpr ⟨hK_a12, List.forall_mem_cons.mpr ⟨hK_a14, List.forall_mem_cons.mpr ⟨hK_a15, List.forall_mem_cons.mpr ⟨hK_a16, List.forall_mem_cons.mpr ⟨hK_a22, List.forall_mem_cons.mpr ⟨hK_a23, List.forall_mem_cons.mpr ⟨hK_a24, List.forall_mem_cons.mpr ⟨hK_a41, List.forall_mem_cons.mpr ⟨hK_a60, List.forall_mem_cons.mpr ⟨hK_a62, List.forall_mem_cons.mpr ⟨hK_a80, List.forall_mem_cons.mpr ⟨hK_a81, List.forall_mem_cons.mpr ⟨hK_a82, List.forall_mem_cons.mpr ⟨hK_a83, List.forall_mem_cons.mpr ⟨hK_a84, List.forall_mem_cons.mpr ⟨hK_a86, List.forall_mem_cons.mpr ⟨hK_a87, List.forall_mem_cons.mpr ⟨hK_a103, List.forall_mem_cons.mpr ⟨hK_a104, List.forall_mem_cons.mpr ⟨hK_a105, List.forall_mem_nil _⟩⟩⟩⟩⟩⟩⟩⟩⟩⟩⟩⟩⟩⟩⟩⟩⟩⟩⟩⟩⟩⟩⟩⟩⟩⟩⟩⟩⟩
  intro n r h
  unfold hKT at h
  cases hq : zlook 16 hKL n with
  | none => rw [hq] at h; cases h
  | some l =>
    rw [hq] at h
    exact hA (n, l) (zlook_en hq) r h
set_option maxRecDepth 100000 in
theorem hL_en : zenO 16 0 hLL = [(1, [hl_1_0_0]), (2, [hl_2_0_0, hl_2_0_1, hl_2_0_2]), (3, [hl_3_0_0]), (4, [hl_4_0_0]), (5, [hl_5_0_0]), (6, [hl_6_0_0]), (7, [hl_7_0_0, hl_7_0_1]), (8, [hl_8_0_0, hl_8_0_1]), (10, [hl_10_0_0, hl_10_0_1, hl_10_0_2, hl_10_0_3, hl_10_0_4, hl_10_0_5, hl_10_0_6, hl_10_0_7, hl_10_0_8, hl_10_0_9, hl_10_0_10, hl_10_0_11, hl_10_0_12, hl_10_0_13, hl_10_0_14, hl_10_0_15, hl_10_0_16, hl_10_0_17]), (12, [hl_12_8_0, hl_12_8_1, hl_12_8_2, hl_12_8_3, hl_12_8_4, hl_12_8_5, hl_12_8_6, hl_12_8_7, hl_12_8_8, hl_12_8_9, hl_12_8_10, hl_12_8_11, hl_12_8_12]), (21, [hl_21_1_0, hl_21_1_1, hl_21_1_2, hl_21_1_3, hl_21_1_4, hl_21_1_5, hl_21_1_6, hl_21_1_7]), (22, [hl_22_1_0]), (23, [hl_23_0_0, hl_23_0_1]), (24, [hl_24_0_0]), (32, [hl_32_3_0]), (33, [hl_33_3_0, hl_33_3_1, hl_33_3_2]), (40, [hl_40_3_0, hl_40_3_1, hl_40_3_2, hl_40_3_3, hl_40_3_4, hl_40_3_5, hl_40_3_6]), (41, [hl_41_3_0, hl_41_3_1]), (50, [hl_50_1_0]), (61, [hl_61_2_0]), (75, [hl_75_2_0, hl_75_2_1, hl_75_2_2, hl_75_2_3, hl_75_2_4, hl_75_2_5]), (80, [hl_80_1_0]), (82, [hl_82_3_0, hl_82_3_1, hl_82_3_2, hl_82_3_3, hl_82_3_4, hl_82_3_5, hl_82_3_6, hl_82_3_7, hl_82_3_8, hl_82_3_9, hl_82_3_10, hl_82_3_11, hl_82_3_12]), (84, [hl_84_2_0, hl_84_2_1, hl_84_2_2]), (88, [hl_88_5_0]), (91, [hl_91_2_0]), (92, [hl_92_1_0])] := rfl
theorem hL_a1 : ∀ r ∈ [hl_1_0_0], vL rQ 1 r := List.forall_mem_cons.mpr ⟨tL_1_0_0, List.forall_mem_nil _⟩
theorem hL_a2 : ∀ r ∈ [hl_2_0_0, hl_2_0_1, hl_2_0_2], vL rQ 2 r := List.forall_mem_cons.mpr ⟨tL_2_0_0, List.forall_mem_cons.mpr ⟨tL_2_0_1, List.forall_mem_cons.mpr ⟨tL_2_0_2, List.forall_mem_nil _⟩⟩⟩
theorem hL_a3 : ∀ r ∈ [hl_3_0_0], vL rQ 3 r := List.forall_mem_cons.mpr ⟨tL_3_0_0, List.forall_mem_nil _⟩
theorem hL_a4 : ∀ r ∈ [hl_4_0_0], vL rQ 4 r := List.forall_mem_cons.mpr ⟨tL_4_0_0, List.forall_mem_nil _⟩
theorem hL_a5 : ∀ r ∈ [hl_5_0_0], vL rQ 5 r := List.forall_mem_cons.mpr ⟨tL_5_0_0, List.forall_mem_nil _⟩
theorem hL_a6 : ∀ r ∈ [hl_6_0_0], vL rQ 6 r := List.forall_mem_cons.mpr ⟨tL_6_0_0, List.forall_mem_nil _⟩
theorem hL_a7 : ∀ r ∈ [hl_7_0_0, hl_7_0_1], vL rQ 7 r := List.forall_mem_cons.mpr ⟨tL_7_0_0, List.forall_mem_cons.mpr ⟨tL_7_0_1, List.forall_mem_nil _⟩⟩
theorem hL_a8 : ∀ r ∈ [hl_8_0_0, hl_8_0_1], vL rQ 8 r := List.forall_mem_cons.mpr ⟨tL_8_0_0, List.forall_mem_cons.mpr ⟨tL_8_0_1, List.forall_mem_nil _⟩⟩
theorem hL_a10 : ∀ r ∈ [hl_10_0_0, hl_10_0_1, hl_10_0_2, hl_10_0_3, hl_10_0_4, hl_10_0_5, hl_10_0_6, hl_10_0_7, hl_10_0_8, hl_10_0_9, hl_10_0_10, hl_10_0_11, hl_10_0_12, hl_10_0_13, hl_10_0_14, hl_10_0_15, hl_10_0_16, hl_10_0_17], vL rQ 10 r := List.forall_mem_cons.mpr ⟨tL_10_0_0, List.forall_mem_cons.mpr ⟨tL_10_0_1, List.forall_mem_cons.mpr ⟨tL_10_0_2, List.forall_mem_cons.mpr ⟨tL_10_0_3, List.forall_mem_cons.mpr ⟨tL_10_0_4, List.forall_mem_cons.mpr ⟨tL_10_0_5, List.forall_mem_cons.mpr ⟨tL_10_0_6, List.forall_mem_cons.mpr ⟨tL_10_0_7, List.forall_mem_cons.mpr ⟨tL_10_0_8, List.forall_mem_cons.mpr ⟨tL_10_0_9, List.forall_mem_cons.mpr ⟨tL_10_0_10, List.forall_mem_cons.mpr ⟨tL_10_0_11, List.forall_mem_cons.mpr ⟨tL_10_0_12, List.forall_mem_cons.mpr ⟨tL_10_0_13, List.forall_mem_cons.mpr ⟨tL_10_0_14, List.forall_mem_cons.mpr ⟨tL_10_0_15, List.forall_mem_cons.mpr ⟨tL_10_0_16, List.forall_mem_cons.mpr ⟨tL_10_0_17, List.forall_mem_nil _⟩⟩⟩⟩⟩⟩⟩⟩⟩⟩⟩⟩⟩⟩⟩⟩⟩⟩
theorem hL_a12 : ∀ r ∈ [hl_12_8_0, hl_12_8_1, hl_12_8_2, hl_12_8_3, hl_12_8_4, hl_12_8_5, hl_12_8_6, hl_12_8_7, hl_12_8_8, hl_12_8_9, hl_12_8_10, hl_12_8_11, hl_12_8_12], vL rQ 12 r := List.forall_mem_cons.mpr ⟨tL_12_8_0, List.forall_mem_cons.mpr ⟨tL_12_8_1, List.forall_mem_cons.mpr ⟨tL_12_8_2, List.forall_mem_cons.mpr ⟨tL_12_8_3, List.forall_mem_cons.mpr ⟨tL_12_8_4, List.forall_mem_cons.mpr ⟨tL_12_8_5, List.forall_mem_cons.mpr ⟨tL_12_8_6, List.forall_mem_cons.mpr ⟨tL_12_8_7, List.forall_mem_cons.mpr ⟨tL_12_8_8, List.forall_mem_cons.mpr ⟨tL_12_8_9, List.forall_mem_cons.mpr ⟨tL_12_8_10, List.forall_mem_cons.mpr ⟨tL_12_8_11, List.forall_mem_cons.mpr ⟨tL_12_8_12, List.forall_mem_nil _⟩⟩⟩⟩⟩⟩⟩⟩⟩⟩⟩⟩⟩
theorem hL_a21 : ∀ r ∈ [hl_21_1_0, hl_21_1_1, hl_21_1_2, hl_21_1_3, hl_21_1_4, hl_21_1_5, hl_21_1_6, hl_21_1_7], vL rQ 21 r := List.forall_mem_cons.mpr ⟨tL_21_1_0, List.forall_mem_cons.mpr ⟨tL_21_1_1, List.forall_mem_cons.mpr ⟨tL_21_1_2, List.forall_mem_cons.mpr ⟨tL_21_1_3, List.forall_mem_cons.mpr ⟨tL_21_1_4, List.forall_mem_cons.mpr ⟨tL_21_1_5, List.forall_mem_cons.mpr ⟨tL_21_1_6, List.forall_mem_cons.mpr ⟨tL_21_1_7, List.forall_mem_nil _⟩⟩⟩⟩⟩⟩⟩⟩
theorem hL_a22 : ∀ r ∈ [hl_22_1_0], vL rQ 22 r := List.forall_mem_cons.mpr ⟨tL_22_1_0, List.forall_mem_nil _⟩
theorem hL_a23 : ∀ r ∈ [hl_23_0_0, hl_23_0_1], vL rQ 23 r := List.forall_mem_cons.mpr ⟨tL_23_0_0, List.forall_mem_cons.mpr ⟨tL_23_0_1, List.forall_mem_nil _⟩⟩
theorem hL_a24 : ∀ r ∈ [hl_24_0_0], vL rQ 24 r := List.forall_mem_cons.mpr ⟨tL_24_0_0, List.forall_mem_nil _⟩
theorem hL_a32 : ∀ r ∈ [hl_32_3_0], vL rQ 32 r := List.forall_mem_cons.mpr ⟨tL_32_3_0, List.forall_mem_nil _⟩
theorem hL_a33 : ∀ r ∈ [hl_33_3_0, hl_33_3_1, hl_33_3_2], vL rQ 33 r := List.forall_mem_cons.mpr ⟨tL_33_3_0, List.forall_mem_cons.mpr ⟨tL_33_3_1, List.forall_mem_cons.mpr ⟨tL_33_3_2, List.forall_mem_nil _⟩⟩⟩
theorem hL_a40 : ∀ r ∈ [hl_40_3_0, hl_40_3_1, hl_40_3_2, hl_40_3_3, hl_40_3_4, hl_40_3_5, hl_40_3_6], vL rQ 40 r := List.forall_mem_cons.mpr ⟨tL_40_3_0, List.forall_mem_cons.mpr ⟨tL_40_3_1, List.forall_mem_cons.mpr ⟨tL_40_3_2, List.forall_mem_cons.mpr ⟨tL_40_3_3, List.forall_mem_cons.mpr ⟨tL_40_3_4, List.forall_mem_cons.mpr ⟨tL_40_3_5, List.forall_mem_cons.mpr ⟨tL_40_3_6, List.forall_mem_nil _⟩⟩⟩⟩⟩⟩⟩
theorem hL_a41 : ∀ r ∈ [hl_41_3_0, hl_41_3_1], vL rQ 41 r := List.forall_mem_cons.mpr ⟨tL_41_3_0, List.forall_mem_cons.mpr ⟨tL_41_3_1, List.forall_mem_nil _⟩⟩
theorem hL_a50 : ∀ r ∈ [hl_50_1_0], vL rQ 50 r := List.forall_mem_cons.mpr ⟨tL_50_1_0, List.forall_mem_nil _⟩
theorem hL_a61 : ∀ r ∈ [hl_61_2_0], vL rQ 61 r := List.forall_mem_cons.mpr ⟨tL_61_2_0, List.forall_mem_nil _⟩
theorem hL_a75 : ∀ r ∈ [hl_75_2_0, hl_75_2_1, hl_75_2_2, hl_75_2_3, hl_75_2_4, hl_75_2_5], vL rQ 75 r := List.forall_mem_cons.mpr ⟨tL_75_2_0, List.forall_mem_cons.mpr ⟨tL_75_2_1, List.forall_mem_cons.mpr ⟨tL_75_2_2, List.forall_mem_cons.mpr ⟨tL_75_2_3, List.forall_mem_cons.mpr ⟨tL_75_2_4, List.forall_mem_cons.mpr ⟨tL_75_2_5, List.forall_mem_nil _⟩⟩⟩⟩⟩⟩
theorem hL_a80 : ∀ r ∈ [hl_80_1_0], vL rQ 80 r := List.forall_mem_cons.mpr ⟨tL_80_1_0, List.forall_mem_nil _⟩
theorem hL_a82 : ∀ r ∈ [hl_82_3_0, hl_82_3_1, hl_82_3_2, hl_82_3_3, hl_82_3_4, hl_82_3_5, hl_82_3_6, hl_82_3_7, hl_82_3_8, hl_82_3_9, hl_82_3_10, hl_82_3_11, hl_82_3_12], vL rQ 82 r := List.forall_mem_cons.mpr ⟨tL_82_3_0, List.forall_mem_cons.mpr ⟨tL_82_3_1, List.forall_mem_cons.mpr ⟨tL_82_3_2, List.forall_mem_cons.mpr ⟨tL_82_3_3, List.forall_mem_cons.mpr ⟨tL_82_3_4, List.forall_mem_cons.mpr ⟨tL_82_3_5, List.forall_mem_cons.mpr ⟨tL_82_3_6, List.forall_mem_cons.mpr ⟨tL_82_3_7, List.forall_mem_cons.mpr ⟨tL_82_3_8, List.forall_mem_cons.mpr ⟨tL_82_3_9, List.forall_mem_cons.mpr ⟨tL_82_3_10, List.forall_mem_cons.mpr ⟨tL_82_3_11, List.forall_mem_cons.mpr ⟨tL_82_3_12, List.forall_mem_nil _⟩⟩⟩⟩⟩⟩⟩⟩⟩⟩⟩⟩⟩
theorem hL_a84 : ∀ r ∈ [hl_84_2_0, hl_84_2_1, hl_84_2_2], vL rQ 84 r := List.forall_mem_cons.mpr ⟨tL_84_2_0, List.forall_mem_cons.mpr ⟨tL_84_2_1, List.forall_mem_cons.mpr ⟨tL_84_2_2, List.forall_mem_nil _⟩⟩⟩
theorem hL_a88 : ∀ r ∈ [hl_88_5_0], vL rQ 88 r := List.forall_mem_cons.mpr ⟨tL_88_5_0, List.forall_mem_nil _⟩
theorem hL_a91 : ∀ r ∈ [hl_91_2_0], vL rQ 91 r := List.forall_mem_cons.mpr ⟨tL_91_2_0, List.forall_mem_nil _⟩
theorem hL_a92 : ∀ r ∈ [hl_92_1_0], vL rQ 92 r := List.forall_mem_cons.mpr ⟨tL_92_1_0, List.forall_mem_nil _⟩
theorem hL_ok : ∀ n, ∀ r ∈ hLT n, vL rQ n r := by
  have hA : ∀ p ∈ zenO 16 0 hLL, ∀ r ∈ p.2, vL rQ p.1 r := by
    rw [hL_en]
    exact List.forall_mem_cons.mpr ⟨hL_a1, List.forall_mem_cons.mpr ⟨hL_a2, List.forall_mem_cons.mpr ⟨hL_a3, List.forall_mem_cons.mpr ⟨hL_a4, List.forall_mem_cons.mpr ⟨hL_a5, List.forall_mem_cons.mpr ⟨hL_a6, List.forall_mem_cons.mpr ⟨hL_a7, List.forall_mem_cons.mpr ⟨hL_a8, List.forall_mem_cons.mpr ⟨hL_a10, List.forall_mem_cons.mpr ⟨hL_a12, List.forall_mem_cons.mpr ⟨hL_a21, List.forall_mem_cons.mpr ⟨hL_a22, List.forall_mem_cons.mpr ⟨hL_a23, List.forall_mem_cons.mpr ⟨hL_a24, List.forall_mem_cons.mpr ⟨hL_a32, List.forall_mem_cons.mpr ⟨hL_a33, List.forall_mem_cons.mpr ⟨hL_a40, List.forall_mem_cons.mpr ⟨hL_a41, List.forall_mem_cons.mpr ⟨hL_a50, List.forall_mem_cons.mpr ⟨hL_a61, List.forall_mem_cons.mpr ⟨hL_a75, List.forall_mem_cons.mpr ⟨hL_a80, List.forall_mem_cons.mpr ⟨hL_a82, List.forall_mem_cons.mpr ⟨hL_a84, List.forall_mem_cons.mpr ⟨hL_a88, List.forall_mem_cons.mpr ⟨hL_a91, List.forall_mem_cons.mpr ⟨hL_a92, List.forall_mem_nil _⟩⟩⟩⟩⟩⟩⟩⟩⟩⟩⟩⟩⟩⟩⟩⟩⟩⟩⟩⟩⟩⟩⟩⟩⟩⟩⟩
  intro n r h
  unfold hLT at h
  cases hq : zlook 16 hLL n with
  | none => rw [hq] at h; cases h
  | some l =>
    rw [hq] at h
    exact hA (n, l) (zlook_en hq) r h
set_option maxRecDepth 100000 in
theorem hD_en : zenO 16 0 hDL = [(1, [58]), (2, [58]), (3, [58]), (4, [58]), (5, [58]), (6, [58]), (7, [58]), (8, [58]), (10, [58]), (12, [58]), (14, [58]), (15, [58]), (16, [58]), (17, [58]), (18, [58]), (19, [58]), (20, [66]), (21, [66]), (22, [58, 66]), (23, [58, 66, 1027, 1028]), (24, [58, 1027]), (25, [58]), (32, []), (33, []), (40, []), (41, [58]), (50, [64]), (60, [58]), (61, [58]), (62, [58]), (71, [58]), (72, [58]), (75, [58]), (80, [67]), (81, [67]), (82, [58, 60, 67, 68]), (83, [58, 60, 67, 68]), (84, [58, 67]), (85, [58]), (86, [58, 67]), (87, [58, 67]), (88, [58, 60, 67, 68]), (89, [58, 60, 66, 67, 68]), (90, [58, 60, 66, 67, 68]), (91, [67]), (92, []), (93, []), (94, []), (103, [58]), (104, [58]), (105, [58]), (131, [58]), (132, [58]), (133, [58]), (134, [58]), (135, [58]), (137, [58]), (138, [58])] := rfl
theorem hD_ro : ∀ n, ∀ r ∈ hDT n, r < 1000 → mrole r = true := by
  have hA : ∀ p ∈ zenO 16 0 hDL, ∀ r ∈ p.2, r < 1000 → mrole r = true := by
    rw [hD_en]
    decide
  intro n r h
  unfold hDT at h
  cases hq : zlook 16 hDL n with
  | none => rw [hq] at h; cases h
  | some l =>
    rw [hq] at h
    exact hA (n, l) (zlook_en hq) r h
def depk (n : Nat) (f : rF) : Prop := ∀ ps R R' G G', (∀ r ∈ hDT n, r < 1000 → R' r = R r) → (∀ r ∈ hDT n, 1000 ≤ r → G' (r - 1000) = G (r - 1000)) → f ps R G → f ps R' G'
theorem rlk_dep (n : Nat) : ∀ l : List (Nat × rF), (∀ p ∈ l, depk p.1 p.2) → depk n (rlk l n)
  | [], _ => fun _ _ _ _ _ _ _ h => h
  | p :: l, hl => by
    unfold rlk
    cases hq : Nat.beq p.1 n with
    | true =>
      rw [cond_true, ← Nat.eq_of_beq_eq_true hq]
      exact hl p List.mem_cons_self
    | false =>
      rw [cond_false]
      exact rlk_dep n l fun q hq => hl q (List.mem_cons_of_mem _ hq)
theorem r1_dep {f : Int → (Nat → Int → Int) → Prop} {ps : List Int} {R R' : Nat → Int → Int} {G G' : Nat → Int} (hf : ∀ a, f a R → f a R') (h : r1 f ps R G) : r1 f ps R' G' := by
  unfold r1 at *
  split at h
  · exact hf _ h
  · exact h
theorem r2_dep {f : Int → Int → (Nat → Int → Int) → Prop} {ps : List Int} {R R' : Nat → Int → Int} {G G' : Nat → Int} (hf : ∀ a b, f a b R → f a b R') (h : r2 f ps R G) : r2 f ps R' G' := by
  unfold r2 at *
  split at h
  · exact hf _ _ h
  · exact h
theorem r3_dep {f : Int → Int → Int → (Nat → Int → Int) → Prop} {ps : List Int} {R R' : Nat → Int → Int} {G G' : Nat → Int} (hf : ∀ a b c, f a b c R → f a b c R') (h : r3 f ps R G) : r3 f ps R' G' := by
  unfold r3 at *
  split at h
  · exact hf _ _ _ h
  · exact h
theorem r4_dep {f : Int → Int → Int → Int → (Nat → Int → Int) → Prop} {ps : List Int} {R R' : Nat → Int → Int} {G G' : Nat → Int} (hf : ∀ a b c d, f a b c d R → f a b c d R') (h : r4 f ps R G) : r4 f ps R' G' := by
  unfold r4 at *
  split at h
  · exact hf _ _ _ _ h
  · exact h
theorem r5_dep {f : Int → Int → Int → Int → Int → (Nat → Int → Int) → Prop} {ps : List Int} {R R' : Nat → Int → Int} {G G' : Nat → Int} (hf : ∀ a b c d e, f a b c d e R → f a b c d e R') (h : r5 f ps R G) : r5 f ps R' G' := by
  unfold r5 at *
  split at h
  · exact hf _ _ _ _ _ h
  · exact h
theorem r7_dep {f : Int → Int → Int → Int → Int → Int → Int → (Nat → Int → Int) → Prop} {ps : List Int} {R R' : Nat → Int → Int} {G G' : Nat → Int} (hf : ∀ a b c d e g h, f a b c d e g h R → f a b c d e g h R') (h : r7 f ps R G) : r7 f ps R' G' := by
  unfold r7 at *
  split at h
  · exact hf _ _ _ _ _ _ _ h
  · exact h
theorem r8_dep {f : Int → Int → Int → Int → Int → Int → Int → Int → (Nat → Int → Int) → Prop} {ps : List Int} {R R' : Nat → Int → Int} {G G' : Nat → Int} (hf : ∀ a b c d e g h i, f a b c d e g h i R → f a b c d e g h i R') (h : r8 f ps R G) : r8 f ps R' G' := by
  unfold r8 at *
  split at h
  · exact hf _ _ _ _ _ _ _ _ h
  · exact h
theorem dep_12 : depk 12 (r8 fun b m i u p x y h R => q12 b m i u p x y h (R 58)) := by
  intro ps R R' G G' h1 h2 h
  have e58 := h1 58 (by decide) (by decide)
  refine r8_dep (fun a b c d e g h i hh => ?_) h
  rw [e58]
  exact hh
theorem dep_10 : depk 10 (fun ps R _ => q10 ps (R 58)) := by
  intro ps R R' G G' h1 h2 h
  have e58 := h1 58 (by decide) (by decide)
  rw [e58]
  exact h
theorem dep_2 : depk 2 (fun ps R _ => qT bs0 c2 ps (R 58)) := by
  intro ps R R' G G' h1 h2 h
  have e58 := h1 58 (by decide) (by decide)
  rw [e58]
  exact h
theorem dep_3 : depk 3 (fun ps R _ => qT bs3 c3 ps (R 58)) := by
  intro ps R R' G G' h1 h2 h
  have e58 := h1 58 (by decide) (by decide)
  rw [e58]
  exact h
theorem dep_4 : depk 4 (fun ps R _ => qT bs3 c4 ps (R 58)) := by
  intro ps R R' G G' h1 h2 h
  have e58 := h1 58 (by decide) (by decide)
  rw [e58]
  exact h
theorem dep_5 : depk 5 (fun ps R _ => qT bs5 c5 ps (R 58)) := by
  intro ps R R' G G' h1 h2 h
  have e58 := h1 58 (by decide) (by decide)
  rw [e58]
  exact h
theorem dep_6 : depk 6 (fun ps R _ => q6 ps (R 58)) := by
  intro ps R R' G G' h1 h2 h
  have e58 := h1 58 (by decide) (by decide)
  rw [e58]
  exact h
theorem dep_7 : depk 7 (fun ps R _ => qT bs0 c7 ps (R 58)) := by
  intro ps R R' G G' h1 h2 h
  have e58 := h1 58 (by decide) (by decide)
  rw [e58]
  exact h
theorem dep_8 : depk 8 (fun ps R _ => qT bs0 c8 ps (R 58)) := by
  intro ps R R' G G' h1 h2 h
  have e58 := h1 58 (by decide) (by decide)
  rw [e58]
  exact h
theorem dep_1 : depk 1 (fun ps R _ => qT bs0 c1 ps (R 58)) := by
  intro ps R R' G G' h1 h2 h
  have e58 := h1 58 (by decide) (by decide)
  rw [e58]
  exact h
theorem dep_18 : depk 18 (r4 fun b i p n R => dRs (R 58) b i p n) := by
  intro ps R R' G G' h1 h2 h
  have e58 := h1 58 (by decide) (by decide)
  refine r4_dep (fun a b c d hh => ?_) h
  rw [e58]
  exact hh
theorem dep_19 : depk 19 (r5 fun b i u p x R => dNx (R 58) b i u p x) := by
  intro ps R R' G G' h1 h2 h
  have e58 := h1 58 (by decide) (by decide)
  refine r5_dep (fun a b c d e hh => ?_) h
  rw [e58]
  exact hh
theorem dep_25 : depk 25 (r2 fun b p R => q25 b p (R 58)) := by
  intro ps R R' G G' h1 h2 h
  have e58 := h1 58 (by decide) (by decide)
  refine r2_dep (fun a b hh => ?_) h
  rw [e58]
  exact hh
theorem dep_93 : depk 93 (r1 fun k _ => ild k) := by
  intro ps R R' G G' h1 h2 h
  refine r1_dep (fun a hh => ?_) h
  exact hh
theorem dep_94 : depk 94 (r1 fun k _ => ¬ ild k) := by
  intro ps R R' G G' h1 h2 h
  refine r1_dep (fun a hh => ?_) h
  exact hh
theorem dep_14 : depk 14 (r3 fun b s k R => q14 b s k (R 58)) := by
  intro ps R R' G G' h1 h2 h
  have e58 := h1 58 (by decide) (by decide)
  refine r3_dep (fun a b c hh => ?_) h
  rw [e58]
  exact hh
theorem dep_15 : depk 15 (r3 fun b l u R => q15 b l u (R 58)) := by
  intro ps R R' G G' h1 h2 h
  have e58 := h1 58 (by decide) (by decide)
  refine r3_dep (fun a b c hh => ?_) h
  rw [e58]
  exact hh
theorem dep_16 : depk 16 (r2 fun b a R => q16 b a (R 58)) := by
  intro ps R R' G G' h1 h2 h
  have e58 := h1 58 (by decide) (by decide)
  refine r2_dep (fun a b hh => ?_) h
  rw [e58]
  exact hh
theorem dep_17 : depk 17 (r3 fun b a k R => q17 b a k (R 58)) := by
  intro ps R R' G G' h1 h2 h
  have e58 := h1 58 (by decide) (by decide)
  refine r3_dep (fun a b c hh => ?_) h
  rw [e58]
  exact hh
theorem dep_40 : depk 40 (r3 fun t c u _ => q40 t c u) := by
  intro ps R R' G G' h1 h2 h
  refine r3_dep (fun a b c hh => ?_) h
  exact hh
theorem dep_41 : depk 41 (r3 fun k n b R => q41 k n b (R 58)) := by
  intro ps R R' G G' h1 h2 h
  have e58 := h1 58 (by decide) (by decide)
  refine r3_dep (fun a b c hh => ?_) h
  rw [e58]
  exact hh
theorem dep_32 : depk 32 (r3 fun a c h _ => q32 a c h) := by
  intro ps R R' G G' h1 h2 h
  refine r3_dep (fun a b c hh => ?_) h
  exact hh
theorem dep_33 : depk 33 (r3 fun a c h _ => q33 a c h) := by
  intro ps R R' G G' h1 h2 h
  refine r3_dep (fun a b c hh => ?_) h
  exact hh
theorem dep_50 : depk 50 (r1 fun c R => q50 c (R 64)) := by
  intro ps R R' G G' h1 h2 h
  have e64 := h1 64 (by decide) (by decide)
  refine r1_dep (fun a hh => ?_) h
  rw [e64]
  exact hh
theorem dep_60 : depk 60 (r3 fun s d k R => q60 s d k (R 58)) := by
  intro ps R R' G G' h1 h2 h
  have e58 := h1 58 (by decide) (by decide)
  refine r3_dep (fun a b c hh => ?_) h
  rw [e58]
  exact hh
theorem dep_61 : depk 61 (r2 fun b k R => q61 b k (R 58)) := by
  intro ps R R' G G' h1 h2 h
  have e58 := h1 58 (by decide) (by decide)
  refine r2_dep (fun a b hh => ?_) h
  rw [e58]
  exact hh
theorem dep_62 : depk 62 (r1 fun b R => q62 b (R 58)) := by
  intro ps R R' G G' h1 h2 h
  have e58 := h1 58 (by decide) (by decide)
  refine r1_dep (fun a hh => ?_) h
  rw [e58]
  exact hh
theorem dep_103 : depk 103 (r1 fun b R => qB bs3 c3 b (R 58)) := by
  intro ps R R' G G' h1 h2 h
  have e58 := h1 58 (by decide) (by decide)
  refine r1_dep (fun a hh => ?_) h
  rw [e58]
  exact hh
theorem dep_104 : depk 104 (r1 fun b R => qB bs3 c4 b (R 58)) := by
  intro ps R R' G G' h1 h2 h
  have e58 := h1 58 (by decide) (by decide)
  refine r1_dep (fun a hh => ?_) h
  rw [e58]
  exact hh
theorem dep_105 : depk 105 (r1 fun b R => qB bs5 c5 b (R 58)) := by
  intro ps R R' G G' h1 h2 h
  have e58 := h1 58 (by decide) (by decide)
  refine r1_dep (fun a hh => ?_) h
  rw [e58]
  exact hh
theorem dep_71 : depk 71 (r7 fun b w a n e k p R => q71 b w a n e k p (R 58)) := by
  intro ps R R' G G' h1 h2 h
  have e58 := h1 58 (by decide) (by decide)
  refine r7_dep (fun a b c d e g h hh => ?_) h
  rw [e58]
  exact hh
theorem dep_72 : depk 72 (r8 fun b w a n e k p o R => q72 b w a n e k p o (R 58)) := by
  intro ps R R' G G' h1 h2 h
  have e58 := h1 58 (by decide) (by decide)
  refine r8_dep (fun a b c d e g h i hh => ?_) h
  rw [e58]
  exact hh
theorem dep_75 : depk 75 (r2 fun b i R => q75 b i (R 58)) := by
  intro ps R R' G G' h1 h2 h
  have e58 := h1 58 (by decide) (by decide)
  refine r2_dep (fun a b hh => ?_) h
  rw [e58]
  exact hh
theorem dep_80 : depk 80 (r1 fun n R => q80 n (R 67)) := by
  intro ps R R' G G' h1 h2 h
  have e67 := h1 67 (by decide) (by decide)
  refine r1_dep (fun a hh => ?_) h
  rw [e67]
  exact hh
theorem dep_81 : depk 81 (r2 fun t k R => q81 t k (R 67)) := by
  intro ps R R' G G' h1 h2 h
  have e67 := h1 67 (by decide) (by decide)
  refine r2_dep (fun a b hh => ?_) h
  rw [e67]
  exact hh
theorem dep_82 : depk 82 (r3 fun b n e R => q82 b n e (R 58) (R 67) (R 68) (R 60)) := by
  intro ps R R' G G' h1 h2 h
  have e58 := h1 58 (by decide) (by decide)
  have e60 := h1 60 (by decide) (by decide)
  have e67 := h1 67 (by decide) (by decide)
  have e68 := h1 68 (by decide) (by decide)
  refine r3_dep (fun a b c hh => ?_) h
  rw [e58, e60, e67, e68]
  exact hh
theorem dep_83 : depk 83 (r5 fun b p i k e R => q83 b p i k e (R 58) (R 67) (R 68) (R 60)) := by
  intro ps R R' G G' h1 h2 h
  have e58 := h1 58 (by decide) (by decide)
  have e60 := h1 60 (by decide) (by decide)
  have e67 := h1 67 (by decide) (by decide)
  have e68 := h1 68 (by decide) (by decide)
  refine r5_dep (fun a b c d e hh => ?_) h
  rw [e58, e60, e67, e68]
  exact hh
theorem dep_84 : depk 84 (r2 fun b n R => q84 b n (R 58) (R 67)) := by
  intro ps R R' G G' h1 h2 h
  have e58 := h1 58 (by decide) (by decide)
  have e67 := h1 67 (by decide) (by decide)
  refine r2_dep (fun a b hh => ?_) h
  rw [e58, e67]
  exact hh
theorem dep_85 : depk 85 (r2 fun b t R => dDone (R 58) b t) := by
  intro ps R R' G G' h1 h2 h
  have e58 := h1 58 (by decide) (by decide)
  refine r2_dep (fun a b hh => ?_) h
  rw [e58]
  exact hh
theorem dep_86 : depk 86 (r3 fun b n m R => q86 b n m (R 58) (R 67)) := by
  intro ps R R' G G' h1 h2 h
  have e58 := h1 58 (by decide) (by decide)
  have e67 := h1 67 (by decide) (by decide)
  refine r3_dep (fun a b c hh => ?_) h
  rw [e58, e67]
  exact hh
theorem dep_87 : depk 87 (r4 fun b i k n R => q87 b i k n (R 58) (R 67)) := by
  intro ps R R' G G' h1 h2 h
  have e58 := h1 58 (by decide) (by decide)
  have e67 := h1 67 (by decide) (by decide)
  refine r4_dep (fun a b c d hh => ?_) h
  rw [e58, e67]
  exact hh
theorem dep_88 : depk 88 (r5 fun b p i k a R => q88 b p i k a (R 58) (R 67) (R 68)) := by
  intro ps R R' G G' h1 h2 h
  have e58 := h1 58 (by decide) (by decide)
  have e67 := h1 67 (by decide) (by decide)
  have e68 := h1 68 (by decide) (by decide)
  refine r5_dep (fun a b c d e hh => ?_) h
  rw [e58, e67, e68]
  exact hh
theorem dep_89 : depk 89 (r4 fun b _ i k R => q89 b i k (R 58) (R 67) (R 68) (R 60) (R 66)) := by
  intro ps R R' G G' h1 h2 h
  have e58 := h1 58 (by decide) (by decide)
  have e60 := h1 60 (by decide) (by decide)
  have e66 := h1 66 (by decide) (by decide)
  have e67 := h1 67 (by decide) (by decide)
  have e68 := h1 68 (by decide) (by decide)
  refine r4_dep (fun a b c d hh => ?_) h
  rw [e58, e60, e66, e67, e68]
  exact hh
theorem dep_90 : depk 90 (r2 fun b n R => q90 b n (R 58) (R 67) (R 68) (R 60) (R 66)) := by
  intro ps R R' G G' h1 h2 h
  have e58 := h1 58 (by decide) (by decide)
  have e60 := h1 60 (by decide) (by decide)
  have e66 := h1 66 (by decide) (by decide)
  have e67 := h1 67 (by decide) (by decide)
  have e68 := h1 68 (by decide) (by decide)
  refine r2_dep (fun a b hh => ?_) h
  rw [e58, e60, e66, e67, e68]
  exact hh
theorem dep_91 : depk 91 (r2 fun t n R => q91 t n (R 67)) := by
  intro ps R R' G G' h1 h2 h
  have e67 := h1 67 (by decide) (by decide)
  refine r2_dep (fun a b hh => ?_) h
  rw [e67]
  exact hh
theorem dep_20 : depk 20 (r1 fun n R => q20 n (R 66)) := by
  intro ps R R' G G' h1 h2 h
  have e66 := h1 66 (by decide) (by decide)
  refine r1_dep (fun a hh => ?_) h
  rw [e66]
  exact hh
theorem dep_21 : depk 21 (r1 fun e R => q21 e (R 66)) := by
  intro ps R R' G G' h1 h2 h
  have e66 := h1 66 (by decide) (by decide)
  refine r1_dep (fun a hh => ?_) h
  rw [e66]
  exact hh
theorem dep_22 : depk 22 (r1 fun f R => q22 f (R 66) (R 58)) := by
  intro ps R R' G G' h1 h2 h
  have e58 := h1 58 (by decide) (by decide)
  have e66 := h1 66 (by decide) (by decide)
  refine r1_dep (fun a hh => ?_) h
  rw [e58, e66]
  exact hh
theorem dep_23 : depk 23 (fun ps R G => match ps with | [] => q23 (G 27) (G 28) (R 66) (R 58) | _ => False) := by
  intro ps R R' G G' h1 h2 h
  have e58 := h1 58 (by decide) (by decide)
  have e66 := h1 66 (by decide) (by decide)
  have k27 := h2 1027 (by decide) (by decide)
  have k28 := h2 1028 (by decide) (by decide)
  replace k27 : G' 27 = G 27 := k27
  replace k28 : G' 28 = G 28 := k28
  revert h
  split
  · intro h
    rw [e58, e66, k27, k28]
    exact h
  · exact fun h => h
theorem dep_24 : depk 24 (fun ps R G => match ps with | [] => G 27 ≤ 0 ∨ 2 ≤ R 58 198501 | _ => False) := by
  intro ps R R' G G' h1 h2 h
  have e58 := h1 58 (by decide) (by decide)
  have k27 := h2 1027 (by decide) (by decide)
  replace k27 : G' 27 = G 27 := k27
  revert h
  split
  · intro h
    rw [e58, k27]
    exact h
  · exact fun h => h
theorem dep_92 : depk 92 (r1 fun k _ => k ≠ 10) := by
  intro ps R R' G G' h1 h2 h
  refine r1_dep (fun a hh => ?_) h
  exact hh
theorem dep_131 : depk 131 (r1 fun e R => c1 (R 58) e) := by
  intro ps R R' G G' h1 h2 h
  have e58 := h1 58 (by decide) (by decide)
  refine r1_dep (fun a hh => ?_) h
  rw [e58]
  exact hh
theorem dep_132 : depk 132 (r1 fun e R => c2 (R 58) e) := by
  intro ps R R' G G' h1 h2 h
  have e58 := h1 58 (by decide) (by decide)
  refine r1_dep (fun a hh => ?_) h
  rw [e58]
  exact hh
theorem dep_133 : depk 133 (r1 fun e R => c3 (R 58) e) := by
  intro ps R R' G G' h1 h2 h
  have e58 := h1 58 (by decide) (by decide)
  refine r1_dep (fun a hh => ?_) h
  rw [e58]
  exact hh
theorem dep_134 : depk 134 (r1 fun e R => c4 (R 58) e) := by
  intro ps R R' G G' h1 h2 h
  have e58 := h1 58 (by decide) (by decide)
  refine r1_dep (fun a hh => ?_) h
  rw [e58]
  exact hh
theorem dep_135 : depk 135 (r1 fun e R => c5 (R 58) e) := by
  intro ps R R' G G' h1 h2 h
  have e58 := h1 58 (by decide) (by decide)
  refine r1_dep (fun a hh => ?_) h
  rw [e58]
  exact hh
theorem dep_137 : depk 137 (r1 fun e R => c7 (R 58) e) := by
  intro ps R R' G G' h1 h2 h
  have e58 := h1 58 (by decide) (by decide)
  refine r1_dep (fun a hh => ?_) h
  rw [e58]
  exact hh
theorem dep_138 : depk 138 (r1 fun e R => c8 (R 58) e) := by
  intro ps R R' G G' h1 h2 h
  have e58 := h1 58 (by decide) (by decide)
  refine r1_dep (fun a hh => ?_) h
  rw [e58]
  exact hh
theorem rQ_dep (n : Nat) : depk n (rQ n) := rlk_dep n rQL (List.forall_mem_cons.mpr ⟨dep_12, List.forall_mem_cons.mpr ⟨dep_10, List.forall_mem_cons.mpr ⟨dep_2, List.forall_mem_cons.mpr ⟨dep_3, List.forall_mem_cons.mpr ⟨dep_4, List.forall_mem_cons.mpr ⟨dep_5, List.forall_mem_cons.mpr ⟨dep_6, List.forall_mem_cons.mpr ⟨dep_7, List.forall_mem_cons.mpr ⟨dep_8, List.forall_mem_cons.mpr ⟨dep_1, List.forall_mem_cons.mpr ⟨dep_18, List.forall_mem_cons.mpr ⟨dep_19, List.forall_mem_cons.mpr ⟨dep_25, List.forall_mem_cons.mpr ⟨dep_93, List.forall_mem_cons.mpr ⟨dep_94, List.forall_mem_cons.mpr ⟨dep_14, List.forall_mem_cons.mpr ⟨dep_15, List.forall_mem_cons.mpr ⟨dep_16, List.forall_mem_cons.mpr ⟨dep_17, List.forall_mem_cons.mpr ⟨dep_40, List.forall_mem_cons.mpr ⟨dep_41, List.forall_mem_cons.mpr ⟨dep_32, List.forall_mem_cons.mpr ⟨dep_33, List.forall_mem_cons.mpr ⟨dep_50, List.forall_mem_cons.mpr ⟨dep_60, List.forall_mem_cons.mpr ⟨dep_61, List.forall_mem_cons.mpr ⟨dep_62, List.forall_mem_cons.mpr ⟨dep_103, List.forall_mem_cons.mpr ⟨dep_104, List.forall_mem_cons.mpr ⟨dep_105, List.forall_mem_cons.mpr ⟨dep_71, List.forall_mem_cons.mpr ⟨dep_72, List.forall_mem_cons.mpr ⟨dep_75, List.forall_mem_cons.mpr ⟨dep_80, List.forall_mem_cons.mpr ⟨dep_81, List.forall_mem_cons.mpr ⟨dep_82, List.forall_mem_cons.mpr ⟨dep_83, List.forall_mem_cons.mpr ⟨dep_84, List.forall_mem_cons.mpr ⟨dep_85, List.forall_mem_cons.mpr ⟨dep_86, List.forall_mem_cons.mpr ⟨dep_87, List.forall_mem_cons.mpr ⟨dep_88, List.forall_mem_cons.mpr ⟨dep_89, List.forall_mem_cons.mpr ⟨dep_90, List.forall_mem_cons.mpr ⟨dep_91, List.forall_mem_cons.mpr ⟨dep_20, List.forall_mem_cons.mpr ⟨dep_21, List.forall_mem_cons.mpr ⟨dep_22, List.forall_mem_cons.mpr ⟨dep_23, List.forall_mem_cons.mpr ⟨dep_24, List.forall_mem_cons.mpr ⟨dep_92, List.forall_mem_cons.mpr ⟨dep_131, List.forall_mem_cons.mpr ⟨dep_132, List.forall_mem_cons.mpr ⟨dep_133, List.forall_mem_cons.mpr ⟨dep_134, List.forall_mem_cons.mpr ⟨dep_135, List.forall_mem_cons.mpr ⟨dep_137, List.forall_mem_cons.mpr ⟨dep_138, List.forall_mem_nil _⟩⟩⟩⟩⟩⟩⟩⟩⟩⟩⟩⟩⟩⟩⟩⟩⟩⟩⟩⟩⟩⟩⟩⟩⟩⟩⟩⟩⟩⟩⟩⟩⟩⟩⟩⟩⟩⟩⟩⟩⟩⟩⟩⟩⟩⟩⟩⟩⟩⟩⟩⟩⟩⟩⟩⟩⟩⟩)
theorem rH_ok : hOK rHT rQ := ⟨hN_ok, hU_ok, hS_ok, hX_ok, hK_ok, hL_ok, ⟨hD_ro, fun n ps R R' G G' h1 h2 h => rQ_dep n ps R R' G G' h1 h2 h⟩, List.forall_mem_cons.mpr ⟨tG_0, List.forall_mem_cons.mpr ⟨tG_1, List.forall_mem_cons.mpr ⟨tG_2, List.forall_mem_cons.mpr ⟨tG_3, List.forall_mem_nil _⟩⟩⟩⟩⟩
