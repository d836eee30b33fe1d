/-! THE CLASS: checks (2884 steps; printed by gen40.py) -/
theorem cw_282_0 : scwf cc_282_0 = true := by decide +kernel
theorem ce_282_0 : schE (hSx cpd) (hMx cpd) (hNx cpd) (hLx cpd) (hCx cpd) cG 10 zmt xo ctb 1000000 282 cc_282_0 = true := by decide +kernel
theorem ck_282_0 : CK 282 cc_282_0 := ⟨cw_282_0, ce_282_0, List.forall_mem_nil _⟩
theorem cw_254_0 : scwf cc_254_0 = true := by decide +kernel
theorem ce_254_0 : schE (hSx cpd) (hMx cpd) (hNx cpd) (hLx cpd) (hCx cpd) cG 10 zmt xo ctb 1000000 254 cc_254_0 = true := by decide +kernel
theorem ck_254_0 : CK 254 cc_254_0 := ⟨cw_254_0, ce_254_0, List.forall_mem_nil _⟩
theorem cw_256_0 : scwf cc_256_0 = true := by decide +kernel
theorem ce_256_0 : schE (hSx cpd) (hMx cpd) (hNx cpd) (hLx cpd) (hCx cpd) cG 10 zmt xo ctb 1000000 256 cc_256_0 = true := by decide +kernel
theorem ck_256_0 : CK 256 cc_256_0 := ⟨cw_256_0, ce_256_0, List.forall_mem_nil _⟩
theorem cw_254_1 : scwf cc_254_1 = true := by decide +kernel
theorem ce_254_1 : schE (hSx cpd) (hMx cpd) (hNx cpd) (hLx cpd) (hCx cpd) cG 10 zmt xo ctb 1000000 254 cc_254_1 = true := by decide +kernel
theorem ck_254_1 : CK 254 cc_254_1 := ⟨cw_254_1, ce_254_1, List.forall_mem_nil _⟩
theorem cw_255_0 : scwf cc_255_0 = true := by decide +kernel
theorem ce_255_0 : schE (hSx cpd) (hMx cpd) (hNx cpd) (hLx cpd) (hCx cpd) cG 10 zmt xo ctb 1000000 255 cc_255_0 = true := by decide +kernel
theorem ck_255_0 : CK 255 cc_255_0 := ⟨cw_255_0, ce_255_0, List.forall_mem_nil _⟩
theorem cw_256_1 : scwf cc_256_1 = true := by decide +kernel
theorem ce_256_1 : schE (hSx cpd) (hMx cpd) (hNx cpd) (hLx cpd) (hCx cpd) cG 10 zmt xo ctb 1000000 256 cc_256_1 = true := by decide +kernel
theorem ck_256_1 : CK 256 cc_256_1 := ⟨cw_256_1, ce_256_1, List.forall_mem_nil _⟩
theorem cw_282_1 : scwf cc_282_1 = true := by decide +kernel
theorem ce_282_1 : schE (hSx cpd) (hMx cpd) (hNx cpd) (hLx cpd) (hCx cpd) cG 10 zmt xo ctb 1000000 282 cc_282_1 = true := by decide +kernel
theorem ck_282_1 : CK 282 cc_282_1 := ⟨cw_282_1, ce_282_1, List.forall_mem_nil _⟩
theorem cw_94_1 : scwf cc_94_1 = true := by decide +kernel
theorem ce_94_1 : schE (hSx cpd) (hMx cpd) (hNx cpd) (hLx cpd) (hCx cpd) cG 10 zmt xo ctb 1000000 94 cc_94_1 = true := by decide +kernel
theorem ck_94_1 : CK 94 cc_94_1 := ⟨cw_94_1, ce_94_1, List.forall_mem_nil _⟩
theorem cw_256_2 : scwf cc_256_2 = true := by decide +kernel
theorem ce_256_2 : schE (hSx cpd) (hMx cpd) (hNx cpd) (hLx cpd) (hCx cpd) cG 10 zmt xo ctb 1000000 256 cc_256_2 = true := by decide +kernel
theorem ck_256_2 : CK 256 cc_256_2 := ⟨cw_256_2, ce_256_2, List.forall_mem_nil _⟩
theorem cw_282_2 : scwf cc_282_2 = true := by decide +kernel
theorem ce_282_2 : schE (hSx cpd) (hMx cpd) (hNx cpd) (hLx cpd) (hCx cpd) cG 10 zmt xo ctb 1000000 282 cc_282_2 = true := by decide +kernel
theorem ck_282_2 : CK 282 cc_282_2 := ⟨cw_282_2, ce_282_2, List.forall_mem_nil _⟩
theorem cw_104_1 : scwf cc_104_1 = true := by decide +kernel
theorem ce_104_1 : schE (hSx cpd) (hMx cpd) (hNx cpd) (hLx cpd) (hCx cpd) cG 10 zmt xo ctb 1000000 104 cc_104_1 = true := by decide +kernel
theorem ch_104_1_0 : schH (hSx cpd) (hMx cpd) (hNx cpd) (hLx cpd) (hCx cpd) cG 10 zmt xo ctb 1000000 104 cc_104_1 (9, ([((0, 0, 0, (0, []), (0, [])), 3, 3, (0, [(0, 1)]), 0, 0, 0), ((1, 3, 8, (0, [(0, 1)]), (0, [])), 0, 0, (0, [(2, 1)]), 0, 0, 0), ((1, 3, 9, (0, [(0, 1)]), (0, [])), 0, 0, (0, [(1, 1)]), 0, 0, 0), ((0, 1, 0, (0, []), (0, [])), 0, 0, (0, []), 1, 0, 2147483647)], [(0, [(2, (-1)), (6, 1)]), ((-1), [(1, (-1)), (2, 1)])], [(1, []), (2, []), (3, []), (4, []), (5, []), (6, []), (7, []), (10, []), (1, []), (2, []), (3, []), (4, []), (5, []), (6, []), (7, []), (10, [])]), (63382530011411470074837307752447, [(6, (-1))])) = true := by decide +kernel
theorem ck_104_1 : CK 104 cc_104_1 := ⟨cw_104_1, ce_104_1, List.forall_mem_cons.mpr ⟨ch_104_1_0, List.forall_mem_nil _⟩⟩
theorem cw_256_3 : scwf cc_256_3 = true := by decide +kernel
theorem ce_256_3 : schE (hSx cpd) (hMx cpd) (hNx cpd) (hLx cpd) (hCx cpd) cG 10 zmt xo ctb 1000000 256 cc_256_3 = true := by decide +kernel
theorem ck_256_3 : CK 256 cc_256_3 := ⟨cw_256_3, ce_256_3, List.forall_mem_nil _⟩
theorem cw_281_0 : scwf cc_281_0 = true := by decide +kernel
theorem ce_281_0 : schE (hSx cpd) (hMx cpd) (hNx cpd) (hLx cpd) (hCx cpd) cG 10 zmt xo ctb 1000000 281 cc_281_0 = true := by decide +kernel
theorem ck_281_0 : CK 281 cc_281_0 := ⟨cw_281_0, ce_281_0, List.forall_mem_nil _⟩
theorem cw_282_3 : scwf cc_282_3 = true := by decide +kernel
theorem ce_282_3 : schE (hSx cpd) (hMx cpd) (hNx cpd) (hLx cpd) (hCx cpd) cG 10 zmt xo ctb 1000000 282 cc_282_3 = true := by decide +kernel
theorem ck_282_3 : CK 282 cc_282_3 := ⟨cw_282_3, ce_282_3, List.forall_mem_nil _⟩
theorem cw_254_2 : scwf cc_254_2 = true := by decide +kernel
theorem ce_254_2 : schE (hSx cpd) (hMx cpd) (hNx cpd) (hLx cpd) (hCx cpd) cG 10 zmt xo ctb 1000000 254 cc_254_2 = true := by decide +kernel
theorem ck_254_2 : CK 254 cc_254_2 := ⟨cw_254_2, ce_254_2, List.forall_mem_nil _⟩
theorem cw_280_0 : scwf cc_280_0 = true := by decide +kernel
theorem ce_280_0 : schE (hSx cpd) (hMx cpd) (hNx cpd) (hLx cpd) (hCx cpd) cG 10 zmt xo ctb 1000000 280 cc_280_0 = true := by decide +kernel
theorem ck_280_0 : CK 280 cc_280_0 := ⟨cw_280_0, ce_280_0, List.forall_mem_nil _⟩
theorem cw_182_0 : scwf cc_182_0 = true := by decide +kernel
theorem ce_182_0 : schE (hSx cpd) (hMx cpd) (hNx cpd) (hLx cpd) (hCx cpd) cG 10 zmt xo ctb 1000000 182 cc_182_0 = true := by decide +kernel
theorem ck_182_0 : CK 182 cc_182_0 := ⟨cw_182_0, ce_182_0, List.forall_mem_nil _⟩
theorem cw_183_0 : scwf cc_183_0 = true := by decide +kernel
theorem ce_183_0 : schE (hSx cpd) (hMx cpd) (hNx cpd) (hLx cpd) (hCx cpd) cG 10 zmt xo ctb 1000000 183 cc_183_0 = true := by decide +kernel
theorem ck_183_0 : CK 183 cc_183_0 := ⟨cw_183_0, ce_183_0, List.forall_mem_nil _⟩
theorem cw_512_0 : scwf cc_512_0 = true := by decide +kernel
theorem ce_512_0 : schE (hSx cpd) (hMx cpd) (hNx cpd) (hLx cpd) (hCx cpd) cG 10 zmt xo ctb 1000000 512 cc_512_0 = true := by decide +kernel
theorem ch_512_0_0 : schH (hSx cpd) (hMx cpd) (hNx cpd) (hLx cpd) (hCx cpd) cG 10 zmt xo ctb 1000000 512 cc_512_0 (5, ([((0, 0, 0, (0, []), (0, [])), 4, 2, (0, [(0, 1)]), 0, 0, 0), ((0, 1, 0, (0, []), (0, [])), 0, 0, (0, [(1, 1)]), 0, 0, 0), ((0, 3, 0, (0, []), (0, [])), 0, 0, (360, []), 0, 0, 0), ((0, 2, 0, (0, []), (0, [])), 0, 0, (0, []), 1, 0, 300000)], [], [(1, []), (2, []), (3, []), (4, []), (5, []), (6, []), (7, []), (10, [])]), (32958915605933964438914283639776, [(5, (-1))])) = true := by decide +kernel
theorem ck_512_0 : CK 512 cc_512_0 := ⟨cw_512_0, ce_512_0, List.forall_mem_cons.mpr ⟨ch_512_0_0, List.forall_mem_nil _⟩⟩
theorem cw_256_4 : scwf cc_256_4 = true := by decide +kernel
theorem ce_256_4 : schE (hSx cpd) (hMx cpd) (hNx cpd) (hLx cpd) (hCx cpd) cG 10 zmt xo ctb 1000000 256 cc_256_4 = true := by decide +kernel
theorem ck_256_4 : CK 256 cc_256_4 := ⟨cw_256_4, ce_256_4, List.forall_mem_nil _⟩
theorem cw_281_1 : scwf cc_281_1 = true := by decide +kernel
theorem ce_281_1 : schE (hSx cpd) (hMx cpd) (hNx cpd) (hLx cpd) (hCx cpd) cG 10 zmt xo ctb 1000000 281 cc_281_1 = true := by decide +kernel
theorem ck_281_1 : CK 281 cc_281_1 := ⟨cw_281_1, ce_281_1, List.forall_mem_nil _⟩
theorem cw_282_4 : scwf cc_282_4 = true := by decide +kernel
theorem ce_282_4 : schE (hSx cpd) (hMx cpd) (hNx cpd) (hLx cpd) (hCx cpd) cG 10 zmt xo ctb 1000000 282 cc_282_4 = true := by decide +kernel
theorem ck_282_4 : CK 282 cc_282_4 := ⟨cw_282_4, ce_282_4, List.forall_mem_nil _⟩
theorem cw_282_8 : scwf cc_282_8 = true := by decide +kernel
theorem ce_282_8 : schE (hSx cpd) (hMx cpd) (hNx cpd) (hLx cpd) (hCx cpd) cG 10 zmt xo ctb 1000000 282 cc_282_8 = true := by decide +kernel
theorem ck_282_8 : CK 282 cc_282_8 := ⟨cw_282_8, ce_282_8, List.forall_mem_nil _⟩
theorem cw_287_0 : scwf cc_287_0 = true := by decide +kernel
theorem ce_287_0 : schE (hSx cpd) (hMx cpd) (hNx cpd) (hLx cpd) (hCx cpd) cG 10 zmt xo ctb 1000000 287 cc_287_0 = true := by decide +kernel
theorem ch_287_0_0 : schH (hSx cpd) (hMx cpd) (hNx cpd) (hLx cpd) (hCx cpd) cG 10 zmt xo ctb 1000000 287 cc_287_0 (3, ([((0, 0, 0, (0, []), (0, [])), 5, 0, (0, [(0, 1)]), 0, 0, 0), ((0, 1, 0, (0, []), (0, [])), 5, 0, (0, [(1, 1)]), 0, 0, 0), ((0, 2, 0, (0, []), (0, [])), 0, 0, (0, [(2, 1)]), 0, 0, 0), ((0, 3, 0, (0, []), (0, [])), 0, 0, (0, [(3, 1)]), 0, 0, 0), ((0, 4, 0, (0, []), (0, [])), 0, 0, (0, []), 1, 0, 300000)], [(300000, [(3, (-1))]), (0, [(1, 1), (3, (-1))]), (0, [(0, 1), (3, (-1))])], [(1, []), (2, []), (3, []), (4, []), (5, []), (6, []), (7, []), (10, [])]), (10141204801825835211973625943008, [(8, (-1))])) = true := by decide +kernel
theorem ck_287_0 : CK 287 cc_287_0 := ⟨cw_287_0, ce_287_0, List.forall_mem_cons.mpr ⟨ch_287_0_0, List.forall_mem_nil _⟩⟩
theorem cw_288_0 : scwf cc_288_0 = true := by decide +kernel
theorem ce_288_0 : schE (hSx cpd) (hMx cpd) (hNx cpd) (hLx cpd) (hCx cpd) cG 10 zmt xo ctb 1000000 288 cc_288_0 = true := by decide +kernel
theorem ch_288_0_0 : schH (hSx cpd) (hMx cpd) (hNx cpd) (hLx cpd) (hCx cpd) cG 10 zmt xo ctb 1000000 288 cc_288_0 (2, ([((0, 0, 0, (0, []), (0, [])), 5, 1, (0, [(0, 1)]), 0, 0, 0), ((0, 1, 0, (0, []), (0, [])), 5, 1, (0, [(1, 1)]), 0, 0, 0), ((0, 2, 0, (0, []), (0, [])), 0, 0, (0, [(2, 1)]), 0, 0, 0), ((0, 3, 0, (0, []), (0, [])), 0, 0, (0, []), 1, 0, 300000)], [(300000, [(2, (-1))]), (0, [(1, 1), (2, (-1))]), (0, [(0, 1), (2, (-1))])], [(1, []), (2, []), (3, []), (4, []), (5, []), (6, []), (7, []), (10, [])]), (11408855402054064613470329148384, [(6, (-1))])) = true := by decide +kernel
theorem ck_288_0 : CK 288 cc_288_0 := ⟨cw_288_0, ce_288_0, List.forall_mem_cons.mpr ⟨ch_288_0_0, List.forall_mem_nil _⟩⟩
theorem cw_280_1 : scwf cc_280_1 = true := by decide +kernel
theorem ce_280_1 : schE (hSx cpd) (hMx cpd) (hNx cpd) (hLx cpd) (hCx cpd) cG 10 zmt xo ctb 1000000 280 cc_280_1 = true := by decide +kernel
theorem ck_280_1 : CK 280 cc_280_1 := ⟨cw_280_1, ce_280_1, List.forall_mem_nil _⟩
theorem cw_281_2 : scwf cc_281_2 = true := by decide +kernel
theorem ce_281_2 : schE (hSx cpd) (hMx cpd) (hNx cpd) (hLx cpd) (hCx cpd) cG 10 zmt xo ctb 1000000 281 cc_281_2 = true := by decide +kernel
theorem ck_281_2 : CK 281 cc_281_2 := ⟨cw_281_2, ce_281_2, List.forall_mem_nil _⟩
theorem cw_282_5 : scwf cc_282_5 = true := by decide +kernel
theorem ce_282_5 : schE (hSx cpd) (hMx cpd) (hNx cpd) (hLx cpd) (hCx cpd) cG 10 zmt xo ctb 1000000 282 cc_282_5 = true := by decide +kernel
theorem ck_282_5 : CK 282 cc_282_5 := ⟨cw_282_5, ce_282_5, List.forall_mem_nil _⟩
theorem cw_282_9 : scwf cc_282_9 = true := by decide +kernel
theorem ce_282_9 : schE (hSx cpd) (hMx cpd) (hNx cpd) (hLx cpd) (hCx cpd) cG 10 zmt xo ctb 1000000 282 cc_282_9 = true := by decide +kernel
theorem ck_282_9 : CK 282 cc_282_9 := ⟨cw_282_9, ce_282_9, List.forall_mem_nil _⟩
theorem cw_197_0 : scwf cc_197_0 = true := by decide +kernel
theorem ce_197_0 : schE (hSx cpd) (hMx cpd) (hNx cpd) (hLx cpd) (hCx cpd) cG 10 zmt xo ctb 1000000 197 cc_197_0 = true := by decide +kernel
theorem ch_197_0_0 : schH (hSx cpd) (hMx cpd) (hNx cpd) (hLx cpd) (hCx cpd) cG 10 zmt xo ctb 1000000 197 cc_197_0 (7, ([((0, 0, 0, (0, []), (0, [])), 3, 8, (0, [(0, 1)]), 0, 0, 0), ((1, 8, 11, (0, [(0, 1)]), (0, [])), 0, 0, (0, []), 1, 0, 40), ((0, 1, 0, (0, []), (0, [])), 0, 0, (0, []), 1, (-1), 39)], [], []), (5070602400912917605986812821505, [(3, 1)])) = true := by decide +kernel
theorem ck_197_0 : CK 197 cc_197_0 := ⟨cw_197_0, ce_197_0, List.forall_mem_cons.mpr ⟨ch_197_0_0, List.forall_mem_nil _⟩⟩
theorem cw_92_0 : scwf cc_92_0 = true := by decide +kernel
theorem ce_92_0 : schE (hSx cpd) (hMx cpd) (hNx cpd) (hLx cpd) (hCx cpd) cG 10 zmt xo ctb 1000000 92 cc_92_0 = true := by decide +kernel
theorem ch_92_0_0 : schH (hSx cpd) (hMx cpd) (hNx cpd) (hLx cpd) (hCx cpd) cG 10 zmt xo ctb 1000000 92 cc_92_0 (5, ([((0, 0, 0, (0, []), (0, [])), 3, 3, (0, [(0, 1)]), 0, 0, 0), ((1, 3, 10, (0, [(0, 1)]), (0, [])), 0, 0, (0, [(1, 1)]), 0, 0, 0), ((0, 1, 0, (0, []), (0, [])), 0, 0, (0, []), 1, 0, 4000)], [(0, [(1, 1)])], [(1, []), (2, []), (3, []), (4, []), (5, []), (6, []), (7, []), (10, [])]), (51973674609357405461364831424416, [(4, (-1))])) = true := by decide +kernel
theorem ck_92_0 : CK 92 cc_92_0 := ⟨cw_92_0, ce_92_0, List.forall_mem_cons.mpr ⟨ch_92_0_0, List.forall_mem_nil _⟩⟩
theorem cw_280_2 : scwf cc_280_2 = true := by decide +kernel
theorem ce_280_2 : schE (hSx cpd) (hMx cpd) (hNx cpd) (hLx cpd) (hCx cpd) cG 10 zmt xo ctb 1000000 280 cc_280_2 = true := by decide +kernel
theorem ck_280_2 : CK 280 cc_280_2 := ⟨cw_280_2, ce_280_2, List.forall_mem_nil _⟩
theorem cw_281_3 : scwf cc_281_3 = true := by decide +kernel
theorem ce_281_3 : schE (hSx cpd) (hMx cpd) (hNx cpd) (hLx cpd) (hCx cpd) cG 10 zmt xo ctb 1000000 281 cc_281_3 = true := by decide +kernel
theorem ck_281_3 : CK 281 cc_281_3 := ⟨cw_281_3, ce_281_3, List.forall_mem_nil _⟩
theorem cw_280_3 : scwf cc_280_3 = true := by decide +kernel
theorem ce_280_3 : schE (hSx cpd) (hMx cpd) (hNx cpd) (hLx cpd) (hCx cpd) cG 10 zmt xo ctb 1000000 280 cc_280_3 = true := by decide +kernel
theorem ck_280_3 : CK 280 cc_280_3 := ⟨cw_280_3, ce_280_3, List.forall_mem_nil _⟩
theorem cw_514_0 : scwf cc_514_0 = true := by decide +kernel
theorem ce_514_0 : schE (hSx cpd) (hMx cpd) (hNx cpd) (hLx cpd) (hCx cpd) cG 10 zmt xo ctb 1000000 514 cc_514_0 = true := by decide +kernel
theorem ch_514_0_0 : schH (hSx cpd) (hMx cpd) (hNx cpd) (hLx cpd) (hCx cpd) cG 10 zmt xo ctb 1000000 514 cc_514_0 (10, ([((0, 0, 0, (0, []), (0, [])), 4, 30, (0, [(0, 1)]), 0, 0, 0), ((0, 1, 0, (0, []), (0, [])), 0, 0, (0, [(1, 1)]), 0, 0, 0), ((0, 2, 0, (0, []), (0, [])), 0, 0, (0, [(2, 1)]), 0, 0, 0), ((0, 3, 0, (0, []), (0, [])), 0, 0, (0, [(3, 1)]), 0, 0, 0), ((0, 4, 0, (0, []), (0, [])), 0, 0, (0, []), 1, 0, 300000)], [(0, [(1, 1)]), (4096, [(1, (-1))]), (0, [(2, 1)]), (4096, [(2, (-1))]), (0, [(1, (-1)), (2, 1)]), (0, [(1, (-1)), (2, 1)])], []), (34226566206162193840410986845152, [(8, (-1))])) = true := by decide +kernel
theorem ck_514_0 : CK 514 cc_514_0 := ⟨cw_514_0, ce_514_0, List.forall_mem_cons.mpr ⟨ch_514_0_0, List.forall_mem_nil _⟩⟩
theorem cw_514_1 : scwf cc_514_1 = true := by decide +kernel
theorem ce_514_1 : schE (hSx cpd) (hMx cpd) (hNx cpd) (hLx cpd) (hCx cpd) cG 10 zmt xo ctb 1000000 514 cc_514_1 = true := by decide +kernel
theorem ch_514_1_0 : schH (hSx cpd) (hMx cpd) (hNx cpd) (hLx cpd) (hCx cpd) cG 10 zmt xo ctb 1000000 514 cc_514_1 (10, ([((0, 0, 0, (0, []), (0, [])), 4, 27, (0, [(0, 1)]), 0, 0, 0), ((0, 1, 0, (0, []), (0, [])), 0, 0, (0, [(1, 1)]), 0, 0, 0), ((0, 2, 0, (0, []), (0, [])), 0, 0, (0, [(2, 1)]), 0, 0, 0), ((0, 3, 0, (0, []), (0, [])), 0, 0, (0, [(3, 1)]), 0, 0, 0), ((0, 4, 0, (0, []), (0, [])), 0, 0, (0, []), 1, 0, 300000)], [(0, [(1, 1)]), (3000, [(1, (-1))]), (0, [(2, 1)]), (3000, [(2, (-1))]), (0, [(1, (-1)), (2, 1)]), (0, [(1, (-1)), (2, 1)])], []), (34226566206162193840410986845152, [(8, (-1))])) = true := by decide +kernel
theorem ck_514_1 : CK 514 cc_514_1 := ⟨cw_514_1, ce_514_1, List.forall_mem_cons.mpr ⟨ch_514_1_0, List.forall_mem_nil _⟩⟩
theorem cw_276_0 : scwf cc_276_0 = true := by decide +kernel
theorem ce_276_0 : schE (hSx cpd) (hMx cpd) (hNx cpd) (hLx cpd) (hCx cpd) cG 10 zmt xo ctb 1000000 276 cc_276_0 = true := by decide +kernel
theorem ck_276_0 : CK 276 cc_276_0 := ⟨cw_276_0, ce_276_0, List.forall_mem_nil _⟩
theorem cw_280_4 : scwf cc_280_4 = true := by decide +kernel
theorem ce_280_4 : schE (hSx cpd) (hMx cpd) (hNx cpd) (hLx cpd) (hCx cpd) cG 10 zmt xo ctb 1000000 280 cc_280_4 = true := by decide +kernel
theorem ck_280_4 : CK 280 cc_280_4 := ⟨cw_280_4, ce_280_4, List.forall_mem_nil _⟩
theorem cw_274_0 : scwf cc_274_0 = true := by decide +kernel
theorem ce_274_0 : schE (hSx cpd) (hMx cpd) (hNx cpd) (hLx cpd) (hCx cpd) cG 10 zmt xo ctb 1000000 274 cc_274_0 = true := by decide +kernel
theorem ck_274_0 : CK 274 cc_274_0 := ⟨cw_274_0, ce_274_0, List.forall_mem_nil _⟩
theorem cw_278_0 : scwf cc_278_0 = true := by decide +kernel
theorem ce_278_0 : schE (hSx cpd) (hMx cpd) (hNx cpd) (hLx cpd) (hCx cpd) cG 10 zmt xo ctb 1000000 278 cc_278_0 = true := by decide +kernel
theorem ck_278_0 : CK 278 cc_278_0 := ⟨cw_278_0, ce_278_0, List.forall_mem_nil _⟩
theorem cw_282_6 : scwf cc_282_6 = true := by decide +kernel
theorem ce_282_6 : schE (hSx cpd) (hMx cpd) (hNx cpd) (hLx cpd) (hCx cpd) cG 10 zmt xo ctb 1000000 282 cc_282_6 = true := by decide +kernel
theorem ck_282_6 : CK 282 cc_282_6 := ⟨cw_282_6, ce_282_6, List.forall_mem_nil _⟩
theorem cw_282_10 : scwf cc_282_10 = true := by decide +kernel
theorem ce_282_10 : schE (hSx cpd) (hMx cpd) (hNx cpd) (hLx cpd) (hCx cpd) cG 10 zmt xo ctb 1000000 282 cc_282_10 = true := by decide +kernel
theorem ck_282_10 : CK 282 cc_282_10 := ⟨cw_282_10, ce_282_10, List.forall_mem_nil _⟩
theorem cw_281_4 : scwf cc_281_4 = true := by decide +kernel
theorem ce_281_4 : schE (hSx cpd) (hMx cpd) (hNx cpd) (hLx cpd) (hCx cpd) cG 10 zmt xo ctb 1000000 281 cc_281_4 = true := by decide +kernel
theorem ck_281_4 : CK 281 cc_281_4 := ⟨cw_281_4, ce_281_4, List.forall_mem_nil _⟩
theorem cw_281_5 : scwf cc_281_5 = true := by decide +kernel
theorem ce_281_5 : schE (hSx cpd) (hMx cpd) (hNx cpd) (hLx cpd) (hCx cpd) cG 10 zmt xo ctb 1000000 281 cc_281_5 = true := by decide +kernel
theorem ck_281_5 : CK 281 cc_281_5 := ⟨cw_281_5, ce_281_5, List.forall_mem_nil _⟩
theorem cw_280_5 : scwf cc_280_5 = true := by decide +kernel
theorem ce_280_5 : schE (hSx cpd) (hMx cpd) (hNx cpd) (hLx cpd) (hCx cpd) cG 10 zmt xo ctb 1000000 280 cc_280_5 = true := by decide +kernel
theorem ck_280_5 : CK 280 cc_280_5 := ⟨cw_280_5, ce_280_5, List.forall_mem_nil _⟩
theorem cw_22_0 : scwf cc_22_0 = true := by decide +kernel
theorem ce_22_0 : schE (hSx cpd) (hMx cpd) (hNx cpd) (hLx cpd) (hCx cpd) cG 10 zmt xo ctb 1000000 22 cc_22_0 = true := by decide +kernel
theorem ch_22_0_0 : schH (hSx cpd) (hMx cpd) (hNx cpd) (hLx cpd) (hCx cpd) cG 10 zmt xo ctb 1000000 22 cc_22_0 (2, ([((0, 0, 0, (0, []), (0, [])), 3, 1, (0, [(0, 1)]), 0, 0, 0), ((0, 1, 0, (0, []), (0, [])), 0, 0, (0, []), 1, 1, 4)], [], [(1, []), (2, []), (3, []), (4, []), (5, []), (6, []), (7, []), (10, [])]), (26620662604792817431430767312900, [(2, (-1))])) = true := by decide +kernel
theorem ck_22_0 : CK 22 cc_22_0 := ⟨cw_22_0, ce_22_0, List.forall_mem_cons.mpr ⟨ch_22_0_0, List.forall_mem_nil _⟩⟩
theorem cw_199_0 : scwf cc_199_0 = true := by decide +kernel
theorem ce_199_0 : schE (hSx cpd) (hMx cpd) (hNx cpd) (hLx cpd) (hCx cpd) cG 10 zmt xo ctb 1000000 199 cc_199_0 = true := by decide +kernel
theorem ck_199_0 : CK 199 cc_199_0 := ⟨cw_199_0, ce_199_0, List.forall_mem_nil _⟩
theorem cw_282_7 : scwf cc_282_7 = true := by decide +kernel
theorem ce_282_7 : schE (hSx cpd) (hMx cpd) (hNx cpd) (hLx cpd) (hCx cpd) cG 10 zmt xo ctb 1000000 282 cc_282_7 = true := by decide +kernel
theorem ck_282_7 : CK 282 cc_282_7 := ⟨cw_282_7, ce_282_7, List.forall_mem_nil _⟩
theorem cw_282_11 : scwf cc_282_11 = true := by decide +kernel
theorem ce_282_11 : schE (hSx cpd) (hMx cpd) (hNx cpd) (hLx cpd) (hCx cpd) cG 10 zmt xo ctb 1000000 282 cc_282_11 = true := by decide +kernel
theorem ck_282_11 : CK 282 cc_282_11 := ⟨cw_282_11, ce_282_11, List.forall_mem_nil _⟩
theorem cw_254_3 : scwf cc_254_3 = true := by decide +kernel
theorem ce_254_3 : schE (hSx cpd) (hMx cpd) (hNx cpd) (hLx cpd) (hCx cpd) cG 10 zmt xo ctb 1000000 254 cc_254_3 = true := by decide +kernel
theorem ch_254_3_0 : schH (hSx cpd) (hMx cpd) (hNx cpd) (hLx cpd) (hCx cpd) cG 10 zmt xo ctb 1000000 254 cc_254_3 (32, ([((0, 0, 0, (0, []), (0, [])), 3, 11, (0, [(0, 1)]), 0, 0, 0), ((0, 1, 0, (0, []), (0, [])), 1, 0, (0, [(1, 1)]), 0, 0, 0), ((0, 3, 0, (0, []), (0, [])), 0, 0, (0, [(2, 1)]), 0, 0, 0), ((2, 57, 0, (0, [(0, 1)]), (1, [])), 0, 0, (0, [(6, 1)]), 0, 0, 0), ((2, 57, 0, (0, [(0, 1)]), (0, [])), 0, 0, (0, [(5, 1)]), 0, 0, 0), ((1, 11, 3, (0, [(0, 1)]), (0, [])), 0, 0, (0, [(4, 1)]), 0, 0, 0), ((1, 11, 1, (0, [(0, 1)]), (0, [])), 0, 0, (0, [(3, 1)]), 0, 0, 0), ((0, 4, 0, (0, []), (0, [])), 0, 0, (0, []), 1, 0, 8)], [((-1), [(2, 1)]), (8, [(2, (-1))]), (1023, [(3, (-1))]), (1024, [(2, (-1)), (3, (-1))]), (1024, [(2, (-1)), (3, (-1))])], [(1, []), (2, []), (3, []), (4, []), (5, []), (6, []), (7, []), (10, []), (9, [])]), (90003192616204287506265927581704, [(14, (-1))])) = true := by decide +kernel
theorem ck_254_3 : CK 254 cc_254_3 := ⟨cw_254_3, ce_254_3, List.forall_mem_cons.mpr ⟨ch_254_3_0, List.forall_mem_nil _⟩⟩
theorem cw_266_0 : scwf cc_266_0 = true := by decide +kernel
theorem ce_266_0 : schE (hSx cpd) (hMx cpd) (hNx cpd) (hLx cpd) (hCx cpd) cG 10 zmt xo ctb 1000000 266 cc_266_0 = true := by decide +kernel
theorem ck_266_0 : CK 266 cc_266_0 := ⟨cw_266_0, ce_266_0, List.forall_mem_nil _⟩
theorem cw_256_5 : scwf cc_256_5 = true := by decide +kernel
theorem ce_256_5 : schE (hSx cpd) (hMx cpd) (hNx cpd) (hLx cpd) (hCx cpd) cG 10 zmt xo ctb 1000000 256 cc_256_5 = true := by decide +kernel
theorem ck_256_5 : CK 256 cc_256_5 := ⟨cw_256_5, ce_256_5, List.forall_mem_nil _⟩
theorem cw_280_6 : scwf cc_280_6 = true := by decide +kernel
theorem ce_280_6 : schE (hSx cpd) (hMx cpd) (hNx cpd) (hLx cpd) (hCx cpd) cG 10 zmt xo ctb 1000000 280 cc_280_6 = true := by decide +kernel
theorem ck_280_6 : CK 280 cc_280_6 := ⟨cw_280_6, ce_280_6, List.forall_mem_nil _⟩
theorem cw_190_0 : scwf cc_190_0 = true := by decide +kernel
theorem ce_190_0 : schE (hSx cpd) (hMx cpd) (hNx cpd) (hLx cpd) (hCx cpd) cG 10 zmt xo ctb 1000000 190 cc_190_0 = true := by decide +kernel
theorem ch_190_0_0 : schH (hSx cpd) (hMx cpd) (hNx cpd) (hLx cpd) (hCx cpd) cG 10 zmt xo ctb 1000000 190 cc_190_0 (28, ([((0, 0, 0, (0, []), (0, [])), 3, 8, (0, [(0, 1)]), 0, 0, 0), ((0, 1, 0, (0, []), (0, [])), 0, 0, (0, [(1, 1)]), 0, 0, 0), ((0, 2, 0, (0, []), (0, [])), 0, 0, ((-1), [(1, (-1))]), 1, 1, 64), ((0, 3, 0, (0, []), (0, [])), 0, 0, (0, []), 1, (-2147483648), 2147483647), ((1, 8, 7, (0, [(0, 1)]), (0, [])), 0, 0, (0, [(4, 1)]), 0, 0, 0), ((0, 4, 0, (0, []), (0, [])), 0, 0, (0, []), 1, 0, 63)], [((-1), [(4, 1), (7, (-1))]), (63, [(1, (-1))]), ((-1), [(1, (-1)), (4, 1)])], []), (3802951800684688204490109616192, [(7, (-1))])) = true := by decide +kernel
theorem ck_190_0 : CK 190 cc_190_0 := ⟨cw_190_0, ce_190_0, List.forall_mem_cons.mpr ⟨ch_190_0_0, List.forall_mem_nil _⟩⟩
theorem cw_261_0 : scwf cc_261_0 = true := by decide +kernel
theorem ce_261_0 : schE (hSx cpd) (hMx cpd) (hNx cpd) (hLx cpd) (hCx cpd) cG 10 zmt xo ctb 1000000 261 cc_261_0 = true := by decide +kernel
theorem ck_261_0 : CK 261 cc_261_0 := ⟨cw_261_0, ce_261_0, List.forall_mem_nil _⟩
theorem cw_291_0 : scwf cc_291_0 = true := by decide +kernel
theorem ce_291_0 : schE (hSx cpd) (hMx cpd) (hNx cpd) (hLx cpd) (hCx cpd) cG 10 zmt xo ctb 1000000 291 cc_291_0 = true := by decide +kernel
theorem ch_291_0_0 : schH (hSx cpd) (hMx cpd) (hNx cpd) (hLx cpd) (hCx cpd) cG 10 zmt xo ctb 1000000 291 cc_291_0 (3, ([((0, 0, 0, (0, []), (0, [])), 5, 1, (0, [(0, 1)]), 0, 0, 0), ((0, 1, 0, (0, []), (0, [])), 0, 0, (0, [(1, 1)]), 0, 0, 0), ((0, 2, 0, (0, []), (0, [])), 5, 1, (0, [(2, 1)]), 0, 0, 0), ((0, 3, 0, (0, []), (0, [])), 0, 0, (0, [(3, 1)]), 0, 0, 0), ((0, 4, 0, (0, []), (0, [])), 0, 0, (0, [(4, 1)]), 0, 0, 0), ((0, 5, 0, (0, []), (0, [])), 0, 0, (0, []), 1, 0, 300000)], [(0, [(3, 1)]), (0, [(1, (-1)), (2, 1), (3, (-1))]), (0, [(0, 1), (1, (-1))])], [(1, []), (2, []), (3, []), (4, []), (5, []), (6, []), (7, []), (10, [])]), (12676506002282294014967032353760, [(10, (-1))])) = true := by decide +kernel
theorem ck_291_0 : CK 291 cc_291_0 := ⟨cw_291_0, ce_291_0, List.forall_mem_cons.mpr ⟨ch_291_0_0, List.forall_mem_nil _⟩⟩
theorem cw_21_0 : scwf cc_21_0 = true := by decide +kernel
theorem ce_21_0 : schE (hSx cpd) (hMx cpd) (hNx cpd) (hLx cpd) (hCx cpd) cG 10 zmt xo ctb 1000000 21 cc_21_0 = true := by decide +kernel
theorem ch_21_0_0 : schH (hSx cpd) (hMx cpd) (hNx cpd) (hLx cpd) (hCx cpd) cG 10 zmt xo ctb 1000000 21 cc_21_0 (10, ([((0, 0, 0, (0, []), (0, [])), 3, 1, (0, [(0, 1)]), 0, 0, 0), ((0, 1, 0, (0, []), (0, [])), 5, 1, (0, [(1, 1)]), 0, 0, 0), ((0, 2, 0, (0, []), (0, [])), 0, 0, (0, [(2, 1)]), 0, 0, 0), ((1, 4, 1, (37, [(0, 1)]), (0, [])), 0, 0, (0, []), 1, 0, 8), ((0, 3, 0, (0, []), (0, [])), 0, 0, (0, []), 1, (-1), 7)], [(300000, [(2, (-1))]), (0, [(1, 1), (2, (-1))])], [(1, []), (2, []), (3, []), (4, []), (5, []), (6, []), (7, []), (10, [])]), (25353012004564588029934064107521, [(7, 1)])) = true := by decide +kernel
theorem ck_21_0 : CK 21 cc_21_0 := ⟨cw_21_0, ce_21_0, List.forall_mem_cons.mpr ⟨ch_21_0_0, List.forall_mem_nil _⟩⟩
theorem cw_275_0 : scwf cc_275_0 = true := by decide +kernel
theorem ce_275_0 : schE (hSx cpd) (hMx cpd) (hNx cpd) (hLx cpd) (hCx cpd) cG 10 zmt xo ctb 1000000 275 cc_275_0 = true := by decide +kernel
theorem ck_275_0 : CK 275 cc_275_0 := ⟨cw_275_0, ce_275_0, List.forall_mem_nil _⟩
theorem cw_109_0 : scwf cc_109_0 = true := by decide +kernel
theorem ce_109_0 : schE (hSx cpd) (hMx cpd) (hNx cpd) (hLx cpd) (hCx cpd) cG 10 zmt xo ctb 1000000 109 cc_109_0 = true := by decide +kernel
theorem ck_109_0 : CK 109 cc_109_0 := ⟨cw_109_0, ce_109_0, List.forall_mem_nil _⟩
theorem cw_223_0 : scwf cc_223_0 = true := by decide +kernel
theorem ce_223_0 : schE (hSx cpd) (hMx cpd) (hNx cpd) (hLx cpd) (hCx cpd) cG 10 zmt xo ctb 1000000 223 cc_223_0 = true := by decide +kernel
theorem ch_223_0_0 : schH (hSx cpd) (hMx cpd) (hNx cpd) (hLx cpd) (hCx cpd) cG 10 zmt xo ctb 1000000 223 cc_223_0 (37, ([((0, 0, 0, (0, []), (0, [])), 3, 8, (0, [(0, 1)]), 0, 0, 0), ((0, 1, 0, (0, []), (0, [])), 0, 0, (0, [(1, 1)]), 0, 0, 0), ((0, 2, 0, (0, []), (0, [])), 0, 0, (0, [(2, 1)]), 0, 0, 0), ((1, 8, 7, (0, [(0, 1)]), (0, [])), 0, 0, (0, [(1, (-1))]), 1, 0, 64), ((1, 8, 10, (0, [(0, 1)]), (0, [])), 0, 0, (0, []), 1, 0, 64), ((0, 3, 0, (0, []), (0, [])), 0, 0, (0, []), 1, 0, 64)], [(0, [(2, 1), (8, (-1))]), (64, [(2, (-1))]), (64, [(2, (-1)), (7, (-1))]), (0, [(1, (-1)), (6, 1)])], [(1, []), (2, []), (3, []), (4, []), (5, []), (6, []), (7, []), (10, [])]), (8873554201597605810476922437632, [(2, 1), (8, (-1))])) = true := by decide +kernel
theorem ck_223_0 : CK 223 cc_223_0 := ⟨cw_223_0, ce_223_0, List.forall_mem_cons.mpr ⟨ch_223_0_0, List.forall_mem_nil _⟩⟩
theorem cw_279_0 : scwf cc_279_0 = true := by decide +kernel
theorem ce_279_0 : schE (hSx cpd) (hMx cpd) (hNx cpd) (hLx cpd) (hCx cpd) cG 10 zmt xo ctb 1000000 279 cc_279_0 = true := by decide +kernel
theorem ck_279_0 : CK 279 cc_279_0 := ⟨cw_279_0, ce_279_0, List.forall_mem_nil _⟩
theorem cw_169_0 : scwf cc_169_0 = true := by decide +kernel
theorem ce_169_0 : schE (hSx cpd) (hMx cpd) (hNx cpd) (hLx cpd) (hCx cpd) cG 10 zmt xo ctb 1000000 169 cc_169_0 = true := by decide +kernel
theorem ch_169_0_0 : schH (hSx cpd) (hMx cpd) (hNx cpd) (hLx cpd) (hCx cpd) cG 10 zmt xo ctb 1000000 169 cc_169_0 (19, ([((0, 0, 0, (0, []), (0, [])), 3, 7, (0, [(0, 1)]), 0, 0, 0), ((0, 1, 0, (0, []), (0, [])), 0, 0, (0, [(1, 1)]), 0, 0, 0), ((0, 2, 0, (0, []), (0, [])), 0, 0, (0, [(2, 1)]), 0, 0, 0), ((1, 7, 1, (0, [(0, 1)]), (0, [])), 0, 0, (0, []), 1, 0, 4), ((0, 3, 0, (0, []), (0, [])), 0, 0, (0, []), 1, 0, 4)], [(0, [(6, 1), (7, (-1))]), (0, [(1, 1)]), (4096, [(1, (-1))]), (4096, [(1, (-1)), (6, (-1))])], []), (2535301200456458802993406410752, [(6, 1), (7, (-1))])) = true := by decide +kernel
theorem ck_169_0 : CK 169 cc_169_0 := ⟨cw_169_0, ce_169_0, List.forall_mem_cons.mpr ⟨ch_169_0_0, List.forall_mem_nil _⟩⟩
theorem cw_31_0 : scwf cc_31_0 = true := by decide +kernel
theorem ce_31_0 : schE (hSx cpd) (hMx cpd) (hNx cpd) (hLx cpd) (hCx cpd) cG 10 zmt xo ctb 1000000 31 cc_31_0 = true := by decide +kernel
theorem ch_31_0_0 : schH (hSx cpd) (hMx cpd) (hNx cpd) (hLx cpd) (hCx cpd) cG 10 zmt xo ctb 1000000 31 cc_31_0 (35, ([((0, 0, 0, (0, []), (0, [])), 3, 1, (0, [(0, 1)]), 0, 0, 0), ((0, 1, 0, (0, []), (0, [])), 3, 8, (0, [(1, 1)]), 0, 0, 0), ((0, 2, 0, (0, []), (0, [])), 0, 0, (0, []), 0, 0, 0), ((1, 8, 17, (0, [(1, 1)]), (0, [])), 0, 0, (0, [(3, 1)]), 0, 0, 0), ((2, 36, 0, (0, [(1, 1)]), (0, [])), 0, 0, (0, []), 1, (-2147483648), 2147483647), ((1, 8, 12, (0, [(1, 1)]), (0, [])), 0, 0, ((-1), [(2, 1)]), 0, 0, 0), ((0, 3, 0, (0, []), (0, [])), 0, 0, (0, []), 1, 0, 4)], [((-1), [(2, 1)]), (0, [(3, (-1))])], [(1, []), (2, []), (3, []), (4, []), (5, []), (6, []), (7, []), (10, [])]), (27888313205021046832927470518276, [(10, (-1))])) = true := by decide +kernel
theorem ck_31_0 : CK 31 cc_31_0 := ⟨cw_31_0, ce_31_0, List.forall_mem_cons.mpr ⟨ch_31_0_0, List.forall_mem_nil _⟩⟩
theorem cw_250_0 : scwf cc_250_0 = true := by decide +kernel
theorem ce_250_0 : schE (hSx cpd) (hMx cpd) (hNx cpd) (hLx cpd) (hCx cpd) cG 10 zmt xo ctb 1000000 250 cc_250_0 = true := by decide +kernel
theorem ch_250_0_0 : schH (hSx cpd) (hMx cpd) (hNx cpd) (hLx cpd) (hCx cpd) cG 10 zmt xo ctb 1000000 250 cc_250_0 (21, ([((0, 0, 0, (0, []), (0, [])), 3, 10, (0, [(0, 1)]), 0, 0, 0), ((0, 1, 0, (0, []), (0, [])), 0, 0, (0, [(1, 1)]), 0, 0, 0), ((0, 2, 0, (0, []), (0, [])), 5, 1, (0, [(2, 1)]), 0, 0, 0), ((0, 3, 0, (0, []), (0, [])), 0, 0, (0, [(3, 1)]), 0, 0, 0), ((0, 4, 0, (0, []), (0, [])), 0, 0, (0, [(4, 1)]), 0, 0, 0), ((1, 10, 12, (0, [(0, 1)]), (0, [])), 0, 0, (0, []), 1, 0, 360), ((0, 5, 0, (0, []), (0, [])), 0, 0, (0, []), 1, (-1), 359)], [((-1), [(10, 1), (11, (-1))]), ((-1), [(2, 1)]), ((-1), [(3, 1)]), (24, [(3, (-1))]), (0, [(2, 1), (3, (-1))])], [(1, []), (2, []), (3, []), (4, []), (5, []), (6, []), (7, []), (10, [])]), (13944156602510523416463735259137, [(11, 1)])) = true := by decide +kernel
theorem ck_250_0 : CK 250 cc_250_0 := ⟨cw_250_0, ce_250_0, List.forall_mem_cons.mpr ⟨ch_250_0_0, List.forall_mem_nil _⟩⟩
theorem cw_258_0 : scwf cc_258_0 = true := by decide +kernel
theorem ce_258_0 : schE (hSx cpd) (hMx cpd) (hNx cpd) (hLx cpd) (hCx cpd) cG 10 zmt xo ctb 1000000 258 cc_258_0 = true := by decide +kernel
theorem ck_258_0 : CK 258 cc_258_0 := ⟨cw_258_0, ce_258_0, List.forall_mem_nil _⟩
theorem cw_259_0 : scwf cc_259_0 = true := by decide +kernel
theorem ce_259_0 : schE (hSx cpd) (hMx cpd) (hNx cpd) (hLx cpd) (hCx cpd) cG 10 zmt xo ctb 1000000 259 cc_259_0 = true := by decide +kernel
theorem ck_259_0 : CK 259 cc_259_0 := ⟨cw_259_0, ce_259_0, List.forall_mem_nil _⟩
theorem cw_91_1 : scwf cc_91_1 = true := by decide +kernel
theorem ce_91_1 : schE (hSx cpd) (hMx cpd) (hNx cpd) (hLx cpd) (hCx cpd) cG 10 zmt xo ctb 1000000 91 cc_91_1 = true := by decide +kernel
theorem ch_91_1_0 : schH (hSx cpd) (hMx cpd) (hNx cpd) (hLx cpd) (hCx cpd) cG 10 zmt xo ctb 1000000 91 cc_91_1 (38, ([((0, 0, 0, (0, []), (0, [])), 3, 3, (0, [(0, 1)]), 0, 0, 0), ((1, 3, 8, (0, [(0, 1)]), (0, [])), 0, 0, (0, [(2, 1)]), 0, 0, 0), ((1, 3, 9, (0, [(0, 1)]), (0, [])), 0, 0, (0, [(1, 1)]), 0, 0, 0), ((1, 3, 11, (0, [(0, 1)]), (0, [])), 0, 0, (1, []), 0, 0, 0), ((1, 3, 12, (0, [(0, 1)]), (0, [])), 0, 0, ((-1), []), 0, 0, 0), ((1, 3, 13, (0, [(0, 1)]), (0, [])), 0, 0, (0, []), 0, 0, 0), ((1, 3, 15, (0, [(0, 1)]), (0, [])), 0, 0, (0, []), 0, 0, 0), ((1, 3, 14, (0, [(0, 1)]), (0, [])), 0, 0, (0, []), 0, 0, 0), ((1, 3, 10, (0, [(0, 1)]), (0, [])), 0, 0, (0, [(1, 1)]), 0, 0, 0), ((0, 1, 0, (0, []), (0, [])), 0, 0, (0, []), 1, 0, 2147483647)], [((-1), [(1, (-1)), (2, 1)])], [(1, []), (2, []), (3, []), (4, []), (5, []), (6, []), (7, []), (10, [])]), (55776626410042093671354646659071, [(12, (-1))])) = true := by decide +kernel
theorem ch_91_1_1 : schH (hSx cpd) (hMx cpd) (hNx cpd) (hLx cpd) (hCx cpd) cG 10 zmt xo ctb 1000000 91 cc_91_1 (75, ([((0, 0, 0, (0, []), (0, [])), 3, 3, (0, [(0, 1)]), 0, 0, 0), ((1, 3, 10, (0, [(0, 1)]), (0, [])), 0, 0, (0, [(1, 1)]), 0, 0, 0), ((1, 3, 14, (0, [(0, 1)]), (0, [])), 0, 0, (0, []), 0, 0, 0), ((1, 3, 15, (0, [(0, 1)]), (0, [])), 0, 0, (0, []), 0, 0, 0), ((1, 3, 13, (0, [(0, 1)]), (0, [])), 0, 0, (0, []), 0, 0, 0), ((1, 3, 12, (0, [(0, 1)]), (0, [])), 0, 0, ((-1), []), 0, 0, 0), ((1, 3, 11, (0, [(0, 1)]), (0, [])), 0, 0, (1, []), 0, 0, 0), ((1, 3, 9, (0, [(0, 1)]), (0, [])), 0, 0, (0, [(1, 1)]), 0, 0, 0), ((1, 3, 8, (0, [(0, 1)]), (0, [])), 0, 0, (0, [(2, 1)]), 0, 0, 0), ((0, 1, 0, (0, []), (0, [])), 0, 0, (0, []), 1, 0, 2147483647)], [(0, [(2, (-1)), (12, 1)]), ((-1), [(1, (-1)), (2, 1)])], [(1, []), (2, []), (3, []), (4, []), (5, []), (6, []), (7, []), (10, []), (1, []), (2, []), (3, []), (4, []), (5, []), (6, []), (7, []), (10, [])]), (55776626410042093665857088520191, [(12, (-1))])) = true := by decide +kernel
theorem ck_91_1 : CK 91 cc_91_1 := ⟨cw_91_1, ce_91_1, List.forall_mem_cons.mpr ⟨ch_91_1_0, List.forall_mem_cons.mpr ⟨ch_91_1_1, List.forall_mem_nil _⟩⟩⟩
theorem cw_168_0 : scwf cc_168_0 = true := by decide +kernel
theorem ce_168_0 : schE (hSx cpd) (hMx cpd) (hNx cpd) (hLx cpd) (hCx cpd) cG 10 zmt xo ctb 1000000 168 cc_168_0 = true := by decide +kernel
theorem ch_168_0_0 : schH (hSx cpd) (hMx cpd) (hNx cpd) (hLx cpd) (hCx cpd) cG 10 zmt xo ctb 1000000 168 cc_168_0 (22, ([((0, 0, 0, (0, []), (0, [])), 3, 7, (0, [(0, 1)]), 0, 0, 0), ((0, 1, 0, (0, []), (0, [])), 0, 0, (0, [(1, 1)]), 0, 0, 0), ((1, 7, 1, (0, [(0, 1)]), (0, [])), 0, 0, (0, []), 1, 0, 4), ((0, 2, 0, (0, []), (0, [])), 0, 0, (0, []), 1, (-2147483648), 2147483647), ((0, 3, 0, (0, []), (0, [])), 0, 0, (0, []), 1, 0, 4)], [(0, [(4, 1), (6, (-1))]), (0, [(1, 1)]), (4096, [(1, (-1))]), (4096, [(1, (-1)), (4, (-1))])], []), (1267650600228229401496703205376, [(4, 1), (6, (-1))])) = true := by decide +kernel
theorem ck_168_0 : CK 168 cc_168_0 := ⟨cw_168_0, ce_168_0, List.forall_mem_cons.mpr ⟨ch_168_0_0, List.forall_mem_nil _⟩⟩
theorem cw_269_0 : scwf cc_269_0 = true := by decide +kernel
theorem ce_269_0 : schE (hSx cpd) (hMx cpd) (hNx cpd) (hLx cpd) (hCx cpd) cG 10 zmt xo ctb 1000000 269 cc_269_0 = true := by decide +kernel
theorem ck_269_0 : CK 269 cc_269_0 := ⟨cw_269_0, ce_269_0, List.forall_mem_nil _⟩
theorem cw_277_0 : scwf cc_277_0 = true := by decide +kernel
theorem ce_277_0 : schE (hSx cpd) (hMx cpd) (hNx cpd) (hLx cpd) (hCx cpd) cG 10 zmt xo ctb 1000000 277 cc_277_0 = true := by decide +kernel
theorem ck_277_0 : CK 277 cc_277_0 := ⟨cw_277_0, ce_277_0, List.forall_mem_nil _⟩
theorem cw_130_0 : scwf cc_130_0 = true := by decide +kernel
theorem ce_130_0 : schE (hSx cpd) (hMx cpd) (hNx cpd) (hLx cpd) (hCx cpd) cG 10 zmt xo ctb 1000000 130 cc_130_0 = true := by decide +kernel
theorem ch_130_0_0 : schH (hSx cpd) (hMx cpd) (hNx cpd) (hLx cpd) (hCx cpd) cG 10 zmt xo ctb 1000000 130 cc_130_0 (52, ([((0, 0, 0, (0, []), (0, [])), 3, 5, (0, [(0, 1)]), 0, 0, 0), ((0, 1, 0, (0, []), (0, [])), 5, 1, (0, [(1, 1)]), 0, 0, 0), ((0, 2, 0, (0, []), (0, [])), 0, 0, (0, [(2, 1)]), 0, 0, 0), ((0, 3, 0, (0, []), (0, [])), 0, 0, (0, [(3, 1)]), 0, 0, 0), ((0, 4, 0, (0, []), (0, [])), 0, 0, ((-8), []), 8, 1, 5), ((1, 5, 4, (0, [(0, 1)]), (0, [])), 0, 0, (0, [(8, 1)]), 0, 0, 0), ((2, 21, 0, (0, [(0, 1)]), ((-1), [(8, 1)])), 0, 0, (0, []), 1, (-2147483648), 2147483647), ((2, 22, 0, (0, [(0, 1)]), ((-1), [(8, 1)])), 0, 0, (0, []), 1, 0, 8), ((0, 5, 0, (0, []), (0, [])), 0, 0, (0, []), 1, (-1), 7)], [(300000, [(2, (-1))]), (0, [(1, 1), (2, (-1))])], [(1, []), (2, []), (3, []), (4, []), (5, []), (6, []), (7, []), (10, [])]), (15211807202738752817960438464513, [(12, 1)])) = true := by decide +kernel
theorem ck_130_0 : CK 130 cc_130_0 := ⟨cw_130_0, ce_130_0, List.forall_mem_cons.mpr ⟨ch_130_0_0, List.forall_mem_nil _⟩⟩
theorem cw_264_0 : scwf cc_264_0 = true := by decide +kernel
theorem ce_264_0 : schE (hSx cpd) (hMx cpd) (hNx cpd) (hLx cpd) (hCx cpd) cG 10 zmt xo ctb 1000000 264 cc_264_0 = true := by decide +kernel
theorem ck_264_0 : CK 264 cc_264_0 := ⟨cw_264_0, ce_264_0, List.forall_mem_nil _⟩
theorem cw_268_0 : scwf cc_268_0 = true := by decide +kernel
theorem ce_268_0 : schE (hSx cpd) (hMx cpd) (hNx cpd) (hLx cpd) (hCx cpd) cG 10 zmt xo ctb 1000000 268 cc_268_0 = true := by decide +kernel
theorem ck_268_0 : CK 268 cc_268_0 := ⟨cw_268_0, ce_268_0, List.forall_mem_nil _⟩
theorem cw_103_0 : scwf cc_103_0 = true := by decide +kernel
theorem ce_103_0 : schE (hSx cpd) (hMx cpd) (hNx cpd) (hLx cpd) (hCx cpd) cG 10 zmt xo ctb 1000000 103 cc_103_0 = true := by decide +kernel
theorem ch_103_0_0 : schH (hSx cpd) (hMx cpd) (hNx cpd) (hLx cpd) (hCx cpd) cG 10 zmt xo ctb 1000000 103 cc_103_0 (45, ([((0, 0, 0, (0, []), (0, [])), 3, 3, (0, [(0, 1)]), 0, 0, 0), ((0, 1, 0, (0, []), (0, [])), 0, 0, (0, [(1, 1)]), 0, 0, 0), ((2, 44, 0, ((-47), [(0, 1)]), (0, [(1, 1)])), 0, 0, (0, [(2, 1)]), 0, 0, 0), ((2, 47, 0, ((-47), [(0, 1)]), (0, [(1, 1)])), 0, 0, (0, []), 1, 0, 4000), ((1, 3, 8, (0, [(0, 1)]), (0, [])), 0, 0, (0, [(6, 1)]), 0, 0, 0), ((2, 48, 0, ((-47), [(0, 1)]), (0, [(1, 1)])), 0, 0, (0, []), 1, (-2147483648), 2147483647), ((1, 2, 2, ((-34), [(0, 1)]), (0, [])), 0, 0, (0, []), 1, 0, 4000), ((0, 2, 0, (0, []), (0, [])), 0, 0, (0, []), 1, 0, 9000), ((0, 3, 0, (0, []), (0, [])), 0, 0, (0, []), 1, 0, 4001), ((1, 3, 9, (0, [(0, 1)]), (0, [])), 0, 0, (0, []), 1, (-2147483648), 4000)], [(0, [(10, (-1)), (11, 2)]), (8589934592, [(6, (-1)), (12, 1)]), ((-1), [(2, 1)]), (1, [(2, (-1))])], [(1, []), (2, []), (3, []), (4, []), (5, []), (6, []), (7, []), (10, [])]), (64650180611639699476331863478177, [(11, (-1))])) = true := by decide +kernel
theorem ck_103_0 : CK 103 cc_103_0 := ⟨cw_103_0, ce_103_0, List.forall_mem_cons.mpr ⟨ch_103_0_0, List.forall_mem_nil _⟩⟩
theorem cw_157_0 : scwf cc_157_0 = true := by decide +kernel
theorem ce_157_0 : schE (hSx cpd) (hMx cpd) (hNx cpd) (hLx cpd) (hCx cpd) cG 10 zmt xo ctb 1000000 157 cc_157_0 = true := by decide +kernel
theorem ch_157_0_0 : schH (hSx cpd) (hMx cpd) (hNx cpd) (hLx cpd) (hCx cpd) cG 10 zmt xo ctb 1000000 157 cc_157_0 (34, ([((0, 0, 0, (0, []), (0, [])), 3, 6, (0, [(0, 1)]), 0, 0, 0), ((0, 1, 0, (0, []), (0, [])), 3, 8, (0, [(1, 1)]), 0, 0, 0), ((0, 2, 0, (0, []), (0, [])), 0, 0, (0, []), 1, 0, 64), ((0, 3, 0, (0, []), (0, [])), 0, 0, (0, []), 1, 0, 1), ((0, 4, 0, (0, []), (0, [])), 0, 0, (0, []), 1, 0, 64), ((1, 8, 7, (0, [(1, 1)]), (0, [])), 0, 0, (0, []), 1, 0, 64), ((1, 6, 5, (0, [(0, 1)]), (0, [])), 0, 0, (0, []), 1, 0, 64)], [(0, [(4, (-1)), (7, 1)]), (64, [(4, (-1)), (5, (-64)), (7, 1), (8, (-1))])], [(1, []), (2, []), (3, []), (4, []), (5, []), (6, []), (7, []), (10, [])]), (24085361404336358628437360902208, [(6, (-1))])) = true := by decide +kernel
theorem ck_157_0 : CK 157 cc_157_0 := ⟨cw_157_0, ce_157_0, List.forall_mem_cons.mpr ⟨ch_157_0_0, List.forall_mem_nil _⟩⟩
theorem cw_227_0 : scwf cc_227_0 = true := by decide +kernel
theorem ce_227_0 : schE (hSx cpd) (hMx cpd) (hNx cpd) (hLx cpd) (hCx cpd) cG 10 zmt xo ctb 1000000 227 cc_227_0 = true := by decide +kernel
theorem ch_227_0_0 : schH (hSx cpd) (hMx cpd) (hNx cpd) (hLx cpd) (hCx cpd) cG 10 zmt xo ctb 1000000 227 cc_227_0 (67, ([((0, 0, 0, (0, []), (0, [])), 3, 9, (0, [(0, 1)]), 0, 0, 0), ((0, 1, 0, (0, []), (0, [])), 3, 9, (0, [(1, 1)]), 0, 0, 0), ((1, 9, 11, (0, [(0, 1)]), (0, [])), 0, 0, (0, []), 1, 1, 1), ((1, 9, 11, (0, [(1, 1)]), (0, [])), 0, 0, (0, []), 1, 1, 1), ((1, 9, 10, (0, [(0, 1)]), (0, [])), 0, 0, (0, []), 1, 0, 5), ((1, 9, 10, (0, [(1, 1)]), (0, [])), 0, 0, (0, []), 1, 0, 5), ((1, 9, 9, (0, [(0, 1)]), (0, [])), 0, 0, (0, []), 1, 0, 1024), ((1, 9, 9, (0, [(1, 1)]), (0, [])), 0, 0, (0, []), 1, 0, 1024), ((0, 2, 0, (0, []), (0, [])), 0, 0, (0, []), 1, 0, 5)], [(0, [(8, (-1)), (9, 1)]), (0, [(8, 1), (9, (-1))]), (0, [(6, (-1)), (7, 1)]), (0, [(6, 1), (7, (-1))]), (0, [(4, (-1)), (5, 1)]), (0, [(4, 1), (5, (-1))])], [(1, []), (2, []), (3, []), (4, []), (5, []), (6, []), (7, []), (10, []), (1, []), (2, []), (3, []), (4, []), (5, []), (6, []), (7, []), (10, [])]), (36761867406618652643404392955909, [(10, (-1))])) = true := by decide +kernel
theorem ck_227_0 : CK 227 cc_227_0 := ⟨cw_227_0, ce_227_0, List.forall_mem_cons.mpr ⟨ch_227_0_0, List.forall_mem_nil _⟩⟩
