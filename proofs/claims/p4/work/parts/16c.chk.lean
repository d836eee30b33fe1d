/-! THE CLASS: checks (2845 steps; printed by gen40.py) -/
theorem cw_235_0 : scwf cc_235_0 = true := by decide +kernel
theorem ce_235_0 : schE (hSx cpd) (hMx cpd) (hNx cpd) (hLx cpd) (hCx cpd) cG 10 zmt xo ctb 1000000 235 cc_235_0 = true := by decide +kernel
theorem ch_235_0_0 : schH (hSx cpd) (hMx cpd) (hNx cpd) (hLx cpd) (hCx cpd) cG 10 zmt xo ctb 1000000 235 cc_235_0 (35, ([((0, 0, 0, (0, []), (0, [])), 3, 9, (0, [(0, 1)]), 0, 0, 0), ((0, 1, 0, (0, []), (0, [])), 0, 0, (0, [(1, 1)]), 0, 0, 0), ((0, 2, 0, (0, []), (0, [])), 0, 0, (0, [(2, 1)]), 0, 0, 0), ((1, 7, 1, ((-18), [(0, 1)]), (0, [])), 0, 0, (0, []), 1, 0, 4), ((1, 9, 14, (0, [(0, 1)]), (0, [])), 0, 0, (0, []), 1, 0, 2147483647), ((0, 3, 0, (0, []), (0, [])), 0, 0, (0, []), 1, 0, 2147483647)], [((-1), [(2, 1)])], [(1, []), (2, []), (3, []), (4, []), (5, []), (6, []), (7, []), (10, [])]), (21550060203879899825446101975039, [(8, (-1))])) = true := by decide +kernel
theorem ck_235_0 : CK 235 cc_235_0 := ⟨cw_235_0, ce_235_0, List.forall_mem_cons.mpr ⟨ch_235_0_0, List.forall_mem_nil _⟩⟩
theorem cw_262_0 : scwf cc_262_0 = true := by decide +kernel
theorem ce_262_0 : schE (hSx cpd) (hMx cpd) (hNx cpd) (hLx cpd) (hCx cpd) cG 10 zmt xo ctb 1000000 262 cc_262_0 = true := by decide +kernel
theorem ck_262_0 : CK 262 cc_262_0 := ⟨cw_262_0, ce_262_0, List.forall_mem_nil _⟩
theorem cw_2_0 : scwf cc_2_0 = true := by decide +kernel
theorem ce_2_0 : schE (hSx cpd) (hMx cpd) (hNx cpd) (hLx cpd) (hCx cpd) cG 10 zmt xo ctb 1000000 2 cc_2_0 = true := by decide +kernel
theorem ch_2_0_0 : schH (hSx cpd) (hMx cpd) (hNx cpd) (hLx cpd) (hCx cpd) cG 10 zmt xo ctb 1000000 2 cc_2_0 (43, ([((0, 0, 0, (0, []), (0, [])), 3, 0, (0, [(0, 1)]), 0, 0, 0), ((0, 1, 0, (0, []), (0, [])), 3, 1, (0, [(1, 1)]), 0, 0, 0), ((0, 2, 0, (0, []), (0, [])), 0, 0, (0, [(2, 1)]), 0, 0, 0), ((0, 3, 0, (0, []), (0, [])), 0, 0, (0, []), 1, 1, 2000), ((1, 8, 7, (4, [(0, 1)]), (0, [])), 0, 0, (0, []), 0, 0, 0), ((1, 8, 8, (4, [(0, 1)]), (0, [])), 0, 0, (0, []), 0, 0, 0), ((1, 8, 9, (4, [(0, 1)]), (0, [])), 0, 0, (0, []), 0, 0, 0), ((1, 8, 10, (4, [(0, 1)]), (0, [])), 0, 0, (0, []), 0, 0, 0), ((1, 8, 11, (4, [(0, 1)]), (0, [])), 0, 0, (0, []), 0, 0, 0), ((1, 8, 13, (4, [(0, 1)]), (0, [])), 0, 0, ((-1), []), 0, 0, 0), ((1, 8, 16, (4, [(0, 1)]), (0, [])), 0, 0, ((-1), []), 0, 0, 0), ((1, 8, 17, (4, [(0, 1)]), (0, [])), 0, 0, (0, []), 0, 0, 0), ((1, 0, 4, (0, [(0, 1)]), (0, [])), 0, 0, (0, []), 0, 0, 0), ((1, 0, 5, (0, [(0, 1)]), (0, [])), 0, 0, (0, []), 0, 0, 0), ((1, 0, 6, (0, [(0, 1)]), (0, [])), 0, 0, (0, []), 0, 0, 0), ((0, 4, 0, (0, []), (0, [])), 0, 0, (0, []), 1, 0, 360)], [], [(1, []), (2, []), (3, []), (4, []), (5, []), (6, []), (7, []), (10, []), (1, []), (2, []), (3, []), (4, []), (5, []), (6, []), (7, []), (10, [])]), (40564819207303340847894502572392, [(18, (-1))])) = true := by decide +kernel
theorem ck_2_0 : CK 2 cc_2_0 := ⟨cw_2_0, ce_2_0, List.forall_mem_cons.mpr ⟨ch_2_0_0, List.forall_mem_nil _⟩⟩
theorem cw_91_0 : scwf cc_91_0 = true := by decide +kernel
theorem ce_91_0 : schE (hSx cpd) (hMx cpd) (hNx cpd) (hLx cpd) (hCx cpd) cG 10 zmt xo ctb 1000000 91 cc_91_0 = true := by decide +kernel
theorem ch_91_0_0 : schH (hSx cpd) (hMx cpd) (hNx cpd) (hLx cpd) (hCx cpd) cG 10 zmt xo ctb 1000000 91 cc_91_0 (38, ([((0, 0, 0, (0, []), (0, [])), 3, 3, (0, [(0, 1)]), 0, 0, 0), ((1, 3, 8, (0, [(0, 1)]), (0, [])), 0, 0, (0, [(2, 1)]), 0, 0, 0), ((1, 3, 9, (0, [(0, 1)]), (0, [])), 0, 0, (0, [(1, 1)]), 0, 0, 0), ((1, 3, 11, (0, [(0, 1)]), (0, [])), 0, 0, (1, []), 0, 0, 0), ((1, 3, 12, (0, [(0, 1)]), (0, [])), 0, 0, ((-1), []), 0, 0, 0), ((1, 3, 13, (0, [(0, 1)]), (0, [])), 0, 0, (0, []), 0, 0, 0), ((1, 3, 15, (0, [(0, 1)]), (0, [])), 0, 0, (0, []), 0, 0, 0), ((1, 3, 14, (0, [(0, 1)]), (0, [])), 0, 0, (0, []), 0, 0, 0), ((1, 3, 10, (0, [(0, 1)]), (0, [])), 0, 0, (0, [(1, 1)]), 0, 0, 0), ((0, 1, 0, (0, []), (0, [])), 0, 0, (0, []), 1, 0, 2147483647)], [(0, [(1, 1)]), (4000, [(2, (-1))]), (0, [(1, 1), (2, (-1))])], [(1, []), (2, []), (3, []), (4, []), (5, []), (6, []), (7, []), (10, [])]), (55776626410042093671354646659071, [(12, (-1))])) = true := by decide +kernel
theorem ch_91_0_1 : schH (hSx cpd) (hMx cpd) (hNx cpd) (hLx cpd) (hCx cpd) cG 10 zmt xo ctb 1000000 91 cc_91_0 (75, ([((0, 0, 0, (0, []), (0, [])), 3, 3, (0, [(0, 1)]), 0, 0, 0), ((1, 3, 9, (0, [(0, 1)]), (0, [])), 0, 0, (0, [(1, 1)]), 0, 0, 0), ((1, 3, 8, (0, [(0, 1)]), (0, [])), 0, 0, (0, [(2, 1)]), 0, 0, 0), ((1, 3, 10, (0, [(0, 1)]), (0, [])), 0, 0, (0, []), 1, 0, 4000), ((0, 1, 0, (0, []), (0, [])), 0, 0, (0, []), 1, 0, 2147483647)], [(0, [(6, 1)]), (0, [(1, 1)]), (4000, [(2, (-1))]), (0, [(1, 1), (2, (-1))])], [(1, []), (2, []), (3, []), (4, []), (5, []), (6, []), (7, []), (10, []), (1, []), (2, []), (3, []), (4, []), (5, []), (6, []), (7, []), (10, [])]), (55776626410042093665857088520191, [(7, (-1))])) = true := by decide +kernel
theorem ck_91_0 : CK 91 cc_91_0 := ⟨cw_91_0, ce_91_0, List.forall_mem_cons.mpr ⟨ch_91_0_0, List.forall_mem_cons.mpr ⟨ch_91_0_1, List.forall_mem_nil _⟩⟩⟩
theorem cw_94_0 : scwf cc_94_0 = true := by decide +kernel
theorem ce_94_0 : schE (hSx cpd) (hMx cpd) (hNx cpd) (hLx cpd) (hCx cpd) cG 10 zmt xo ctb 1000000 94 cc_94_0 = true := by decide +kernel
theorem ck_94_0 : CK 94 cc_94_0 := ⟨cw_94_0, ce_94_0, List.forall_mem_nil _⟩
theorem cw_260_0 : scwf cc_260_0 = true := by decide +kernel
theorem ce_260_0 : schE (hSx cpd) (hMx cpd) (hNx cpd) (hLx cpd) (hCx cpd) cG 10 zmt xo ctb 1000000 260 cc_260_0 = true := by decide +kernel
theorem ck_260_0 : CK 260 cc_260_0 := ⟨cw_260_0, ce_260_0, List.forall_mem_nil _⟩
theorem cw_283_0 : scwf cc_283_0 = true := by decide +kernel
theorem ce_283_0 : schE (hSx cpd) (hMx cpd) (hNx cpd) (hLx cpd) (hCx cpd) cG 10 zmt xo ctb 1000000 283 cc_283_0 = true := by decide +kernel
theorem ck_283_0 : CK 283 cc_283_0 := ⟨cw_283_0, ce_283_0, List.forall_mem_nil _⟩
theorem cw_49_0 : scwf cc_49_0 = true := by decide +kernel
theorem ce_49_0 : schE (hSx cpd) (hMx cpd) (hNx cpd) (hLx cpd) (hCx cpd) cG 10 zmt xo ctb 1000000 49 cc_49_0 = true := by decide +kernel
theorem ch_49_0_0 : schH (hSx cpd) (hMx cpd) (hNx cpd) (hLx cpd) (hCx cpd) cG 10 zmt xo ctb 1000000 49 cc_49_0 (33, ([((0, 0, 0, (0, []), (0, [])), 3, 1, (0, [(0, 1)]), 0, 0, 0), ((0, 1, 0, (0, []), (0, [])), 3, 8, (0, [(1, 1)]), 0, 0, 0), ((0, 2, 0, (0, []), (0, [])), 0, 0, (0, [(2, 1)]), 0, 0, 0), ((1, 10, 12, (3, [(0, 1)]), (0, [])), 0, 0, (0, [(3, 1)]), 0, 0, 0), ((0, 3, 0, (0, []), (0, [])), 0, 0, (0, []), 1, 0, 1), ((0, 4, 0, (0, []), (0, [])), 0, 0, (0, []), 1, 0, 40), ((1, 5, 4, (27, [(0, 1)]), (0, [])), 0, 0, (0, []), 1, 0, 5)], [(5, [(8, (-5)), (10, (-1))]), ((-1), [(3, 1)]), ((-1), [(2, (-1)), (3, 1)])], [(1, []), (2, []), (3, []), (4, []), (5, []), (6, []), (7, []), (10, [])]), (65917831211867928877828566679592, [(9, (-1))])) = true := by decide +kernel
theorem ck_49_0 : CK 49 cc_49_0 := ⟨cw_49_0, ce_49_0, List.forall_mem_cons.mpr ⟨ch_49_0_0, List.forall_mem_nil _⟩⟩
theorem cw_177_0 : scwf cc_177_0 = true := by decide +kernel
theorem ce_177_0 : schE (hSx cpd) (hMx cpd) (hNx cpd) (hLx cpd) (hCx cpd) cG 10 zmt xo ctb 1000000 177 cc_177_0 = true := by decide +kernel
theorem ck_177_0 : CK 177 cc_177_0 := ⟨cw_177_0, ce_177_0, List.forall_mem_nil _⟩
theorem cw_270_0 : scwf cc_270_0 = true := by decide +kernel
theorem ce_270_0 : schE (hSx cpd) (hMx cpd) (hNx cpd) (hLx cpd) (hCx cpd) cG 10 zmt xo ctb 1000000 270 cc_270_0 = true := by decide +kernel
theorem ck_270_0 : CK 270 cc_270_0 := ⟨cw_270_0, ce_270_0, List.forall_mem_nil _⟩
theorem cw_273_0 : scwf cc_273_0 = true := by decide +kernel
theorem ce_273_0 : schE (hSx cpd) (hMx cpd) (hNx cpd) (hLx cpd) (hCx cpd) cG 10 zmt xo ctb 1000000 273 cc_273_0 = true := by decide +kernel
theorem ck_273_0 : CK 273 cc_273_0 := ⟨cw_273_0, ce_273_0, List.forall_mem_nil _⟩
theorem cw_265_0 : scwf cc_265_0 = true := by decide +kernel
theorem ce_265_0 : schE (hSx cpd) (hMx cpd) (hNx cpd) (hLx cpd) (hCx cpd) cG 10 zmt xo ctb 1000000 265 cc_265_0 = true := by decide +kernel
theorem ck_265_0 : CK 265 cc_265_0 := ⟨cw_265_0, ce_265_0, List.forall_mem_nil _⟩
theorem cw_257_0 : scwf cc_257_0 = true := by decide +kernel
theorem ce_257_0 : schE (hSx cpd) (hMx cpd) (hNx cpd) (hLx cpd) (hCx cpd) cG 10 zmt xo ctb 1000000 257 cc_257_0 = true := by decide +kernel
theorem ck_257_0 : CK 257 cc_257_0 := ⟨cw_257_0, ce_257_0, List.forall_mem_nil _⟩
theorem cw_198_0 : scwf cc_198_0 = true := by decide +kernel
theorem ce_198_0 : schE (hSx cpd) (hMx cpd) (hNx cpd) (hLx cpd) (hCx cpd) cG 10 zmt xo ctb 1000000 198 cc_198_0 = true := by decide +kernel
theorem ch_198_0_0 : schH (hSx cpd) (hMx cpd) (hNx cpd) (hLx cpd) (hCx cpd) cG 10 zmt xo ctb 1000000 198 cc_198_0 (24, ([((0, 0, 0, (0, []), (0, [])), 3, 8, (0, [(0, 1)]), 0, 0, 0), ((0, 1, 0, (0, []), (0, [])), 0, 0, (0, [(1, 1)]), 0, 0, 0), ((0, 2, 0, (0, []), (0, [])), 0, 0, (0, [(2, 1)]), 0, 0, 0), ((0, 3, 0, (0, []), (0, [])), 0, 0, (0, []), 1, 0, 64), ((1, 8, 11, (0, [(0, 1)]), (0, [])), 0, 0, (1, [(1, 1)]), 0, 0, 0), ((2, 35, 0, (0, [(0, 1)]), (5, [(1, 8)])), 0, 0, (0, [(6, 1)]), 0, 0, 0), ((1, 8, 7, (0, [(0, 1)]), (0, [])), 0, 0, (0, []), 1, 0, 64), ((0, 4, 0, (0, []), (0, [])), 0, 0, (0, []), 1, 0, 64)], [], [(1, []), (2, []), (3, []), (4, []), (5, []), (6, []), (7, []), (10, [])]), (7605903601369376408980219232320, [(10, (-1))])) = true := by decide +kernel
theorem ck_198_0 : CK 198 cc_198_0 := ⟨cw_198_0, ce_198_0, List.forall_mem_cons.mpr ⟨ch_198_0_0, List.forall_mem_nil _⟩⟩
theorem cw_271_0 : scwf cc_271_0 = true := by decide +kernel
theorem ce_271_0 : schE (hSx cpd) (hMx cpd) (hNx cpd) (hLx cpd) (hCx cpd) cG 10 zmt xo ctb 1000000 271 cc_271_0 = true := by decide +kernel
theorem ck_271_0 : CK 271 cc_271_0 := ⟨cw_271_0, ce_271_0, List.forall_mem_nil _⟩
theorem cw_267_0 : scwf cc_267_0 = true := by decide +kernel
theorem ce_267_0 : schE (hSx cpd) (hMx cpd) (hNx cpd) (hLx cpd) (hCx cpd) cG 10 zmt xo ctb 1000000 267 cc_267_0 = true := by decide +kernel
theorem ck_267_0 : CK 267 cc_267_0 := ⟨cw_267_0, ce_267_0, List.forall_mem_nil _⟩
theorem cw_75_0 : scwf cc_75_0 = true := by decide +kernel
theorem ce_75_0 : schE (hSx cpd) (hMx cpd) (hNx cpd) (hLx cpd) (hCx cpd) cG 10 zmt xo ctb 1000000 75 cc_75_0 = true := by decide +kernel
theorem ch_75_0_0 : schH (hSx cpd) (hMx cpd) (hNx cpd) (hLx cpd) (hCx cpd) cG 10 zmt xo ctb 1000000 75 cc_75_0 (21, ([((0, 0, 0, (0, []), (0, [])), 3, 1, (0, [(0, 1)]), 0, 0, 0), ((0, 1, 0, (0, []), (0, [])), 3, 8, (0, [(1, 1)]), 0, 0, 0), ((1, 1, 14, (0, [(0, 1)]), (0, [])), 0, 0, (0, [(2, 1)]), 0, 0, 0), ((1, 10, 12, (3, [(0, 1)]), (0, [])), 0, 0, (0, []), 1, 1, 360), ((0, 2, 0, (0, []), (0, [])), 0, 0, (0, []), 1, 0, 359), ((0, 3, 0, (0, []), (0, [])), 0, 0, (0, []), 1, 1, 4)], [((-1), [(2, (-1))])], [(1, []), (2, []), (3, []), (4, []), (5, []), (6, []), (7, []), (10, [])]), (69720783012552617082318676295684, [(8, (-1))])) = true := by decide +kernel
theorem ck_75_0 : CK 75 cc_75_0 := ⟨cw_75_0, ce_75_0, List.forall_mem_cons.mpr ⟨ch_75_0_0, List.forall_mem_nil _⟩⟩
theorem cw_272_0 : scwf cc_272_0 = true := by decide +kernel
theorem ce_272_0 : schE (hSx cpd) (hMx cpd) (hNx cpd) (hLx cpd) (hCx cpd) cG 10 zmt xo ctb 1000000 272 cc_272_0 = true := by decide +kernel
theorem ck_272_0 : CK 272 cc_272_0 := ⟨cw_272_0, ce_272_0, List.forall_mem_nil _⟩
theorem cw_105_0 : scwf cc_105_0 = true := by decide +kernel
theorem ce_105_0 : schE (hSx cpd) (hMx cpd) (hNx cpd) (hLx cpd) (hCx cpd) cG 10 zmt xo ctb 1000000 105 cc_105_0 = true := by decide +kernel
theorem ch_105_0_0 : schH (hSx cpd) (hMx cpd) (hNx cpd) (hLx cpd) (hCx cpd) cG 10 zmt xo ctb 1000000 105 cc_105_0 (5, ([((0, 0, 0, (0, []), (0, [])), 3, 3, (0, [(0, 1)]), 0, 0, 0), ((1, 3, 8, (0, [(0, 1)]), (0, [])), 0, 0, (0, []), 1, 0, 2147483647), ((0, 1, 0, (0, []), (0, [])), 0, 0, (0, []), 1, 0, 2147483647)], [], [(1, []), (2, []), (3, []), (4, []), (5, []), (6, []), (7, []), (10, [])]), (58311927610498552474348053069823, [(3, (-1))])) = true := by decide +kernel
theorem ch_105_0_1 : schH (hSx cpd) (hMx cpd) (hNx cpd) (hLx cpd) (hCx cpd) cG 10 zmt xo ctb 1000000 105 cc_105_0 (31, ([((0, 0, 0, (0, []), (0, [])), 3, 3, (0, [(0, 1)]), 0, 0, 0), ((1, 3, 8, (0, [(0, 1)]), (0, [])), 0, 0, (0, []), 1, 0, 2147483647), ((1, 3, 9, (0, [(0, 1)]), (0, [])), 0, 0, (0, []), 1, (-2147483648), 4000), ((0, 1, 0, (0, []), (0, [])), 0, 0, (0, []), 1, 0, 2147483647)], [], [(1, []), (2, []), (3, []), (4, []), (5, []), (6, []), (7, []), (10, [])]), (58311927610498552468850494930943, [(4, (-1))])) = true := by decide +kernel
theorem ck_105_0 : CK 105 cc_105_0 := ⟨cw_105_0, ce_105_0, List.forall_mem_cons.mpr ⟨ch_105_0_0, List.forall_mem_cons.mpr ⟨ch_105_0_1, List.forall_mem_nil _⟩⟩⟩
