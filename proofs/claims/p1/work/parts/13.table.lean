def zmt : Nat → Option zMe := fun k => cond (Nat.blt k 303) (cond (Nat.blt k 261) (cond (Nat.blt k 169) (cond (Nat.blt k 17) (cond (Nat.blt k 12) (cond (Nat.blt k 1) (cond (Nat.beq k 0) (some zm_0) none) (cond (Nat.blt k 11) (cond (Nat.beq k 1) (some zm_1) none) (cond (Nat.beq k 11) (some zm_11) none))) (cond (Nat.blt k 15) (cond (Nat.beq k 12) (some zm_12) none) (cond (Nat.blt k 16) (cond (Nat.beq k 15) (some zm_15) none) (cond (Nat.beq k 16) (some zm_16) none)))) (cond (Nat.blt k 111) (cond (Nat.blt k 79) (cond (Nat.beq k 17) (some zm_17) none) (cond (Nat.blt k 89) (cond (Nat.beq k 79) (some zm_79) none) (cond (Nat.beq k 89) (some zm_89) none))) (cond (Nat.blt k 147) (cond (Nat.blt k 120) (cond (Nat.beq k 111) (some zm_111) none) (cond (Nat.beq k 120) (some zm_120) none)) (cond (Nat.blt k 158) (cond (Nat.beq k 147) (some zm_147) none) (cond (Nat.beq k 158) (some zm_158) none))))) (cond (Nat.blt k 254) (cond (Nat.blt k 225) (cond (Nat.blt k 175) (cond (Nat.beq k 169) (some zm_169) none) (cond (Nat.blt k 180) (cond (Nat.beq k 175) (some zm_175) none) (cond (Nat.beq k 180) (some zm_180) none))) (cond (Nat.blt k 239) (cond (Nat.blt k 238) (cond (Nat.beq k 225) (some zm_225) none) (cond (Nat.beq k 238) (some zm_238) none)) (cond (Nat.blt k 253) (cond (Nat.beq k 239) (some zm_239) none) (cond (Nat.beq k 253) (some zm_253) none)))) (cond (Nat.blt k 257) (cond (Nat.blt k 255) (cond (Nat.beq k 254) (some zm_254) none) (cond (Nat.blt k 256) (cond (Nat.beq k 255) (some zm_255) none) (cond (Nat.beq k 256) (some zm_256) none))) (cond (Nat.blt k 259) (cond (Nat.blt k 258) (cond (Nat.beq k 257) (some zm_257) none) (cond (Nat.beq k 258) (some zm_258) none)) (cond (Nat.blt k 260) (cond (Nat.beq k 259) (some zm_259) none) (cond (Nat.beq k 260) (some zm_260) none)))))) (cond (Nat.blt k 275) (cond (Nat.blt k 268) (cond (Nat.blt k 264) (cond (Nat.blt k 262) (cond (Nat.beq k 261) (some zm_261) none) (cond (Nat.blt k 263) (cond (Nat.beq k 262) (some zm_262) none) (cond (Nat.beq k 263) (some zm_263) none))) (cond (Nat.blt k 266) (cond (Nat.blt k 265) (cond (Nat.beq k 264) (some zm_264) none) (cond (Nat.beq k 265) (some zm_265) none)) (cond (Nat.blt k 267) (cond (Nat.beq k 266) (some zm_266) none) (cond (Nat.beq k 267) (some zm_267) none)))) (cond (Nat.blt k 271) (cond (Nat.blt k 269) (cond (Nat.beq k 268) (some zm_268) none) (cond (Nat.blt k 270) (cond (Nat.beq k 269) (some zm_269) none) (cond (Nat.beq k 270) (some zm_270) none))) (cond (Nat.blt k 273) (cond (Nat.blt k 272) (cond (Nat.beq k 271) (some zm_271) none) (cond (Nat.beq k 272) (some zm_272) none)) (cond (Nat.blt k 274) (cond (Nat.beq k 273) (some zm_273) none) (cond (Nat.beq k 274) (some zm_274) none))))) (cond (Nat.blt k 282) (cond (Nat.blt k 278) (cond (Nat.blt k 276) (cond (Nat.beq k 275) (some zm_275) none) (cond (Nat.blt k 277) (cond (Nat.beq k 276) (some zm_276) none) (cond (Nat.beq k 277) (some zm_277) none))) (cond (Nat.blt k 280) (cond (Nat.blt k 279) (cond (Nat.beq k 278) (some zm_278) none) (cond (Nat.beq k 279) (some zm_279) none)) (cond (Nat.blt k 281) (cond (Nat.beq k 280) (some zm_280) none) (cond (Nat.beq k 281) (some zm_281) none)))) (cond (Nat.blt k 285) (cond (Nat.blt k 283) (cond (Nat.beq k 282) (some zm_282) none) (cond (Nat.blt k 284) (cond (Nat.beq k 283) (some zm_283) none) (cond (Nat.beq k 284) (some zm_284) none))) (cond (Nat.blt k 300) (cond (Nat.blt k 286) (cond (Nat.beq k 285) (some zm_285) none) (cond (Nat.beq k 286) (some zm_286) none)) (cond (Nat.blt k 301) (cond (Nat.beq k 300) (some zm_300) none) (cond (Nat.beq k 301) (some zm_301) none))))))) (cond (Nat.blt k 472) (cond (Nat.blt k 458) (cond (Nat.blt k 332) (cond (Nat.blt k 322) (cond (Nat.blt k 304) (cond (Nat.beq k 303) (some zm_303) none) (cond (Nat.blt k 315) (cond (Nat.beq k 304) (some zm_304) none) (cond (Nat.beq k 315) (some zm_315) none))) (cond (Nat.blt k 324) (cond (Nat.beq k 322) (some zm_322) none) (cond (Nat.blt k 330) (cond (Nat.beq k 324) (some zm_324) none) (cond (Nat.beq k 330) (some zm_330) none)))) (cond (Nat.blt k 441) (cond (Nat.blt k 365) (cond (Nat.beq k 332) (some zm_332) none) (cond (Nat.blt k 422) (cond (Nat.beq k 365) (some zm_365) none) (cond (Nat.beq k 422) (some zm_422) none))) (cond (Nat.blt k 456) (cond (Nat.blt k 455) (cond (Nat.beq k 441) (some zm_441) none) (cond (Nat.beq k 455) (some zm_455) none)) (cond (Nat.blt k 457) (cond (Nat.beq k 456) (some zm_456) none) (cond (Nat.beq k 457) (some zm_457) none))))) (cond (Nat.blt k 465) (cond (Nat.blt k 461) (cond (Nat.blt k 459) (cond (Nat.beq k 458) (some zm_458) none) (cond (Nat.blt k 460) (cond (Nat.beq k 459) (some zm_459) none) (cond (Nat.beq k 460) (some zm_460) none))) (cond (Nat.blt k 463) (cond (Nat.blt k 462) (cond (Nat.beq k 461) (some zm_461) none) (cond (Nat.beq k 462) (some zm_462) none)) (cond (Nat.blt k 464) (cond (Nat.beq k 463) (some zm_463) none) (cond (Nat.beq k 464) (some zm_464) none)))) (cond (Nat.blt k 468) (cond (Nat.blt k 466) (cond (Nat.beq k 465) (some zm_465) none) (cond (Nat.blt k 467) (cond (Nat.beq k 466) (some zm_466) none) (cond (Nat.beq k 467) (some zm_467) none))) (cond (Nat.blt k 470) (cond (Nat.blt k 469) (cond (Nat.beq k 468) (some zm_468) none) (cond (Nat.beq k 469) (some zm_469) none)) (cond (Nat.blt k 471) (cond (Nat.beq k 470) (some zm_470) none) (cond (Nat.beq k 471) (some zm_471) none)))))) (cond (Nat.blt k 487) (cond (Nat.blt k 479) (cond (Nat.blt k 475) (cond (Nat.blt k 473) (cond (Nat.beq k 472) (some zm_472) none) (cond (Nat.blt k 474) (cond (Nat.beq k 473) (some zm_473) none) (cond (Nat.beq k 474) (some zm_474) none))) (cond (Nat.blt k 477) (cond (Nat.blt k 476) (cond (Nat.beq k 475) (some zm_475) none) (cond (Nat.beq k 476) (some zm_476) none)) (cond (Nat.blt k 478) (cond (Nat.beq k 477) (some zm_477) none) (cond (Nat.beq k 478) (some zm_478) none)))) (cond (Nat.blt k 482) (cond (Nat.blt k 480) (cond (Nat.beq k 479) (some zm_479) none) (cond (Nat.blt k 481) (cond (Nat.beq k 480) (some zm_480) none) (cond (Nat.beq k 481) (some zm_481) none))) (cond (Nat.blt k 485) (cond (Nat.blt k 484) (cond (Nat.beq k 482) (some zm_482) none) (cond (Nat.beq k 484) (some zm_484) none)) (cond (Nat.blt k 486) (cond (Nat.beq k 485) (some zm_485) none) (cond (Nat.beq k 486) (some zm_486) none))))) (cond (Nat.blt k 502) (cond (Nat.blt k 491) (cond (Nat.blt k 488) (cond (Nat.beq k 487) (some zm_487) none) (cond (Nat.blt k 489) (cond (Nat.beq k 488) (some zm_488) none) (cond (Nat.beq k 489) (some zm_489) none))) (cond (Nat.blt k 494) (cond (Nat.blt k 492) (cond (Nat.beq k 491) (some zm_491) none) (cond (Nat.beq k 492) (some zm_492) none)) (cond (Nat.blt k 501) (cond (Nat.beq k 494) (some zm_494) none) (cond (Nat.beq k 501) (some zm_501) none)))) (cond (Nat.blt k 505) (cond (Nat.blt k 503) (cond (Nat.beq k 502) (some zm_502) none) (cond (Nat.blt k 504) (cond (Nat.beq k 503) (some zm_503) none) (cond (Nat.beq k 504) (some zm_504) none))) (cond (Nat.blt k 513) (cond (Nat.blt k 506) (cond (Nat.beq k 505) (some zm_505) none) (cond (Nat.beq k 506) (some zm_506) none)) (cond (Nat.blt k 515) (cond (Nat.beq k 513) (some zm_513) none) (cond (Nat.beq k 515) (some zm_515) none)))))))
theorem zmt_ok : ∀ a r, zmt a = some r → zOK r := by
  intro a r h
  unfold zmt at h
  rcases zcond h with h | h
  · rcases zcond h with h | h
    · rcases zcond h with h | h
      · rcases zcond h with h | h
        · rcases zcond h with h | h
          · rcases zcond h with h | h
            · obtain ⟨-, h⟩ := zcondB h
              cases h
              exact zm_0_ok
            · rcases zcond h with h | h
              · obtain ⟨-, h⟩ := zcondB h
                cases h
                exact zm_1_ok
              · obtain ⟨-, h⟩ := zcondB h
                cases h
                exact zm_11_ok
          · rcases zcond h with h | h
            · obtain ⟨-, h⟩ := zcondB h
              cases h
              exact zm_12_ok
            · rcases zcond h with h | h
              · obtain ⟨-, h⟩ := zcondB h
                cases h
                exact zm_15_ok
              · obtain ⟨-, h⟩ := zcondB h
                cases h
                exact zm_16_ok
        · rcases zcond h with h | h
          · rcases zcond h with h | h
            · obtain ⟨-, h⟩ := zcondB h
              cases h
              exact zm_17_ok
            · rcases zcond h with h | h
              · obtain ⟨-, h⟩ := zcondB h
                cases h
                exact zm_79_ok
              · obtain ⟨-, h⟩ := zcondB h
                cases h
                exact zm_89_ok
          · rcases zcond h with h | h
            · rcases zcond h with h | h
              · obtain ⟨-, h⟩ := zcondB h
                cases h
                exact zm_111_ok
              · obtain ⟨-, h⟩ := zcondB h
                cases h
                exact zm_120_ok
            · rcases zcond h with h | h
              · obtain ⟨-, h⟩ := zcondB h
                cases h
                exact zm_147_ok
              · obtain ⟨-, h⟩ := zcondB h
                cases h
                exact zm_158_ok
      · rcases zcond h with h | h
        · rcases zcond h with h | h
          · rcases zcond h with h | h
            · obtain ⟨-, h⟩ := zcondB h
              cases h
              exact zm_169_ok
            · rcases zcond h with h | h
              · obtain ⟨-, h⟩ := zcondB h
                cases h
                exact zm_175_ok
              · obtain ⟨-, h⟩ := zcondB h
                cases h
                exact zm_180_ok
          · rcases zcond h with h | h
            · rcases zcond h with h | h
              · obtain ⟨-, h⟩ := zcondB h
                cases h
                exact zm_225_ok
              · obtain ⟨-, h⟩ := zcondB h
                cases h
                exact zm_238_ok
            · rcases zcond h with h | h
              · obtain ⟨-, h⟩ := zcondB h
                cases h
                exact zm_239_ok
              · obtain ⟨-, h⟩ := zcondB h
                cases h
                exact zm_253_ok
        · rcases zcond h with h | h
          · rcases zcond h with h | h
            · obtain ⟨-, h⟩ := zcondB h
              cases h
              exact zm_254_ok
            · rcases zcond h with h | h
              · obtain ⟨-, h⟩ := zcondB h
                cases h
                exact zm_255_ok
              · obtain ⟨-, h⟩ := zcondB h
                cases h
                exact zm_256_ok
          · rcases zcond h with h | h
            · rcases zcond h with h | h
              · obtain ⟨-, h⟩ := zcondB h
                cases h
                exact zm_257_ok
              · obtain ⟨-, h⟩ := zcondB h
                cases h
                exact zm_258_ok
            · rcases zcond h with h | h
              · obtain ⟨-, h⟩ := zcondB h
                cases h
                exact zm_259_ok
              · obtain ⟨-, h⟩ := zcondB h
                cases h
                exact zm_260_ok
    · rcases zcond h with h | h
      · rcases zcond h with h | h
        · rcases zcond h with h | h
          · rcases zcond h with h | h
            · obtain ⟨-, h⟩ := zcondB h
              cases h
              exact zm_261_ok
            · rcases zcond h with h | h
              · obtain ⟨-, h⟩ := zcondB h
                cases h
                exact zm_262_ok
              · obtain ⟨-, h⟩ := zcondB h
                cases h
                exact zm_263_ok
          · rcases zcond h with h | h
            · rcases zcond h with h | h
              · obtain ⟨-, h⟩ := zcondB h
                cases h
                exact zm_264_ok
              · obtain ⟨-, h⟩ := zcondB h
                cases h
                exact zm_265_ok
            · rcases zcond h with h | h
              · obtain ⟨-, h⟩ := zcondB h
                cases h
                exact zm_266_ok
              · obtain ⟨-, h⟩ := zcondB h
                cases h
                exact zm_267_ok
        · rcases zcond h with h | h
          · rcases zcond h with h | h
            · obtain ⟨-, h⟩ := zcondB h
              cases h
              exact zm_268_ok
            · rcases zcond h with h | h
              · obtain ⟨-, h⟩ := zcondB h
                cases h
                exact zm_269_ok
              · obtain ⟨-, h⟩ := zcondB h
                cases h
                exact zm_270_ok
          · rcases zcond h with h | h
            · rcases zcond h with h | h
              · obtain ⟨-, h⟩ := zcondB h
                cases h
                exact zm_271_ok
              · obtain ⟨-, h⟩ := zcondB h
                cases h
                exact zm_272_ok
            · rcases zcond h with h | h
              · obtain ⟨-, h⟩ := zcondB h
                cases h
                exact zm_273_ok
              · obtain ⟨-, h⟩ := zcondB h
                cases h
                exact zm_274_ok
      · rcases zcond h with h | h
        · rcases zcond h with h | h
          · rcases zcond h with h | h
            · obtain ⟨-, h⟩ := zcondB h
              cases h
              exact zm_275_ok
            · rcases zcond h with h | h
              · obtain ⟨-, h⟩ := zcondB h
                cases h
                exact zm_276_ok
              · obtain ⟨-, h⟩ := zcondB h
                cases h
                exact zm_277_ok
          · rcases zcond h with h | h
            · rcases zcond h with h | h
              · obtain ⟨-, h⟩ := zcondB h
                cases h
                exact zm_278_ok
              · obtain ⟨-, h⟩ := zcondB h
                cases h
                exact zm_279_ok
            · rcases zcond h with h | h
              · obtain ⟨-, h⟩ := zcondB h
                cases h
                exact zm_280_ok
              · obtain ⟨-, h⟩ := zcondB h
                cases h
                exact zm_281_ok
        · rcases zcond h with h | h
          · rcases zcond h with h | h
            · obtain ⟨-, h⟩ := zcondB h
              cases h
              exact zm_282_ok
            · rcases zcond h with h | h
              · obtain ⟨-, h⟩ := zcondB h
                cases h
                exact zm_283_ok
              · obtain ⟨-, h⟩ := zcondB h
                cases h
                exact zm_284_ok
          · rcases zcond h with h | h
            · rcases zcond h with h | h
              · obtain ⟨-, h⟩ := zcondB h
                cases h
                exact zm_285_ok
              · obtain ⟨-, h⟩ := zcondB h
                cases h
                exact zm_286_ok
            · rcases zcond h with h | h
              · obtain ⟨-, h⟩ := zcondB h
                cases h
                exact zm_300_ok
              · obtain ⟨-, h⟩ := zcondB h
                cases h
                exact zm_301_ok
  · rcases zcond h with h | h
    · rcases zcond h with h | h
      · rcases zcond h with h | h
        · rcases zcond h with h | h
          · rcases zcond h with h | h
            · obtain ⟨-, h⟩ := zcondB h
              cases h
              exact zm_303_ok
            · rcases zcond h with h | h
              · obtain ⟨-, h⟩ := zcondB h
                cases h
                exact zm_304_ok
              · obtain ⟨-, h⟩ := zcondB h
                cases h
                exact zm_315_ok
          · rcases zcond h with h | h
            · obtain ⟨-, h⟩ := zcondB h
              cases h
              exact zm_322_ok
            · rcases zcond h with h | h
              · obtain ⟨-, h⟩ := zcondB h
                cases h
                exact zm_324_ok
              · obtain ⟨-, h⟩ := zcondB h
                cases h
                exact zm_330_ok
        · rcases zcond h with h | h
          · rcases zcond h with h | h
            · obtain ⟨-, h⟩ := zcondB h
              cases h
              exact zm_332_ok
            · rcases zcond h with h | h
              · obtain ⟨-, h⟩ := zcondB h
                cases h
                exact zm_365_ok
              · obtain ⟨-, h⟩ := zcondB h
                cases h
                exact zm_422_ok
          · rcases zcond h with h | h
            · rcases zcond h with h | h
              · obtain ⟨-, h⟩ := zcondB h
                cases h
                exact zm_441_ok
              · obtain ⟨-, h⟩ := zcondB h
                cases h
                exact zm_455_ok
            · rcases zcond h with h | h
              · obtain ⟨-, h⟩ := zcondB h
                cases h
                exact zm_456_ok
              · obtain ⟨-, h⟩ := zcondB h
                cases h
                exact zm_457_ok
      · rcases zcond h with h | h
        · rcases zcond h with h | h
          · rcases zcond h with h | h
            · obtain ⟨-, h⟩ := zcondB h
              cases h
              exact zm_458_ok
            · rcases zcond h with h | h
              · obtain ⟨-, h⟩ := zcondB h
                cases h
                exact zm_459_ok
              · obtain ⟨-, h⟩ := zcondB h
                cases h
                exact zm_460_ok
          · rcases zcond h with h | h
            · rcases zcond h with h | h
              · obtain ⟨-, h⟩ := zcondB h
                cases h
                exact zm_461_ok
              · obtain ⟨-, h⟩ := zcondB h
                cases h
                exact zm_462_ok
            · rcases zcond h with h | h
              · obtain ⟨-, h⟩ := zcondB h
                cases h
                exact zm_463_ok
              · obtain ⟨-, h⟩ := zcondB h
                cases h
                exact zm_464_ok
        · rcases zcond h with h | h
          · rcases zcond h with h | h
            · obtain ⟨-, h⟩ := zcondB h
              cases h
              exact zm_465_ok
            · rcases zcond h with h | h
              · obtain ⟨-, h⟩ := zcondB h
                cases h
                exact zm_466_ok
              · obtain ⟨-, h⟩ := zcondB h
                cases h
                exact zm_467_ok
          · rcases zcond h with h | h
            · rcases zcond h with h | h
              · obtain ⟨-, h⟩ := zcondB h
                cases h
                exact zm_468_ok
              · obtain ⟨-, h⟩ := zcondB h
                cases h
                exact zm_469_ok
            · rcases zcond h with h | h
              · obtain ⟨-, h⟩ := zcondB h
                cases h
                exact zm_470_ok
              · obtain ⟨-, h⟩ := zcondB h
                cases h
                exact zm_471_ok
    · rcases zcond h with h | h
      · rcases zcond h with h | h
        · rcases zcond h with h | h
          · rcases zcond h with h | h
            · obtain ⟨-, h⟩ := zcondB h
              cases h
              exact zm_472_ok
            · rcases zcond h with h | h
              · obtain ⟨-, h⟩ := zcondB h
                cases h
                exact zm_473_ok
              · obtain ⟨-, h⟩ := zcondB h
                cases h
                exact zm_474_ok
          · rcases zcond h with h | h
            · rcases zcond h with h | h
              · obtain ⟨-, h⟩ := zcondB h
                cases h
                exact zm_475_ok
              · obtain ⟨-, h⟩ := zcondB h
                cases h
                exact zm_476_ok
            · rcases zcond h with h | h
              · obtain ⟨-, h⟩ := zcondB h
                cases h
                exact zm_477_ok
              · obtain ⟨-, h⟩ := zcondB h
                cases h
                exact zm_478_ok
        · rcases zcond h with h | h
          · rcases zcond h with h | h
            · obtain ⟨-, h⟩ := zcondB h
              cases h
              exact zm_479_ok
            · rcases zcond h with h | h
              · obtain ⟨-, h⟩ := zcondB h
                cases h
                exact zm_480_ok
              · obtain ⟨-, h⟩ := zcondB h
                cases h
                exact zm_481_ok
          · rcases zcond h with h | h
            · rcases zcond h with h | h
              · obtain ⟨-, h⟩ := zcondB h
                cases h
                exact zm_482_ok
              · obtain ⟨-, h⟩ := zcondB h
                cases h
                exact zm_484_ok
            · rcases zcond h with h | h
              · obtain ⟨-, h⟩ := zcondB h
                cases h
                exact zm_485_ok
              · obtain ⟨-, h⟩ := zcondB h
                cases h
                exact zm_486_ok
      · rcases zcond h with h | h
        · rcases zcond h with h | h
          · rcases zcond h with h | h
            · obtain ⟨-, h⟩ := zcondB h
              cases h
              exact zm_487_ok
            · rcases zcond h with h | h
              · obtain ⟨-, h⟩ := zcondB h
                cases h
                exact zm_488_ok
              · obtain ⟨-, h⟩ := zcondB h
                cases h
                exact zm_489_ok
          · rcases zcond h with h | h
            · rcases zcond h with h | h
              · obtain ⟨-, h⟩ := zcondB h
                cases h
                exact zm_491_ok
              · obtain ⟨-, h⟩ := zcondB h
                cases h
                exact zm_492_ok
            · rcases zcond h with h | h
              · obtain ⟨-, h⟩ := zcondB h
                cases h
                exact zm_494_ok
              · obtain ⟨-, h⟩ := zcondB h
                cases h
                exact zm_501_ok
        · rcases zcond h with h | h
          · rcases zcond h with h | h
            · obtain ⟨-, h⟩ := zcondB h
              cases h
              exact zm_502_ok
            · rcases zcond h with h | h
              · obtain ⟨-, h⟩ := zcondB h
                cases h
                exact zm_503_ok
              · obtain ⟨-, h⟩ := zcondB h
                cases h
                exact zm_504_ok
          · rcases zcond h with h | h
            · rcases zcond h with h | h
              · obtain ⟨-, h⟩ := zcondB h
                cases h
                exact zm_505_ok
              · obtain ⟨-, h⟩ := zcondB h
                cases h
                exact zm_506_ok
            · rcases zcond h with h | h
              · obtain ⟨-, h⟩ := zcondB h
                cases h
                exact zm_513_ok
              · obtain ⟨-, h⟩ := zcondB h
                cases h
                exact zm_515_ok

