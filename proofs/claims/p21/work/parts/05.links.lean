/-! the words of the links, each by its place; fields and calls, a row each (printed by a program out of the tables) -/
theorem inX0 : ∀ w ∈ u_ws RX0 TX0 6, w ∈ lw_tbl ∧ fz_keep w = true := by decide +kernel
theorem inX1 : ∀ w ∈ u_ws RX1 TX1 2, w ∈ lw_tbl ∧ fz_keep w = true := by decide +kernel
theorem inX2 : ∀ w ∈ u_ws RX2 TX2 14, w ∈ lw_tbl ∧ fz_keep w = true := by decide +kernel
theorem inX3 : ∀ w ∈ u_ws RX3 TX3 2, w ∈ lw_tbl ∧ fz_keep w = true := by decide +kernel
theorem mw_136 : fz_M (.fieldLink RX3 10 RX3 (TX3 0).2.1 (TX3 0).2.2.1) := ⟨List.mem_of_getElem? (i := 136) (by decide +kernel), by decide +kernel⟩
theorem mw_137 : fz_M (.fieldLink RX3 16 RX3 (TX3 1).2.1 (TX3 1).2.2.1) := ⟨List.mem_of_getElem? (i := 137) (by decide +kernel), by decide +kernel⟩
theorem mw_96 : fz_M (.fieldLinkNest RX3 44 RX2 (TX2 8).2.1 (TX2 8).2.2.1 "FarScreen") := ⟨List.mem_of_getElem? (i := 96) (by decide +kernel), by decide +kernel⟩
theorem mw_106 : fz_M (.fieldLinkNest RX3 52 RX2 (TX2 13).2.1 (TX2 13).2.2.1 "FarScreen") := ⟨List.mem_of_getElem? (i := 106) (by decide +kernel), by decide +kernel⟩
theorem mw_104 : fz_M (.fieldLinkNest RX3 67 RX2 (TX2 12).2.1 (TX2 12).2.2.1 "FarScreen") := ⟨List.mem_of_getElem? (i := 104) (by decide +kernel), by decide +kernel⟩
theorem mw_85 : fz_M (.fieldLinkNest RX3 70 RX2 (TX2 0).2.1 (TX2 0).2.2.1 "FarScreen") := ⟨List.mem_of_getElem? (i := 85) (by decide +kernel), by decide +kernel⟩
theorem mw_87 : fz_M (.fieldLinkNest RX3 74 RX2 (TX2 1).2.1 (TX2 1).2.2.1 "FarScreen") := ⟨List.mem_of_getElem? (i := 87) (by decide +kernel), by decide +kernel⟩
theorem mw_89 : fz_M (.fieldLinkNest RX3 80 RX2 (TX2 2).2.1 (TX2 2).2.2.1 "FarScreen") := ⟨List.mem_of_getElem? (i := 89) (by decide +kernel), by decide +kernel⟩
theorem mw_98 : fz_M (.fieldLinkNest RX3 90 RX2 (TX2 9).2.1 (TX2 9).2.2.1 "FarScreen") := ⟨List.mem_of_getElem? (i := 98) (by decide +kernel), by decide +kernel⟩
theorem mw_53 : fz_M (.fieldLinkNest RX3 94 RX1 (TX1 1).2.1 (TX1 1).2.2.1 "FarScreen") := ⟨List.mem_of_getElem? (i := 53) (by decide +kernel), by decide +kernel⟩
theorem mw_51 : fz_M (.fieldLinkNest RX3 104 RX1 (TX1 0).2.1 (TX1 0).2.2.1 "FarScreen") := ⟨List.mem_of_getElem? (i := 51) (by decide +kernel), by decide +kernel⟩
theorem mw_100 : fz_M (.fieldLinkNest RX3 109 RX2 (TX2 10).2.1 (TX2 10).2.2.1 "FarScreen") := ⟨List.mem_of_getElem? (i := 100) (by decide +kernel), by decide +kernel⟩
theorem mw_102 : fz_M (.fieldLinkNest RX3 112 RX2 (TX2 11).2.1 (TX2 11).2.2.1 "FarScreen") := ⟨List.mem_of_getElem? (i := 102) (by decide +kernel), by decide +kernel⟩
theorem mw_16 : fz_M (.initialized "FarScreen$Sender") := ⟨List.mem_of_getElem? (i := 16) (by decide +kernel), by decide +kernel⟩
theorem mw_38 : fz_M (.methodLink RX3 9 yX2_init) := ⟨List.mem_of_getElem? (i := 38) (by decide +kernel), by decide +kernel⟩
theorem mw_40 : fz_M (.code yX2_init cX2_init 2 none) := ⟨List.mem_of_getElem? (i := 40) (by decide +kernel), by decide +kernel⟩
theorem mw_39 : fz_M (.instanceMethod yX2_init) := ⟨List.mem_of_getElem? (i := 39) (by decide +kernel), by decide +kernel⟩
theorem mw_15 : fz_M (.initialized "FarScreen") := ⟨List.mem_of_getElem? (i := 15) (by decide +kernel), by decide +kernel⟩
theorem mw_147 : fz_M (.methodLink RX3 19 yX3_checkBlock) := ⟨List.mem_of_getElem? (i := 147) (by decide +kernel), by decide +kernel⟩
theorem mw_149 : fz_M (.code yX3_checkBlock cX3_checkBlock 4 none) := ⟨List.mem_of_getElem? (i := 149) (by decide +kernel), by decide +kernel⟩
theorem mw_148 : fz_M (.static yX3_checkBlock) := ⟨List.mem_of_getElem? (i := 148) (by decide +kernel), by decide +kernel⟩
theorem mw_150 : fz_M (.methodLink RX3 48 yX3_checkTile) := ⟨List.mem_of_getElem? (i := 150) (by decide +kernel), by decide +kernel⟩
theorem mw_152 : fz_M (.code yX3_checkTile cX3_checkTile 2 none) := ⟨List.mem_of_getElem? (i := 152) (by decide +kernel), by decide +kernel⟩
theorem mw_151 : fz_M (.static yX3_checkTile) := ⟨List.mem_of_getElem? (i := 151) (by decide +kernel), by decide +kernel⟩
theorem mw_292 : fz_M (.methodLink RX3 55 yX3_tileAt) := ⟨List.mem_of_getElem? (i := 292) (by decide +kernel), by decide +kernel⟩
theorem mw_246 : fz_M (.code yX3_tileAt cX3_tileAt 2 (some .int)) := ⟨List.mem_of_getElem? (i := 246) (by decide +kernel), by decide +kernel⟩
theorem mw_245 : fz_M (.static yX3_tileAt) := ⟨List.mem_of_getElem? (i := 245) (by decide +kernel), by decide +kernel⟩
theorem mw_297 : fz_M (.methodLink RX3 59 yX3_checkBudget) := ⟨List.mem_of_getElem? (i := 297) (by decide +kernel), by decide +kernel⟩
theorem mw_299 : fz_M (.code yX3_checkBudget cX3_checkBudget 1 none) := ⟨List.mem_of_getElem? (i := 299) (by decide +kernel), by decide +kernel⟩
theorem mw_298 : fz_M (.static yX3_checkBudget) := ⟨List.mem_of_getElem? (i := 298) (by decide +kernel), by decide +kernel⟩
theorem mw_486 : fz_M (.methodLink RX3 115 yX3_wholeCost) := ⟨List.mem_of_getElem? (i := 486) (by decide +kernel), by decide +kernel⟩
theorem mw_377 : fz_M (.code yX3_wholeCost cX3_wholeCost 1 (some .int)) := ⟨List.mem_of_getElem? (i := 377) (by decide +kernel), by decide +kernel⟩
theorem mw_376 : fz_M (.static yX3_wholeCost) := ⟨List.mem_of_getElem? (i := 376) (by decide +kernel), by decide +kernel⟩
theorem mw_237 : fz_M (.methodLink RX3 30 yX2_paint) := ⟨List.mem_of_getElem? (i := 237) (by decide +kernel), by decide +kernel⟩
theorem mw_240 : fz_M (.code yX2_paint cX2_paint 8 none) := ⟨List.mem_of_getElem? (i := 240) (by decide +kernel), by decide +kernel⟩
theorem mw_238 : fz_M (.instanceMethod yX2_paint) := ⟨List.mem_of_getElem? (i := 238) (by decide +kernel), by decide +kernel⟩
theorem mw_239 : fz_M (.selects yX2_paint.cls yX2_paint yX2_paint) := ⟨List.mem_of_getElem? (i := 239) (by decide +kernel), by decide +kernel⟩
theorem mw_255 : fz_M (.methodLink RX3 34 yX2_countUnlike) := ⟨List.mem_of_getElem? (i := 255) (by decide +kernel), by decide +kernel⟩
theorem mw_258 : fz_M (.code yX2_countUnlike cX2_countUnlike 1 (some .int)) := ⟨List.mem_of_getElem? (i := 258) (by decide +kernel), by decide +kernel⟩
theorem mw_256 : fz_M (.instanceMethod yX2_countUnlike) := ⟨List.mem_of_getElem? (i := 256) (by decide +kernel), by decide +kernel⟩
theorem mw_257 : fz_M (.selects yX2_countUnlike.cls yX2_countUnlike yX2_countUnlike) := ⟨List.mem_of_getElem? (i := 257) (by decide +kernel), by decide +kernel⟩
theorem mw_274 : fz_M (.methodLink RX3 40 yX2_shift) := ⟨List.mem_of_getElem? (i := 274) (by decide +kernel), by decide +kernel⟩
theorem mw_277 : fz_M (.code yX2_shift cX2_shift 8 none) := ⟨List.mem_of_getElem? (i := 277) (by decide +kernel), by decide +kernel⟩
theorem mw_275 : fz_M (.instanceMethod yX2_shift) := ⟨List.mem_of_getElem? (i := 275) (by decide +kernel), by decide +kernel⟩
theorem mw_276 : fz_M (.selects yX2_shift.cls yX2_shift yX2_shift) := ⟨List.mem_of_getElem? (i := 276) (by decide +kernel), by decide +kernel⟩
theorem mw_301 : fz_M (.methodLink RX3 63 yX2_passStep) := ⟨List.mem_of_getElem? (i := 301) (by decide +kernel), by decide +kernel⟩
theorem mw_304 : fz_M (.code yX2_passStep cX2_passStep 3 (some .int)) := ⟨List.mem_of_getElem? (i := 304) (by decide +kernel), by decide +kernel⟩
theorem mw_302 : fz_M (.instanceMethod yX2_passStep) := ⟨List.mem_of_getElem? (i := 302) (by decide +kernel), by decide +kernel⟩
theorem mw_303 : fz_M (.selects yX2_passStep.cls yX2_passStep yX2_passStep) := ⟨List.mem_of_getElem? (i := 303) (by decide +kernel), by decide +kernel⟩
theorem mw_468 : fz_M (.methodLink RX3 77 yX2_kindOf) := ⟨List.mem_of_getElem? (i := 468) (by decide +kernel), by decide +kernel⟩
theorem mw_364 : fz_M (.code yX2_kindOf cX2_kindOf 2 (some .int)) := ⟨List.mem_of_getElem? (i := 364) (by decide +kernel), by decide +kernel⟩
theorem mw_362 : fz_M (.instanceMethod yX2_kindOf) := ⟨List.mem_of_getElem? (i := 362) (by decide +kernel), by decide +kernel⟩
theorem mw_363 : fz_M (.selects yX2_kindOf.cls yX2_kindOf yX2_kindOf) := ⟨List.mem_of_getElem? (i := 363) (by decide +kernel), by decide +kernel⟩
theorem mw_386 : fz_M (.methodLink RX3 83 yX2_unlikeSet) := ⟨List.mem_of_getElem? (i := 386) (by decide +kernel), by decide +kernel⟩
theorem mw_262 : fz_M (.code yX2_unlikeSet cX2_unlikeSet 4 (some .long)) := ⟨List.mem_of_getElem? (i := 262) (by decide +kernel), by decide +kernel⟩
theorem mw_260 : fz_M (.instanceMethod yX2_unlikeSet) := ⟨List.mem_of_getElem? (i := 260) (by decide +kernel), by decide +kernel⟩
theorem mw_261 : fz_M (.selects yX2_unlikeSet.cls yX2_unlikeSet yX2_unlikeSet) := ⟨List.mem_of_getElem? (i := 261) (by decide +kernel), by decide +kernel⟩
theorem mw_478 : fz_M (.methodLink RX3 87 yX2_countRough) := ⟨List.mem_of_getElem? (i := 478) (by decide +kernel), by decide +kernel⟩
theorem mw_481 : fz_M (.code yX2_countRough cX2_countRough 3 (some .int)) := ⟨List.mem_of_getElem? (i := 481) (by decide +kernel), by decide +kernel⟩
theorem mw_479 : fz_M (.instanceMethod yX2_countRough) := ⟨List.mem_of_getElem? (i := 479) (by decide +kernel), by decide +kernel⟩
theorem mw_480 : fz_M (.selects yX2_countRough.cls yX2_countRough yX2_countRough) := ⟨List.mem_of_getElem? (i := 480) (by decide +kernel), by decide +kernel⟩
theorem mw_395 : fz_M (.methodLink RX3 118 yX2_copyFrom) := ⟨List.mem_of_getElem? (i := 395) (by decide +kernel), by decide +kernel⟩
theorem mw_398 : fz_M (.code yX2_copyFrom cX2_copyFrom 3 none) := ⟨List.mem_of_getElem? (i := 398) (by decide +kernel), by decide +kernel⟩
theorem mw_396 : fz_M (.instanceMethod yX2_copyFrom) := ⟨List.mem_of_getElem? (i := 396) (by decide +kernel), by decide +kernel⟩
theorem mw_397 : fz_M (.selects yX2_copyFrom.cls yX2_copyFrom yX2_copyFrom) := ⟨List.mem_of_getElem? (i := 397) (by decide +kernel), by decide +kernel⟩
theorem mw_404 : fz_M (.methodLink RX3 122 yX2_isAllSent) := ⟨List.mem_of_getElem? (i := 404) (by decide +kernel), by decide +kernel⟩
theorem mw_407 : fz_M (.code yX2_isAllSent cX2_isAllSent 1 (some .boolean)) := ⟨List.mem_of_getElem? (i := 407) (by decide +kernel), by decide +kernel⟩
theorem mw_405 : fz_M (.instanceMethod yX2_isAllSent) := ⟨List.mem_of_getElem? (i := 405) (by decide +kernel), by decide +kernel⟩
theorem mw_406 : fz_M (.selects yX2_isAllSent.cls yX2_isAllSent yX2_isAllSent) := ⟨List.mem_of_getElem? (i := 406) (by decide +kernel), by decide +kernel⟩
theorem mw_408 : fz_M (.methodLink RX3 126 yX2_hasFilm) := ⟨List.mem_of_getElem? (i := 408) (by decide +kernel), by decide +kernel⟩
theorem mw_411 : fz_M (.code yX2_hasFilm cX2_hasFilm 2 (some .boolean)) := ⟨List.mem_of_getElem? (i := 411) (by decide +kernel), by decide +kernel⟩
theorem mw_409 : fz_M (.instanceMethod yX2_hasFilm) := ⟨List.mem_of_getElem? (i := 409) (by decide +kernel), by decide +kernel⟩
theorem mw_410 : fz_M (.selects yX2_hasFilm.cls yX2_hasFilm yX2_hasFilm) := ⟨List.mem_of_getElem? (i := 410) (by decide +kernel), by decide +kernel⟩
theorem mw_65 : fz_M (.fieldLink RX0 9 RX0 (TX0 0).2.1 (TX0 0).2.2.1) := ⟨List.mem_of_getElem? (i := 65) (by decide +kernel), by decide +kernel⟩
theorem mw_66 : fz_M (.fieldLink RX0 15 RX0 (TX0 1).2.1 (TX0 1).2.2.1) := ⟨List.mem_of_getElem? (i := 66) (by decide +kernel), by decide +kernel⟩
theorem mw_67 : fz_M (.fieldLink RX0 18 RX0 (TX0 2).2.1 (TX0 2).2.2.1) := ⟨List.mem_of_getElem? (i := 67) (by decide +kernel), by decide +kernel⟩
theorem mw_68 : fz_M (.fieldLink RX0 21 RX0 (TX0 3).2.1 (TX0 3).2.2.1) := ⟨List.mem_of_getElem? (i := 68) (by decide +kernel), by decide +kernel⟩
theorem mw_69 : fz_M (.fieldLink RX0 24 RX0 (TX0 4).2.1 (TX0 4).2.2.1) := ⟨List.mem_of_getElem? (i := 69) (by decide +kernel), by decide +kernel⟩
theorem mw_70 : fz_M (.fieldLink RX0 27 RX0 (TX0 5).2.1 (TX0 5).2.2.1) := ⟨List.mem_of_getElem? (i := 70) (by decide +kernel), by decide +kernel⟩
theorem mw_287 : fz_M (.methodLinkNest RX0 40 yX3_tileAt "FarScreen") := ⟨List.mem_of_getElem? (i := 287) (by decide +kernel), by decide +kernel⟩
theorem mw_18 : fz_M (.initialized "FarScreen$BlockMove") := ⟨List.mem_of_getElem? (i := 18) (by decide +kernel), by decide +kernel⟩
theorem mw_317 : fz_M (.methodLink RX0 30 yX0_set) := ⟨List.mem_of_getElem? (i := 317) (by decide +kernel), by decide +kernel⟩
theorem mw_281 : fz_M (.code yX0_set cX0_set 7 none) := ⟨List.mem_of_getElem? (i := 281) (by decide +kernel), by decide +kernel⟩
theorem mw_279 : fz_M (.instanceMethod yX0_set) := ⟨List.mem_of_getElem? (i := 279) (by decide +kernel), by decide +kernel⟩
theorem mw_280 : fz_M (.selects yX0_set.cls yX0_set yX0_set) := ⟨List.mem_of_getElem? (i := 280) (by decide +kernel), by decide +kernel⟩
theorem mw_50 : fz_M (.fieldLink RX1 9 RX1 (TX1 0).2.1 (TX1 0).2.2.1) := ⟨List.mem_of_getElem? (i := 50) (by decide +kernel), by decide +kernel⟩
theorem mw_52 : fz_M (.fieldLink RX1 15 RX1 (TX1 1).2.1 (TX1 1).2.2.1) := ⟨List.mem_of_getElem? (i := 52) (by decide +kernel), by decide +kernel⟩
theorem mw_17 : fz_M (.initialized "FarScreen$KnownRow") := ⟨List.mem_of_getElem? (i := 17) (by decide +kernel), by decide +kernel⟩
theorem mw_349 : fz_M (.methodLink RX1 25 yX1_placeOf) := ⟨List.mem_of_getElem? (i := 349) (by decide +kernel), by decide +kernel⟩
theorem mw_352 : fz_M (.code yX1_placeOf cX1_placeOf 3 (some .int)) := ⟨List.mem_of_getElem? (i := 352) (by decide +kernel), by decide +kernel⟩
theorem mw_350 : fz_M (.instanceMethod yX1_placeOf) := ⟨List.mem_of_getElem? (i := 350) (by decide +kernel), by decide +kernel⟩
theorem mw_351 : fz_M (.selects yX1_placeOf.cls yX1_placeOf yX1_placeOf) := ⟨List.mem_of_getElem? (i := 351) (by decide +kernel), by decide +kernel⟩
theorem mw_84 : fz_M (.fieldLink RX2 9 RX2 (TX2 0).2.1 (TX2 0).2.2.1) := ⟨List.mem_of_getElem? (i := 84) (by decide +kernel), by decide +kernel⟩
theorem mw_86 : fz_M (.fieldLink RX2 15 RX2 (TX2 1).2.1 (TX2 1).2.2.1) := ⟨List.mem_of_getElem? (i := 86) (by decide +kernel), by decide +kernel⟩
theorem mw_88 : fz_M (.fieldLink RX2 18 RX2 (TX2 2).2.1 (TX2 2).2.2.1) := ⟨List.mem_of_getElem? (i := 88) (by decide +kernel), by decide +kernel⟩
theorem mw_90 : fz_M (.fieldLink RX2 21 RX2 (TX2 3).2.1 (TX2 3).2.2.1) := ⟨List.mem_of_getElem? (i := 90) (by decide +kernel), by decide +kernel⟩
theorem mw_91 : fz_M (.fieldLink RX2 24 RX2 (TX2 4).2.1 (TX2 4).2.2.1) := ⟨List.mem_of_getElem? (i := 91) (by decide +kernel), by decide +kernel⟩
theorem mw_92 : fz_M (.fieldLink RX2 27 RX2 (TX2 5).2.1 (TX2 5).2.2.1) := ⟨List.mem_of_getElem? (i := 92) (by decide +kernel), by decide +kernel⟩
theorem mw_93 : fz_M (.fieldLink RX2 30 RX2 (TX2 6).2.1 (TX2 6).2.2.1) := ⟨List.mem_of_getElem? (i := 93) (by decide +kernel), by decide +kernel⟩
theorem mw_94 : fz_M (.fieldLink RX2 35 RX2 (TX2 7).2.1 (TX2 7).2.2.1) := ⟨List.mem_of_getElem? (i := 94) (by decide +kernel), by decide +kernel⟩
theorem mw_95 : fz_M (.fieldLink RX2 39 RX2 (TX2 8).2.1 (TX2 8).2.2.1) := ⟨List.mem_of_getElem? (i := 95) (by decide +kernel), by decide +kernel⟩
theorem mw_97 : fz_M (.fieldLink RX2 46 RX2 (TX2 9).2.1 (TX2 9).2.2.1) := ⟨List.mem_of_getElem? (i := 97) (by decide +kernel), by decide +kernel⟩
theorem mw_99 : fz_M (.fieldLink RX2 50 RX2 (TX2 10).2.1 (TX2 10).2.2.1) := ⟨List.mem_of_getElem? (i := 99) (by decide +kernel), by decide +kernel⟩
theorem mw_101 : fz_M (.fieldLink RX2 53 RX2 (TX2 11).2.1 (TX2 11).2.2.1) := ⟨List.mem_of_getElem? (i := 101) (by decide +kernel), by decide +kernel⟩
theorem mw_103 : fz_M (.fieldLink RX2 56 RX2 (TX2 12).2.1 (TX2 12).2.2.1) := ⟨List.mem_of_getElem? (i := 103) (by decide +kernel), by decide +kernel⟩
theorem mw_105 : fz_M (.fieldLink RX2 59 RX2 (TX2 13).2.1 (TX2 13).2.2.1) := ⟨List.mem_of_getElem? (i := 105) (by decide +kernel), by decide +kernel⟩
theorem mw_46 : fz_M (.methodLinkNest RX2 45 yX1_init "FarScreen") := ⟨List.mem_of_getElem? (i := 46) (by decide +kernel), by decide +kernel⟩
theorem mw_48 : fz_M (.code yX1_init cX1_init 1 none) := ⟨List.mem_of_getElem? (i := 48) (by decide +kernel), by decide +kernel⟩
theorem mw_47 : fz_M (.instanceMethod yX1_init) := ⟨List.mem_of_getElem? (i := 47) (by decide +kernel), by decide +kernel⟩
theorem mw_61 : fz_M (.methodLinkNest RX2 62 yX0_init "FarScreen") := ⟨List.mem_of_getElem? (i := 61) (by decide +kernel), by decide +kernel⟩
theorem mw_63 : fz_M (.code yX0_init cX0_init 1 none) := ⟨List.mem_of_getElem? (i := 63) (by decide +kernel), by decide +kernel⟩
theorem mw_62 : fz_M (.instanceMethod yX0_init) := ⟨List.mem_of_getElem? (i := 62) (by decide +kernel), by decide +kernel⟩
theorem mw_244 : fz_M (.methodLinkNest RX2 76 yX3_tileAt "FarScreen") := ⟨List.mem_of_getElem? (i := 244) (by decide +kernel), by decide +kernel⟩
theorem mw_27 : fz_M (.initialized "java/lang/Integer") := ⟨List.mem_of_getElem? (i := 27) (by decide +kernel), by decide +kernel⟩
theorem mw_365 : fz_M (.methodLink RX2 94 yJ6_bitCount_0f7a4) := ⟨List.mem_of_getElem? (i := 365) (by decide +kernel), by decide +kernel⟩
theorem mw_367 : fz_M (.code yJ6_bitCount_0f7a4 cJ6_bitCount_0f7a4 1 (some .int)) := ⟨List.mem_of_getElem? (i := 367) (by decide +kernel), by decide +kernel⟩
theorem mw_366 : fz_M (.static yJ6_bitCount_0f7a4) := ⟨List.mem_of_getElem? (i := 366) (by decide +kernel), by decide +kernel⟩
theorem mw_25 : fz_M (.initialized "java/lang/Long") := ⟨List.mem_of_getElem? (i := 25) (by decide +kernel), by decide +kernel⟩
theorem mw_263 : fz_M (.methodLink RX2 107 yJ13_bitCount_95d88) := ⟨List.mem_of_getElem? (i := 263) (by decide +kernel), by decide +kernel⟩
theorem mw_265 : fz_M (.code yJ13_bitCount_95d88 cJ13_bitCount_95d88 2 (some .int)) := ⟨List.mem_of_getElem? (i := 265) (by decide +kernel), by decide +kernel⟩
theorem mw_264 : fz_M (.static yJ13_bitCount_95d88) := ⟨List.mem_of_getElem? (i := 264) (by decide +kernel), by decide +kernel⟩
theorem mw_26 : fz_M (.initialized "java/lang/Math") := ⟨List.mem_of_getElem? (i := 26) (by decide +kernel), by decide +kernel⟩
theorem mw_334 : fz_M (.methodLink RX2 143 yJ9_abs_0f7a4) := ⟨List.mem_of_getElem? (i := 334) (by decide +kernel), by decide +kernel⟩
theorem mw_336 : fz_M (.code yJ9_abs_0f7a4 cJ9_abs_0f7a4 1 (some .int)) := ⟨List.mem_of_getElem? (i := 336) (by decide +kernel), by decide +kernel⟩
theorem mw_335 : fz_M (.static yJ9_abs_0f7a4) := ⟨List.mem_of_getElem? (i := 335) (by decide +kernel), by decide +kernel⟩
theorem mw_375 : fz_M (.methodLinkNest RX2 158 yX3_wholeCost "FarScreen") := ⟨List.mem_of_getElem? (i := 375) (by decide +kernel), by decide +kernel⟩
theorem mw_313 : fz_M (.methodLink RX2 69 yX0_copyFrom) := ⟨List.mem_of_getElem? (i := 313) (by decide +kernel), by decide +kernel⟩
theorem mw_316 : fz_M (.code yX0_copyFrom cX0_copyFrom 2 none) := ⟨List.mem_of_getElem? (i := 316) (by decide +kernel), by decide +kernel⟩
theorem mw_314 : fz_M (.instanceMethod yX0_copyFrom) := ⟨List.mem_of_getElem? (i := 314) (by decide +kernel), by decide +kernel⟩
theorem mw_315 : fz_M (.selects yX0_copyFrom.cls yX0_copyFrom yX0_copyFrom) := ⟨List.mem_of_getElem? (i := 315) (by decide +kernel), by decide +kernel⟩
theorem mw_399 : fz_M (.methodLink RX2 73 yX1_copyFrom) := ⟨List.mem_of_getElem? (i := 399) (by decide +kernel), by decide +kernel⟩
theorem mw_402 : fz_M (.code yX1_copyFrom cX1_copyFrom 2 none) := ⟨List.mem_of_getElem? (i := 402) (by decide +kernel), by decide +kernel⟩
theorem mw_400 : fz_M (.instanceMethod yX1_copyFrom) := ⟨List.mem_of_getElem? (i := 400) (by decide +kernel), by decide +kernel⟩
theorem mw_401 : fz_M (.selects yX1_copyFrom.cls yX1_copyFrom yX1_copyFrom) := ⟨List.mem_of_getElem? (i := 401) (by decide +kernel), by decide +kernel⟩
theorem mw_247 : fz_M (.methodLink RX2 80 yX2_noteChanges) := ⟨List.mem_of_getElem? (i := 247) (by decide +kernel), by decide +kernel⟩
theorem mw_250 : fz_M (.code yX2_noteChanges cX2_noteChanges 2 none) := ⟨List.mem_of_getElem? (i := 250) (by decide +kernel), by decide +kernel⟩
theorem mw_249 : fz_M (.instanceMethod yX2_noteChanges) := ⟨List.mem_of_getElem? (i := 249) (by decide +kernel), by decide +kernel⟩
theorem mw_1 : fz_M (.selects yX2_noteChanges.cls yX2_noteChanges yX2_noteChanges) := ⟨List.mem_of_getElem? (i := 1) (by decide +kernel), by decide +kernel⟩
theorem mw_251 : fz_M (.methodLink RX2 83 yX2_noteUnlike) := ⟨List.mem_of_getElem? (i := 251) (by decide +kernel), by decide +kernel⟩
theorem mw_254 : fz_M (.code yX2_noteUnlike cX2_noteUnlike 2 none) := ⟨List.mem_of_getElem? (i := 254) (by decide +kernel), by decide +kernel⟩
theorem mw_253 : fz_M (.instanceMethod yX2_noteUnlike) := ⟨List.mem_of_getElem? (i := 253) (by decide +kernel), by decide +kernel⟩
theorem mw_2 : fz_M (.selects yX2_noteUnlike.cls yX2_noteUnlike yX2_noteUnlike) := ⟨List.mem_of_getElem? (i := 2) (by decide +kernel), by decide +kernel⟩
theorem mw_278 : fz_M (.methodLink RX2 86 yX0_set) := ⟨List.mem_of_getElem? (i := 278) (by decide +kernel), by decide +kernel⟩
theorem mw_282 : fz_M (.methodLink RX2 90 yX0_applyTo) := ⟨List.mem_of_getElem? (i := 282) (by decide +kernel), by decide +kernel⟩
theorem mw_285 : fz_M (.code yX0_applyTo cX0_applyTo 5 none) := ⟨List.mem_of_getElem? (i := 285) (by decide +kernel), by decide +kernel⟩
theorem mw_283 : fz_M (.instanceMethod yX0_applyTo) := ⟨List.mem_of_getElem? (i := 283) (by decide +kernel), by decide +kernel⟩
theorem mw_284 : fz_M (.selects yX0_applyTo.cls yX0_applyTo yX0_applyTo) := ⟨List.mem_of_getElem? (i := 284) (by decide +kernel), by decide +kernel⟩
theorem mw_361 : fz_M (.methodLink RX2 100 yX2_kindOf) := ⟨List.mem_of_getElem? (i := 361) (by decide +kernel), by decide +kernel⟩
theorem mw_259 : fz_M (.methodLink RX2 103 yX2_unlikeSet) := ⟨List.mem_of_getElem? (i := 259) (by decide +kernel), by decide +kernel⟩
theorem mw_305 : fz_M (.methodLink RX2 112 yX2_tellMoves) := ⟨List.mem_of_getElem? (i := 305) (by decide +kernel), by decide +kernel⟩
theorem mw_308 : fz_M (.code yX2_tellMoves cX2_tellMoves 3 (some .int)) := ⟨List.mem_of_getElem? (i := 308) (by decide +kernel), by decide +kernel⟩
theorem mw_307 : fz_M (.instanceMethod yX2_tellMoves) := ⟨List.mem_of_getElem? (i := 307) (by decide +kernel), by decide +kernel⟩
theorem mw_3 : fz_M (.selects yX2_tellMoves.cls yX2_tellMoves yX2_tellMoves) := ⟨List.mem_of_getElem? (i := 3) (by decide +kernel), by decide +kernel⟩
theorem mw_318 : fz_M (.methodLink RX2 115 yX2_sendTiles) := ⟨List.mem_of_getElem? (i := 318) (by decide +kernel), by decide +kernel⟩
theorem mw_321 : fz_M (.code yX2_sendTiles cX2_sendTiles 5 (some .int)) := ⟨List.mem_of_getElem? (i := 321) (by decide +kernel), by decide +kernel⟩
theorem mw_320 : fz_M (.instanceMethod yX2_sendTiles) := ⟨List.mem_of_getElem? (i := 320) (by decide +kernel), by decide +kernel⟩
theorem mw_5 : fz_M (.selects yX2_sendTiles.cls yX2_sendTiles yX2_sendTiles) := ⟨List.mem_of_getElem? (i := 5) (by decide +kernel), by decide +kernel⟩
theorem mw_378 : fz_M (.methodLink RX2 118 yX2_settleChanges) := ⟨List.mem_of_getElem? (i := 378) (by decide +kernel), by decide +kernel⟩
theorem mw_381 : fz_M (.code yX2_settleChanges cX2_settleChanges 2 none) := ⟨List.mem_of_getElem? (i := 381) (by decide +kernel), by decide +kernel⟩
theorem mw_380 : fz_M (.instanceMethod yX2_settleChanges) := ⟨List.mem_of_getElem? (i := 380) (by decide +kernel), by decide +kernel⟩
theorem mw_13 : fz_M (.selects yX2_settleChanges.cls yX2_settleChanges yX2_settleChanges) := ⟨List.mem_of_getElem? (i := 13) (by decide +kernel), by decide +kernel⟩
theorem mw_309 : fz_M (.methodLink RX2 121 yX2_forgetMoves) := ⟨List.mem_of_getElem? (i := 309) (by decide +kernel), by decide +kernel⟩
theorem mw_312 : fz_M (.code yX2_forgetMoves cX2_forgetMoves 3 none) := ⟨List.mem_of_getElem? (i := 312) (by decide +kernel), by decide +kernel⟩
theorem mw_311 : fz_M (.instanceMethod yX2_forgetMoves) := ⟨List.mem_of_getElem? (i := 311) (by decide +kernel), by decide +kernel⟩
theorem mw_4 : fz_M (.selects yX2_forgetMoves.cls yX2_forgetMoves yX2_forgetMoves) := ⟨List.mem_of_getElem? (i := 4) (by decide +kernel), by decide +kernel⟩
theorem mw_322 : fz_M (.methodLink RX2 125 yX2_putInOrder) := ⟨List.mem_of_getElem? (i := 322) (by decide +kernel), by decide +kernel⟩
theorem mw_325 : fz_M (.code yX2_putInOrder cX2_putInOrder 3 (some .int)) := ⟨List.mem_of_getElem? (i := 325) (by decide +kernel), by decide +kernel⟩
theorem mw_324 : fz_M (.instanceMethod yX2_putInOrder) := ⟨List.mem_of_getElem? (i := 324) (by decide +kernel), by decide +kernel⟩
theorem mw_6 : fz_M (.selects yX2_putInOrder.cls yX2_putInOrder yX2_putInOrder) := ⟨List.mem_of_getElem? (i := 6) (by decide +kernel), by decide +kernel⟩
theorem mw_341 : fz_M (.methodLink RX2 129 yX2_sendTile) := ⟨List.mem_of_getElem? (i := 341) (by decide +kernel), by decide +kernel⟩
theorem mw_344 : fz_M (.code yX2_sendTile cX2_sendTile 4 (some .int)) := ⟨List.mem_of_getElem? (i := 344) (by decide +kernel), by decide +kernel⟩
theorem mw_343 : fz_M (.instanceMethod yX2_sendTile) := ⟨List.mem_of_getElem? (i := 343) (by decide +kernel), by decide +kernel⟩
theorem mw_10 : fz_M (.selects yX2_sendTile.cls yX2_sendTile yX2_sendTile) := ⟨List.mem_of_getElem? (i := 10) (by decide +kernel), by decide +kernel⟩
theorem mw_326 : fz_M (.methodLink RX2 132 yX2_worthOf) := ⟨List.mem_of_getElem? (i := 326) (by decide +kernel), by decide +kernel⟩
theorem mw_329 : fz_M (.code yX2_worthOf cX2_worthOf 3 (some .int)) := ⟨List.mem_of_getElem? (i := 329) (by decide +kernel), by decide +kernel⟩
theorem mw_328 : fz_M (.instanceMethod yX2_worthOf) := ⟨List.mem_of_getElem? (i := 328) (by decide +kernel), by decide +kernel⟩
theorem mw_7 : fz_M (.selects yX2_worthOf.cls yX2_worthOf yX2_worthOf) := ⟨List.mem_of_getElem? (i := 7) (by decide +kernel), by decide +kernel⟩
theorem mw_337 : fz_M (.methodLink RX2 135 yX2_insertInOrder) := ⟨List.mem_of_getElem? (i := 337) (by decide +kernel), by decide +kernel⟩
theorem mw_340 : fz_M (.code yX2_insertInOrder cX2_insertInOrder 4 none) := ⟨List.mem_of_getElem? (i := 340) (by decide +kernel), by decide +kernel⟩
theorem mw_339 : fz_M (.instanceMethod yX2_insertInOrder) := ⟨List.mem_of_getElem? (i := 339) (by decide +kernel), by decide +kernel⟩
theorem mw_9 : fz_M (.selects yX2_insertInOrder.cls yX2_insertInOrder yX2_insertInOrder) := ⟨List.mem_of_getElem? (i := 9) (by decide +kernel), by decide +kernel⟩
theorem mw_330 : fz_M (.methodLink RX2 139 yX2_isLookedAt) := ⟨List.mem_of_getElem? (i := 330) (by decide +kernel), by decide +kernel⟩
theorem mw_333 : fz_M (.code yX2_isLookedAt cX2_isLookedAt 4 (some .boolean)) := ⟨List.mem_of_getElem? (i := 333) (by decide +kernel), by decide +kernel⟩
theorem mw_332 : fz_M (.instanceMethod yX2_isLookedAt) := ⟨List.mem_of_getElem? (i := 332) (by decide +kernel), by decide +kernel⟩
theorem mw_8 : fz_M (.selects yX2_isLookedAt.cls yX2_isLookedAt yX2_isLookedAt) := ⟨List.mem_of_getElem? (i := 8) (by decide +kernel), by decide +kernel⟩
theorem mw_345 : fz_M (.methodLink RX2 148 yX1_holds) := ⟨List.mem_of_getElem? (i := 345) (by decide +kernel), by decide +kernel⟩
theorem mw_348 : fz_M (.code yX1_holds cX1_holds 2 (some .boolean)) := ⟨List.mem_of_getElem? (i := 348) (by decide +kernel), by decide +kernel⟩
theorem mw_346 : fz_M (.instanceMethod yX1_holds) := ⟨List.mem_of_getElem? (i := 346) (by decide +kernel), by decide +kernel⟩
theorem mw_347 : fz_M (.selects yX1_holds.cls yX1_holds yX1_holds) := ⟨List.mem_of_getElem? (i := 347) (by decide +kernel), by decide +kernel⟩
theorem mw_353 : fz_M (.methodLink RX2 151 yX2_sendPicture) := ⟨List.mem_of_getElem? (i := 353) (by decide +kernel), by decide +kernel⟩
theorem mw_356 : fz_M (.code yX2_sendPicture cX2_sendPicture 5 (some .int)) := ⟨List.mem_of_getElem? (i := 356) (by decide +kernel), by decide +kernel⟩
theorem mw_355 : fz_M (.instanceMethod yX2_sendPicture) := ⟨List.mem_of_getElem? (i := 355) (by decide +kernel), by decide +kernel⟩
theorem mw_11 : fz_M (.selects yX2_sendPicture.cls yX2_sendPicture yX2_sendPicture) := ⟨List.mem_of_getElem? (i := 11) (by decide +kernel), by decide +kernel⟩
theorem mw_371 : fz_M (.methodLink RX2 155 yX2_sendRoughly) := ⟨List.mem_of_getElem? (i := 371) (by decide +kernel), by decide +kernel⟩
theorem mw_374 : fz_M (.code yX2_sendRoughly cX2_sendRoughly 4 (some .int)) := ⟨List.mem_of_getElem? (i := 374) (by decide +kernel), by decide +kernel⟩
theorem mw_373 : fz_M (.instanceMethod yX2_sendRoughly) := ⟨List.mem_of_getElem? (i := 373) (by decide +kernel), by decide +kernel⟩
theorem mw_12 : fz_M (.selects yX2_sendRoughly.cls yX2_sendRoughly yX2_sendRoughly) := ⟨List.mem_of_getElem? (i := 12) (by decide +kernel), by decide +kernel⟩
theorem mw_357 : fz_M (.methodLink RX2 161 yX1_meet) := ⟨List.mem_of_getElem? (i := 357) (by decide +kernel), by decide +kernel⟩
theorem mw_360 : fz_M (.code yX1_meet cX1_meet 4 none) := ⟨List.mem_of_getElem? (i := 360) (by decide +kernel), by decide +kernel⟩
theorem mw_358 : fz_M (.instanceMethod yX1_meet) := ⟨List.mem_of_getElem? (i := 358) (by decide +kernel), by decide +kernel⟩
theorem mw_359 : fz_M (.selects yX1_meet.cls yX1_meet yX1_meet) := ⟨List.mem_of_getElem? (i := 359) (by decide +kernel), by decide +kernel⟩
theorem mw_30 : fz_M (.methodLink RL 84 yX3_init) := ⟨List.mem_of_getElem? (i := 30) (by decide +kernel), by decide +kernel⟩
theorem mw_32 : fz_M (.code yX3_init cX3_init 1 none) := ⟨List.mem_of_getElem? (i := 32) (by decide +kernel), by decide +kernel⟩
theorem mw_31 : fz_M (.instanceMethod yX3_init) := ⟨List.mem_of_getElem? (i := 31) (by decide +kernel), by decide +kernel⟩
theorem mw_14 : fz_M (.initialized "FarScreenLaw") := ⟨List.mem_of_getElem? (i := 14) (by decide +kernel), by decide +kernel⟩
theorem mw_424 : fz_M (.methodLink RL 10 yL_like) := ⟨List.mem_of_getElem? (i := 424) (by decide +kernel), by decide +kernel⟩
theorem mw_426 : fz_M (.code yL_like cL_like 5 none) := ⟨List.mem_of_getElem? (i := 426) (by decide +kernel), by decide +kernel⟩
theorem mw_425 : fz_M (.static yL_like) := ⟨List.mem_of_getElem? (i := 425) (by decide +kernel), by decide +kernel⟩
theorem mw_427 : fz_M (.methodLink RL 16 yL_shift) := ⟨List.mem_of_getElem? (i := 427) (by decide +kernel), by decide +kernel⟩
theorem mw_429 : fz_M (.code yL_shift cL_shift 8 none) := ⟨List.mem_of_getElem? (i := 429) (by decide +kernel), by decide +kernel⟩
theorem mw_428 : fz_M (.static yL_shift) := ⟨List.mem_of_getElem? (i := 428) (by decide +kernel), by decide +kernel⟩
theorem mw_433 : fz_M (.methodLink RL 20 yL_meet) := ⟨List.mem_of_getElem? (i := 433) (by decide +kernel), by decide +kernel⟩
theorem mw_435 : fz_M (.code yL_meet cL_meet 5 (some .int)) := ⟨List.mem_of_getElem? (i := 435) (by decide +kernel), by decide +kernel⟩
theorem mw_434 : fz_M (.static yL_meet) := ⟨List.mem_of_getElem? (i := 434) (by decide +kernel), by decide +kernel⟩
theorem mw_436 : fz_M (.methodLink RL 24 yL_kind) := ⟨List.mem_of_getElem? (i := 436) (by decide +kernel), by decide +kernel⟩
theorem mw_438 : fz_M (.code yL_kind cL_kind 5 (some .int)) := ⟨List.mem_of_getElem? (i := 438) (by decide +kernel), by decide +kernel⟩
theorem mw_437 : fz_M (.static yL_kind) := ⟨List.mem_of_getElem? (i := 437) (by decide +kernel), by decide +kernel⟩
theorem mw_439 : fz_M (.methodLink RL 71 yL_refused) := ⟨List.mem_of_getElem? (i := 439) (by decide +kernel), by decide +kernel⟩
theorem mw_412 : fz_M (.methodLink RL 85 yL_cell) := ⟨List.mem_of_getElem? (i := 412) (by decide +kernel), by decide +kernel⟩
theorem mw_414 : fz_M (.code yL_cell cL_cell 2 (some .int)) := ⟨List.mem_of_getElem? (i := 414) (by decide +kernel), by decide +kernel⟩
theorem mw_413 : fz_M (.static yL_cell) := ⟨List.mem_of_getElem? (i := 413) (by decide +kernel), by decide +kernel⟩
theorem mw_417 : fz_M (.methodLink RL 89 yL_low) := ⟨List.mem_of_getElem? (i := 417) (by decide +kernel), by decide +kernel⟩
theorem mw_419 : fz_M (.code yL_low cL_low 2 (some .int)) := ⟨List.mem_of_getElem? (i := 419) (by decide +kernel), by decide +kernel⟩
theorem mw_418 : fz_M (.static yL_low) := ⟨List.mem_of_getElem? (i := 418) (by decide +kernel), by decide +kernel⟩
theorem mw_421 : fz_M (.methodLink RL 92 yL_draw) := ⟨List.mem_of_getElem? (i := 421) (by decide +kernel), by decide +kernel⟩
theorem mw_423 : fz_M (.code yL_draw cL_draw 7 none) := ⟨List.mem_of_getElem? (i := 423) (by decide +kernel), by decide +kernel⟩
theorem mw_422 : fz_M (.static yL_draw) := ⟨List.mem_of_getElem? (i := 422) (by decide +kernel), by decide +kernel⟩
theorem mw_430 : fz_M (.methodLink RL 103 yL_step) := ⟨List.mem_of_getElem? (i := 430) (by decide +kernel), by decide +kernel⟩
theorem mw_432 : fz_M (.code yL_step cL_step 16 (some .int)) := ⟨List.mem_of_getElem? (i := 432) (by decide +kernel), by decide +kernel⟩
theorem mw_431 : fz_M (.static yL_step) := ⟨List.mem_of_getElem? (i := 431) (by decide +kernel), by decide +kernel⟩
theorem mw_453 : fz_M (.methodLink RL 109 yL_same) := ⟨List.mem_of_getElem? (i := 453) (by decide +kernel), by decide +kernel⟩
theorem mw_455 : fz_M (.code yL_same cL_same 13 (some .boolean)) := ⟨List.mem_of_getElem? (i := 455) (by decide +kernel), by decide +kernel⟩
theorem mw_454 : fz_M (.static yL_same) := ⟨List.mem_of_getElem? (i := 454) (by decide +kernel), by decide +kernel⟩
theorem mw_444 : fz_M (.methodLink RL 28 yX3_known) := ⟨List.mem_of_getElem? (i := 444) (by decide +kernel), by decide +kernel⟩
theorem mw_447 : fz_M (.code yX3_known cX3_known 2 (some .int)) := ⟨List.mem_of_getElem? (i := 447) (by decide +kernel), by decide +kernel⟩
theorem mw_445 : fz_M (.instanceMethod yX3_known) := ⟨List.mem_of_getElem? (i := 445) (by decide +kernel), by decide +kernel⟩
theorem mw_446 : fz_M (.selects yX3_known.cls yX3_known yX3_known) := ⟨List.mem_of_getElem? (i := 446) (by decide +kernel), by decide +kernel⟩
theorem mw_449 : fz_M (.methodLink RL 34 yX3_near) := ⟨List.mem_of_getElem? (i := 449) (by decide +kernel), by decide +kernel⟩
theorem mw_452 : fz_M (.code yX3_near cX3_near 3 (some .int)) := ⟨List.mem_of_getElem? (i := 452) (by decide +kernel), by decide +kernel⟩
theorem mw_450 : fz_M (.instanceMethod yX3_near) := ⟨List.mem_of_getElem? (i := 450) (by decide +kernel), by decide +kernel⟩
theorem mw_451 : fz_M (.selects yX3_near.cls yX3_near yX3_near) := ⟨List.mem_of_getElem? (i := 451) (by decide +kernel), by decide +kernel⟩
theorem mw_269 : fz_M (.methodLink RL 38 yX3_move) := ⟨List.mem_of_getElem? (i := 269) (by decide +kernel), by decide +kernel⟩
theorem mw_272 : fz_M (.code yX3_move cX3_move 7 (some .int)) := ⟨List.mem_of_getElem? (i := 272) (by decide +kernel), by decide +kernel⟩
theorem mw_270 : fz_M (.instanceMethod yX3_move) := ⟨List.mem_of_getElem? (i := 270) (by decide +kernel), by decide +kernel⟩
theorem mw_271 : fz_M (.selects yX3_move.cls yX3_move yX3_move) := ⟨List.mem_of_getElem? (i := 271) (by decide +kernel), by decide +kernel⟩
theorem mw_456 : fz_M (.methodLink RL 46 yX3_far) := ⟨List.mem_of_getElem? (i := 456) (by decide +kernel), by decide +kernel⟩
theorem mw_459 : fz_M (.code yX3_far cX3_far 3 (some .int)) := ⟨List.mem_of_getElem? (i := 459) (by decide +kernel), by decide +kernel⟩
theorem mw_457 : fz_M (.instanceMethod yX3_far) := ⟨List.mem_of_getElem? (i := 457) (by decide +kernel), by decide +kernel⟩
theorem mw_458 : fz_M (.selects yX3_far.cls yX3_far yX3_far) := ⟨List.mem_of_getElem? (i := 458) (by decide +kernel), by decide +kernel⟩
theorem mw_460 : fz_M (.methodLink RL 49 yX3_since) := ⟨List.mem_of_getElem? (i := 460) (by decide +kernel), by decide +kernel⟩
theorem mw_463 : fz_M (.code yX3_since cX3_since 3 (some .int)) := ⟨List.mem_of_getElem? (i := 463) (by decide +kernel), by decide +kernel⟩
theorem mw_461 : fz_M (.instanceMethod yX3_since) := ⟨List.mem_of_getElem? (i := 461) (by decide +kernel), by decide +kernel⟩
theorem mw_462 : fz_M (.selects yX3_since.cls yX3_since yX3_since) := ⟨List.mem_of_getElem? (i := 462) (by decide +kernel), by decide +kernel⟩
theorem mw_464 : fz_M (.methodLink RL 52 yX3_kind) := ⟨List.mem_of_getElem? (i := 464) (by decide +kernel), by decide +kernel⟩
theorem mw_467 : fz_M (.code yX3_kind cX3_kind 3 (some .int)) := ⟨List.mem_of_getElem? (i := 467) (by decide +kernel), by decide +kernel⟩
theorem mw_465 : fz_M (.instanceMethod yX3_kind) := ⟨List.mem_of_getElem? (i := 465) (by decide +kernel), by decide +kernel⟩
theorem mw_466 : fz_M (.selects yX3_kind.cls yX3_kind yX3_kind) := ⟨List.mem_of_getElem? (i := 466) (by decide +kernel), by decide +kernel⟩
theorem mw_469 : fz_M (.methodLink RL 54 yX3_sent) := ⟨List.mem_of_getElem? (i := 469) (by decide +kernel), by decide +kernel⟩
theorem mw_472 : fz_M (.code yX3_sent cX3_sent 2 (some .int)) := ⟨List.mem_of_getElem? (i := 472) (by decide +kernel), by decide +kernel⟩
theorem mw_470 : fz_M (.instanceMethod yX3_sent) := ⟨List.mem_of_getElem? (i := 470) (by decide +kernel), by decide +kernel⟩
theorem mw_471 : fz_M (.selects yX3_sent.cls yX3_sent yX3_sent) := ⟨List.mem_of_getElem? (i := 471) (by decide +kernel), by decide +kernel⟩
theorem mw_382 : fz_M (.methodLink RL 57 yX3_unlike) := ⟨List.mem_of_getElem? (i := 382) (by decide +kernel), by decide +kernel⟩
theorem mw_385 : fz_M (.code yX3_unlike cX3_unlike 1 (some .long)) := ⟨List.mem_of_getElem? (i := 385) (by decide +kernel), by decide +kernel⟩
theorem mw_383 : fz_M (.instanceMethod yX3_unlike) := ⟨List.mem_of_getElem? (i := 383) (by decide +kernel), by decide +kernel⟩
theorem mw_384 : fz_M (.selects yX3_unlike.cls yX3_unlike yX3_unlike) := ⟨List.mem_of_getElem? (i := 384) (by decide +kernel), by decide +kernel⟩
theorem mw_474 : fz_M (.methodLink RL 61 yX3_rough) := ⟨List.mem_of_getElem? (i := 474) (by decide +kernel), by decide +kernel⟩
theorem mw_477 : fz_M (.code yX3_rough cX3_rough 1 (some .int)) := ⟨List.mem_of_getElem? (i := 477) (by decide +kernel), by decide +kernel⟩
theorem mw_475 : fz_M (.instanceMethod yX3_rough) := ⟨List.mem_of_getElem? (i := 475) (by decide +kernel), by decide +kernel⟩
theorem mw_476 : fz_M (.selects yX3_rough.cls yX3_rough yX3_rough) := ⟨List.mem_of_getElem? (i := 476) (by decide +kernel), by decide +kernel⟩
theorem mw_482 : fz_M (.methodLink RL 65 yX3_anew) := ⟨List.mem_of_getElem? (i := 482) (by decide +kernel), by decide +kernel⟩
theorem mw_485 : fz_M (.code yX3_anew cX3_anew 3 (some .int)) := ⟨List.mem_of_getElem? (i := 485) (by decide +kernel), by decide +kernel⟩
theorem mw_483 : fz_M (.instanceMethod yX3_anew) := ⟨List.mem_of_getElem? (i := 483) (by decide +kernel), by decide +kernel⟩
theorem mw_484 : fz_M (.selects yX3_anew.cls yX3_anew yX3_anew) := ⟨List.mem_of_getElem? (i := 484) (by decide +kernel), by decide +kernel⟩
theorem mw_487 : fz_M (.methodLink RL 68 yX3_knownPictures) := ⟨List.mem_of_getElem? (i := 487) (by decide +kernel), by decide +kernel⟩
theorem mw_490 : fz_M (.code yX3_knownPictures cX3_knownPictures 1 (some .int)) := ⟨List.mem_of_getElem? (i := 490) (by decide +kernel), by decide +kernel⟩
theorem mw_488 : fz_M (.instanceMethod yX3_knownPictures) := ⟨List.mem_of_getElem? (i := 488) (by decide +kernel), by decide +kernel⟩
theorem mw_489 : fz_M (.selects yX3_knownPictures.cls yX3_knownPictures yX3_knownPictures) := ⟨List.mem_of_getElem? (i := 489) (by decide +kernel), by decide +kernel⟩
theorem mw_387 : fz_M (.methodLink RL 75 yX3_waiting) := ⟨List.mem_of_getElem? (i := 387) (by decide +kernel), by decide +kernel⟩
theorem mw_390 : fz_M (.code yX3_waiting cX3_waiting 1 (some .int)) := ⟨List.mem_of_getElem? (i := 390) (by decide +kernel), by decide +kernel⟩
theorem mw_388 : fz_M (.instanceMethod yX3_waiting) := ⟨List.mem_of_getElem? (i := 388) (by decide +kernel), by decide +kernel⟩
theorem mw_389 : fz_M (.selects yX3_waiting.cls yX3_waiting yX3_waiting) := ⟨List.mem_of_getElem? (i := 389) (by decide +kernel), by decide +kernel⟩
theorem mw_491 : fz_M (.methodLink RL 78 yX3_time) := ⟨List.mem_of_getElem? (i := 491) (by decide +kernel), by decide +kernel⟩
theorem mw_494 : fz_M (.code yX3_time cX3_time 1 (some .int)) := ⟨List.mem_of_getElem? (i := 494) (by decide +kernel), by decide +kernel⟩
theorem mw_492 : fz_M (.instanceMethod yX3_time) := ⟨List.mem_of_getElem? (i := 492) (by decide +kernel), by decide +kernel⟩
theorem mw_493 : fz_M (.selects yX3_time.cls yX3_time yX3_time) := ⟨List.mem_of_getElem? (i := 493) (by decide +kernel), by decide +kernel⟩
theorem mw_495 : fz_M (.methodLink RL 81 yX3_used) := ⟨List.mem_of_getElem? (i := 495) (by decide +kernel), by decide +kernel⟩
theorem mw_498 : fz_M (.code yX3_used cX3_used 1 (some .int)) := ⟨List.mem_of_getElem? (i := 498) (by decide +kernel), by decide +kernel⟩
theorem mw_496 : fz_M (.instanceMethod yX3_used) := ⟨List.mem_of_getElem? (i := 496) (by decide +kernel), by decide +kernel⟩
theorem mw_497 : fz_M (.selects yX3_used.cls yX3_used yX3_used) := ⟨List.mem_of_getElem? (i := 497) (by decide +kernel), by decide +kernel⟩
theorem mw_143 : fz_M (.methodLink RL 96 yX3_fill) := ⟨List.mem_of_getElem? (i := 143) (by decide +kernel), by decide +kernel⟩
theorem mw_146 : fz_M (.code yX3_fill cX3_fill 6 (some .int)) := ⟨List.mem_of_getElem? (i := 146) (by decide +kernel), by decide +kernel⟩
theorem mw_144 : fz_M (.instanceMethod yX3_fill) := ⟨List.mem_of_getElem? (i := 144) (by decide +kernel), by decide +kernel⟩
theorem mw_145 : fz_M (.selects yX3_fill.cls yX3_fill yX3_fill) := ⟨List.mem_of_getElem? (i := 145) (by decide +kernel), by decide +kernel⟩
theorem mw_288 : fz_M (.methodLink RL 100 yX3_look) := ⟨List.mem_of_getElem? (i := 288) (by decide +kernel), by decide +kernel⟩
theorem mw_291 : fz_M (.code yX3_look cX3_look 4 (some .int)) := ⟨List.mem_of_getElem? (i := 291) (by decide +kernel), by decide +kernel⟩
theorem mw_289 : fz_M (.instanceMethod yX3_look) := ⟨List.mem_of_getElem? (i := 289) (by decide +kernel), by decide +kernel⟩
theorem mw_290 : fz_M (.selects yX3_look.cls yX3_look yX3_look) := ⟨List.mem_of_getElem? (i := 290) (by decide +kernel), by decide +kernel⟩
theorem mw_293 : fz_M (.methodLink RL 107 yX3_step) := ⟨List.mem_of_getElem? (i := 293) (by decide +kernel), by decide +kernel⟩
theorem mw_296 : fz_M (.code yX3_step cX3_step 2 (some .int)) := ⟨List.mem_of_getElem? (i := 296) (by decide +kernel), by decide +kernel⟩
theorem mw_294 : fz_M (.instanceMethod yX3_step) := ⟨List.mem_of_getElem? (i := 294) (by decide +kernel), by decide +kernel⟩
theorem mw_295 : fz_M (.selects yX3_step.cls yX3_step yX3_step) := ⟨List.mem_of_getElem? (i := 295) (by decide +kernel), by decide +kernel⟩
theorem mw_391 : fz_M (.methodLink RL 113 yX3_stepsToGo) := ⟨List.mem_of_getElem? (i := 391) (by decide +kernel), by decide +kernel⟩
theorem mw_394 : fz_M (.code yX3_stepsToGo cX3_stepsToGo 5 (some .int)) := ⟨List.mem_of_getElem? (i := 394) (by decide +kernel), by decide +kernel⟩
theorem mw_392 : fz_M (.instanceMethod yX3_stepsToGo) := ⟨List.mem_of_getElem? (i := 392) (by decide +kernel), by decide +kernel⟩
theorem mw_393 : fz_M (.selects yX3_stepsToGo.cls yX3_stepsToGo yX3_stepsToGo) := ⟨List.mem_of_getElem? (i := 393) (by decide +kernel), by decide +kernel⟩
section FZL
variable {p : Program} {l : Launch} {e : Env} {R : Room} {s : State} {m : MethodId} {args : Array Value} {below : List Frame} {meth : Method} {c : Code} {H : Heap} {locs : List Loc} {cells slots : Nat} {Q : State → Prop}
variable {cc : ByteArray} {n : Nat} {ret : Option FieldType} {g : GG} {A : Nat → Prop} {ws : va_W} {pc : Nat} {ls : Array Slot} {rest : List Value} {a : Nat}
theorem fz_pn {own : String} (X : fz_X p s m meth c own cc n ret g A) (hW : fz_W g A s ws H locs) {C host : String} {T : u_T} {N ci index : Nat} (hin : ∀ w ∈ u_ws C T N, fz_M w) (hc : classes[ci]? = some (C, T, N)) (ty0 : Nat → FieldType) (hty : ∀ k, k < N → parseFieldDescriptor (T k).2.2.1 = some (ty0 k)) (hnm : ∀ a, a < N → ∀ b, b < N → a ≠ b → (T a).2.1 ≠ (T b).2.1) (k : Nat) (hk : k < N) (hlink : fz_M (.fieldLinkNest own index C (T k).2.1 (T k).2.2.1 host)) (hT : (T k).1 = C) (hfin : (T k).2.2.2 = false) {v : Value} (hnr : narrow (ty0 k) v = v) (hfit : fits (ty0 k) v = true) (q0 : Nat) {fs : List Value} (he : ws[q0]? = some (a, .inr (ci, fs))) (hl : k < fs.length) (hdg : decode cc pc = .ok (.putfield index, 3))
    (kk : ∀ (H1 : Heap) (locs1 : List Loc), fz_W g A s (ws.set q0 (a, .inr (ci, fs.set k v))) H1 locs1 → W p l e R s m args below meth c H1 locs1 cells slots Q (F0 m (pc + 3) ls rest)) : W p l e R s m args below meth c H locs cells slots Q (F0 m pc ls (v :: .ref a :: rest)) :=
  va_putN (D := g.1) (Ts := u_ws C T N) X.1 X.2.1 (fun w hw => X.2.2.2.2.2.2.1.use (hin w hw) args) (fun _ h => h) ty0 hty hnm X.2.2.2.2.1 X.2.2.2.2.2.2.1.1 hW.1 hW.2.1 hW.2.2 q0 he hc k hk (X.2.2.2.2.2.2.1.use hlink args) (fun _ h9 => by rw [hT] at h9; exact h9) hfin (hty k hk) hnr hfit hl hdg (fun H1 locs1 h1 h2 h3 => kk H1 locs1 ⟨h1, h2, h3⟩)
theorem gf_X3_10 (X : fz_X p s m meth c RX3 cc n ret g A) (hW : fz_W g A s ws H locs) (q0 : Nat) {fs : List Value} (he : ws[q0]? = some (a, .inr (3, fs))) {v : Value} (hv : fs[0]? = some v) (hdg : decode cc pc = .ok (.getfield 10, 3)) (kk : W p l e R s m args below meth c H locs cells slots Q (F0 m (pc + 3) ls (v :: rest))) : W p l e R s m args below meth c H locs cells slots Q (F0 m pc ls (.ref a :: rest)) := fz_gf X hW inX3 rfl 0 (by decide) mw_136 rfl q0 he hv hdg kk
theorem gf_X3_16 (X : fz_X p s m meth c RX3 cc n ret g A) (hW : fz_W g A s ws H locs) (q0 : Nat) {fs : List Value} (he : ws[q0]? = some (a, .inr (3, fs))) {v : Value} (hv : fs[1]? = some v) (hdg : decode cc pc = .ok (.getfield 16, 3)) (kk : W p l e R s m args below meth c H locs cells slots Q (F0 m (pc + 3) ls (v :: rest))) : W p l e R s m args below meth c H locs cells slots Q (F0 m pc ls (.ref a :: rest)) := fz_gf X hW inX3 rfl 1 (by decide) mw_137 rfl q0 he hv hdg kk
theorem gf_X3_44 (X : fz_X p s m meth c RX3 cc n ret g A) (hW : fz_W g A s ws H locs) (q0 : Nat) {fs : List Value} (he : ws[q0]? = some (a, .inr (2, fs))) {v : Value} (hv : fs[8]? = some v) (hdg : decode cc pc = .ok (.getfield 44, 3)) (kk : W p l e R s m args below meth c H locs cells slots Q (F0 m (pc + 3) ls (v :: rest))) : W p l e R s m args below meth c H locs cells slots Q (F0 m pc ls (.ref a :: rest)) := fz_gn X hW inX2 rfl 8 (by decide) mw_96 rfl q0 he hv hdg kk
theorem gf_X3_52 (X : fz_X p s m meth c RX3 cc n ret g A) (hW : fz_W g A s ws H locs) (q0 : Nat) {fs : List Value} (he : ws[q0]? = some (a, .inr (2, fs))) {v : Value} (hv : fs[13]? = some v) (hdg : decode cc pc = .ok (.getfield 52, 3)) (kk : W p l e R s m args below meth c H locs cells slots Q (F0 m (pc + 3) ls (v :: rest))) : W p l e R s m args below meth c H locs cells slots Q (F0 m pc ls (.ref a :: rest)) := fz_gn X hW inX2 rfl 13 (by decide) mw_106 rfl q0 he hv hdg kk
theorem gf_X3_67 (X : fz_X p s m meth c RX3 cc n ret g A) (hW : fz_W g A s ws H locs) (q0 : Nat) {fs : List Value} (he : ws[q0]? = some (a, .inr (2, fs))) {v : Value} (hv : fs[12]? = some v) (hdg : decode cc pc = .ok (.getfield 67, 3)) (kk : W p l e R s m args below meth c H locs cells slots Q (F0 m (pc + 3) ls (v :: rest))) : W p l e R s m args below meth c H locs cells slots Q (F0 m pc ls (.ref a :: rest)) := fz_gn X hW inX2 rfl 12 (by decide) mw_104 rfl q0 he hv hdg kk
theorem gf_X3_70 (X : fz_X p s m meth c RX3 cc n ret g A) (hW : fz_W g A s ws H locs) (q0 : Nat) {fs : List Value} (he : ws[q0]? = some (a, .inr (2, fs))) {v : Value} (hv : fs[0]? = some v) (hdg : decode cc pc = .ok (.getfield 70, 3)) (kk : W p l e R s m args below meth c H locs cells slots Q (F0 m (pc + 3) ls (v :: rest))) : W p l e R s m args below meth c H locs cells slots Q (F0 m pc ls (.ref a :: rest)) := fz_gn X hW inX2 rfl 0 (by decide) mw_85 rfl q0 he hv hdg kk
theorem gf_X3_74 (X : fz_X p s m meth c RX3 cc n ret g A) (hW : fz_W g A s ws H locs) (q0 : Nat) {fs : List Value} (he : ws[q0]? = some (a, .inr (2, fs))) {v : Value} (hv : fs[1]? = some v) (hdg : decode cc pc = .ok (.getfield 74, 3)) (kk : W p l e R s m args below meth c H locs cells slots Q (F0 m (pc + 3) ls (v :: rest))) : W p l e R s m args below meth c H locs cells slots Q (F0 m pc ls (.ref a :: rest)) := fz_gn X hW inX2 rfl 1 (by decide) mw_87 rfl q0 he hv hdg kk
theorem gf_X3_80 (X : fz_X p s m meth c RX3 cc n ret g A) (hW : fz_W g A s ws H locs) (q0 : Nat) {fs : List Value} (he : ws[q0]? = some (a, .inr (2, fs))) {v : Value} (hv : fs[2]? = some v) (hdg : decode cc pc = .ok (.getfield 80, 3)) (kk : W p l e R s m args below meth c H locs cells slots Q (F0 m (pc + 3) ls (v :: rest))) : W p l e R s m args below meth c H locs cells slots Q (F0 m pc ls (.ref a :: rest)) := fz_gn X hW inX2 rfl 2 (by decide) mw_89 rfl q0 he hv hdg kk
theorem gf_X3_90 (X : fz_X p s m meth c RX3 cc n ret g A) (hW : fz_W g A s ws H locs) (q0 : Nat) {fs : List Value} (he : ws[q0]? = some (a, .inr (2, fs))) {v : Value} (hv : fs[9]? = some v) (hdg : decode cc pc = .ok (.getfield 90, 3)) (kk : W p l e R s m args below meth c H locs cells slots Q (F0 m (pc + 3) ls (v :: rest))) : W p l e R s m args below meth c H locs cells slots Q (F0 m pc ls (.ref a :: rest)) := fz_gn X hW inX2 rfl 9 (by decide) mw_98 rfl q0 he hv hdg kk
theorem gf_X3_94 (X : fz_X p s m meth c RX3 cc n ret g A) (hW : fz_W g A s ws H locs) (q0 : Nat) {fs : List Value} (he : ws[q0]? = some (a, .inr (1, fs))) {v : Value} (hv : fs[1]? = some v) (hdg : decode cc pc = .ok (.getfield 94, 3)) (kk : W p l e R s m args below meth c H locs cells slots Q (F0 m (pc + 3) ls (v :: rest))) : W p l e R s m args below meth c H locs cells slots Q (F0 m pc ls (.ref a :: rest)) := fz_gn X hW inX1 rfl 1 (by decide) mw_53 rfl q0 he hv hdg kk
theorem gf_X3_104 (X : fz_X p s m meth c RX3 cc n ret g A) (hW : fz_W g A s ws H locs) (q0 : Nat) {fs : List Value} (he : ws[q0]? = some (a, .inr (1, fs))) {v : Value} (hv : fs[0]? = some v) (hdg : decode cc pc = .ok (.getfield 104, 3)) (kk : W p l e R s m args below meth c H locs cells slots Q (F0 m (pc + 3) ls (v :: rest))) : W p l e R s m args below meth c H locs cells slots Q (F0 m pc ls (.ref a :: rest)) := fz_gn X hW inX1 rfl 0 (by decide) mw_51 rfl q0 he hv hdg kk
theorem gf_X3_109 (X : fz_X p s m meth c RX3 cc n ret g A) (hW : fz_W g A s ws H locs) (q0 : Nat) {fs : List Value} (he : ws[q0]? = some (a, .inr (2, fs))) {v : Value} (hv : fs[10]? = some v) (hdg : decode cc pc = .ok (.getfield 109, 3)) (kk : W p l e R s m args below meth c H locs cells slots Q (F0 m (pc + 3) ls (v :: rest))) : W p l e R s m args below meth c H locs cells slots Q (F0 m pc ls (.ref a :: rest)) := fz_gn X hW inX2 rfl 10 (by decide) mw_100 rfl q0 he hv hdg kk
theorem gf_X3_112 (X : fz_X p s m meth c RX3 cc n ret g A) (hW : fz_W g A s ws H locs) (q0 : Nat) {fs : List Value} (he : ws[q0]? = some (a, .inr (2, fs))) {v : Value} (hv : fs[11]? = some v) (hdg : decode cc pc = .ok (.getfield 112, 3)) (kk : W p l e R s m args below meth c H locs cells slots Q (F0 m (pc + 3) ls (v :: rest))) : W p l e R s m args below meth c H locs cells slots Q (F0 m pc ls (.ref a :: rest)) := fz_gn X hW inX2 rfl 11 (by decide) mw_102 rfl q0 he hv hdg kk
theorem lk_X3_19 : fz_LS RX3 19 yX3_checkBlock cX3_checkBlock 4 none 4 := ⟨⟨mw_15, mw_149, by decide +kernel, by decide +kernel, by decide +kernel⟩, mw_147, mw_148⟩
theorem lk_X3_48 : fz_LS RX3 48 yX3_checkTile cX3_checkTile 2 none 2 := ⟨⟨mw_15, mw_152, by decide +kernel, by decide +kernel, by decide +kernel⟩, mw_150, mw_151⟩
theorem lk_X3_55 : fz_LS RX3 55 yX3_tileAt cX3_tileAt 2 (some .int) 2 := ⟨⟨mw_15, mw_246, by decide +kernel, by decide +kernel, by decide +kernel⟩, mw_292, mw_245⟩
theorem lk_X3_59 : fz_LS RX3 59 yX3_checkBudget cX3_checkBudget 1 none 1 := ⟨⟨mw_15, mw_299, by decide +kernel, by decide +kernel, by decide +kernel⟩, mw_297, mw_298⟩
theorem lk_X3_115 : fz_LS RX3 115 yX3_wholeCost cX3_wholeCost 1 (some .int) 1 := ⟨⟨mw_15, mw_377, by decide +kernel, by decide +kernel, by decide +kernel⟩, mw_486, mw_376⟩
theorem lk_X3_30 : fz_LV RX3 30 yX2_paint cX2_paint 8 none 5 := ⟨⟨mw_16, mw_240, by decide +kernel, by decide +kernel, by decide +kernel⟩, mw_237, mw_238, mw_239⟩
theorem lk_X3_34 : fz_LV RX3 34 yX2_countUnlike cX2_countUnlike 1 (some .int) 0 := ⟨⟨mw_16, mw_258, by decide +kernel, by decide +kernel, by decide +kernel⟩, mw_255, mw_256, mw_257⟩
theorem lk_X3_40 : fz_LV RX3 40 yX2_shift cX2_shift 8 none 6 := ⟨⟨mw_16, mw_277, by decide +kernel, by decide +kernel, by decide +kernel⟩, mw_274, mw_275, mw_276⟩
theorem lk_X3_63 : fz_LV RX3 63 yX2_passStep cX2_passStep 3 (some .int) 1 := ⟨⟨mw_16, mw_304, by decide +kernel, by decide +kernel, by decide +kernel⟩, mw_301, mw_302, mw_303⟩
theorem lk_X3_77 : fz_LV RX3 77 yX2_kindOf cX2_kindOf 2 (some .int) 1 := ⟨⟨mw_16, mw_364, by decide +kernel, by decide +kernel, by decide +kernel⟩, mw_468, mw_362, mw_363⟩
theorem lk_X3_83 : fz_LV RX3 83 yX2_unlikeSet cX2_unlikeSet 4 (some .long) 0 := ⟨⟨mw_16, mw_262, by decide +kernel, by decide +kernel, by decide +kernel⟩, mw_386, mw_260, mw_261⟩
theorem lk_X3_87 : fz_LV RX3 87 yX2_countRough cX2_countRough 3 (some .int) 0 := ⟨⟨mw_16, mw_481, by decide +kernel, by decide +kernel, by decide +kernel⟩, mw_478, mw_479, mw_480⟩
theorem lk_X3_118 : fz_LV RX3 118 yX2_copyFrom cX2_copyFrom 3 none 1 := ⟨⟨mw_16, mw_398, by decide +kernel, by decide +kernel, by decide +kernel⟩, mw_395, mw_396, mw_397⟩
theorem lk_X3_122 : fz_LV RX3 122 yX2_isAllSent cX2_isAllSent 1 (some .boolean) 0 := ⟨⟨mw_16, mw_407, by decide +kernel, by decide +kernel, by decide +kernel⟩, mw_404, mw_405, mw_406⟩
theorem lk_X3_126 : fz_LV RX3 126 yX2_hasFilm cX2_hasFilm 2 (some .boolean) 0 := ⟨⟨mw_16, mw_411, by decide +kernel, by decide +kernel, by decide +kernel⟩, mw_408, mw_409, mw_410⟩
theorem pf_X3_52 (X : fz_X p s m meth c RX3 cc n ret g A) (hW : fz_W g A s ws H locs) (q0 : Nat) {fs : List Value} (he : ws[q0]? = some (a, .inr (2, fs))) {x : Int32} (hl : 13 < fs.length) (hdg : decode cc pc = .ok (.putfield 52, 3)) (kk : ∀ (H1 : Heap) (locs1 : List Loc), fz_W g A s (ws.set q0 (a, .inr (2, fs.set 13 (.int x)))) H1 locs1 → W p l e R s m args below meth c H1 locs1 cells slots Q (F0 m (pc + 3) ls rest)) : W p l e R s m args below meth c H locs cells slots Q (F0 m pc ls (.int x :: .ref a :: rest)) := fz_pn X hW inX2 rfl tyX2 tyX2_ok nmX2 13 (by decide) mw_106 rfl rfl rfl rfl q0 he hl hdg kk
theorem gf_X0_9 (X : fz_X p s m meth c RX0 cc n ret g A) (hW : fz_W g A s ws H locs) (q0 : Nat) {fs : List Value} (he : ws[q0]? = some (a, .inr (0, fs))) {v : Value} (hv : fs[0]? = some v) (hdg : decode cc pc = .ok (.getfield 9, 3)) (kk : W p l e R s m args below meth c H locs cells slots Q (F0 m (pc + 3) ls (v :: rest))) : W p l e R s m args below meth c H locs cells slots Q (F0 m pc ls (.ref a :: rest)) := fz_gf X hW inX0 rfl 0 (by decide) mw_65 rfl q0 he hv hdg kk
theorem gf_X0_15 (X : fz_X p s m meth c RX0 cc n ret g A) (hW : fz_W g A s ws H locs) (q0 : Nat) {fs : List Value} (he : ws[q0]? = some (a, .inr (0, fs))) {v : Value} (hv : fs[1]? = some v) (hdg : decode cc pc = .ok (.getfield 15, 3)) (kk : W p l e R s m args below meth c H locs cells slots Q (F0 m (pc + 3) ls (v :: rest))) : W p l e R s m args below meth c H locs cells slots Q (F0 m pc ls (.ref a :: rest)) := fz_gf X hW inX0 rfl 1 (by decide) mw_66 rfl q0 he hv hdg kk
theorem gf_X0_18 (X : fz_X p s m meth c RX0 cc n ret g A) (hW : fz_W g A s ws H locs) (q0 : Nat) {fs : List Value} (he : ws[q0]? = some (a, .inr (0, fs))) {v : Value} (hv : fs[2]? = some v) (hdg : decode cc pc = .ok (.getfield 18, 3)) (kk : W p l e R s m args below meth c H locs cells slots Q (F0 m (pc + 3) ls (v :: rest))) : W p l e R s m args below meth c H locs cells slots Q (F0 m pc ls (.ref a :: rest)) := fz_gf X hW inX0 rfl 2 (by decide) mw_67 rfl q0 he hv hdg kk
theorem gf_X0_21 (X : fz_X p s m meth c RX0 cc n ret g A) (hW : fz_W g A s ws H locs) (q0 : Nat) {fs : List Value} (he : ws[q0]? = some (a, .inr (0, fs))) {v : Value} (hv : fs[3]? = some v) (hdg : decode cc pc = .ok (.getfield 21, 3)) (kk : W p l e R s m args below meth c H locs cells slots Q (F0 m (pc + 3) ls (v :: rest))) : W p l e R s m args below meth c H locs cells slots Q (F0 m pc ls (.ref a :: rest)) := fz_gf X hW inX0 rfl 3 (by decide) mw_68 rfl q0 he hv hdg kk
theorem gf_X0_24 (X : fz_X p s m meth c RX0 cc n ret g A) (hW : fz_W g A s ws H locs) (q0 : Nat) {fs : List Value} (he : ws[q0]? = some (a, .inr (0, fs))) {v : Value} (hv : fs[4]? = some v) (hdg : decode cc pc = .ok (.getfield 24, 3)) (kk : W p l e R s m args below meth c H locs cells slots Q (F0 m (pc + 3) ls (v :: rest))) : W p l e R s m args below meth c H locs cells slots Q (F0 m pc ls (.ref a :: rest)) := fz_gf X hW inX0 rfl 4 (by decide) mw_69 rfl q0 he hv hdg kk
theorem gf_X0_27 (X : fz_X p s m meth c RX0 cc n ret g A) (hW : fz_W g A s ws H locs) (q0 : Nat) {fs : List Value} (he : ws[q0]? = some (a, .inr (0, fs))) {v : Value} (hv : fs[5]? = some v) (hdg : decode cc pc = .ok (.getfield 27, 3)) (kk : W p l e R s m args below meth c H locs cells slots Q (F0 m (pc + 3) ls (v :: rest))) : W p l e R s m args below meth c H locs cells slots Q (F0 m pc ls (.ref a :: rest)) := fz_gf X hW inX0 rfl 5 (by decide) mw_70 rfl q0 he hv hdg kk
theorem lk_X0_40 : fz_LN RX0 40 yX3_tileAt cX3_tileAt 2 (some .int) 2 := ⟨⟨mw_15, mw_246, by decide +kernel, by decide +kernel, by decide +kernel⟩, ⟨_, mw_287⟩, mw_245⟩
theorem lk_X0_30 : fz_LV RX0 30 yX0_set cX0_set 7 none 6 := ⟨⟨mw_18, mw_281, by decide +kernel, by decide +kernel, by decide +kernel⟩, mw_317, mw_279, mw_280⟩
theorem pf_X0_9 (X : fz_X p s m meth c RX0 cc n ret g A) (hW : fz_W g A s ws H locs) (q0 : Nat) {fs : List Value} (he : ws[q0]? = some (a, .inr (0, fs))) {x : Int32} (hl : 0 < fs.length) (hdg : decode cc pc = .ok (.putfield 9, 3)) (kk : ∀ (H1 : Heap) (locs1 : List Loc), fz_W g A s (ws.set q0 (a, .inr (0, fs.set 0 (.int x)))) H1 locs1 → W p l e R s m args below meth c H1 locs1 cells slots Q (F0 m (pc + 3) ls rest)) : W p l e R s m args below meth c H locs cells slots Q (F0 m pc ls (.int x :: .ref a :: rest)) := fz_pf X hW inX0 rfl tyX0 tyX0_ok nmX0 0 (by decide) mw_65 rfl rfl rfl rfl q0 he hl hdg kk
theorem pf_X0_15 (X : fz_X p s m meth c RX0 cc n ret g A) (hW : fz_W g A s ws H locs) (q0 : Nat) {fs : List Value} (he : ws[q0]? = some (a, .inr (0, fs))) {x : Int32} (hl : 1 < fs.length) (hdg : decode cc pc = .ok (.putfield 15, 3)) (kk : ∀ (H1 : Heap) (locs1 : List Loc), fz_W g A s (ws.set q0 (a, .inr (0, fs.set 1 (.int x)))) H1 locs1 → W p l e R s m args below meth c H1 locs1 cells slots Q (F0 m (pc + 3) ls rest)) : W p l e R s m args below meth c H locs cells slots Q (F0 m pc ls (.int x :: .ref a :: rest)) := fz_pf X hW inX0 rfl tyX0 tyX0_ok nmX0 1 (by decide) mw_66 rfl rfl rfl rfl q0 he hl hdg kk
theorem pf_X0_18 (X : fz_X p s m meth c RX0 cc n ret g A) (hW : fz_W g A s ws H locs) (q0 : Nat) {fs : List Value} (he : ws[q0]? = some (a, .inr (0, fs))) {x : Int32} (hl : 2 < fs.length) (hdg : decode cc pc = .ok (.putfield 18, 3)) (kk : ∀ (H1 : Heap) (locs1 : List Loc), fz_W g A s (ws.set q0 (a, .inr (0, fs.set 2 (.int x)))) H1 locs1 → W p l e R s m args below meth c H1 locs1 cells slots Q (F0 m (pc + 3) ls rest)) : W p l e R s m args below meth c H locs cells slots Q (F0 m pc ls (.int x :: .ref a :: rest)) := fz_pf X hW inX0 rfl tyX0 tyX0_ok nmX0 2 (by decide) mw_67 rfl rfl rfl rfl q0 he hl hdg kk
theorem pf_X0_21 (X : fz_X p s m meth c RX0 cc n ret g A) (hW : fz_W g A s ws H locs) (q0 : Nat) {fs : List Value} (he : ws[q0]? = some (a, .inr (0, fs))) {x : Int32} (hl : 3 < fs.length) (hdg : decode cc pc = .ok (.putfield 21, 3)) (kk : ∀ (H1 : Heap) (locs1 : List Loc), fz_W g A s (ws.set q0 (a, .inr (0, fs.set 3 (.int x)))) H1 locs1 → W p l e R s m args below meth c H1 locs1 cells slots Q (F0 m (pc + 3) ls rest)) : W p l e R s m args below meth c H locs cells slots Q (F0 m pc ls (.int x :: .ref a :: rest)) := fz_pf X hW inX0 rfl tyX0 tyX0_ok nmX0 3 (by decide) mw_68 rfl rfl rfl rfl q0 he hl hdg kk
theorem pf_X0_24 (X : fz_X p s m meth c RX0 cc n ret g A) (hW : fz_W g A s ws H locs) (q0 : Nat) {fs : List Value} (he : ws[q0]? = some (a, .inr (0, fs))) {x : Int32} (hl : 4 < fs.length) (hdg : decode cc pc = .ok (.putfield 24, 3)) (kk : ∀ (H1 : Heap) (locs1 : List Loc), fz_W g A s (ws.set q0 (a, .inr (0, fs.set 4 (.int x)))) H1 locs1 → W p l e R s m args below meth c H1 locs1 cells slots Q (F0 m (pc + 3) ls rest)) : W p l e R s m args below meth c H locs cells slots Q (F0 m pc ls (.int x :: .ref a :: rest)) := fz_pf X hW inX0 rfl tyX0 tyX0_ok nmX0 4 (by decide) mw_69 rfl rfl rfl rfl q0 he hl hdg kk
theorem pf_X0_27 (X : fz_X p s m meth c RX0 cc n ret g A) (hW : fz_W g A s ws H locs) (q0 : Nat) {fs : List Value} (he : ws[q0]? = some (a, .inr (0, fs))) {x : Int32} (hl : 5 < fs.length) (hdg : decode cc pc = .ok (.putfield 27, 3)) (kk : ∀ (H1 : Heap) (locs1 : List Loc), fz_W g A s (ws.set q0 (a, .inr (0, fs.set 5 (.int x)))) H1 locs1 → W p l e R s m args below meth c H1 locs1 cells slots Q (F0 m (pc + 3) ls rest)) : W p l e R s m args below meth c H locs cells slots Q (F0 m pc ls (.int x :: .ref a :: rest)) := fz_pf X hW inX0 rfl tyX0 tyX0_ok nmX0 5 (by decide) mw_70 rfl rfl rfl rfl q0 he hl hdg kk
theorem gf_X1_9 (X : fz_X p s m meth c RX1 cc n ret g A) (hW : fz_W g A s ws H locs) (q0 : Nat) {fs : List Value} (he : ws[q0]? = some (a, .inr (1, fs))) {v : Value} (hv : fs[0]? = some v) (hdg : decode cc pc = .ok (.getfield 9, 3)) (kk : W p l e R s m args below meth c H locs cells slots Q (F0 m (pc + 3) ls (v :: rest))) : W p l e R s m args below meth c H locs cells slots Q (F0 m pc ls (.ref a :: rest)) := fz_gf X hW inX1 rfl 0 (by decide) mw_50 rfl q0 he hv hdg kk
theorem gf_X1_15 (X : fz_X p s m meth c RX1 cc n ret g A) (hW : fz_W g A s ws H locs) (q0 : Nat) {fs : List Value} (he : ws[q0]? = some (a, .inr (1, fs))) {v : Value} (hv : fs[1]? = some v) (hdg : decode cc pc = .ok (.getfield 15, 3)) (kk : W p l e R s m args below meth c H locs cells slots Q (F0 m (pc + 3) ls (v :: rest))) : W p l e R s m args below meth c H locs cells slots Q (F0 m pc ls (.ref a :: rest)) := fz_gf X hW inX1 rfl 1 (by decide) mw_52 rfl q0 he hv hdg kk
theorem lk_X1_25 : fz_LV RX1 25 yX1_placeOf cX1_placeOf 3 (some .int) 1 := ⟨⟨mw_17, mw_352, by decide +kernel, by decide +kernel, by decide +kernel⟩, mw_349, mw_350, mw_351⟩
theorem pf_X1_15 (X : fz_X p s m meth c RX1 cc n ret g A) (hW : fz_W g A s ws H locs) (q0 : Nat) {fs : List Value} (he : ws[q0]? = some (a, .inr (1, fs))) {x : Int32} (hl : 1 < fs.length) (hdg : decode cc pc = .ok (.putfield 15, 3)) (kk : ∀ (H1 : Heap) (locs1 : List Loc), fz_W g A s (ws.set q0 (a, .inr (1, fs.set 1 (.int x)))) H1 locs1 → W p l e R s m args below meth c H1 locs1 cells slots Q (F0 m (pc + 3) ls rest)) : W p l e R s m args below meth c H locs cells slots Q (F0 m pc ls (.int x :: .ref a :: rest)) := fz_pf X hW inX1 rfl tyX1 tyX1_ok nmX1 1 (by decide) mw_52 rfl rfl rfl rfl q0 he hl hdg kk
theorem gf_X2_9 (X : fz_X p s m meth c RX2 cc n ret g A) (hW : fz_W g A s ws H locs) (q0 : Nat) {fs : List Value} (he : ws[q0]? = some (a, .inr (2, fs))) {v : Value} (hv : fs[0]? = some v) (hdg : decode cc pc = .ok (.getfield 9, 3)) (kk : W p l e R s m args below meth c H locs cells slots Q (F0 m (pc + 3) ls (v :: rest))) : W p l e R s m args below meth c H locs cells slots Q (F0 m pc ls (.ref a :: rest)) := fz_gf X hW inX2 rfl 0 (by decide) mw_84 rfl q0 he hv hdg kk
theorem gf_X2_15 (X : fz_X p s m meth c RX2 cc n ret g A) (hW : fz_W g A s ws H locs) (q0 : Nat) {fs : List Value} (he : ws[q0]? = some (a, .inr (2, fs))) {v : Value} (hv : fs[1]? = some v) (hdg : decode cc pc = .ok (.getfield 15, 3)) (kk : W p l e R s m args below meth c H locs cells slots Q (F0 m (pc + 3) ls (v :: rest))) : W p l e R s m args below meth c H locs cells slots Q (F0 m pc ls (.ref a :: rest)) := fz_gf X hW inX2 rfl 1 (by decide) mw_86 rfl q0 he hv hdg kk
theorem gf_X2_18 (X : fz_X p s m meth c RX2 cc n ret g A) (hW : fz_W g A s ws H locs) (q0 : Nat) {fs : List Value} (he : ws[q0]? = some (a, .inr (2, fs))) {v : Value} (hv : fs[2]? = some v) (hdg : decode cc pc = .ok (.getfield 18, 3)) (kk : W p l e R s m args below meth c H locs cells slots Q (F0 m (pc + 3) ls (v :: rest))) : W p l e R s m args below meth c H locs cells slots Q (F0 m pc ls (.ref a :: rest)) := fz_gf X hW inX2 rfl 2 (by decide) mw_88 rfl q0 he hv hdg kk
theorem gf_X2_21 (X : fz_X p s m meth c RX2 cc n ret g A) (hW : fz_W g A s ws H locs) (q0 : Nat) {fs : List Value} (he : ws[q0]? = some (a, .inr (2, fs))) {v : Value} (hv : fs[3]? = some v) (hdg : decode cc pc = .ok (.getfield 21, 3)) (kk : W p l e R s m args below meth c H locs cells slots Q (F0 m (pc + 3) ls (v :: rest))) : W p l e R s m args below meth c H locs cells slots Q (F0 m pc ls (.ref a :: rest)) := fz_gf X hW inX2 rfl 3 (by decide) mw_90 rfl q0 he hv hdg kk
theorem gf_X2_24 (X : fz_X p s m meth c RX2 cc n ret g A) (hW : fz_W g A s ws H locs) (q0 : Nat) {fs : List Value} (he : ws[q0]? = some (a, .inr (2, fs))) {v : Value} (hv : fs[4]? = some v) (hdg : decode cc pc = .ok (.getfield 24, 3)) (kk : W p l e R s m args below meth c H locs cells slots Q (F0 m (pc + 3) ls (v :: rest))) : W p l e R s m args below meth c H locs cells slots Q (F0 m pc ls (.ref a :: rest)) := fz_gf X hW inX2 rfl 4 (by decide) mw_91 rfl q0 he hv hdg kk
theorem gf_X2_27 (X : fz_X p s m meth c RX2 cc n ret g A) (hW : fz_W g A s ws H locs) (q0 : Nat) {fs : List Value} (he : ws[q0]? = some (a, .inr (2, fs))) {v : Value} (hv : fs[5]? = some v) (hdg : decode cc pc = .ok (.getfield 27, 3)) (kk : W p l e R s m args below meth c H locs cells slots Q (F0 m (pc + 3) ls (v :: rest))) : W p l e R s m args below meth c H locs cells slots Q (F0 m pc ls (.ref a :: rest)) := fz_gf X hW inX2 rfl 5 (by decide) mw_92 rfl q0 he hv hdg kk
theorem gf_X2_30 (X : fz_X p s m meth c RX2 cc n ret g A) (hW : fz_W g A s ws H locs) (q0 : Nat) {fs : List Value} (he : ws[q0]? = some (a, .inr (2, fs))) {v : Value} (hv : fs[6]? = some v) (hdg : decode cc pc = .ok (.getfield 30, 3)) (kk : W p l e R s m args below meth c H locs cells slots Q (F0 m (pc + 3) ls (v :: rest))) : W p l e R s m args below meth c H locs cells slots Q (F0 m pc ls (.ref a :: rest)) := fz_gf X hW inX2 rfl 6 (by decide) mw_93 rfl q0 he hv hdg kk
theorem gf_X2_35 (X : fz_X p s m meth c RX2 cc n ret g A) (hW : fz_W g A s ws H locs) (q0 : Nat) {fs : List Value} (he : ws[q0]? = some (a, .inr (2, fs))) {v : Value} (hv : fs[7]? = some v) (hdg : decode cc pc = .ok (.getfield 35, 3)) (kk : W p l e R s m args below meth c H locs cells slots Q (F0 m (pc + 3) ls (v :: rest))) : W p l e R s m args below meth c H locs cells slots Q (F0 m pc ls (.ref a :: rest)) := fz_gf X hW inX2 rfl 7 (by decide) mw_94 rfl q0 he hv hdg kk
theorem gf_X2_39 (X : fz_X p s m meth c RX2 cc n ret g A) (hW : fz_W g A s ws H locs) (q0 : Nat) {fs : List Value} (he : ws[q0]? = some (a, .inr (2, fs))) {v : Value} (hv : fs[8]? = some v) (hdg : decode cc pc = .ok (.getfield 39, 3)) (kk : W p l e R s m args below meth c H locs cells slots Q (F0 m (pc + 3) ls (v :: rest))) : W p l e R s m args below meth c H locs cells slots Q (F0 m pc ls (.ref a :: rest)) := fz_gf X hW inX2 rfl 8 (by decide) mw_95 rfl q0 he hv hdg kk
theorem gf_X2_46 (X : fz_X p s m meth c RX2 cc n ret g A) (hW : fz_W g A s ws H locs) (q0 : Nat) {fs : List Value} (he : ws[q0]? = some (a, .inr (2, fs))) {v : Value} (hv : fs[9]? = some v) (hdg : decode cc pc = .ok (.getfield 46, 3)) (kk : W p l e R s m args below meth c H locs cells slots Q (F0 m (pc + 3) ls (v :: rest))) : W p l e R s m args below meth c H locs cells slots Q (F0 m pc ls (.ref a :: rest)) := fz_gf X hW inX2 rfl 9 (by decide) mw_97 rfl q0 he hv hdg kk
theorem gf_X2_50 (X : fz_X p s m meth c RX2 cc n ret g A) (hW : fz_W g A s ws H locs) (q0 : Nat) {fs : List Value} (he : ws[q0]? = some (a, .inr (2, fs))) {v : Value} (hv : fs[10]? = some v) (hdg : decode cc pc = .ok (.getfield 50, 3)) (kk : W p l e R s m args below meth c H locs cells slots Q (F0 m (pc + 3) ls (v :: rest))) : W p l e R s m args below meth c H locs cells slots Q (F0 m pc ls (.ref a :: rest)) := fz_gf X hW inX2 rfl 10 (by decide) mw_99 rfl q0 he hv hdg kk
theorem gf_X2_53 (X : fz_X p s m meth c RX2 cc n ret g A) (hW : fz_W g A s ws H locs) (q0 : Nat) {fs : List Value} (he : ws[q0]? = some (a, .inr (2, fs))) {v : Value} (hv : fs[11]? = some v) (hdg : decode cc pc = .ok (.getfield 53, 3)) (kk : W p l e R s m args below meth c H locs cells slots Q (F0 m (pc + 3) ls (v :: rest))) : W p l e R s m args below meth c H locs cells slots Q (F0 m pc ls (.ref a :: rest)) := fz_gf X hW inX2 rfl 11 (by decide) mw_101 rfl q0 he hv hdg kk
theorem gf_X2_56 (X : fz_X p s m meth c RX2 cc n ret g A) (hW : fz_W g A s ws H locs) (q0 : Nat) {fs : List Value} (he : ws[q0]? = some (a, .inr (2, fs))) {v : Value} (hv : fs[12]? = some v) (hdg : decode cc pc = .ok (.getfield 56, 3)) (kk : W p l e R s m args below meth c H locs cells slots Q (F0 m (pc + 3) ls (v :: rest))) : W p l e R s m args below meth c H locs cells slots Q (F0 m pc ls (.ref a :: rest)) := fz_gf X hW inX2 rfl 12 (by decide) mw_103 rfl q0 he hv hdg kk
theorem gf_X2_59 (X : fz_X p s m meth c RX2 cc n ret g A) (hW : fz_W g A s ws H locs) (q0 : Nat) {fs : List Value} (he : ws[q0]? = some (a, .inr (2, fs))) {v : Value} (hv : fs[13]? = some v) (hdg : decode cc pc = .ok (.getfield 59, 3)) (kk : W p l e R s m args below meth c H locs cells slots Q (F0 m (pc + 3) ls (v :: rest))) : W p l e R s m args below meth c H locs cells slots Q (F0 m pc ls (.ref a :: rest)) := fz_gf X hW inX2 rfl 13 (by decide) mw_105 rfl q0 he hv hdg kk
theorem lk_X2_76 : fz_LN RX2 76 yX3_tileAt cX3_tileAt 2 (some .int) 2 := ⟨⟨mw_15, mw_246, by decide +kernel, by decide +kernel, by decide +kernel⟩, ⟨_, mw_244⟩, mw_245⟩
theorem lk_X2_94 : fz_LS RX2 94 yJ6_bitCount_0f7a4 cJ6_bitCount_0f7a4 1 (some .int) 1 := ⟨⟨mw_27, mw_367, by decide +kernel, by decide +kernel, by decide +kernel⟩, mw_365, mw_366⟩
theorem lk_X2_107 : fz_LS RX2 107 yJ13_bitCount_95d88 cJ13_bitCount_95d88 2 (some .int) 1 := ⟨⟨mw_25, mw_265, by decide +kernel, by decide +kernel, by decide +kernel⟩, mw_263, mw_264⟩
theorem lk_X2_143 : fz_LS RX2 143 yJ9_abs_0f7a4 cJ9_abs_0f7a4 1 (some .int) 1 := ⟨⟨mw_26, mw_336, by decide +kernel, by decide +kernel, by decide +kernel⟩, mw_334, mw_335⟩
theorem lk_X2_158 : fz_LN RX2 158 yX3_wholeCost cX3_wholeCost 1 (some .int) 1 := ⟨⟨mw_15, mw_377, by decide +kernel, by decide +kernel, by decide +kernel⟩, ⟨_, mw_375⟩, mw_376⟩
theorem lk_X2_69 : fz_LV RX2 69 yX0_copyFrom cX0_copyFrom 2 none 1 := ⟨⟨mw_18, mw_316, by decide +kernel, by decide +kernel, by decide +kernel⟩, mw_313, mw_314, mw_315⟩
theorem lk_X2_73 : fz_LV RX2 73 yX1_copyFrom cX1_copyFrom 2 none 1 := ⟨⟨mw_17, mw_402, by decide +kernel, by decide +kernel, by decide +kernel⟩, mw_399, mw_400, mw_401⟩
theorem lk_X2_80 : fz_LV RX2 80 yX2_noteChanges cX2_noteChanges 2 none 0 := ⟨⟨mw_16, mw_250, by decide +kernel, by decide +kernel, by decide +kernel⟩, mw_247, mw_249, mw_1⟩
theorem lk_X2_83 : fz_LV RX2 83 yX2_noteUnlike cX2_noteUnlike 2 none 0 := ⟨⟨mw_16, mw_254, by decide +kernel, by decide +kernel, by decide +kernel⟩, mw_251, mw_253, mw_2⟩
theorem lk_X2_86 : fz_LV RX2 86 yX0_set cX0_set 7 none 6 := ⟨⟨mw_18, mw_281, by decide +kernel, by decide +kernel, by decide +kernel⟩, mw_278, mw_279, mw_280⟩
theorem lk_X2_90 : fz_LV RX2 90 yX0_applyTo cX0_applyTo 5 none 2 := ⟨⟨mw_18, mw_285, by decide +kernel, by decide +kernel, by decide +kernel⟩, mw_282, mw_283, mw_284⟩
theorem lk_X2_100 : fz_LV RX2 100 yX2_kindOf cX2_kindOf 2 (some .int) 1 := ⟨⟨mw_16, mw_364, by decide +kernel, by decide +kernel, by decide +kernel⟩, mw_361, mw_362, mw_363⟩
theorem lk_X2_103 : fz_LV RX2 103 yX2_unlikeSet cX2_unlikeSet 4 (some .long) 0 := ⟨⟨mw_16, mw_262, by decide +kernel, by decide +kernel, by decide +kernel⟩, mw_259, mw_260, mw_261⟩
theorem lk_X2_112 : fz_LV RX2 112 yX2_tellMoves cX2_tellMoves 3 (some .int) 1 := ⟨⟨mw_16, mw_308, by decide +kernel, by decide +kernel, by decide +kernel⟩, mw_305, mw_307, mw_3⟩
theorem lk_X2_115 : fz_LV RX2 115 yX2_sendTiles cX2_sendTiles 5 (some .int) 1 := ⟨⟨mw_16, mw_321, by decide +kernel, by decide +kernel, by decide +kernel⟩, mw_318, mw_320, mw_5⟩
theorem lk_X2_118 : fz_LV RX2 118 yX2_settleChanges cX2_settleChanges 2 none 0 := ⟨⟨mw_16, mw_381, by decide +kernel, by decide +kernel, by decide +kernel⟩, mw_378, mw_380, mw_13⟩
theorem lk_X2_121 : fz_LV RX2 121 yX2_forgetMoves cX2_forgetMoves 3 none 1 := ⟨⟨mw_16, mw_312, by decide +kernel, by decide +kernel, by decide +kernel⟩, mw_309, mw_311, mw_4⟩
theorem lk_X2_125 : fz_LV RX2 125 yX2_putInOrder cX2_putInOrder 3 (some .int) 0 := ⟨⟨mw_16, mw_325, by decide +kernel, by decide +kernel, by decide +kernel⟩, mw_322, mw_324, mw_6⟩
theorem lk_X2_129 : fz_LV RX2 129 yX2_sendTile cX2_sendTile 4 (some .int) 2 := ⟨⟨mw_16, mw_344, by decide +kernel, by decide +kernel, by decide +kernel⟩, mw_341, mw_343, mw_10⟩
theorem lk_X2_132 : fz_LV RX2 132 yX2_worthOf cX2_worthOf 3 (some .int) 1 := ⟨⟨mw_16, mw_329, by decide +kernel, by decide +kernel, by decide +kernel⟩, mw_326, mw_328, mw_7⟩
theorem lk_X2_135 : fz_LV RX2 135 yX2_insertInOrder cX2_insertInOrder 4 none 2 := ⟨⟨mw_16, mw_340, by decide +kernel, by decide +kernel, by decide +kernel⟩, mw_337, mw_339, mw_9⟩
theorem lk_X2_139 : fz_LV RX2 139 yX2_isLookedAt cX2_isLookedAt 4 (some .boolean) 1 := ⟨⟨mw_16, mw_333, by decide +kernel, by decide +kernel, by decide +kernel⟩, mw_330, mw_332, mw_8⟩
theorem lk_X2_148 : fz_LV RX2 148 yX1_holds cX1_holds 2 (some .boolean) 1 := ⟨⟨mw_17, mw_348, by decide +kernel, by decide +kernel, by decide +kernel⟩, mw_345, mw_346, mw_347⟩
theorem lk_X2_151 : fz_LV RX2 151 yX2_sendPicture cX2_sendPicture 5 (some .int) 4 := ⟨⟨mw_16, mw_356, by decide +kernel, by decide +kernel, by decide +kernel⟩, mw_353, mw_355, mw_11⟩
theorem lk_X2_155 : fz_LV RX2 155 yX2_sendRoughly cX2_sendRoughly 4 (some .int) 2 := ⟨⟨mw_16, mw_374, by decide +kernel, by decide +kernel, by decide +kernel⟩, mw_371, mw_373, mw_12⟩
theorem lk_X2_161 : fz_LV RX2 161 yX1_meet cX1_meet 4 none 1 := ⟨⟨mw_17, mw_360, by decide +kernel, by decide +kernel, by decide +kernel⟩, mw_357, mw_358, mw_359⟩
theorem pf_X2_39 (X : fz_X p s m meth c RX2 cc n ret g A) (hW : fz_W g A s ws H locs) (q0 : Nat) {fs : List Value} (he : ws[q0]? = some (a, .inr (2, fs))) {x : Int32} (hl : 8 < fs.length) (hdg : decode cc pc = .ok (.putfield 39, 3)) (kk : ∀ (H1 : Heap) (locs1 : List Loc), fz_W g A s (ws.set q0 (a, .inr (2, fs.set 8 (.int x)))) H1 locs1 → W p l e R s m args below meth c H1 locs1 cells slots Q (F0 m (pc + 3) ls rest)) : W p l e R s m args below meth c H locs cells slots Q (F0 m pc ls (.int x :: .ref a :: rest)) := fz_pf X hW inX2 rfl tyX2 tyX2_ok nmX2 8 (by decide) mw_95 rfl rfl rfl rfl q0 he hl hdg kk
theorem pf_X2_53 (X : fz_X p s m meth c RX2 cc n ret g A) (hW : fz_W g A s ws H locs) (q0 : Nat) {fs : List Value} (he : ws[q0]? = some (a, .inr (2, fs))) {x : Int32} (hl : 11 < fs.length) (hdg : decode cc pc = .ok (.putfield 53, 3)) (kk : ∀ (H1 : Heap) (locs1 : List Loc), fz_W g A s (ws.set q0 (a, .inr (2, fs.set 11 (.int x)))) H1 locs1 → W p l e R s m args below meth c H1 locs1 cells slots Q (F0 m (pc + 3) ls rest)) : W p l e R s m args below meth c H locs cells slots Q (F0 m pc ls (.int x :: .ref a :: rest)) := fz_pf X hW inX2 rfl tyX2 tyX2_ok nmX2 11 (by decide) mw_101 rfl rfl rfl rfl q0 he hl hdg kk
theorem pf_X2_56 (X : fz_X p s m meth c RX2 cc n ret g A) (hW : fz_W g A s ws H locs) (q0 : Nat) {fs : List Value} (he : ws[q0]? = some (a, .inr (2, fs))) {x : Int32} (hl : 12 < fs.length) (hdg : decode cc pc = .ok (.putfield 56, 3)) (kk : ∀ (H1 : Heap) (locs1 : List Loc), fz_W g A s (ws.set q0 (a, .inr (2, fs.set 12 (.int x)))) H1 locs1 → W p l e R s m args below meth c H1 locs1 cells slots Q (F0 m (pc + 3) ls rest)) : W p l e R s m args below meth c H locs cells slots Q (F0 m pc ls (.int x :: .ref a :: rest)) := fz_pf X hW inX2 rfl tyX2 tyX2_ok nmX2 12 (by decide) mw_103 rfl rfl rfl rfl q0 he hl hdg kk
theorem pf_X2_59 (X : fz_X p s m meth c RX2 cc n ret g A) (hW : fz_W g A s ws H locs) (q0 : Nat) {fs : List Value} (he : ws[q0]? = some (a, .inr (2, fs))) {x : Int32} (hl : 13 < fs.length) (hdg : decode cc pc = .ok (.putfield 59, 3)) (kk : ∀ (H1 : Heap) (locs1 : List Loc), fz_W g A s (ws.set q0 (a, .inr (2, fs.set 13 (.int x)))) H1 locs1 → W p l e R s m args below meth c H1 locs1 cells slots Q (F0 m (pc + 3) ls rest)) : W p l e R s m args below meth c H locs cells slots Q (F0 m pc ls (.int x :: .ref a :: rest)) := fz_pf X hW inX2 rfl tyX2 tyX2_ok nmX2 13 (by decide) mw_105 rfl rfl rfl rfl q0 he hl hdg kk
theorem lk_L_10 : fz_LS RL 10 yL_like cL_like 5 none 5 := ⟨⟨mw_14, mw_426, by decide +kernel, by decide +kernel, by decide +kernel⟩, mw_424, mw_425⟩
theorem lk_L_16 : fz_LS RL 16 yL_shift cL_shift 8 none 3 := ⟨⟨mw_14, mw_429, by decide +kernel, by decide +kernel, by decide +kernel⟩, mw_427, mw_428⟩
theorem lk_L_20 : fz_LS RL 20 yL_meet cL_meet 5 (some .int) 3 := ⟨⟨mw_14, mw_435, by decide +kernel, by decide +kernel, by decide +kernel⟩, mw_433, mw_434⟩
theorem lk_L_24 : fz_LS RL 24 yL_kind cL_kind 5 (some .int) 3 := ⟨⟨mw_14, mw_438, by decide +kernel, by decide +kernel, by decide +kernel⟩, mw_436, mw_437⟩
theorem lk_L_85 : fz_LS RL 85 yL_cell cL_cell 2 (some .int) 2 := ⟨⟨mw_14, mw_414, by decide +kernel, by decide +kernel, by decide +kernel⟩, mw_412, mw_413⟩
theorem lk_L_89 : fz_LS RL 89 yL_low cL_low 2 (some .int) 2 := ⟨⟨mw_14, mw_419, by decide +kernel, by decide +kernel, by decide +kernel⟩, mw_417, mw_418⟩
theorem lk_L_92 : fz_LS RL 92 yL_draw cL_draw 7 none 7 := ⟨⟨mw_14, mw_423, by decide +kernel, by decide +kernel, by decide +kernel⟩, mw_421, mw_422⟩
theorem lk_L_103 : fz_LS RL 103 yL_step cL_step 16 (some .int) 8 := ⟨⟨mw_14, mw_432, by decide +kernel, by decide +kernel, by decide +kernel⟩, mw_430, mw_431⟩
theorem lk_L_109 : fz_LS RL 109 yL_same cL_same 13 (some .boolean) 7 := ⟨⟨mw_14, mw_455, by decide +kernel, by decide +kernel, by decide +kernel⟩, mw_453, mw_454⟩
theorem lk_L_28 : fz_LV RL 28 yX3_known cX3_known 2 (some .int) 1 := ⟨⟨mw_15, mw_447, by decide +kernel, by decide +kernel, by decide +kernel⟩, mw_444, mw_445, mw_446⟩
theorem lk_L_34 : fz_LV RL 34 yX3_near cX3_near 3 (some .int) 2 := ⟨⟨mw_15, mw_452, by decide +kernel, by decide +kernel, by decide +kernel⟩, mw_449, mw_450, mw_451⟩
theorem lk_L_38 : fz_LV RL 38 yX3_move cX3_move 7 (some .int) 6 := ⟨⟨mw_15, mw_272, by decide +kernel, by decide +kernel, by decide +kernel⟩, mw_269, mw_270, mw_271⟩
theorem lk_L_46 : fz_LV RL 46 yX3_far cX3_far 3 (some .int) 2 := ⟨⟨mw_15, mw_459, by decide +kernel, by decide +kernel, by decide +kernel⟩, mw_456, mw_457, mw_458⟩
theorem lk_L_49 : fz_LV RL 49 yX3_since cX3_since 3 (some .int) 2 := ⟨⟨mw_15, mw_463, by decide +kernel, by decide +kernel, by decide +kernel⟩, mw_460, mw_461, mw_462⟩
theorem lk_L_52 : fz_LV RL 52 yX3_kind cX3_kind 3 (some .int) 2 := ⟨⟨mw_15, mw_467, by decide +kernel, by decide +kernel, by decide +kernel⟩, mw_464, mw_465, mw_466⟩
theorem lk_L_54 : fz_LV RL 54 yX3_sent cX3_sent 2 (some .int) 1 := ⟨⟨mw_15, mw_472, by decide +kernel, by decide +kernel, by decide +kernel⟩, mw_469, mw_470, mw_471⟩
theorem lk_L_57 : fz_LV RL 57 yX3_unlike cX3_unlike 1 (some .long) 0 := ⟨⟨mw_15, mw_385, by decide +kernel, by decide +kernel, by decide +kernel⟩, mw_382, mw_383, mw_384⟩
theorem lk_L_61 : fz_LV RL 61 yX3_rough cX3_rough 1 (some .int) 0 := ⟨⟨mw_15, mw_477, by decide +kernel, by decide +kernel, by decide +kernel⟩, mw_474, mw_475, mw_476⟩
theorem lk_L_65 : fz_LV RL 65 yX3_anew cX3_anew 3 (some .int) 0 := ⟨⟨mw_15, mw_485, by decide +kernel, by decide +kernel, by decide +kernel⟩, mw_482, mw_483, mw_484⟩
theorem lk_L_68 : fz_LV RL 68 yX3_knownPictures cX3_knownPictures 1 (some .int) 0 := ⟨⟨mw_15, mw_490, by decide +kernel, by decide +kernel, by decide +kernel⟩, mw_487, mw_488, mw_489⟩
theorem lk_L_75 : fz_LV RL 75 yX3_waiting cX3_waiting 1 (some .int) 0 := ⟨⟨mw_15, mw_390, by decide +kernel, by decide +kernel, by decide +kernel⟩, mw_387, mw_388, mw_389⟩
theorem lk_L_78 : fz_LV RL 78 yX3_time cX3_time 1 (some .int) 0 := ⟨⟨mw_15, mw_494, by decide +kernel, by decide +kernel, by decide +kernel⟩, mw_491, mw_492, mw_493⟩
theorem lk_L_81 : fz_LV RL 81 yX3_used cX3_used 1 (some .int) 0 := ⟨⟨mw_15, mw_498, by decide +kernel, by decide +kernel, by decide +kernel⟩, mw_495, mw_496, mw_497⟩
theorem lk_L_96 : fz_LV RL 96 yX3_fill cX3_fill 6 (some .int) 5 := ⟨⟨mw_15, mw_146, by decide +kernel, by decide +kernel, by decide +kernel⟩, mw_143, mw_144, mw_145⟩
theorem lk_L_100 : fz_LV RL 100 yX3_look cX3_look 4 (some .int) 2 := ⟨⟨mw_15, mw_291, by decide +kernel, by decide +kernel, by decide +kernel⟩, mw_288, mw_289, mw_290⟩
theorem lk_L_107 : fz_LV RL 107 yX3_step cX3_step 2 (some .int) 1 := ⟨⟨mw_15, mw_296, by decide +kernel, by decide +kernel, by decide +kernel⟩, mw_293, mw_294, mw_295⟩
theorem lk_L_113 : fz_LV RL 113 yX3_stepsToGo cX3_stepsToGo 5 (some .int) 1 := ⟨⟨mw_15, mw_394, by decide +kernel, by decide +kernel, by decide +kernel⟩, mw_391, mw_392, mw_393⟩
end FZL
