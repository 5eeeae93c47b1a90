/-! the words of the links, each by its place; fields and calls, a row each (printed by a program out of the tables) -/
theorem inX0 : ∀ w ∈ u_ws RX0 TX0 6, w ∈ lw_tbl ∧ fz_keep w = true := by decide +kernel
theorem inX1 : ∀ w ∈ u_ws RX1 TX1 2, w ∈ lw_tbl ∧ fz_keep w = true := by decide +kernel
theorem inX2 : ∀ w ∈ u_ws RX2 TX2 14, w ∈ lw_tbl ∧ fz_keep w = true := by decide +kernel
theorem inX3 : ∀ w ∈ u_ws RX3 TX3 2, w ∈ lw_tbl ∧ fz_keep w = true := by decide +kernel
theorem inX4 : ∀ w ∈ u_ws RX4 TX4 21, w ∈ lw_tbl ∧ fz_keep w = true := by decide +kernel
theorem mw_152 : fz_M (.fieldLink RX3 10 RX3 (TX3 0).2.1 (TX3 0).2.2.1) := ⟨List.mem_of_getElem? (i := 152) (by decide +kernel), by decide +kernel⟩
theorem mw_153 : fz_M (.fieldLink RX3 16 RX3 (TX3 1).2.1 (TX3 1).2.2.1) := ⟨List.mem_of_getElem? (i := 153) (by decide +kernel), by decide +kernel⟩
theorem mw_112 : fz_M (.fieldLinkNest RX3 44 RX2 (TX2 8).2.1 (TX2 8).2.2.1 "FarScreen") := ⟨List.mem_of_getElem? (i := 112) (by decide +kernel), by decide +kernel⟩
theorem mw_122 : fz_M (.fieldLinkNest RX3 52 RX2 (TX2 13).2.1 (TX2 13).2.2.1 "FarScreen") := ⟨List.mem_of_getElem? (i := 122) (by decide +kernel), by decide +kernel⟩
theorem mw_120 : fz_M (.fieldLinkNest RX3 67 RX2 (TX2 12).2.1 (TX2 12).2.2.1 "FarScreen") := ⟨List.mem_of_getElem? (i := 120) (by decide +kernel), by decide +kernel⟩
theorem mw_101 : fz_M (.fieldLinkNest RX3 70 RX2 (TX2 0).2.1 (TX2 0).2.2.1 "FarScreen") := ⟨List.mem_of_getElem? (i := 101) (by decide +kernel), by decide +kernel⟩
theorem mw_103 : fz_M (.fieldLinkNest RX3 74 RX2 (TX2 1).2.1 (TX2 1).2.2.1 "FarScreen") := ⟨List.mem_of_getElem? (i := 103) (by decide +kernel), by decide +kernel⟩
theorem mw_105 : fz_M (.fieldLinkNest RX3 80 RX2 (TX2 2).2.1 (TX2 2).2.2.1 "FarScreen") := ⟨List.mem_of_getElem? (i := 105) (by decide +kernel), by decide +kernel⟩
theorem mw_114 : fz_M (.fieldLinkNest RX3 90 RX2 (TX2 9).2.1 (TX2 9).2.2.1 "FarScreen") := ⟨List.mem_of_getElem? (i := 114) (by decide +kernel), by decide +kernel⟩
theorem mw_69 : fz_M (.fieldLinkNest RX3 94 RX1 (TX1 1).2.1 (TX1 1).2.2.1 "FarScreen") := ⟨List.mem_of_getElem? (i := 69) (by decide +kernel), by decide +kernel⟩
theorem mw_67 : fz_M (.fieldLinkNest RX3 104 RX1 (TX1 0).2.1 (TX1 0).2.2.1 "FarScreen") := ⟨List.mem_of_getElem? (i := 67) (by decide +kernel), by decide +kernel⟩
theorem mw_116 : fz_M (.fieldLinkNest RX3 109 RX2 (TX2 10).2.1 (TX2 10).2.2.1 "FarScreen") := ⟨List.mem_of_getElem? (i := 116) (by decide +kernel), by decide +kernel⟩
theorem mw_118 : fz_M (.fieldLinkNest RX3 112 RX2 (TX2 11).2.1 (TX2 11).2.2.1 "FarScreen") := ⟨List.mem_of_getElem? (i := 118) (by decide +kernel), by decide +kernel⟩
theorem mw_31 : fz_M (.initialized "FarScreen$Sender") := ⟨List.mem_of_getElem? (i := 31) (by decide +kernel), by decide +kernel⟩
theorem mw_54 : fz_M (.methodLink RX3 9 yX2_init) := ⟨List.mem_of_getElem? (i := 54) (by decide +kernel), by decide +kernel⟩
theorem mw_56 : fz_M (.code yX2_init cX2_init 2 none) := ⟨List.mem_of_getElem? (i := 56) (by decide +kernel), by decide +kernel⟩
theorem mw_55 : fz_M (.instanceMethod yX2_init) := ⟨List.mem_of_getElem? (i := 55) (by decide +kernel), by decide +kernel⟩
theorem mw_30 : fz_M (.initialized "FarScreen") := ⟨List.mem_of_getElem? (i := 30) (by decide +kernel), by decide +kernel⟩
theorem mw_207 : fz_M (.methodLink RX3 19 yX3_checkBlock) := ⟨List.mem_of_getElem? (i := 207) (by decide +kernel), by decide +kernel⟩
theorem mw_209 : fz_M (.code yX3_checkBlock cX3_checkBlock 4 none) := ⟨List.mem_of_getElem? (i := 209) (by decide +kernel), by decide +kernel⟩
theorem mw_208 : fz_M (.static yX3_checkBlock) := ⟨List.mem_of_getElem? (i := 208) (by decide +kernel), by decide +kernel⟩
theorem mw_210 : fz_M (.methodLink RX3 48 yX3_checkTile) := ⟨List.mem_of_getElem? (i := 210) (by decide +kernel), by decide +kernel⟩
theorem mw_212 : fz_M (.code yX3_checkTile cX3_checkTile 2 none) := ⟨List.mem_of_getElem? (i := 212) (by decide +kernel), by decide +kernel⟩
theorem mw_211 : fz_M (.static yX3_checkTile) := ⟨List.mem_of_getElem? (i := 211) (by decide +kernel), by decide +kernel⟩
theorem mw_355 : fz_M (.methodLink RX3 55 yX3_tileAt) := ⟨List.mem_of_getElem? (i := 355) (by decide +kernel), by decide +kernel⟩
theorem mw_306 : fz_M (.code yX3_tileAt cX3_tileAt 2 (some .int)) := ⟨List.mem_of_getElem? (i := 306) (by decide +kernel), by decide +kernel⟩
theorem mw_305 : fz_M (.static yX3_tileAt) := ⟨List.mem_of_getElem? (i := 305) (by decide +kernel), by decide +kernel⟩
theorem mw_363 : fz_M (.methodLink RX3 59 yX3_checkBudget) := ⟨List.mem_of_getElem? (i := 363) (by decide +kernel), by decide +kernel⟩
theorem mw_365 : fz_M (.code yX3_checkBudget cX3_checkBudget 1 none) := ⟨List.mem_of_getElem? (i := 365) (by decide +kernel), by decide +kernel⟩
theorem mw_364 : fz_M (.static yX3_checkBudget) := ⟨List.mem_of_getElem? (i := 364) (by decide +kernel), by decide +kernel⟩
theorem mw_195 : fz_M (.methodLink RX3 115 yX3_wholeCost) := ⟨List.mem_of_getElem? (i := 195) (by decide +kernel), by decide +kernel⟩
theorem mw_197 : fz_M (.code yX3_wholeCost cX3_wholeCost 1 (some .int)) := ⟨List.mem_of_getElem? (i := 197) (by decide +kernel), by decide +kernel⟩
theorem mw_196 : fz_M (.static yX3_wholeCost) := ⟨List.mem_of_getElem? (i := 196) (by decide +kernel), by decide +kernel⟩
theorem mw_297 : fz_M (.methodLink RX3 30 yX2_paint) := ⟨List.mem_of_getElem? (i := 297) (by decide +kernel), by decide +kernel⟩
theorem mw_300 : fz_M (.code yX2_paint cX2_paint 8 none) := ⟨List.mem_of_getElem? (i := 300) (by decide +kernel), by decide +kernel⟩
theorem mw_298 : fz_M (.instanceMethod yX2_paint) := ⟨List.mem_of_getElem? (i := 298) (by decide +kernel), by decide +kernel⟩
theorem mw_299 : fz_M (.selects yX2_paint.cls yX2_paint yX2_paint) := ⟨List.mem_of_getElem? (i := 299) (by decide +kernel), by decide +kernel⟩
theorem mw_315 : fz_M (.methodLink RX3 34 yX2_countUnlike) := ⟨List.mem_of_getElem? (i := 315) (by decide +kernel), by decide +kernel⟩
theorem mw_318 : fz_M (.code yX2_countUnlike cX2_countUnlike 1 (some .int)) := ⟨List.mem_of_getElem? (i := 318) (by decide +kernel), by decide +kernel⟩
theorem mw_316 : fz_M (.instanceMethod yX2_countUnlike) := ⟨List.mem_of_getElem? (i := 316) (by decide +kernel), by decide +kernel⟩
theorem mw_317 : fz_M (.selects yX2_countUnlike.cls yX2_countUnlike yX2_countUnlike) := ⟨List.mem_of_getElem? (i := 317) (by decide +kernel), by decide +kernel⟩
theorem mw_334 : fz_M (.methodLink RX3 40 yX2_shift) := ⟨List.mem_of_getElem? (i := 334) (by decide +kernel), by decide +kernel⟩
theorem mw_337 : fz_M (.code yX2_shift cX2_shift 8 none) := ⟨List.mem_of_getElem? (i := 337) (by decide +kernel), by decide +kernel⟩
theorem mw_335 : fz_M (.instanceMethod yX2_shift) := ⟨List.mem_of_getElem? (i := 335) (by decide +kernel), by decide +kernel⟩
theorem mw_336 : fz_M (.selects yX2_shift.cls yX2_shift yX2_shift) := ⟨List.mem_of_getElem? (i := 336) (by decide +kernel), by decide +kernel⟩
theorem mw_367 : fz_M (.methodLink RX3 63 yX2_passStep) := ⟨List.mem_of_getElem? (i := 367) (by decide +kernel), by decide +kernel⟩
theorem mw_370 : fz_M (.code yX2_passStep cX2_passStep 3 (some .int)) := ⟨List.mem_of_getElem? (i := 370) (by decide +kernel), by decide +kernel⟩
theorem mw_368 : fz_M (.instanceMethod yX2_passStep) := ⟨List.mem_of_getElem? (i := 368) (by decide +kernel), by decide +kernel⟩
theorem mw_369 : fz_M (.selects yX2_passStep.cls yX2_passStep yX2_passStep) := ⟨List.mem_of_getElem? (i := 369) (by decide +kernel), by decide +kernel⟩
theorem mw_467 : fz_M (.methodLink RX3 77 yX2_kindOf) := ⟨List.mem_of_getElem? (i := 467) (by decide +kernel), by decide +kernel⟩
theorem mw_430 : fz_M (.code yX2_kindOf cX2_kindOf 2 (some .int)) := ⟨List.mem_of_getElem? (i := 430) (by decide +kernel), by decide +kernel⟩
theorem mw_428 : fz_M (.instanceMethod yX2_kindOf) := ⟨List.mem_of_getElem? (i := 428) (by decide +kernel), by decide +kernel⟩
theorem mw_429 : fz_M (.selects yX2_kindOf.cls yX2_kindOf yX2_kindOf) := ⟨List.mem_of_getElem? (i := 429) (by decide +kernel), by decide +kernel⟩
theorem mw_167 : fz_M (.methodLink RX3 83 yX2_unlikeSet) := ⟨List.mem_of_getElem? (i := 167) (by decide +kernel), by decide +kernel⟩
theorem mw_170 : fz_M (.code yX2_unlikeSet cX2_unlikeSet 4 (some .long)) := ⟨List.mem_of_getElem? (i := 170) (by decide +kernel), by decide +kernel⟩
theorem mw_168 : fz_M (.instanceMethod yX2_unlikeSet) := ⟨List.mem_of_getElem? (i := 168) (by decide +kernel), by decide +kernel⟩
theorem mw_169 : fz_M (.selects yX2_unlikeSet.cls yX2_unlikeSet yX2_unlikeSet) := ⟨List.mem_of_getElem? (i := 169) (by decide +kernel), by decide +kernel⟩
theorem mw_175 : fz_M (.methodLink RX3 87 yX2_countRough) := ⟨List.mem_of_getElem? (i := 175) (by decide +kernel), by decide +kernel⟩
theorem mw_178 : fz_M (.code yX2_countRough cX2_countRough 3 (some .int)) := ⟨List.mem_of_getElem? (i := 178) (by decide +kernel), by decide +kernel⟩
theorem mw_176 : fz_M (.instanceMethod yX2_countRough) := ⟨List.mem_of_getElem? (i := 176) (by decide +kernel), by decide +kernel⟩
theorem mw_177 : fz_M (.selects yX2_countRough.cls yX2_countRough yX2_countRough) := ⟨List.mem_of_getElem? (i := 177) (by decide +kernel), by decide +kernel⟩
theorem mw_498 : fz_M (.methodLink RX3 118 yX2_copyFrom) := ⟨List.mem_of_getElem? (i := 498) (by decide +kernel), by decide +kernel⟩
theorem mw_501 : fz_M (.code yX2_copyFrom cX2_copyFrom 3 none) := ⟨List.mem_of_getElem? (i := 501) (by decide +kernel), by decide +kernel⟩
theorem mw_499 : fz_M (.instanceMethod yX2_copyFrom) := ⟨List.mem_of_getElem? (i := 499) (by decide +kernel), by decide +kernel⟩
theorem mw_500 : fz_M (.selects yX2_copyFrom.cls yX2_copyFrom yX2_copyFrom) := ⟨List.mem_of_getElem? (i := 500) (by decide +kernel), by decide +kernel⟩
theorem mw_507 : fz_M (.methodLink RX3 122 yX2_isAllSent) := ⟨List.mem_of_getElem? (i := 507) (by decide +kernel), by decide +kernel⟩
theorem mw_510 : fz_M (.code yX2_isAllSent cX2_isAllSent 1 (some .boolean)) := ⟨List.mem_of_getElem? (i := 510) (by decide +kernel), by decide +kernel⟩
theorem mw_508 : fz_M (.instanceMethod yX2_isAllSent) := ⟨List.mem_of_getElem? (i := 508) (by decide +kernel), by decide +kernel⟩
theorem mw_509 : fz_M (.selects yX2_isAllSent.cls yX2_isAllSent yX2_isAllSent) := ⟨List.mem_of_getElem? (i := 509) (by decide +kernel), by decide +kernel⟩
theorem mw_511 : fz_M (.methodLink RX3 126 yX2_hasFilm) := ⟨List.mem_of_getElem? (i := 511) (by decide +kernel), by decide +kernel⟩
theorem mw_514 : fz_M (.code yX2_hasFilm cX2_hasFilm 2 (some .boolean)) := ⟨List.mem_of_getElem? (i := 514) (by decide +kernel), by decide +kernel⟩
theorem mw_512 : fz_M (.instanceMethod yX2_hasFilm) := ⟨List.mem_of_getElem? (i := 512) (by decide +kernel), by decide +kernel⟩
theorem mw_513 : fz_M (.selects yX2_hasFilm.cls yX2_hasFilm yX2_hasFilm) := ⟨List.mem_of_getElem? (i := 513) (by decide +kernel), by decide +kernel⟩
theorem mw_81 : fz_M (.fieldLink RX0 9 RX0 (TX0 0).2.1 (TX0 0).2.2.1) := ⟨List.mem_of_getElem? (i := 81) (by decide +kernel), by decide +kernel⟩
theorem mw_82 : fz_M (.fieldLink RX0 15 RX0 (TX0 1).2.1 (TX0 1).2.2.1) := ⟨List.mem_of_getElem? (i := 82) (by decide +kernel), by decide +kernel⟩
theorem mw_83 : fz_M (.fieldLink RX0 18 RX0 (TX0 2).2.1 (TX0 2).2.2.1) := ⟨List.mem_of_getElem? (i := 83) (by decide +kernel), by decide +kernel⟩
theorem mw_84 : fz_M (.fieldLink RX0 21 RX0 (TX0 3).2.1 (TX0 3).2.2.1) := ⟨List.mem_of_getElem? (i := 84) (by decide +kernel), by decide +kernel⟩
theorem mw_85 : fz_M (.fieldLink RX0 24 RX0 (TX0 4).2.1 (TX0 4).2.2.1) := ⟨List.mem_of_getElem? (i := 85) (by decide +kernel), by decide +kernel⟩
theorem mw_86 : fz_M (.fieldLink RX0 27 RX0 (TX0 5).2.1 (TX0 5).2.2.1) := ⟨List.mem_of_getElem? (i := 86) (by decide +kernel), by decide +kernel⟩
theorem mw_347 : fz_M (.methodLinkNest RX0 40 yX3_tileAt "FarScreen") := ⟨List.mem_of_getElem? (i := 347) (by decide +kernel), by decide +kernel⟩
theorem mw_33 : fz_M (.initialized "FarScreen$BlockMove") := ⟨List.mem_of_getElem? (i := 33) (by decide +kernel), by decide +kernel⟩
theorem mw_383 : fz_M (.methodLink RX0 30 yX0_set) := ⟨List.mem_of_getElem? (i := 383) (by decide +kernel), by decide +kernel⟩
theorem mw_341 : fz_M (.code yX0_set cX0_set 7 none) := ⟨List.mem_of_getElem? (i := 341) (by decide +kernel), by decide +kernel⟩
theorem mw_339 : fz_M (.instanceMethod yX0_set) := ⟨List.mem_of_getElem? (i := 339) (by decide +kernel), by decide +kernel⟩
theorem mw_340 : fz_M (.selects yX0_set.cls yX0_set yX0_set) := ⟨List.mem_of_getElem? (i := 340) (by decide +kernel), by decide +kernel⟩
theorem mw_66 : fz_M (.fieldLink RX1 9 RX1 (TX1 0).2.1 (TX1 0).2.2.1) := ⟨List.mem_of_getElem? (i := 66) (by decide +kernel), by decide +kernel⟩
theorem mw_68 : fz_M (.fieldLink RX1 15 RX1 (TX1 1).2.1 (TX1 1).2.2.1) := ⟨List.mem_of_getElem? (i := 68) (by decide +kernel), by decide +kernel⟩
theorem mw_32 : fz_M (.initialized "FarScreen$KnownRow") := ⟨List.mem_of_getElem? (i := 32) (by decide +kernel), by decide +kernel⟩
theorem mw_415 : fz_M (.methodLink RX1 25 yX1_placeOf) := ⟨List.mem_of_getElem? (i := 415) (by decide +kernel), by decide +kernel⟩
theorem mw_418 : fz_M (.code yX1_placeOf cX1_placeOf 3 (some .int)) := ⟨List.mem_of_getElem? (i := 418) (by decide +kernel), by decide +kernel⟩
theorem mw_416 : fz_M (.instanceMethod yX1_placeOf) := ⟨List.mem_of_getElem? (i := 416) (by decide +kernel), by decide +kernel⟩
theorem mw_417 : fz_M (.selects yX1_placeOf.cls yX1_placeOf yX1_placeOf) := ⟨List.mem_of_getElem? (i := 417) (by decide +kernel), by decide +kernel⟩
theorem mw_100 : fz_M (.fieldLink RX2 9 RX2 (TX2 0).2.1 (TX2 0).2.2.1) := ⟨List.mem_of_getElem? (i := 100) (by decide +kernel), by decide +kernel⟩
theorem mw_102 : fz_M (.fieldLink RX2 15 RX2 (TX2 1).2.1 (TX2 1).2.2.1) := ⟨List.mem_of_getElem? (i := 102) (by decide +kernel), by decide +kernel⟩
theorem mw_104 : fz_M (.fieldLink RX2 18 RX2 (TX2 2).2.1 (TX2 2).2.2.1) := ⟨List.mem_of_getElem? (i := 104) (by decide +kernel), by decide +kernel⟩
theorem mw_106 : fz_M (.fieldLink RX2 21 RX2 (TX2 3).2.1 (TX2 3).2.2.1) := ⟨List.mem_of_getElem? (i := 106) (by decide +kernel), by decide +kernel⟩
theorem mw_107 : fz_M (.fieldLink RX2 24 RX2 (TX2 4).2.1 (TX2 4).2.2.1) := ⟨List.mem_of_getElem? (i := 107) (by decide +kernel), by decide +kernel⟩
theorem mw_108 : fz_M (.fieldLink RX2 27 RX2 (TX2 5).2.1 (TX2 5).2.2.1) := ⟨List.mem_of_getElem? (i := 108) (by decide +kernel), by decide +kernel⟩
theorem mw_109 : fz_M (.fieldLink RX2 30 RX2 (TX2 6).2.1 (TX2 6).2.2.1) := ⟨List.mem_of_getElem? (i := 109) (by decide +kernel), by decide +kernel⟩
theorem mw_110 : fz_M (.fieldLink RX2 35 RX2 (TX2 7).2.1 (TX2 7).2.2.1) := ⟨List.mem_of_getElem? (i := 110) (by decide +kernel), by decide +kernel⟩
theorem mw_111 : fz_M (.fieldLink RX2 39 RX2 (TX2 8).2.1 (TX2 8).2.2.1) := ⟨List.mem_of_getElem? (i := 111) (by decide +kernel), by decide +kernel⟩
theorem mw_113 : fz_M (.fieldLink RX2 46 RX2 (TX2 9).2.1 (TX2 9).2.2.1) := ⟨List.mem_of_getElem? (i := 113) (by decide +kernel), by decide +kernel⟩
theorem mw_115 : fz_M (.fieldLink RX2 50 RX2 (TX2 10).2.1 (TX2 10).2.2.1) := ⟨List.mem_of_getElem? (i := 115) (by decide +kernel), by decide +kernel⟩
theorem mw_117 : fz_M (.fieldLink RX2 53 RX2 (TX2 11).2.1 (TX2 11).2.2.1) := ⟨List.mem_of_getElem? (i := 117) (by decide +kernel), by decide +kernel⟩
theorem mw_119 : fz_M (.fieldLink RX2 56 RX2 (TX2 12).2.1 (TX2 12).2.2.1) := ⟨List.mem_of_getElem? (i := 119) (by decide +kernel), by decide +kernel⟩
theorem mw_121 : fz_M (.fieldLink RX2 59 RX2 (TX2 13).2.1 (TX2 13).2.2.1) := ⟨List.mem_of_getElem? (i := 121) (by decide +kernel), by decide +kernel⟩
theorem mw_62 : fz_M (.methodLinkNest RX2 45 yX1_init "FarScreen") := ⟨List.mem_of_getElem? (i := 62) (by decide +kernel), by decide +kernel⟩
theorem mw_64 : fz_M (.code yX1_init cX1_init 1 none) := ⟨List.mem_of_getElem? (i := 64) (by decide +kernel), by decide +kernel⟩
theorem mw_63 : fz_M (.instanceMethod yX1_init) := ⟨List.mem_of_getElem? (i := 63) (by decide +kernel), by decide +kernel⟩
theorem mw_77 : fz_M (.methodLinkNest RX2 62 yX0_init "FarScreen") := ⟨List.mem_of_getElem? (i := 77) (by decide +kernel), by decide +kernel⟩
theorem mw_79 : fz_M (.code yX0_init cX0_init 1 none) := ⟨List.mem_of_getElem? (i := 79) (by decide +kernel), by decide +kernel⟩
theorem mw_78 : fz_M (.instanceMethod yX0_init) := ⟨List.mem_of_getElem? (i := 78) (by decide +kernel), by decide +kernel⟩
theorem mw_304 : fz_M (.methodLinkNest RX2 76 yX3_tileAt "FarScreen") := ⟨List.mem_of_getElem? (i := 304) (by decide +kernel), by decide +kernel⟩
theorem mw_43 : fz_M (.initialized "java/lang/Integer") := ⟨List.mem_of_getElem? (i := 43) (by decide +kernel), by decide +kernel⟩
theorem mw_431 : fz_M (.methodLink RX2 94 yJ6_bitCount_0f7a4) := ⟨List.mem_of_getElem? (i := 431) (by decide +kernel), by decide +kernel⟩
theorem mw_433 : fz_M (.code yJ6_bitCount_0f7a4 cJ6_bitCount_0f7a4 1 (some .int)) := ⟨List.mem_of_getElem? (i := 433) (by decide +kernel), by decide +kernel⟩
theorem mw_432 : fz_M (.static yJ6_bitCount_0f7a4) := ⟨List.mem_of_getElem? (i := 432) (by decide +kernel), by decide +kernel⟩
theorem mw_41 : fz_M (.initialized "java/lang/Long") := ⟨List.mem_of_getElem? (i := 41) (by decide +kernel), by decide +kernel⟩
theorem mw_320 : fz_M (.methodLink RX2 107 yJ13_bitCount_95d88) := ⟨List.mem_of_getElem? (i := 320) (by decide +kernel), by decide +kernel⟩
theorem mw_322 : fz_M (.code yJ13_bitCount_95d88 cJ13_bitCount_95d88 2 (some .int)) := ⟨List.mem_of_getElem? (i := 322) (by decide +kernel), by decide +kernel⟩
theorem mw_321 : fz_M (.static yJ13_bitCount_95d88) := ⟨List.mem_of_getElem? (i := 321) (by decide +kernel), by decide +kernel⟩
theorem mw_42 : fz_M (.initialized "java/lang/Math") := ⟨List.mem_of_getElem? (i := 42) (by decide +kernel), by decide +kernel⟩
theorem mw_400 : fz_M (.methodLink RX2 143 yJ9_abs_0f7a4) := ⟨List.mem_of_getElem? (i := 400) (by decide +kernel), by decide +kernel⟩
theorem mw_402 : fz_M (.code yJ9_abs_0f7a4 cJ9_abs_0f7a4 1 (some .int)) := ⟨List.mem_of_getElem? (i := 402) (by decide +kernel), by decide +kernel⟩
theorem mw_401 : fz_M (.static yJ9_abs_0f7a4) := ⟨List.mem_of_getElem? (i := 401) (by decide +kernel), by decide +kernel⟩
theorem mw_441 : fz_M (.methodLinkNest RX2 158 yX3_wholeCost "FarScreen") := ⟨List.mem_of_getElem? (i := 441) (by decide +kernel), by decide +kernel⟩
theorem mw_379 : fz_M (.methodLink RX2 69 yX0_copyFrom) := ⟨List.mem_of_getElem? (i := 379) (by decide +kernel), by decide +kernel⟩
theorem mw_382 : fz_M (.code yX0_copyFrom cX0_copyFrom 2 none) := ⟨List.mem_of_getElem? (i := 382) (by decide +kernel), by decide +kernel⟩
theorem mw_380 : fz_M (.instanceMethod yX0_copyFrom) := ⟨List.mem_of_getElem? (i := 380) (by decide +kernel), by decide +kernel⟩
theorem mw_381 : fz_M (.selects yX0_copyFrom.cls yX0_copyFrom yX0_copyFrom) := ⟨List.mem_of_getElem? (i := 381) (by decide +kernel), by decide +kernel⟩
theorem mw_502 : fz_M (.methodLink RX2 73 yX1_copyFrom) := ⟨List.mem_of_getElem? (i := 502) (by decide +kernel), by decide +kernel⟩
theorem mw_505 : fz_M (.code yX1_copyFrom cX1_copyFrom 2 none) := ⟨List.mem_of_getElem? (i := 505) (by decide +kernel), by decide +kernel⟩
theorem mw_503 : fz_M (.instanceMethod yX1_copyFrom) := ⟨List.mem_of_getElem? (i := 503) (by decide +kernel), by decide +kernel⟩
theorem mw_504 : fz_M (.selects yX1_copyFrom.cls yX1_copyFrom yX1_copyFrom) := ⟨List.mem_of_getElem? (i := 504) (by decide +kernel), by decide +kernel⟩
theorem mw_307 : fz_M (.methodLink RX2 80 yX2_noteChanges) := ⟨List.mem_of_getElem? (i := 307) (by decide +kernel), by decide +kernel⟩
theorem mw_310 : fz_M (.code yX2_noteChanges cX2_noteChanges 2 none) := ⟨List.mem_of_getElem? (i := 310) (by decide +kernel), by decide +kernel⟩
theorem mw_309 : fz_M (.instanceMethod yX2_noteChanges) := ⟨List.mem_of_getElem? (i := 309) (by decide +kernel), by decide +kernel⟩
theorem mw_1 : fz_M (.selects yX2_noteChanges.cls yX2_noteChanges yX2_noteChanges) := ⟨List.mem_of_getElem? (i := 1) (by decide +kernel), by decide +kernel⟩
theorem mw_311 : fz_M (.methodLink RX2 83 yX2_noteUnlike) := ⟨List.mem_of_getElem? (i := 311) (by decide +kernel), by decide +kernel⟩
theorem mw_314 : fz_M (.code yX2_noteUnlike cX2_noteUnlike 2 none) := ⟨List.mem_of_getElem? (i := 314) (by decide +kernel), by decide +kernel⟩
theorem mw_313 : fz_M (.instanceMethod yX2_noteUnlike) := ⟨List.mem_of_getElem? (i := 313) (by decide +kernel), by decide +kernel⟩
theorem mw_2 : fz_M (.selects yX2_noteUnlike.cls yX2_noteUnlike yX2_noteUnlike) := ⟨List.mem_of_getElem? (i := 2) (by decide +kernel), by decide +kernel⟩
theorem mw_338 : fz_M (.methodLink RX2 86 yX0_set) := ⟨List.mem_of_getElem? (i := 338) (by decide +kernel), by decide +kernel⟩
theorem mw_342 : fz_M (.methodLink RX2 90 yX0_applyTo) := ⟨List.mem_of_getElem? (i := 342) (by decide +kernel), by decide +kernel⟩
theorem mw_345 : fz_M (.code yX0_applyTo cX0_applyTo 5 none) := ⟨List.mem_of_getElem? (i := 345) (by decide +kernel), by decide +kernel⟩
theorem mw_343 : fz_M (.instanceMethod yX0_applyTo) := ⟨List.mem_of_getElem? (i := 343) (by decide +kernel), by decide +kernel⟩
theorem mw_344 : fz_M (.selects yX0_applyTo.cls yX0_applyTo yX0_applyTo) := ⟨List.mem_of_getElem? (i := 344) (by decide +kernel), by decide +kernel⟩
theorem mw_427 : fz_M (.methodLink RX2 100 yX2_kindOf) := ⟨List.mem_of_getElem? (i := 427) (by decide +kernel), by decide +kernel⟩
theorem mw_319 : fz_M (.methodLink RX2 103 yX2_unlikeSet) := ⟨List.mem_of_getElem? (i := 319) (by decide +kernel), by decide +kernel⟩
theorem mw_371 : fz_M (.methodLink RX2 112 yX2_tellMoves) := ⟨List.mem_of_getElem? (i := 371) (by decide +kernel), by decide +kernel⟩
theorem mw_374 : fz_M (.code yX2_tellMoves cX2_tellMoves 3 (some .int)) := ⟨List.mem_of_getElem? (i := 374) (by decide +kernel), by decide +kernel⟩
theorem mw_373 : fz_M (.instanceMethod yX2_tellMoves) := ⟨List.mem_of_getElem? (i := 373) (by decide +kernel), by decide +kernel⟩
theorem mw_3 : fz_M (.selects yX2_tellMoves.cls yX2_tellMoves yX2_tellMoves) := ⟨List.mem_of_getElem? (i := 3) (by decide +kernel), by decide +kernel⟩
theorem mw_384 : fz_M (.methodLink RX2 115 yX2_sendTiles) := ⟨List.mem_of_getElem? (i := 384) (by decide +kernel), by decide +kernel⟩
theorem mw_387 : fz_M (.code yX2_sendTiles cX2_sendTiles 5 (some .int)) := ⟨List.mem_of_getElem? (i := 387) (by decide +kernel), by decide +kernel⟩
theorem mw_386 : fz_M (.instanceMethod yX2_sendTiles) := ⟨List.mem_of_getElem? (i := 386) (by decide +kernel), by decide +kernel⟩
theorem mw_5 : fz_M (.selects yX2_sendTiles.cls yX2_sendTiles yX2_sendTiles) := ⟨List.mem_of_getElem? (i := 5) (by decide +kernel), by decide +kernel⟩
theorem mw_442 : fz_M (.methodLink RX2 118 yX2_settleChanges) := ⟨List.mem_of_getElem? (i := 442) (by decide +kernel), by decide +kernel⟩
theorem mw_445 : fz_M (.code yX2_settleChanges cX2_settleChanges 2 none) := ⟨List.mem_of_getElem? (i := 445) (by decide +kernel), by decide +kernel⟩
theorem mw_444 : fz_M (.instanceMethod yX2_settleChanges) := ⟨List.mem_of_getElem? (i := 444) (by decide +kernel), by decide +kernel⟩
theorem mw_13 : fz_M (.selects yX2_settleChanges.cls yX2_settleChanges yX2_settleChanges) := ⟨List.mem_of_getElem? (i := 13) (by decide +kernel), by decide +kernel⟩
theorem mw_375 : fz_M (.methodLink RX2 121 yX2_forgetMoves) := ⟨List.mem_of_getElem? (i := 375) (by decide +kernel), by decide +kernel⟩
theorem mw_378 : fz_M (.code yX2_forgetMoves cX2_forgetMoves 3 none) := ⟨List.mem_of_getElem? (i := 378) (by decide +kernel), by decide +kernel⟩
theorem mw_377 : fz_M (.instanceMethod yX2_forgetMoves) := ⟨List.mem_of_getElem? (i := 377) (by decide +kernel), by decide +kernel⟩
theorem mw_4 : fz_M (.selects yX2_forgetMoves.cls yX2_forgetMoves yX2_forgetMoves) := ⟨List.mem_of_getElem? (i := 4) (by decide +kernel), by decide +kernel⟩
theorem mw_388 : fz_M (.methodLink RX2 125 yX2_putInOrder) := ⟨List.mem_of_getElem? (i := 388) (by decide +kernel), by decide +kernel⟩
theorem mw_391 : fz_M (.code yX2_putInOrder cX2_putInOrder 3 (some .int)) := ⟨List.mem_of_getElem? (i := 391) (by decide +kernel), by decide +kernel⟩
theorem mw_390 : fz_M (.instanceMethod yX2_putInOrder) := ⟨List.mem_of_getElem? (i := 390) (by decide +kernel), by decide +kernel⟩
theorem mw_6 : fz_M (.selects yX2_putInOrder.cls yX2_putInOrder yX2_putInOrder) := ⟨List.mem_of_getElem? (i := 6) (by decide +kernel), by decide +kernel⟩
theorem mw_407 : fz_M (.methodLink RX2 129 yX2_sendTile) := ⟨List.mem_of_getElem? (i := 407) (by decide +kernel), by decide +kernel⟩
theorem mw_410 : fz_M (.code yX2_sendTile cX2_sendTile 4 (some .int)) := ⟨List.mem_of_getElem? (i := 410) (by decide +kernel), by decide +kernel⟩
theorem mw_409 : fz_M (.instanceMethod yX2_sendTile) := ⟨List.mem_of_getElem? (i := 409) (by decide +kernel), by decide +kernel⟩
theorem mw_10 : fz_M (.selects yX2_sendTile.cls yX2_sendTile yX2_sendTile) := ⟨List.mem_of_getElem? (i := 10) (by decide +kernel), by decide +kernel⟩
theorem mw_392 : fz_M (.methodLink RX2 132 yX2_worthOf) := ⟨List.mem_of_getElem? (i := 392) (by decide +kernel), by decide +kernel⟩
theorem mw_395 : fz_M (.code yX2_worthOf cX2_worthOf 3 (some .int)) := ⟨List.mem_of_getElem? (i := 395) (by decide +kernel), by decide +kernel⟩
theorem mw_394 : fz_M (.instanceMethod yX2_worthOf) := ⟨List.mem_of_getElem? (i := 394) (by decide +kernel), by decide +kernel⟩
theorem mw_7 : fz_M (.selects yX2_worthOf.cls yX2_worthOf yX2_worthOf) := ⟨List.mem_of_getElem? (i := 7) (by decide +kernel), by decide +kernel⟩
theorem mw_403 : fz_M (.methodLink RX2 135 yX2_insertInOrder) := ⟨List.mem_of_getElem? (i := 403) (by decide +kernel), by decide +kernel⟩
theorem mw_406 : fz_M (.code yX2_insertInOrder cX2_insertInOrder 4 none) := ⟨List.mem_of_getElem? (i := 406) (by decide +kernel), by decide +kernel⟩
theorem mw_405 : fz_M (.instanceMethod yX2_insertInOrder) := ⟨List.mem_of_getElem? (i := 405) (by decide +kernel), by decide +kernel⟩
theorem mw_9 : fz_M (.selects yX2_insertInOrder.cls yX2_insertInOrder yX2_insertInOrder) := ⟨List.mem_of_getElem? (i := 9) (by decide +kernel), by decide +kernel⟩
theorem mw_396 : fz_M (.methodLink RX2 139 yX2_isLookedAt) := ⟨List.mem_of_getElem? (i := 396) (by decide +kernel), by decide +kernel⟩
theorem mw_399 : fz_M (.code yX2_isLookedAt cX2_isLookedAt 4 (some .boolean)) := ⟨List.mem_of_getElem? (i := 399) (by decide +kernel), by decide +kernel⟩
theorem mw_398 : fz_M (.instanceMethod yX2_isLookedAt) := ⟨List.mem_of_getElem? (i := 398) (by decide +kernel), by decide +kernel⟩
theorem mw_8 : fz_M (.selects yX2_isLookedAt.cls yX2_isLookedAt yX2_isLookedAt) := ⟨List.mem_of_getElem? (i := 8) (by decide +kernel), by decide +kernel⟩
theorem mw_411 : fz_M (.methodLink RX2 148 yX1_holds) := ⟨List.mem_of_getElem? (i := 411) (by decide +kernel), by decide +kernel⟩
theorem mw_414 : fz_M (.code yX1_holds cX1_holds 2 (some .boolean)) := ⟨List.mem_of_getElem? (i := 414) (by decide +kernel), by decide +kernel⟩
theorem mw_412 : fz_M (.instanceMethod yX1_holds) := ⟨List.mem_of_getElem? (i := 412) (by decide +kernel), by decide +kernel⟩
theorem mw_413 : fz_M (.selects yX1_holds.cls yX1_holds yX1_holds) := ⟨List.mem_of_getElem? (i := 413) (by decide +kernel), by decide +kernel⟩
theorem mw_419 : fz_M (.methodLink RX2 151 yX2_sendPicture) := ⟨List.mem_of_getElem? (i := 419) (by decide +kernel), by decide +kernel⟩
theorem mw_422 : fz_M (.code yX2_sendPicture cX2_sendPicture 5 (some .int)) := ⟨List.mem_of_getElem? (i := 422) (by decide +kernel), by decide +kernel⟩
theorem mw_421 : fz_M (.instanceMethod yX2_sendPicture) := ⟨List.mem_of_getElem? (i := 421) (by decide +kernel), by decide +kernel⟩
theorem mw_11 : fz_M (.selects yX2_sendPicture.cls yX2_sendPicture yX2_sendPicture) := ⟨List.mem_of_getElem? (i := 11) (by decide +kernel), by decide +kernel⟩
theorem mw_437 : fz_M (.methodLink RX2 155 yX2_sendRoughly) := ⟨List.mem_of_getElem? (i := 437) (by decide +kernel), by decide +kernel⟩
theorem mw_440 : fz_M (.code yX2_sendRoughly cX2_sendRoughly 4 (some .int)) := ⟨List.mem_of_getElem? (i := 440) (by decide +kernel), by decide +kernel⟩
theorem mw_439 : fz_M (.instanceMethod yX2_sendRoughly) := ⟨List.mem_of_getElem? (i := 439) (by decide +kernel), by decide +kernel⟩
theorem mw_12 : fz_M (.selects yX2_sendRoughly.cls yX2_sendRoughly yX2_sendRoughly) := ⟨List.mem_of_getElem? (i := 12) (by decide +kernel), by decide +kernel⟩
theorem mw_423 : fz_M (.methodLink RX2 161 yX1_meet) := ⟨List.mem_of_getElem? (i := 423) (by decide +kernel), by decide +kernel⟩
theorem mw_426 : fz_M (.code yX1_meet cX1_meet 4 none) := ⟨List.mem_of_getElem? (i := 426) (by decide +kernel), by decide +kernel⟩
theorem mw_424 : fz_M (.instanceMethod yX1_meet) := ⟨List.mem_of_getElem? (i := 424) (by decide +kernel), by decide +kernel⟩
theorem mw_425 : fz_M (.selects yX1_meet.cls yX1_meet yX1_meet) := ⟨List.mem_of_getElem? (i := 425) (by decide +kernel), by decide +kernel⟩
theorem mw_46 : fz_M (.methodLink RL 50 yX3_init) := ⟨List.mem_of_getElem? (i := 46) (by decide +kernel), by decide +kernel⟩
theorem mw_48 : fz_M (.code yX3_init cX3_init 1 none) := ⟨List.mem_of_getElem? (i := 48) (by decide +kernel), by decide +kernel⟩
theorem mw_47 : fz_M (.instanceMethod yX3_init) := ⟨List.mem_of_getElem? (i := 47) (by decide +kernel), by decide +kernel⟩
theorem mw_34 : fz_M (.initialized "FarScreenModel") := ⟨List.mem_of_getElem? (i := 34) (by decide +kernel), by decide +kernel⟩
theorem mw_517 : fz_M (.methodLink RL 53 yX4_init) := ⟨List.mem_of_getElem? (i := 517) (by decide +kernel), by decide +kernel⟩
theorem mw_519 : fz_M (.code yX4_init cX4_init 2 none) := ⟨List.mem_of_getElem? (i := 519) (by decide +kernel), by decide +kernel⟩
theorem mw_518 : fz_M (.instanceMethod yX4_init) := ⟨List.mem_of_getElem? (i := 518) (by decide +kernel), by decide +kernel⟩
theorem mw_29 : fz_M (.initialized "FarScreenLaw") := ⟨List.mem_of_getElem? (i := 29) (by decide +kernel), by decide +kernel⟩
theorem mw_198 : fz_M (.methodLink RL 54 yL_fill) := ⟨List.mem_of_getElem? (i := 198) (by decide +kernel), by decide +kernel⟩
theorem mw_326 : fz_M (.methodLink RL 64 yL_move) := ⟨List.mem_of_getElem? (i := 326) (by decide +kernel), by decide +kernel⟩
theorem mw_348 : fz_M (.methodLink RL 68 yL_look) := ⟨List.mem_of_getElem? (i := 348) (by decide +kernel), by decide +kernel⟩
theorem mw_356 : fz_M (.methodLink RL 72 yL_step) := ⟨List.mem_of_getElem? (i := 356) (by decide +kernel), by decide +kernel⟩
theorem mw_446 : fz_M (.methodLink RL 80 yL_near) := ⟨List.mem_of_getElem? (i := 446) (by decide +kernel), by decide +kernel⟩
theorem mw_453 : fz_M (.methodLink RL 83 yL_far) := ⟨List.mem_of_getElem? (i := 453) (by decide +kernel), by decide +kernel⟩
theorem mw_460 : fz_M (.methodLink RL 86 yL_kind) := ⟨List.mem_of_getElem? (i := 460) (by decide +kernel), by decide +kernel⟩
theorem mw_468 : fz_M (.methodLink RL 89 yL_since) := ⟨List.mem_of_getElem? (i := 468) (by decide +kernel), by decide +kernel⟩
theorem mw_475 : fz_M (.methodLink RL 105 yL_known) := ⟨List.mem_of_getElem? (i := 475) (by decide +kernel), by decide +kernel⟩
theorem mw_483 : fz_M (.methodLink RL 112 yL_sent) := ⟨List.mem_of_getElem? (i := 483) (by decide +kernel), by decide +kernel⟩
theorem mw_491 : fz_M (.methodLink RL 123 yL_stepsToGo) := ⟨List.mem_of_getElem? (i := 491) (by decide +kernel), by decide +kernel⟩
theorem mw_203 : fz_M (.methodLink RL 7 yX3_fill) := ⟨List.mem_of_getElem? (i := 203) (by decide +kernel), by decide +kernel⟩
theorem mw_206 : fz_M (.code yX3_fill cX3_fill 6 (some .int)) := ⟨List.mem_of_getElem? (i := 206) (by decide +kernel), by decide +kernel⟩
theorem mw_204 : fz_M (.instanceMethod yX3_fill) := ⟨List.mem_of_getElem? (i := 204) (by decide +kernel), by decide +kernel⟩
theorem mw_205 : fz_M (.selects yX3_fill.cls yX3_fill yX3_fill) := ⟨List.mem_of_getElem? (i := 205) (by decide +kernel), by decide +kernel⟩
theorem mw_329 : fz_M (.methodLink RL 17 yX3_move) := ⟨List.mem_of_getElem? (i := 329) (by decide +kernel), by decide +kernel⟩
theorem mw_332 : fz_M (.code yX3_move cX3_move 7 (some .int)) := ⟨List.mem_of_getElem? (i := 332) (by decide +kernel), by decide +kernel⟩
theorem mw_330 : fz_M (.instanceMethod yX3_move) := ⟨List.mem_of_getElem? (i := 330) (by decide +kernel), by decide +kernel⟩
theorem mw_331 : fz_M (.selects yX3_move.cls yX3_move yX3_move) := ⟨List.mem_of_getElem? (i := 331) (by decide +kernel), by decide +kernel⟩
theorem mw_351 : fz_M (.methodLink RL 21 yX3_look) := ⟨List.mem_of_getElem? (i := 351) (by decide +kernel), by decide +kernel⟩
theorem mw_354 : fz_M (.code yX3_look cX3_look 4 (some .int)) := ⟨List.mem_of_getElem? (i := 354) (by decide +kernel), by decide +kernel⟩
theorem mw_352 : fz_M (.instanceMethod yX3_look) := ⟨List.mem_of_getElem? (i := 352) (by decide +kernel), by decide +kernel⟩
theorem mw_353 : fz_M (.selects yX3_look.cls yX3_look yX3_look) := ⟨List.mem_of_getElem? (i := 353) (by decide +kernel), by decide +kernel⟩
theorem mw_359 : fz_M (.methodLink RL 25 yX3_step) := ⟨List.mem_of_getElem? (i := 359) (by decide +kernel), by decide +kernel⟩
theorem mw_362 : fz_M (.code yX3_step cX3_step 2 (some .int)) := ⟨List.mem_of_getElem? (i := 362) (by decide +kernel), by decide +kernel⟩
theorem mw_360 : fz_M (.instanceMethod yX3_step) := ⟨List.mem_of_getElem? (i := 360) (by decide +kernel), by decide +kernel⟩
theorem mw_361 : fz_M (.selects yX3_step.cls yX3_step yX3_step) := ⟨List.mem_of_getElem? (i := 361) (by decide +kernel), by decide +kernel⟩
theorem mw_449 : fz_M (.methodLink RL 29 yX3_near) := ⟨List.mem_of_getElem? (i := 449) (by decide +kernel), by decide +kernel⟩
theorem mw_452 : fz_M (.code yX3_near cX3_near 3 (some .int)) := ⟨List.mem_of_getElem? (i := 452) (by decide +kernel), by decide +kernel⟩
theorem mw_450 : fz_M (.instanceMethod yX3_near) := ⟨List.mem_of_getElem? (i := 450) (by decide +kernel), by decide +kernel⟩
theorem mw_451 : fz_M (.selects yX3_near.cls yX3_near yX3_near) := ⟨List.mem_of_getElem? (i := 451) (by decide +kernel), by decide +kernel⟩
theorem mw_456 : fz_M (.methodLink RL 32 yX3_far) := ⟨List.mem_of_getElem? (i := 456) (by decide +kernel), by decide +kernel⟩
theorem mw_459 : fz_M (.code yX3_far cX3_far 3 (some .int)) := ⟨List.mem_of_getElem? (i := 459) (by decide +kernel), by decide +kernel⟩
theorem mw_457 : fz_M (.instanceMethod yX3_far) := ⟨List.mem_of_getElem? (i := 457) (by decide +kernel), by decide +kernel⟩
theorem mw_458 : fz_M (.selects yX3_far.cls yX3_far yX3_far) := ⟨List.mem_of_getElem? (i := 458) (by decide +kernel), by decide +kernel⟩
theorem mw_463 : fz_M (.methodLink RL 35 yX3_kind) := ⟨List.mem_of_getElem? (i := 463) (by decide +kernel), by decide +kernel⟩
theorem mw_466 : fz_M (.code yX3_kind cX3_kind 3 (some .int)) := ⟨List.mem_of_getElem? (i := 466) (by decide +kernel), by decide +kernel⟩
theorem mw_464 : fz_M (.instanceMethod yX3_kind) := ⟨List.mem_of_getElem? (i := 464) (by decide +kernel), by decide +kernel⟩
theorem mw_465 : fz_M (.selects yX3_kind.cls yX3_kind yX3_kind) := ⟨List.mem_of_getElem? (i := 465) (by decide +kernel), by decide +kernel⟩
theorem mw_471 : fz_M (.methodLink RL 38 yX3_since) := ⟨List.mem_of_getElem? (i := 471) (by decide +kernel), by decide +kernel⟩
theorem mw_474 : fz_M (.code yX3_since cX3_since 3 (some .int)) := ⟨List.mem_of_getElem? (i := 474) (by decide +kernel), by decide +kernel⟩
theorem mw_472 : fz_M (.instanceMethod yX3_since) := ⟨List.mem_of_getElem? (i := 472) (by decide +kernel), by decide +kernel⟩
theorem mw_473 : fz_M (.selects yX3_since.cls yX3_since yX3_since) := ⟨List.mem_of_getElem? (i := 473) (by decide +kernel), by decide +kernel⟩
theorem mw_478 : fz_M (.methodLink RL 41 yX3_known) := ⟨List.mem_of_getElem? (i := 478) (by decide +kernel), by decide +kernel⟩
theorem mw_481 : fz_M (.code yX3_known cX3_known 2 (some .int)) := ⟨List.mem_of_getElem? (i := 481) (by decide +kernel), by decide +kernel⟩
theorem mw_479 : fz_M (.instanceMethod yX3_known) := ⟨List.mem_of_getElem? (i := 479) (by decide +kernel), by decide +kernel⟩
theorem mw_480 : fz_M (.selects yX3_known.cls yX3_known yX3_known) := ⟨List.mem_of_getElem? (i := 480) (by decide +kernel), by decide +kernel⟩
theorem mw_486 : fz_M (.methodLink RL 44 yX3_sent) := ⟨List.mem_of_getElem? (i := 486) (by decide +kernel), by decide +kernel⟩
theorem mw_489 : fz_M (.code yX3_sent cX3_sent 2 (some .int)) := ⟨List.mem_of_getElem? (i := 489) (by decide +kernel), by decide +kernel⟩
theorem mw_487 : fz_M (.instanceMethod yX3_sent) := ⟨List.mem_of_getElem? (i := 487) (by decide +kernel), by decide +kernel⟩
theorem mw_488 : fz_M (.selects yX3_sent.cls yX3_sent yX3_sent) := ⟨List.mem_of_getElem? (i := 488) (by decide +kernel), by decide +kernel⟩
theorem mw_494 : fz_M (.methodLink RL 47 yX3_stepsToGo) := ⟨List.mem_of_getElem? (i := 494) (by decide +kernel), by decide +kernel⟩
theorem mw_497 : fz_M (.code yX3_stepsToGo cX3_stepsToGo 5 (some .int)) := ⟨List.mem_of_getElem? (i := 497) (by decide +kernel), by decide +kernel⟩
theorem mw_495 : fz_M (.instanceMethod yX3_stepsToGo) := ⟨List.mem_of_getElem? (i := 495) (by decide +kernel), by decide +kernel⟩
theorem mw_496 : fz_M (.selects yX3_stepsToGo.cls yX3_stepsToGo yX3_stepsToGo) := ⟨List.mem_of_getElem? (i := 496) (by decide +kernel), by decide +kernel⟩
theorem mw_590 : fz_M (.methodLink RL 59 yX4_fill) := ⟨List.mem_of_getElem? (i := 590) (by decide +kernel), by decide +kernel⟩
theorem mw_593 : fz_M (.code yX4_fill cX4_fill 7 (some .int)) := ⟨List.mem_of_getElem? (i := 593) (by decide +kernel), by decide +kernel⟩
theorem mw_591 : fz_M (.instanceMethod yX4_fill) := ⟨List.mem_of_getElem? (i := 591) (by decide +kernel), by decide +kernel⟩
theorem mw_592 : fz_M (.selects yX4_fill.cls yX4_fill yX4_fill) := ⟨List.mem_of_getElem? (i := 592) (by decide +kernel), by decide +kernel⟩
theorem mw_586 : fz_M (.methodLink RL 60 yX4_thrown) := ⟨List.mem_of_getElem? (i := 586) (by decide +kernel), by decide +kernel⟩
theorem mw_589 : fz_M (.code yX4_thrown cX4_thrown 1 (some .int)) := ⟨List.mem_of_getElem? (i := 589) (by decide +kernel), by decide +kernel⟩
theorem mw_587 : fz_M (.instanceMethod yX4_thrown) := ⟨List.mem_of_getElem? (i := 587) (by decide +kernel), by decide +kernel⟩
theorem mw_588 : fz_M (.selects yX4_thrown.cls yX4_thrown yX4_thrown) := ⟨List.mem_of_getElem? (i := 588) (by decide +kernel), by decide +kernel⟩
theorem mw_615 : fz_M (.methodLink RL 67 yX4_move) := ⟨List.mem_of_getElem? (i := 615) (by decide +kernel), by decide +kernel⟩
theorem mw_618 : fz_M (.code yX4_move cX4_move 9 (some .int)) := ⟨List.mem_of_getElem? (i := 618) (by decide +kernel), by decide +kernel⟩
theorem mw_616 : fz_M (.instanceMethod yX4_move) := ⟨List.mem_of_getElem? (i := 616) (by decide +kernel), by decide +kernel⟩
theorem mw_617 : fz_M (.selects yX4_move.cls yX4_move yX4_move) := ⟨List.mem_of_getElem? (i := 617) (by decide +kernel), by decide +kernel⟩
theorem mw_623 : fz_M (.methodLink RL 71 yX4_look) := ⟨List.mem_of_getElem? (i := 623) (by decide +kernel), by decide +kernel⟩
theorem mw_626 : fz_M (.code yX4_look cX4_look 4 (some .int)) := ⟨List.mem_of_getElem? (i := 626) (by decide +kernel), by decide +kernel⟩
theorem mw_624 : fz_M (.instanceMethod yX4_look) := ⟨List.mem_of_getElem? (i := 624) (by decide +kernel), by decide +kernel⟩
theorem mw_625 : fz_M (.selects yX4_look.cls yX4_look yX4_look) := ⟨List.mem_of_getElem? (i := 625) (by decide +kernel), by decide +kernel⟩
theorem mw_627 : fz_M (.methodLink RL 75 yX4_step) := ⟨List.mem_of_getElem? (i := 627) (by decide +kernel), by decide +kernel⟩
theorem mw_630 : fz_M (.code yX4_step cX4_step 3 (some .int)) := ⟨List.mem_of_getElem? (i := 630) (by decide +kernel), by decide +kernel⟩
theorem mw_628 : fz_M (.instanceMethod yX4_step) := ⟨List.mem_of_getElem? (i := 628) (by decide +kernel), by decide +kernel⟩
theorem mw_629 : fz_M (.selects yX4_step.cls yX4_step yX4_step) := ⟨List.mem_of_getElem? (i := 629) (by decide +kernel), by decide +kernel⟩
theorem mw_159 : fz_M (.methodLink RL 76 yX3_time) := ⟨List.mem_of_getElem? (i := 159) (by decide +kernel), by decide +kernel⟩
theorem mw_162 : fz_M (.code yX3_time cX3_time 1 (some .int)) := ⟨List.mem_of_getElem? (i := 162) (by decide +kernel), by decide +kernel⟩
theorem mw_160 : fz_M (.instanceMethod yX3_time) := ⟨List.mem_of_getElem? (i := 160) (by decide +kernel), by decide +kernel⟩
theorem mw_161 : fz_M (.selects yX3_time.cls yX3_time yX3_time) := ⟨List.mem_of_getElem? (i := 161) (by decide +kernel), by decide +kernel⟩
theorem mw_663 : fz_M (.methodLink RL 79 yX4_time) := ⟨List.mem_of_getElem? (i := 663) (by decide +kernel), by decide +kernel⟩
theorem mw_666 : fz_M (.code yX4_time cX4_time 1 (some .int)) := ⟨List.mem_of_getElem? (i := 666) (by decide +kernel), by decide +kernel⟩
theorem mw_664 : fz_M (.instanceMethod yX4_time) := ⟨List.mem_of_getElem? (i := 664) (by decide +kernel), by decide +kernel⟩
theorem mw_665 : fz_M (.selects yX4_time.cls yX4_time yX4_time) := ⟨List.mem_of_getElem? (i := 665) (by decide +kernel), by decide +kernel⟩
theorem mw_667 : fz_M (.methodLink RL 82 yX4_near) := ⟨List.mem_of_getElem? (i := 667) (by decide +kernel), by decide +kernel⟩
theorem mw_670 : fz_M (.code yX4_near cX4_near 3 (some .int)) := ⟨List.mem_of_getElem? (i := 670) (by decide +kernel), by decide +kernel⟩
theorem mw_668 : fz_M (.instanceMethod yX4_near) := ⟨List.mem_of_getElem? (i := 668) (by decide +kernel), by decide +kernel⟩
theorem mw_669 : fz_M (.selects yX4_near.cls yX4_near yX4_near) := ⟨List.mem_of_getElem? (i := 669) (by decide +kernel), by decide +kernel⟩
theorem mw_675 : fz_M (.methodLink RL 85 yX4_far) := ⟨List.mem_of_getElem? (i := 675) (by decide +kernel), by decide +kernel⟩
theorem mw_678 : fz_M (.code yX4_far cX4_far 3 (some .int)) := ⟨List.mem_of_getElem? (i := 678) (by decide +kernel), by decide +kernel⟩
theorem mw_676 : fz_M (.instanceMethod yX4_far) := ⟨List.mem_of_getElem? (i := 676) (by decide +kernel), by decide +kernel⟩
theorem mw_677 : fz_M (.selects yX4_far.cls yX4_far yX4_far) := ⟨List.mem_of_getElem? (i := 677) (by decide +kernel), by decide +kernel⟩
theorem mw_679 : fz_M (.methodLink RL 88 yX4_kind) := ⟨List.mem_of_getElem? (i := 679) (by decide +kernel), by decide +kernel⟩
theorem mw_682 : fz_M (.code yX4_kind cX4_kind 3 (some .int)) := ⟨List.mem_of_getElem? (i := 682) (by decide +kernel), by decide +kernel⟩
theorem mw_680 : fz_M (.instanceMethod yX4_kind) := ⟨List.mem_of_getElem? (i := 680) (by decide +kernel), by decide +kernel⟩
theorem mw_681 : fz_M (.selects yX4_kind.cls yX4_kind yX4_kind) := ⟨List.mem_of_getElem? (i := 681) (by decide +kernel), by decide +kernel⟩
theorem mw_683 : fz_M (.methodLink RL 91 yX4_since) := ⟨List.mem_of_getElem? (i := 683) (by decide +kernel), by decide +kernel⟩
theorem mw_686 : fz_M (.code yX4_since cX4_since 3 (some .int)) := ⟨List.mem_of_getElem? (i := 686) (by decide +kernel), by decide +kernel⟩
theorem mw_684 : fz_M (.instanceMethod yX4_since) := ⟨List.mem_of_getElem? (i := 684) (by decide +kernel), by decide +kernel⟩
theorem mw_685 : fz_M (.selects yX4_since.cls yX4_since yX4_since) := ⟨List.mem_of_getElem? (i := 685) (by decide +kernel), by decide +kernel⟩
theorem mw_163 : fz_M (.methodLink RL 92 yX3_unlike) := ⟨List.mem_of_getElem? (i := 163) (by decide +kernel), by decide +kernel⟩
theorem mw_166 : fz_M (.code yX3_unlike cX3_unlike 1 (some .long)) := ⟨List.mem_of_getElem? (i := 166) (by decide +kernel), by decide +kernel⟩
theorem mw_164 : fz_M (.instanceMethod yX3_unlike) := ⟨List.mem_of_getElem? (i := 164) (by decide +kernel), by decide +kernel⟩
theorem mw_165 : fz_M (.selects yX3_unlike.cls yX3_unlike yX3_unlike) := ⟨List.mem_of_getElem? (i := 165) (by decide +kernel), by decide +kernel⟩
theorem mw_687 : fz_M (.methodLink RL 96 yX4_unlike) := ⟨List.mem_of_getElem? (i := 687) (by decide +kernel), by decide +kernel⟩
theorem mw_690 : fz_M (.code yX4_unlike cX4_unlike 4 (some .long)) := ⟨List.mem_of_getElem? (i := 690) (by decide +kernel), by decide +kernel⟩
theorem mw_688 : fz_M (.instanceMethod yX4_unlike) := ⟨List.mem_of_getElem? (i := 688) (by decide +kernel), by decide +kernel⟩
theorem mw_689 : fz_M (.selects yX4_unlike.cls yX4_unlike yX4_unlike) := ⟨List.mem_of_getElem? (i := 689) (by decide +kernel), by decide +kernel⟩
theorem mw_171 : fz_M (.methodLink RL 97 yX3_rough) := ⟨List.mem_of_getElem? (i := 171) (by decide +kernel), by decide +kernel⟩
theorem mw_174 : fz_M (.code yX3_rough cX3_rough 1 (some .int)) := ⟨List.mem_of_getElem? (i := 174) (by decide +kernel), by decide +kernel⟩
theorem mw_172 : fz_M (.instanceMethod yX3_rough) := ⟨List.mem_of_getElem? (i := 172) (by decide +kernel), by decide +kernel⟩
theorem mw_173 : fz_M (.selects yX3_rough.cls yX3_rough yX3_rough) := ⟨List.mem_of_getElem? (i := 173) (by decide +kernel), by decide +kernel⟩
theorem mw_691 : fz_M (.methodLink RL 100 yX4_rough) := ⟨List.mem_of_getElem? (i := 691) (by decide +kernel), by decide +kernel⟩
theorem mw_694 : fz_M (.code yX4_rough cX4_rough 3 (some .int)) := ⟨List.mem_of_getElem? (i := 694) (by decide +kernel), by decide +kernel⟩
theorem mw_692 : fz_M (.instanceMethod yX4_rough) := ⟨List.mem_of_getElem? (i := 692) (by decide +kernel), by decide +kernel⟩
theorem mw_693 : fz_M (.selects yX4_rough.cls yX4_rough yX4_rough) := ⟨List.mem_of_getElem? (i := 693) (by decide +kernel), by decide +kernel⟩
theorem mw_179 : fz_M (.methodLink RL 101 yX3_waiting) := ⟨List.mem_of_getElem? (i := 179) (by decide +kernel), by decide +kernel⟩
theorem mw_182 : fz_M (.code yX3_waiting cX3_waiting 1 (some .int)) := ⟨List.mem_of_getElem? (i := 182) (by decide +kernel), by decide +kernel⟩
theorem mw_180 : fz_M (.instanceMethod yX3_waiting) := ⟨List.mem_of_getElem? (i := 180) (by decide +kernel), by decide +kernel⟩
theorem mw_181 : fz_M (.selects yX3_waiting.cls yX3_waiting yX3_waiting) := ⟨List.mem_of_getElem? (i := 181) (by decide +kernel), by decide +kernel⟩
theorem mw_695 : fz_M (.methodLink RL 104 yX4_waiting) := ⟨List.mem_of_getElem? (i := 695) (by decide +kernel), by decide +kernel⟩
theorem mw_698 : fz_M (.code yX4_waiting cX4_waiting 1 (some .int)) := ⟨List.mem_of_getElem? (i := 698) (by decide +kernel), by decide +kernel⟩
theorem mw_696 : fz_M (.instanceMethod yX4_waiting) := ⟨List.mem_of_getElem? (i := 696) (by decide +kernel), by decide +kernel⟩
theorem mw_697 : fz_M (.selects yX4_waiting.cls yX4_waiting yX4_waiting) := ⟨List.mem_of_getElem? (i := 697) (by decide +kernel), by decide +kernel⟩
theorem mw_699 : fz_M (.methodLink RL 107 yX4_known) := ⟨List.mem_of_getElem? (i := 699) (by decide +kernel), by decide +kernel⟩
theorem mw_702 : fz_M (.code yX4_known cX4_known 2 (some .int)) := ⟨List.mem_of_getElem? (i := 702) (by decide +kernel), by decide +kernel⟩
theorem mw_700 : fz_M (.instanceMethod yX4_known) := ⟨List.mem_of_getElem? (i := 700) (by decide +kernel), by decide +kernel⟩
theorem mw_701 : fz_M (.selects yX4_known.cls yX4_known yX4_known) := ⟨List.mem_of_getElem? (i := 701) (by decide +kernel), by decide +kernel⟩
theorem mw_183 : fz_M (.methodLink RL 108 yX3_knownPictures) := ⟨List.mem_of_getElem? (i := 183) (by decide +kernel), by decide +kernel⟩
theorem mw_186 : fz_M (.code yX3_knownPictures cX3_knownPictures 1 (some .int)) := ⟨List.mem_of_getElem? (i := 186) (by decide +kernel), by decide +kernel⟩
theorem mw_184 : fz_M (.instanceMethod yX3_knownPictures) := ⟨List.mem_of_getElem? (i := 184) (by decide +kernel), by decide +kernel⟩
theorem mw_185 : fz_M (.selects yX3_knownPictures.cls yX3_knownPictures yX3_knownPictures) := ⟨List.mem_of_getElem? (i := 185) (by decide +kernel), by decide +kernel⟩
theorem mw_703 : fz_M (.methodLink RL 111 yX4_knownPictures) := ⟨List.mem_of_getElem? (i := 703) (by decide +kernel), by decide +kernel⟩
theorem mw_706 : fz_M (.code yX4_knownPictures cX4_knownPictures 1 (some .int)) := ⟨List.mem_of_getElem? (i := 706) (by decide +kernel), by decide +kernel⟩
theorem mw_704 : fz_M (.instanceMethod yX4_knownPictures) := ⟨List.mem_of_getElem? (i := 704) (by decide +kernel), by decide +kernel⟩
theorem mw_705 : fz_M (.selects yX4_knownPictures.cls yX4_knownPictures yX4_knownPictures) := ⟨List.mem_of_getElem? (i := 705) (by decide +kernel), by decide +kernel⟩
theorem mw_707 : fz_M (.methodLink RL 114 yX4_sent) := ⟨List.mem_of_getElem? (i := 707) (by decide +kernel), by decide +kernel⟩
theorem mw_710 : fz_M (.code yX4_sent cX4_sent 2 (some .int)) := ⟨List.mem_of_getElem? (i := 710) (by decide +kernel), by decide +kernel⟩
theorem mw_708 : fz_M (.instanceMethod yX4_sent) := ⟨List.mem_of_getElem? (i := 708) (by decide +kernel), by decide +kernel⟩
theorem mw_709 : fz_M (.selects yX4_sent.cls yX4_sent yX4_sent) := ⟨List.mem_of_getElem? (i := 709) (by decide +kernel), by decide +kernel⟩
theorem mw_187 : fz_M (.methodLink RL 115 yX3_used) := ⟨List.mem_of_getElem? (i := 187) (by decide +kernel), by decide +kernel⟩
theorem mw_190 : fz_M (.code yX3_used cX3_used 1 (some .int)) := ⟨List.mem_of_getElem? (i := 190) (by decide +kernel), by decide +kernel⟩
theorem mw_188 : fz_M (.instanceMethod yX3_used) := ⟨List.mem_of_getElem? (i := 188) (by decide +kernel), by decide +kernel⟩
theorem mw_189 : fz_M (.selects yX3_used.cls yX3_used yX3_used) := ⟨List.mem_of_getElem? (i := 189) (by decide +kernel), by decide +kernel⟩
theorem mw_711 : fz_M (.methodLink RL 118 yX4_used) := ⟨List.mem_of_getElem? (i := 711) (by decide +kernel), by decide +kernel⟩
theorem mw_714 : fz_M (.code yX4_used cX4_used 1 (some .int)) := ⟨List.mem_of_getElem? (i := 714) (by decide +kernel), by decide +kernel⟩
theorem mw_712 : fz_M (.instanceMethod yX4_used) := ⟨List.mem_of_getElem? (i := 712) (by decide +kernel), by decide +kernel⟩
theorem mw_713 : fz_M (.selects yX4_used.cls yX4_used yX4_used) := ⟨List.mem_of_getElem? (i := 713) (by decide +kernel), by decide +kernel⟩
theorem mw_191 : fz_M (.methodLink RL 119 yX3_anew) := ⟨List.mem_of_getElem? (i := 191) (by decide +kernel), by decide +kernel⟩
theorem mw_194 : fz_M (.code yX3_anew cX3_anew 3 (some .int)) := ⟨List.mem_of_getElem? (i := 194) (by decide +kernel), by decide +kernel⟩
theorem mw_192 : fz_M (.instanceMethod yX3_anew) := ⟨List.mem_of_getElem? (i := 192) (by decide +kernel), by decide +kernel⟩
theorem mw_193 : fz_M (.selects yX3_anew.cls yX3_anew yX3_anew) := ⟨List.mem_of_getElem? (i := 193) (by decide +kernel), by decide +kernel⟩
theorem mw_715 : fz_M (.methodLink RL 122 yX4_anew) := ⟨List.mem_of_getElem? (i := 715) (by decide +kernel), by decide +kernel⟩
theorem mw_718 : fz_M (.code yX4_anew cX4_anew 3 (some .int)) := ⟨List.mem_of_getElem? (i := 718) (by decide +kernel), by decide +kernel⟩
theorem mw_716 : fz_M (.instanceMethod yX4_anew) := ⟨List.mem_of_getElem? (i := 716) (by decide +kernel), by decide +kernel⟩
theorem mw_717 : fz_M (.selects yX4_anew.cls yX4_anew yX4_anew) := ⟨List.mem_of_getElem? (i := 717) (by decide +kernel), by decide +kernel⟩
theorem mw_719 : fz_M (.methodLink RL 125 yX4_stepsToGo) := ⟨List.mem_of_getElem? (i := 719) (by decide +kernel), by decide +kernel⟩
theorem mw_722 : fz_M (.code yX4_stepsToGo cX4_stepsToGo 6 (some .int)) := ⟨List.mem_of_getElem? (i := 722) (by decide +kernel), by decide +kernel⟩
theorem mw_720 : fz_M (.instanceMethod yX4_stepsToGo) := ⟨List.mem_of_getElem? (i := 720) (by decide +kernel), by decide +kernel⟩
theorem mw_721 : fz_M (.selects yX4_stepsToGo.cls yX4_stepsToGo yX4_stepsToGo) := ⟨List.mem_of_getElem? (i := 721) (by decide +kernel), by decide +kernel⟩
theorem mw_524 : fz_M (.fieldLink RX4 7 RX4 (TX4 3).2.1 (TX4 3).2.2.1) := ⟨List.mem_of_getElem? (i := 524) (by decide +kernel), by decide +kernel⟩
theorem mw_525 : fz_M (.fieldLink RX4 13 RX4 (TX4 4).2.1 (TX4 4).2.2.1) := ⟨List.mem_of_getElem? (i := 525) (by decide +kernel), by decide +kernel⟩
theorem mw_526 : fz_M (.fieldLink RX4 16 RX4 (TX4 5).2.1 (TX4 5).2.2.1) := ⟨List.mem_of_getElem? (i := 526) (by decide +kernel), by decide +kernel⟩
theorem mw_527 : fz_M (.fieldLink RX4 19 RX4 (TX4 6).2.1 (TX4 6).2.2.1) := ⟨List.mem_of_getElem? (i := 527) (by decide +kernel), by decide +kernel⟩
theorem mw_529 : fz_M (.fieldLink RX4 22 RX4 (TX4 8).2.1 (TX4 8).2.2.1) := ⟨List.mem_of_getElem? (i := 529) (by decide +kernel), by decide +kernel⟩
theorem mw_530 : fz_M (.fieldLink RX4 25 RX4 (TX4 9).2.1 (TX4 9).2.2.1) := ⟨List.mem_of_getElem? (i := 530) (by decide +kernel), by decide +kernel⟩
theorem mw_531 : fz_M (.fieldLink RX4 28 RX4 (TX4 10).2.1 (TX4 10).2.2.1) := ⟨List.mem_of_getElem? (i := 531) (by decide +kernel), by decide +kernel⟩
theorem mw_532 : fz_M (.fieldLink RX4 31 RX4 (TX4 11).2.1 (TX4 11).2.2.1) := ⟨List.mem_of_getElem? (i := 532) (by decide +kernel), by decide +kernel⟩
theorem mw_534 : fz_M (.fieldLink RX4 34 RX4 (TX4 13).2.1 (TX4 13).2.2.1) := ⟨List.mem_of_getElem? (i := 534) (by decide +kernel), by decide +kernel⟩
theorem mw_535 : fz_M (.fieldLink RX4 37 RX4 (TX4 14).2.1 (TX4 14).2.2.1) := ⟨List.mem_of_getElem? (i := 535) (by decide +kernel), by decide +kernel⟩
theorem mw_537 : fz_M (.fieldLink RX4 40 RX4 (TX4 16).2.1 (TX4 16).2.2.1) := ⟨List.mem_of_getElem? (i := 537) (by decide +kernel), by decide +kernel⟩
theorem mw_538 : fz_M (.fieldLink RX4 43 RX4 (TX4 17).2.1 (TX4 17).2.2.1) := ⟨List.mem_of_getElem? (i := 538) (by decide +kernel), by decide +kernel⟩
theorem mw_539 : fz_M (.fieldLink RX4 47 RX4 (TX4 18).2.1 (TX4 18).2.2.1) := ⟨List.mem_of_getElem? (i := 539) (by decide +kernel), by decide +kernel⟩
theorem mw_540 : fz_M (.fieldLink RX4 50 RX4 (TX4 19).2.1 (TX4 19).2.2.1) := ⟨List.mem_of_getElem? (i := 540) (by decide +kernel), by decide +kernel⟩
theorem mw_521 : fz_M (.fieldLink RX4 53 RX4 (TX4 0).2.1 (TX4 0).2.2.1) := ⟨List.mem_of_getElem? (i := 521) (by decide +kernel), by decide +kernel⟩
theorem mw_522 : fz_M (.fieldLink RX4 65 RX4 (TX4 1).2.1 (TX4 1).2.2.1) := ⟨List.mem_of_getElem? (i := 522) (by decide +kernel), by decide +kernel⟩
theorem mw_528 : fz_M (.fieldLink RX4 88 RX4 (TX4 7).2.1 (TX4 7).2.2.1) := ⟨List.mem_of_getElem? (i := 528) (by decide +kernel), by decide +kernel⟩
theorem mw_523 : fz_M (.fieldLink RX4 91 RX4 (TX4 2).2.1 (TX4 2).2.2.1) := ⟨List.mem_of_getElem? (i := 523) (by decide +kernel), by decide +kernel⟩
theorem mw_533 : fz_M (.fieldLink RX4 94 RX4 (TX4 12).2.1 (TX4 12).2.2.1) := ⟨List.mem_of_getElem? (i := 533) (by decide +kernel), by decide +kernel⟩
theorem mw_536 : fz_M (.fieldLink RX4 124 RX4 (TX4 15).2.1 (TX4 15).2.2.1) := ⟨List.mem_of_getElem? (i := 536) (by decide +kernel), by decide +kernel⟩
theorem mw_541 : fz_M (.fieldLink RX4 130 RX4 (TX4 20).2.1 (TX4 20).2.2.1) := ⟨List.mem_of_getElem? (i := 541) (by decide +kernel), by decide +kernel⟩
theorem mw_600 : fz_M (.methodLink RX4 57 yX4_isIn) := ⟨List.mem_of_getElem? (i := 600) (by decide +kernel), by decide +kernel⟩
theorem mw_602 : fz_M (.code yX4_isIn cX4_isIn 3 (some .boolean)) := ⟨List.mem_of_getElem? (i := 602) (by decide +kernel), by decide +kernel⟩
theorem mw_601 : fz_M (.static yX4_isIn) := ⟨List.mem_of_getElem? (i := 601) (by decide +kernel), by decide +kernel⟩
theorem mw_597 : fz_M (.methodLink RX4 61 yX4_isTile) := ⟨List.mem_of_getElem? (i := 597) (by decide +kernel), by decide +kernel⟩
theorem mw_599 : fz_M (.code yX4_isTile cX4_isTile 2 (some .boolean)) := ⟨List.mem_of_getElem? (i := 599) (by decide +kernel), by decide +kernel⟩
theorem mw_598 : fz_M (.static yX4_isTile) := ⟨List.mem_of_getElem? (i := 598) (by decide +kernel), by decide +kernel⟩
theorem mw_594 : fz_M (.methodLink RX4 72 yX4_isBlock) := ⟨List.mem_of_getElem? (i := 594) (by decide +kernel), by decide +kernel⟩
theorem mw_596 : fz_M (.code yX4_isBlock cX4_isBlock 4 (some .boolean)) := ⟨List.mem_of_getElem? (i := 596) (by decide +kernel), by decide +kernel⟩
theorem mw_595 : fz_M (.static yX4_isBlock) := ⟨List.mem_of_getElem? (i := 595) (by decide +kernel), by decide +kernel⟩
theorem mw_607 : fz_M (.methodLink RX4 68 yX4_compares) := ⟨List.mem_of_getElem? (i := 607) (by decide +kernel), by decide +kernel⟩
theorem mw_610 : fz_M (.code yX4_compares cX4_compares 3 none) := ⟨List.mem_of_getElem? (i := 610) (by decide +kernel), by decide +kernel⟩
theorem mw_609 : fz_M (.instanceMethod yX4_compares) := ⟨List.mem_of_getElem? (i := 609) (by decide +kernel), by decide +kernel⟩
theorem mw_15 : fz_M (.selects yX4_compares.cls yX4_compares yX4_compares) := ⟨List.mem_of_getElem? (i := 15) (by decide +kernel), by decide +kernel⟩
theorem mw_603 : fz_M (.methodLink RX4 76 yX4_draws) := ⟨List.mem_of_getElem? (i := 603) (by decide +kernel), by decide +kernel⟩
theorem mw_606 : fz_M (.code yX4_draws cX4_draws 3 none) := ⟨List.mem_of_getElem? (i := 606) (by decide +kernel), by decide +kernel⟩
theorem mw_605 : fz_M (.instanceMethod yX4_draws) := ⟨List.mem_of_getElem? (i := 605) (by decide +kernel), by decide +kernel⟩
theorem mw_14 : fz_M (.selects yX4_draws.cls yX4_draws yX4_draws) := ⟨List.mem_of_getElem? (i := 14) (by decide +kernel), by decide +kernel⟩
theorem mw_611 : fz_M (.methodLink RX4 80 yX4_unlikeTiles) := ⟨List.mem_of_getElem? (i := 611) (by decide +kernel), by decide +kernel⟩
theorem mw_614 : fz_M (.code yX4_unlikeTiles cX4_unlikeTiles 3 (some .int)) := ⟨List.mem_of_getElem? (i := 614) (by decide +kernel), by decide +kernel⟩
theorem mw_613 : fz_M (.instanceMethod yX4_unlikeTiles) := ⟨List.mem_of_getElem? (i := 613) (by decide +kernel), by decide +kernel⟩
theorem mw_16 : fz_M (.selects yX4_unlikeTiles.cls yX4_unlikeTiles yX4_unlikeTiles) := ⟨List.mem_of_getElem? (i := 16) (by decide +kernel), by decide +kernel⟩
theorem mw_619 : fz_M (.methodLink RX4 84 yX4_copies) := ⟨List.mem_of_getElem? (i := 619) (by decide +kernel), by decide +kernel⟩
theorem mw_622 : fz_M (.code yX4_copies cX4_copies 6 none) := ⟨List.mem_of_getElem? (i := 622) (by decide +kernel), by decide +kernel⟩
theorem mw_621 : fz_M (.instanceMethod yX4_copies) := ⟨List.mem_of_getElem? (i := 621) (by decide +kernel), by decide +kernel⟩
theorem mw_17 : fz_M (.selects yX4_copies.cls yX4_copies yX4_copies) := ⟨List.mem_of_getElem? (i := 17) (by decide +kernel), by decide +kernel⟩
theorem mw_651 : fz_M (.methodLink RX4 97 yX4_isKnown) := ⟨List.mem_of_getElem? (i := 651) (by decide +kernel), by decide +kernel⟩
theorem mw_654 : fz_M (.code yX4_isKnown cX4_isKnown 4 (some .boolean)) := ⟨List.mem_of_getElem? (i := 654) (by decide +kernel), by decide +kernel⟩
theorem mw_653 : fz_M (.instanceMethod yX4_isKnown) := ⟨List.mem_of_getElem? (i := 653) (by decide +kernel), by decide +kernel⟩
theorem mw_23 : fz_M (.selects yX4_isKnown.cls yX4_isKnown yX4_isKnown) := ⟨List.mem_of_getElem? (i := 23) (by decide +kernel), by decide +kernel⟩
theorem mw_655 : fz_M (.methodLink RX4 101 yX4_kindOf) := ⟨List.mem_of_getElem? (i := 655) (by decide +kernel), by decide +kernel⟩
theorem mw_658 : fz_M (.code yX4_kindOf cX4_kindOf 4 (some .int)) := ⟨List.mem_of_getElem? (i := 658) (by decide +kernel), by decide +kernel⟩
theorem mw_657 : fz_M (.instanceMethod yX4_kindOf) := ⟨List.mem_of_getElem? (i := 657) (by decide +kernel), by decide +kernel⟩
theorem mw_24 : fz_M (.selects yX4_kindOf.cls yX4_kindOf yX4_kindOf) := ⟨List.mem_of_getElem? (i := 24) (by decide +kernel), by decide +kernel⟩
theorem mw_659 : fz_M (.methodLink RX4 105 yX4_meets) := ⟨List.mem_of_getElem? (i := 659) (by decide +kernel), by decide +kernel⟩
theorem mw_662 : fz_M (.code yX4_meets cX4_meets 4 none) := ⟨List.mem_of_getElem? (i := 662) (by decide +kernel), by decide +kernel⟩
theorem mw_661 : fz_M (.instanceMethod yX4_meets) := ⟨List.mem_of_getElem? (i := 661) (by decide +kernel), by decide +kernel⟩
theorem mw_25 : fz_M (.selects yX4_meets.cls yX4_meets yX4_meets) := ⟨List.mem_of_getElem? (i := 25) (by decide +kernel), by decide +kernel⟩
theorem mw_635 : fz_M (.methodLink RX4 108 yX4_tellsMove) := ⟨List.mem_of_getElem? (i := 635) (by decide +kernel), by decide +kernel⟩
theorem mw_638 : fz_M (.code yX4_tellsMove cX4_tellsMove 4 none) := ⟨List.mem_of_getElem? (i := 638) (by decide +kernel), by decide +kernel⟩
theorem mw_637 : fz_M (.instanceMethod yX4_tellsMove) := ⟨List.mem_of_getElem? (i := 637) (by decide +kernel), by decide +kernel⟩
theorem mw_19 : fz_M (.selects yX4_tellsMove.cls yX4_tellsMove yX4_tellsMove) := ⟨List.mem_of_getElem? (i := 19) (by decide +kernel), by decide +kernel⟩
theorem mw_639 : fz_M (.methodLink RX4 111 yX4_isLookedAt) := ⟨List.mem_of_getElem? (i := 639) (by decide +kernel), by decide +kernel⟩
theorem mw_642 : fz_M (.code yX4_isLookedAt cX4_isLookedAt 4 (some .boolean)) := ⟨List.mem_of_getElem? (i := 642) (by decide +kernel), by decide +kernel⟩
theorem mw_641 : fz_M (.instanceMethod yX4_isLookedAt) := ⟨List.mem_of_getElem? (i := 641) (by decide +kernel), by decide +kernel⟩
theorem mw_20 : fz_M (.selects yX4_isLookedAt.cls yX4_isLookedAt yX4_isLookedAt) := ⟨List.mem_of_getElem? (i := 20) (by decide +kernel), by decide +kernel⟩
theorem mw_643 : fz_M (.methodLink RX4 114 yX4_nextTile) := ⟨List.mem_of_getElem? (i := 643) (by decide +kernel), by decide +kernel⟩
theorem mw_646 : fz_M (.code yX4_nextTile cX4_nextTile 3 (some .int)) := ⟨List.mem_of_getElem? (i := 646) (by decide +kernel), by decide +kernel⟩
theorem mw_645 : fz_M (.instanceMethod yX4_nextTile) := ⟨List.mem_of_getElem? (i := 645) (by decide +kernel), by decide +kernel⟩
theorem mw_21 : fz_M (.selects yX4_nextTile.cls yX4_nextTile yX4_nextTile) := ⟨List.mem_of_getElem? (i := 21) (by decide +kernel), by decide +kernel⟩
theorem mw_647 : fz_M (.methodLink RX4 117 yX4_sends) := ⟨List.mem_of_getElem? (i := 647) (by decide +kernel), by decide +kernel⟩
theorem mw_650 : fz_M (.code yX4_sends cX4_sends 7 (some .int)) := ⟨List.mem_of_getElem? (i := 650) (by decide +kernel), by decide +kernel⟩
theorem mw_649 : fz_M (.instanceMethod yX4_sends) := ⟨List.mem_of_getElem? (i := 649) (by decide +kernel), by decide +kernel⟩
theorem mw_22 : fz_M (.selects yX4_sends.cls yX4_sends yX4_sends) := ⟨List.mem_of_getElem? (i := 22) (by decide +kernel), by decide +kernel⟩
theorem mw_631 : fz_M (.methodLink RX4 121 yX4_passes) := ⟨List.mem_of_getElem? (i := 631) (by decide +kernel), by decide +kernel⟩
theorem mw_634 : fz_M (.code yX4_passes cX4_passes 5 (some .int)) := ⟨List.mem_of_getElem? (i := 634) (by decide +kernel), by decide +kernel⟩
theorem mw_633 : fz_M (.instanceMethod yX4_passes) := ⟨List.mem_of_getElem? (i := 633) (by decide +kernel), by decide +kernel⟩
theorem mw_18 : fz_M (.selects yX4_passes.cls yX4_passes yX4_passes) := ⟨List.mem_of_getElem? (i := 18) (by decide +kernel), by decide +kernel⟩
theorem mw_671 : fz_M (.methodLink RX4 127 yX4_asks) := ⟨List.mem_of_getElem? (i := 671) (by decide +kernel), by decide +kernel⟩
theorem mw_674 : fz_M (.code yX4_asks cX4_asks 3 (some .boolean)) := ⟨List.mem_of_getElem? (i := 674) (by decide +kernel), by decide +kernel⟩
theorem mw_673 : fz_M (.instanceMethod yX4_asks) := ⟨List.mem_of_getElem? (i := 673) (by decide +kernel), by decide +kernel⟩
theorem mw_26 : fz_M (.selects yX4_asks.cls yX4_asks yX4_asks) := ⟨List.mem_of_getElem? (i := 26) (by decide +kernel), by decide +kernel⟩
theorem mw_727 : fz_M (.methodLink RX4 133 yX4_keeps) := ⟨List.mem_of_getElem? (i := 727) (by decide +kernel), by decide +kernel⟩
theorem mw_730 : fz_M (.code yX4_keeps cX4_keeps 5 none) := ⟨List.mem_of_getElem? (i := 730) (by decide +kernel), by decide +kernel⟩
theorem mw_729 : fz_M (.instanceMethod yX4_keeps) := ⟨List.mem_of_getElem? (i := 729) (by decide +kernel), by decide +kernel⟩
theorem mw_28 : fz_M (.selects yX4_keeps.cls yX4_keeps yX4_keeps) := ⟨List.mem_of_getElem? (i := 28) (by decide +kernel), by decide +kernel⟩
theorem mw_723 : fz_M (.methodLink RX4 137 yX4_keepsAll) := ⟨List.mem_of_getElem? (i := 723) (by decide +kernel), by decide +kernel⟩
theorem mw_726 : fz_M (.code yX4_keepsAll cX4_keepsAll 2 none) := ⟨List.mem_of_getElem? (i := 726) (by decide +kernel), by decide +kernel⟩
theorem mw_725 : fz_M (.instanceMethod yX4_keepsAll) := ⟨List.mem_of_getElem? (i := 725) (by decide +kernel), by decide +kernel⟩
theorem mw_27 : fz_M (.selects yX4_keepsAll.cls yX4_keepsAll yX4_keepsAll) := ⟨List.mem_of_getElem? (i := 27) (by decide +kernel), by decide +kernel⟩
section FZL
variable {p : Program} {l : Launch} {e : Env} {R : Room} {s : State} {m : MethodId} {args : Array Value} {below : List Frame} {meth : Method} {c : Code} {H : Heap} {locs : List Loc} {cells slots : Nat} {Q : State → Prop}
variable {cc : ByteArray} {n : Nat} {ret : Option FieldType} {g : GG} {A : Nat → Prop} {ws : va_W} {pc : Nat} {ls : Array Slot} {rest : List Value} {a : Nat}
theorem fz_pn {own : String} (X : fz_X p s m meth c own cc n ret g A) (hW : fz_W g A s ws H locs) {C host : String} {T : u_T} {N ci index : Nat} (hin : ∀ w ∈ u_ws C T N, fz_M w) (hc : classes[ci]? = some (C, T, N)) (ty0 : Nat → FieldType) (hty : ∀ k, k < N → parseFieldDescriptor (T k).2.2.1 = some (ty0 k)) (hnm : ∀ a, a < N → ∀ b, b < N → a ≠ b → (T a).2.1 ≠ (T b).2.1) (k : Nat) (hk : k < N) (hlink : fz_M (.fieldLinkNest own index C (T k).2.1 (T k).2.2.1 host)) (hT : (T k).1 = C) (hfin : (T k).2.2.2 = false) {v : Value} (hnr : narrow (ty0 k) v = v) (hfit : fits (ty0 k) v = true) (q0 : Nat) {fs : List Value} (he : ws[q0]? = some (a, .inr (ci, fs))) (hl : k < fs.length) (hdg : decode cc pc = .ok (.putfield index, 3))
    (kk : ∀ (H1 : Heap) (locs1 : List Loc), fz_W g A s (ws.set q0 (a, .inr (ci, fs.set k v))) H1 locs1 → W p l e R s m args below meth c H1 locs1 cells slots Q (F0 m (pc + 3) ls rest)) : W p l e R s m args below meth c H locs cells slots Q (F0 m pc ls (v :: .ref a :: rest)) :=
  va_putN (D := g.1) (Ts := u_ws C T N) X.1 X.2.1 (fun w hw => X.2.2.2.2.2.2.1.use (hin w hw) args) (fun _ h => h) ty0 hty hnm X.2.2.2.2.1 X.2.2.2.2.2.2.1.1 hW.1 hW.2.1 hW.2.2 q0 he hc k hk (X.2.2.2.2.2.2.1.use hlink args) (fun _ h9 => by rw [hT] at h9; exact h9) hfin (hty k hk) hnr hfit hl hdg (fun H1 locs1 h1 h2 h3 => kk H1 locs1 ⟨h1, h2, h3⟩)
theorem gf_X3_10 (X : fz_X p s m meth c RX3 cc n ret g A) (hW : fz_W g A s ws H locs) (q0 : Nat) {fs : List Value} (he : ws[q0]? = some (a, .inr (3, fs))) {v : Value} (hv : fs[0]? = some v) (hdg : decode cc pc = .ok (.getfield 10, 3)) (kk : W p l e R s m args below meth c H locs cells slots Q (F0 m (pc + 3) ls (v :: rest))) : W p l e R s m args below meth c H locs cells slots Q (F0 m pc ls (.ref a :: rest)) := fz_gf X hW inX3 rfl 0 (by decide) mw_152 rfl q0 he hv hdg kk
theorem gf_X3_16 (X : fz_X p s m meth c RX3 cc n ret g A) (hW : fz_W g A s ws H locs) (q0 : Nat) {fs : List Value} (he : ws[q0]? = some (a, .inr (3, fs))) {v : Value} (hv : fs[1]? = some v) (hdg : decode cc pc = .ok (.getfield 16, 3)) (kk : W p l e R s m args below meth c H locs cells slots Q (F0 m (pc + 3) ls (v :: rest))) : W p l e R s m args below meth c H locs cells slots Q (F0 m pc ls (.ref a :: rest)) := fz_gf X hW inX3 rfl 1 (by decide) mw_153 rfl q0 he hv hdg kk
theorem gf_X3_44 (X : fz_X p s m meth c RX3 cc n ret g A) (hW : fz_W g A s ws H locs) (q0 : Nat) {fs : List Value} (he : ws[q0]? = some (a, .inr (2, fs))) {v : Value} (hv : fs[8]? = some v) (hdg : decode cc pc = .ok (.getfield 44, 3)) (kk : W p l e R s m args below meth c H locs cells slots Q (F0 m (pc + 3) ls (v :: rest))) : W p l e R s m args below meth c H locs cells slots Q (F0 m pc ls (.ref a :: rest)) := fz_gn X hW inX2 rfl 8 (by decide) mw_112 rfl q0 he hv hdg kk
theorem gf_X3_52 (X : fz_X p s m meth c RX3 cc n ret g A) (hW : fz_W g A s ws H locs) (q0 : Nat) {fs : List Value} (he : ws[q0]? = some (a, .inr (2, fs))) {v : Value} (hv : fs[13]? = some v) (hdg : decode cc pc = .ok (.getfield 52, 3)) (kk : W p l e R s m args below meth c H locs cells slots Q (F0 m (pc + 3) ls (v :: rest))) : W p l e R s m args below meth c H locs cells slots Q (F0 m pc ls (.ref a :: rest)) := fz_gn X hW inX2 rfl 13 (by decide) mw_122 rfl q0 he hv hdg kk
theorem gf_X3_67 (X : fz_X p s m meth c RX3 cc n ret g A) (hW : fz_W g A s ws H locs) (q0 : Nat) {fs : List Value} (he : ws[q0]? = some (a, .inr (2, fs))) {v : Value} (hv : fs[12]? = some v) (hdg : decode cc pc = .ok (.getfield 67, 3)) (kk : W p l e R s m args below meth c H locs cells slots Q (F0 m (pc + 3) ls (v :: rest))) : W p l e R s m args below meth c H locs cells slots Q (F0 m pc ls (.ref a :: rest)) := fz_gn X hW inX2 rfl 12 (by decide) mw_120 rfl q0 he hv hdg kk
theorem gf_X3_70 (X : fz_X p s m meth c RX3 cc n ret g A) (hW : fz_W g A s ws H locs) (q0 : Nat) {fs : List Value} (he : ws[q0]? = some (a, .inr (2, fs))) {v : Value} (hv : fs[0]? = some v) (hdg : decode cc pc = .ok (.getfield 70, 3)) (kk : W p l e R s m args below meth c H locs cells slots Q (F0 m (pc + 3) ls (v :: rest))) : W p l e R s m args below meth c H locs cells slots Q (F0 m pc ls (.ref a :: rest)) := fz_gn X hW inX2 rfl 0 (by decide) mw_101 rfl q0 he hv hdg kk
theorem gf_X3_74 (X : fz_X p s m meth c RX3 cc n ret g A) (hW : fz_W g A s ws H locs) (q0 : Nat) {fs : List Value} (he : ws[q0]? = some (a, .inr (2, fs))) {v : Value} (hv : fs[1]? = some v) (hdg : decode cc pc = .ok (.getfield 74, 3)) (kk : W p l e R s m args below meth c H locs cells slots Q (F0 m (pc + 3) ls (v :: rest))) : W p l e R s m args below meth c H locs cells slots Q (F0 m pc ls (.ref a :: rest)) := fz_gn X hW inX2 rfl 1 (by decide) mw_103 rfl q0 he hv hdg kk
theorem gf_X3_80 (X : fz_X p s m meth c RX3 cc n ret g A) (hW : fz_W g A s ws H locs) (q0 : Nat) {fs : List Value} (he : ws[q0]? = some (a, .inr (2, fs))) {v : Value} (hv : fs[2]? = some v) (hdg : decode cc pc = .ok (.getfield 80, 3)) (kk : W p l e R s m args below meth c H locs cells slots Q (F0 m (pc + 3) ls (v :: rest))) : W p l e R s m args below meth c H locs cells slots Q (F0 m pc ls (.ref a :: rest)) := fz_gn X hW inX2 rfl 2 (by decide) mw_105 rfl q0 he hv hdg kk
theorem gf_X3_90 (X : fz_X p s m meth c RX3 cc n ret g A) (hW : fz_W g A s ws H locs) (q0 : Nat) {fs : List Value} (he : ws[q0]? = some (a, .inr (2, fs))) {v : Value} (hv : fs[9]? = some v) (hdg : decode cc pc = .ok (.getfield 90, 3)) (kk : W p l e R s m args below meth c H locs cells slots Q (F0 m (pc + 3) ls (v :: rest))) : W p l e R s m args below meth c H locs cells slots Q (F0 m pc ls (.ref a :: rest)) := fz_gn X hW inX2 rfl 9 (by decide) mw_114 rfl q0 he hv hdg kk
theorem gf_X3_94 (X : fz_X p s m meth c RX3 cc n ret g A) (hW : fz_W g A s ws H locs) (q0 : Nat) {fs : List Value} (he : ws[q0]? = some (a, .inr (1, fs))) {v : Value} (hv : fs[1]? = some v) (hdg : decode cc pc = .ok (.getfield 94, 3)) (kk : W p l e R s m args below meth c H locs cells slots Q (F0 m (pc + 3) ls (v :: rest))) : W p l e R s m args below meth c H locs cells slots Q (F0 m pc ls (.ref a :: rest)) := fz_gn X hW inX1 rfl 1 (by decide) mw_69 rfl q0 he hv hdg kk
theorem gf_X3_104 (X : fz_X p s m meth c RX3 cc n ret g A) (hW : fz_W g A s ws H locs) (q0 : Nat) {fs : List Value} (he : ws[q0]? = some (a, .inr (1, fs))) {v : Value} (hv : fs[0]? = some v) (hdg : decode cc pc = .ok (.getfield 104, 3)) (kk : W p l e R s m args below meth c H locs cells slots Q (F0 m (pc + 3) ls (v :: rest))) : W p l e R s m args below meth c H locs cells slots Q (F0 m pc ls (.ref a :: rest)) := fz_gn X hW inX1 rfl 0 (by decide) mw_67 rfl q0 he hv hdg kk
theorem gf_X3_109 (X : fz_X p s m meth c RX3 cc n ret g A) (hW : fz_W g A s ws H locs) (q0 : Nat) {fs : List Value} (he : ws[q0]? = some (a, .inr (2, fs))) {v : Value} (hv : fs[10]? = some v) (hdg : decode cc pc = .ok (.getfield 109, 3)) (kk : W p l e R s m args below meth c H locs cells slots Q (F0 m (pc + 3) ls (v :: rest))) : W p l e R s m args below meth c H locs cells slots Q (F0 m pc ls (.ref a :: rest)) := fz_gn X hW inX2 rfl 10 (by decide) mw_116 rfl q0 he hv hdg kk
theorem gf_X3_112 (X : fz_X p s m meth c RX3 cc n ret g A) (hW : fz_W g A s ws H locs) (q0 : Nat) {fs : List Value} (he : ws[q0]? = some (a, .inr (2, fs))) {v : Value} (hv : fs[11]? = some v) (hdg : decode cc pc = .ok (.getfield 112, 3)) (kk : W p l e R s m args below meth c H locs cells slots Q (F0 m (pc + 3) ls (v :: rest))) : W p l e R s m args below meth c H locs cells slots Q (F0 m pc ls (.ref a :: rest)) := fz_gn X hW inX2 rfl 11 (by decide) mw_118 rfl q0 he hv hdg kk
theorem lk_X3_19 : fz_LS RX3 19 yX3_checkBlock cX3_checkBlock 4 none 4 := ⟨⟨mw_30, mw_209, by decide +kernel, by decide +kernel, by decide +kernel⟩, mw_207, mw_208⟩
theorem lk_X3_48 : fz_LS RX3 48 yX3_checkTile cX3_checkTile 2 none 2 := ⟨⟨mw_30, mw_212, by decide +kernel, by decide +kernel, by decide +kernel⟩, mw_210, mw_211⟩
theorem lk_X3_55 : fz_LS RX3 55 yX3_tileAt cX3_tileAt 2 (some .int) 2 := ⟨⟨mw_30, mw_306, by decide +kernel, by decide +kernel, by decide +kernel⟩, mw_355, mw_305⟩
theorem lk_X3_59 : fz_LS RX3 59 yX3_checkBudget cX3_checkBudget 1 none 1 := ⟨⟨mw_30, mw_365, by decide +kernel, by decide +kernel, by decide +kernel⟩, mw_363, mw_364⟩
theorem lk_X3_115 : fz_LS RX3 115 yX3_wholeCost cX3_wholeCost 1 (some .int) 1 := ⟨⟨mw_30, mw_197, by decide +kernel, by decide +kernel, by decide +kernel⟩, mw_195, mw_196⟩
theorem lk_X3_30 : fz_LV RX3 30 yX2_paint cX2_paint 8 none 5 := ⟨⟨mw_31, mw_300, by decide +kernel, by decide +kernel, by decide +kernel⟩, mw_297, mw_298, mw_299⟩
theorem lk_X3_34 : fz_LV RX3 34 yX2_countUnlike cX2_countUnlike 1 (some .int) 0 := ⟨⟨mw_31, mw_318, by decide +kernel, by decide +kernel, by decide +kernel⟩, mw_315, mw_316, mw_317⟩
theorem lk_X3_40 : fz_LV RX3 40 yX2_shift cX2_shift 8 none 6 := ⟨⟨mw_31, mw_337, by decide +kernel, by decide +kernel, by decide +kernel⟩, mw_334, mw_335, mw_336⟩
theorem lk_X3_63 : fz_LV RX3 63 yX2_passStep cX2_passStep 3 (some .int) 1 := ⟨⟨mw_31, mw_370, by decide +kernel, by decide +kernel, by decide +kernel⟩, mw_367, mw_368, mw_369⟩
theorem lk_X3_77 : fz_LV RX3 77 yX2_kindOf cX2_kindOf 2 (some .int) 1 := ⟨⟨mw_31, mw_430, by decide +kernel, by decide +kernel, by decide +kernel⟩, mw_467, mw_428, mw_429⟩
theorem lk_X3_83 : fz_LV RX3 83 yX2_unlikeSet cX2_unlikeSet 4 (some .long) 0 := ⟨⟨mw_31, mw_170, by decide +kernel, by decide +kernel, by decide +kernel⟩, mw_167, mw_168, mw_169⟩
theorem lk_X3_87 : fz_LV RX3 87 yX2_countRough cX2_countRough 3 (some .int) 0 := ⟨⟨mw_31, mw_178, by decide +kernel, by decide +kernel, by decide +kernel⟩, mw_175, mw_176, mw_177⟩
theorem lk_X3_118 : fz_LV RX3 118 yX2_copyFrom cX2_copyFrom 3 none 1 := ⟨⟨mw_31, mw_501, by decide +kernel, by decide +kernel, by decide +kernel⟩, mw_498, mw_499, mw_500⟩
theorem lk_X3_122 : fz_LV RX3 122 yX2_isAllSent cX2_isAllSent 1 (some .boolean) 0 := ⟨⟨mw_31, mw_510, by decide +kernel, by decide +kernel, by decide +kernel⟩, mw_507, mw_508, mw_509⟩
theorem lk_X3_126 : fz_LV RX3 126 yX2_hasFilm cX2_hasFilm 2 (some .boolean) 0 := ⟨⟨mw_31, mw_514, by decide +kernel, by decide +kernel, by decide +kernel⟩, mw_511, mw_512, mw_513⟩
theorem pf_X3_52 (X : fz_X p s m meth c RX3 cc n ret g A) (hW : fz_W g A s ws H locs) (q0 : Nat) {fs : List Value} (he : ws[q0]? = some (a, .inr (2, fs))) {x : Int32} (hl : 13 < fs.length) (hdg : decode cc pc = .ok (.putfield 52, 3)) (kk : ∀ (H1 : Heap) (locs1 : List Loc), fz_W g A s (ws.set q0 (a, .inr (2, fs.set 13 (.int x)))) H1 locs1 → W p l e R s m args below meth c H1 locs1 cells slots Q (F0 m (pc + 3) ls rest)) : W p l e R s m args below meth c H locs cells slots Q (F0 m pc ls (.int x :: .ref a :: rest)) := fz_pn X hW inX2 rfl tyX2 tyX2_ok nmX2 13 (by decide) mw_122 rfl rfl rfl rfl q0 he hl hdg kk
theorem gf_X0_9 (X : fz_X p s m meth c RX0 cc n ret g A) (hW : fz_W g A s ws H locs) (q0 : Nat) {fs : List Value} (he : ws[q0]? = some (a, .inr (0, fs))) {v : Value} (hv : fs[0]? = some v) (hdg : decode cc pc = .ok (.getfield 9, 3)) (kk : W p l e R s m args below meth c H locs cells slots Q (F0 m (pc + 3) ls (v :: rest))) : W p l e R s m args below meth c H locs cells slots Q (F0 m pc ls (.ref a :: rest)) := fz_gf X hW inX0 rfl 0 (by decide) mw_81 rfl q0 he hv hdg kk
theorem gf_X0_15 (X : fz_X p s m meth c RX0 cc n ret g A) (hW : fz_W g A s ws H locs) (q0 : Nat) {fs : List Value} (he : ws[q0]? = some (a, .inr (0, fs))) {v : Value} (hv : fs[1]? = some v) (hdg : decode cc pc = .ok (.getfield 15, 3)) (kk : W p l e R s m args below meth c H locs cells slots Q (F0 m (pc + 3) ls (v :: rest))) : W p l e R s m args below meth c H locs cells slots Q (F0 m pc ls (.ref a :: rest)) := fz_gf X hW inX0 rfl 1 (by decide) mw_82 rfl q0 he hv hdg kk
theorem gf_X0_18 (X : fz_X p s m meth c RX0 cc n ret g A) (hW : fz_W g A s ws H locs) (q0 : Nat) {fs : List Value} (he : ws[q0]? = some (a, .inr (0, fs))) {v : Value} (hv : fs[2]? = some v) (hdg : decode cc pc = .ok (.getfield 18, 3)) (kk : W p l e R s m args below meth c H locs cells slots Q (F0 m (pc + 3) ls (v :: rest))) : W p l e R s m args below meth c H locs cells slots Q (F0 m pc ls (.ref a :: rest)) := fz_gf X hW inX0 rfl 2 (by decide) mw_83 rfl q0 he hv hdg kk
theorem gf_X0_21 (X : fz_X p s m meth c RX0 cc n ret g A) (hW : fz_W g A s ws H locs) (q0 : Nat) {fs : List Value} (he : ws[q0]? = some (a, .inr (0, fs))) {v : Value} (hv : fs[3]? = some v) (hdg : decode cc pc = .ok (.getfield 21, 3)) (kk : W p l e R s m args below meth c H locs cells slots Q (F0 m (pc + 3) ls (v :: rest))) : W p l e R s m args below meth c H locs cells slots Q (F0 m pc ls (.ref a :: rest)) := fz_gf X hW inX0 rfl 3 (by decide) mw_84 rfl q0 he hv hdg kk
theorem gf_X0_24 (X : fz_X p s m meth c RX0 cc n ret g A) (hW : fz_W g A s ws H locs) (q0 : Nat) {fs : List Value} (he : ws[q0]? = some (a, .inr (0, fs))) {v : Value} (hv : fs[4]? = some v) (hdg : decode cc pc = .ok (.getfield 24, 3)) (kk : W p l e R s m args below meth c H locs cells slots Q (F0 m (pc + 3) ls (v :: rest))) : W p l e R s m args below meth c H locs cells slots Q (F0 m pc ls (.ref a :: rest)) := fz_gf X hW inX0 rfl 4 (by decide) mw_85 rfl q0 he hv hdg kk
theorem gf_X0_27 (X : fz_X p s m meth c RX0 cc n ret g A) (hW : fz_W g A s ws H locs) (q0 : Nat) {fs : List Value} (he : ws[q0]? = some (a, .inr (0, fs))) {v : Value} (hv : fs[5]? = some v) (hdg : decode cc pc = .ok (.getfield 27, 3)) (kk : W p l e R s m args below meth c H locs cells slots Q (F0 m (pc + 3) ls (v :: rest))) : W p l e R s m args below meth c H locs cells slots Q (F0 m pc ls (.ref a :: rest)) := fz_gf X hW inX0 rfl 5 (by decide) mw_86 rfl q0 he hv hdg kk
theorem lk_X0_40 : fz_LN RX0 40 yX3_tileAt cX3_tileAt 2 (some .int) 2 := ⟨⟨mw_30, mw_306, by decide +kernel, by decide +kernel, by decide +kernel⟩, ⟨_, mw_347⟩, mw_305⟩
theorem lk_X0_30 : fz_LV RX0 30 yX0_set cX0_set 7 none 6 := ⟨⟨mw_33, mw_341, by decide +kernel, by decide +kernel, by decide +kernel⟩, mw_383, mw_339, mw_340⟩
theorem pf_X0_9 (X : fz_X p s m meth c RX0 cc n ret g A) (hW : fz_W g A s ws H locs) (q0 : Nat) {fs : List Value} (he : ws[q0]? = some (a, .inr (0, fs))) {x : Int32} (hl : 0 < fs.length) (hdg : decode cc pc = .ok (.putfield 9, 3)) (kk : ∀ (H1 : Heap) (locs1 : List Loc), fz_W g A s (ws.set q0 (a, .inr (0, fs.set 0 (.int x)))) H1 locs1 → W p l e R s m args below meth c H1 locs1 cells slots Q (F0 m (pc + 3) ls rest)) : W p l e R s m args below meth c H locs cells slots Q (F0 m pc ls (.int x :: .ref a :: rest)) := fz_pf X hW inX0 rfl tyX0 tyX0_ok nmX0 0 (by decide) mw_81 rfl rfl rfl rfl q0 he hl hdg kk
theorem pf_X0_15 (X : fz_X p s m meth c RX0 cc n ret g A) (hW : fz_W g A s ws H locs) (q0 : Nat) {fs : List Value} (he : ws[q0]? = some (a, .inr (0, fs))) {x : Int32} (hl : 1 < fs.length) (hdg : decode cc pc = .ok (.putfield 15, 3)) (kk : ∀ (H1 : Heap) (locs1 : List Loc), fz_W g A s (ws.set q0 (a, .inr (0, fs.set 1 (.int x)))) H1 locs1 → W p l e R s m args below meth c H1 locs1 cells slots Q (F0 m (pc + 3) ls rest)) : W p l e R s m args below meth c H locs cells slots Q (F0 m pc ls (.int x :: .ref a :: rest)) := fz_pf X hW inX0 rfl tyX0 tyX0_ok nmX0 1 (by decide) mw_82 rfl rfl rfl rfl q0 he hl hdg kk
theorem pf_X0_18 (X : fz_X p s m meth c RX0 cc n ret g A) (hW : fz_W g A s ws H locs) (q0 : Nat) {fs : List Value} (he : ws[q0]? = some (a, .inr (0, fs))) {x : Int32} (hl : 2 < fs.length) (hdg : decode cc pc = .ok (.putfield 18, 3)) (kk : ∀ (H1 : Heap) (locs1 : List Loc), fz_W g A s (ws.set q0 (a, .inr (0, fs.set 2 (.int x)))) H1 locs1 → W p l e R s m args below meth c H1 locs1 cells slots Q (F0 m (pc + 3) ls rest)) : W p l e R s m args below meth c H locs cells slots Q (F0 m pc ls (.int x :: .ref a :: rest)) := fz_pf X hW inX0 rfl tyX0 tyX0_ok nmX0 2 (by decide) mw_83 rfl rfl rfl rfl q0 he hl hdg kk
theorem pf_X0_21 (X : fz_X p s m meth c RX0 cc n ret g A) (hW : fz_W g A s ws H locs) (q0 : Nat) {fs : List Value} (he : ws[q0]? = some (a, .inr (0, fs))) {x : Int32} (hl : 3 < fs.length) (hdg : decode cc pc = .ok (.putfield 21, 3)) (kk : ∀ (H1 : Heap) (locs1 : List Loc), fz_W g A s (ws.set q0 (a, .inr (0, fs.set 3 (.int x)))) H1 locs1 → W p l e R s m args below meth c H1 locs1 cells slots Q (F0 m (pc + 3) ls rest)) : W p l e R s m args below meth c H locs cells slots Q (F0 m pc ls (.int x :: .ref a :: rest)) := fz_pf X hW inX0 rfl tyX0 tyX0_ok nmX0 3 (by decide) mw_84 rfl rfl rfl rfl q0 he hl hdg kk
theorem pf_X0_24 (X : fz_X p s m meth c RX0 cc n ret g A) (hW : fz_W g A s ws H locs) (q0 : Nat) {fs : List Value} (he : ws[q0]? = some (a, .inr (0, fs))) {x : Int32} (hl : 4 < fs.length) (hdg : decode cc pc = .ok (.putfield 24, 3)) (kk : ∀ (H1 : Heap) (locs1 : List Loc), fz_W g A s (ws.set q0 (a, .inr (0, fs.set 4 (.int x)))) H1 locs1 → W p l e R s m args below meth c H1 locs1 cells slots Q (F0 m (pc + 3) ls rest)) : W p l e R s m args below meth c H locs cells slots Q (F0 m pc ls (.int x :: .ref a :: rest)) := fz_pf X hW inX0 rfl tyX0 tyX0_ok nmX0 4 (by decide) mw_85 rfl rfl rfl rfl q0 he hl hdg kk
theorem pf_X0_27 (X : fz_X p s m meth c RX0 cc n ret g A) (hW : fz_W g A s ws H locs) (q0 : Nat) {fs : List Value} (he : ws[q0]? = some (a, .inr (0, fs))) {x : Int32} (hl : 5 < fs.length) (hdg : decode cc pc = .ok (.putfield 27, 3)) (kk : ∀ (H1 : Heap) (locs1 : List Loc), fz_W g A s (ws.set q0 (a, .inr (0, fs.set 5 (.int x)))) H1 locs1 → W p l e R s m args below meth c H1 locs1 cells slots Q (F0 m (pc + 3) ls rest)) : W p l e R s m args below meth c H locs cells slots Q (F0 m pc ls (.int x :: .ref a :: rest)) := fz_pf X hW inX0 rfl tyX0 tyX0_ok nmX0 5 (by decide) mw_86 rfl rfl rfl rfl q0 he hl hdg kk
theorem gf_X1_9 (X : fz_X p s m meth c RX1 cc n ret g A) (hW : fz_W g A s ws H locs) (q0 : Nat) {fs : List Value} (he : ws[q0]? = some (a, .inr (1, fs))) {v : Value} (hv : fs[0]? = some v) (hdg : decode cc pc = .ok (.getfield 9, 3)) (kk : W p l e R s m args below meth c H locs cells slots Q (F0 m (pc + 3) ls (v :: rest))) : W p l e R s m args below meth c H locs cells slots Q (F0 m pc ls (.ref a :: rest)) := fz_gf X hW inX1 rfl 0 (by decide) mw_66 rfl q0 he hv hdg kk
theorem gf_X1_15 (X : fz_X p s m meth c RX1 cc n ret g A) (hW : fz_W g A s ws H locs) (q0 : Nat) {fs : List Value} (he : ws[q0]? = some (a, .inr (1, fs))) {v : Value} (hv : fs[1]? = some v) (hdg : decode cc pc = .ok (.getfield 15, 3)) (kk : W p l e R s m args below meth c H locs cells slots Q (F0 m (pc + 3) ls (v :: rest))) : W p l e R s m args below meth c H locs cells slots Q (F0 m pc ls (.ref a :: rest)) := fz_gf X hW inX1 rfl 1 (by decide) mw_68 rfl q0 he hv hdg kk
theorem lk_X1_25 : fz_LV RX1 25 yX1_placeOf cX1_placeOf 3 (some .int) 1 := ⟨⟨mw_32, mw_418, by decide +kernel, by decide +kernel, by decide +kernel⟩, mw_415, mw_416, mw_417⟩
theorem pf_X1_15 (X : fz_X p s m meth c RX1 cc n ret g A) (hW : fz_W g A s ws H locs) (q0 : Nat) {fs : List Value} (he : ws[q0]? = some (a, .inr (1, fs))) {x : Int32} (hl : 1 < fs.length) (hdg : decode cc pc = .ok (.putfield 15, 3)) (kk : ∀ (H1 : Heap) (locs1 : List Loc), fz_W g A s (ws.set q0 (a, .inr (1, fs.set 1 (.int x)))) H1 locs1 → W p l e R s m args below meth c H1 locs1 cells slots Q (F0 m (pc + 3) ls rest)) : W p l e R s m args below meth c H locs cells slots Q (F0 m pc ls (.int x :: .ref a :: rest)) := fz_pf X hW inX1 rfl tyX1 tyX1_ok nmX1 1 (by decide) mw_68 rfl rfl rfl rfl q0 he hl hdg kk
theorem gf_X2_9 (X : fz_X p s m meth c RX2 cc n ret g A) (hW : fz_W g A s ws H locs) (q0 : Nat) {fs : List Value} (he : ws[q0]? = some (a, .inr (2, fs))) {v : Value} (hv : fs[0]? = some v) (hdg : decode cc pc = .ok (.getfield 9, 3)) (kk : W p l e R s m args below meth c H locs cells slots Q (F0 m (pc + 3) ls (v :: rest))) : W p l e R s m args below meth c H locs cells slots Q (F0 m pc ls (.ref a :: rest)) := fz_gf X hW inX2 rfl 0 (by decide) mw_100 rfl q0 he hv hdg kk
theorem gf_X2_15 (X : fz_X p s m meth c RX2 cc n ret g A) (hW : fz_W g A s ws H locs) (q0 : Nat) {fs : List Value} (he : ws[q0]? = some (a, .inr (2, fs))) {v : Value} (hv : fs[1]? = some v) (hdg : decode cc pc = .ok (.getfield 15, 3)) (kk : W p l e R s m args below meth c H locs cells slots Q (F0 m (pc + 3) ls (v :: rest))) : W p l e R s m args below meth c H locs cells slots Q (F0 m pc ls (.ref a :: rest)) := fz_gf X hW inX2 rfl 1 (by decide) mw_102 rfl q0 he hv hdg kk
theorem gf_X2_18 (X : fz_X p s m meth c RX2 cc n ret g A) (hW : fz_W g A s ws H locs) (q0 : Nat) {fs : List Value} (he : ws[q0]? = some (a, .inr (2, fs))) {v : Value} (hv : fs[2]? = some v) (hdg : decode cc pc = .ok (.getfield 18, 3)) (kk : W p l e R s m args below meth c H locs cells slots Q (F0 m (pc + 3) ls (v :: rest))) : W p l e R s m args below meth c H locs cells slots Q (F0 m pc ls (.ref a :: rest)) := fz_gf X hW inX2 rfl 2 (by decide) mw_104 rfl q0 he hv hdg kk
theorem gf_X2_21 (X : fz_X p s m meth c RX2 cc n ret g A) (hW : fz_W g A s ws H locs) (q0 : Nat) {fs : List Value} (he : ws[q0]? = some (a, .inr (2, fs))) {v : Value} (hv : fs[3]? = some v) (hdg : decode cc pc = .ok (.getfield 21, 3)) (kk : W p l e R s m args below meth c H locs cells slots Q (F0 m (pc + 3) ls (v :: rest))) : W p l e R s m args below meth c H locs cells slots Q (F0 m pc ls (.ref a :: rest)) := fz_gf X hW inX2 rfl 3 (by decide) mw_106 rfl q0 he hv hdg kk
theorem gf_X2_24 (X : fz_X p s m meth c RX2 cc n ret g A) (hW : fz_W g A s ws H locs) (q0 : Nat) {fs : List Value} (he : ws[q0]? = some (a, .inr (2, fs))) {v : Value} (hv : fs[4]? = some v) (hdg : decode cc pc = .ok (.getfield 24, 3)) (kk : W p l e R s m args below meth c H locs cells slots Q (F0 m (pc + 3) ls (v :: rest))) : W p l e R s m args below meth c H locs cells slots Q (F0 m pc ls (.ref a :: rest)) := fz_gf X hW inX2 rfl 4 (by decide) mw_107 rfl q0 he hv hdg kk
theorem gf_X2_27 (X : fz_X p s m meth c RX2 cc n ret g A) (hW : fz_W g A s ws H locs) (q0 : Nat) {fs : List Value} (he : ws[q0]? = some (a, .inr (2, fs))) {v : Value} (hv : fs[5]? = some v) (hdg : decode cc pc = .ok (.getfield 27, 3)) (kk : W p l e R s m args below meth c H locs cells slots Q (F0 m (pc + 3) ls (v :: rest))) : W p l e R s m args below meth c H locs cells slots Q (F0 m pc ls (.ref a :: rest)) := fz_gf X hW inX2 rfl 5 (by decide) mw_108 rfl q0 he hv hdg kk
theorem gf_X2_30 (X : fz_X p s m meth c RX2 cc n ret g A) (hW : fz_W g A s ws H locs) (q0 : Nat) {fs : List Value} (he : ws[q0]? = some (a, .inr (2, fs))) {v : Value} (hv : fs[6]? = some v) (hdg : decode cc pc = .ok (.getfield 30, 3)) (kk : W p l e R s m args below meth c H locs cells slots Q (F0 m (pc + 3) ls (v :: rest))) : W p l e R s m args below meth c H locs cells slots Q (F0 m pc ls (.ref a :: rest)) := fz_gf X hW inX2 rfl 6 (by decide) mw_109 rfl q0 he hv hdg kk
theorem gf_X2_35 (X : fz_X p s m meth c RX2 cc n ret g A) (hW : fz_W g A s ws H locs) (q0 : Nat) {fs : List Value} (he : ws[q0]? = some (a, .inr (2, fs))) {v : Value} (hv : fs[7]? = some v) (hdg : decode cc pc = .ok (.getfield 35, 3)) (kk : W p l e R s m args below meth c H locs cells slots Q (F0 m (pc + 3) ls (v :: rest))) : W p l e R s m args below meth c H locs cells slots Q (F0 m pc ls (.ref a :: rest)) := fz_gf X hW inX2 rfl 7 (by decide) mw_110 rfl q0 he hv hdg kk
theorem gf_X2_39 (X : fz_X p s m meth c RX2 cc n ret g A) (hW : fz_W g A s ws H locs) (q0 : Nat) {fs : List Value} (he : ws[q0]? = some (a, .inr (2, fs))) {v : Value} (hv : fs[8]? = some v) (hdg : decode cc pc = .ok (.getfield 39, 3)) (kk : W p l e R s m args below meth c H locs cells slots Q (F0 m (pc + 3) ls (v :: rest))) : W p l e R s m args below meth c H locs cells slots Q (F0 m pc ls (.ref a :: rest)) := fz_gf X hW inX2 rfl 8 (by decide) mw_111 rfl q0 he hv hdg kk
theorem gf_X2_46 (X : fz_X p s m meth c RX2 cc n ret g A) (hW : fz_W g A s ws H locs) (q0 : Nat) {fs : List Value} (he : ws[q0]? = some (a, .inr (2, fs))) {v : Value} (hv : fs[9]? = some v) (hdg : decode cc pc = .ok (.getfield 46, 3)) (kk : W p l e R s m args below meth c H locs cells slots Q (F0 m (pc + 3) ls (v :: rest))) : W p l e R s m args below meth c H locs cells slots Q (F0 m pc ls (.ref a :: rest)) := fz_gf X hW inX2 rfl 9 (by decide) mw_113 rfl q0 he hv hdg kk
theorem gf_X2_50 (X : fz_X p s m meth c RX2 cc n ret g A) (hW : fz_W g A s ws H locs) (q0 : Nat) {fs : List Value} (he : ws[q0]? = some (a, .inr (2, fs))) {v : Value} (hv : fs[10]? = some v) (hdg : decode cc pc = .ok (.getfield 50, 3)) (kk : W p l e R s m args below meth c H locs cells slots Q (F0 m (pc + 3) ls (v :: rest))) : W p l e R s m args below meth c H locs cells slots Q (F0 m pc ls (.ref a :: rest)) := fz_gf X hW inX2 rfl 10 (by decide) mw_115 rfl q0 he hv hdg kk
theorem gf_X2_53 (X : fz_X p s m meth c RX2 cc n ret g A) (hW : fz_W g A s ws H locs) (q0 : Nat) {fs : List Value} (he : ws[q0]? = some (a, .inr (2, fs))) {v : Value} (hv : fs[11]? = some v) (hdg : decode cc pc = .ok (.getfield 53, 3)) (kk : W p l e R s m args below meth c H locs cells slots Q (F0 m (pc + 3) ls (v :: rest))) : W p l e R s m args below meth c H locs cells slots Q (F0 m pc ls (.ref a :: rest)) := fz_gf X hW inX2 rfl 11 (by decide) mw_117 rfl q0 he hv hdg kk
theorem gf_X2_56 (X : fz_X p s m meth c RX2 cc n ret g A) (hW : fz_W g A s ws H locs) (q0 : Nat) {fs : List Value} (he : ws[q0]? = some (a, .inr (2, fs))) {v : Value} (hv : fs[12]? = some v) (hdg : decode cc pc = .ok (.getfield 56, 3)) (kk : W p l e R s m args below meth c H locs cells slots Q (F0 m (pc + 3) ls (v :: rest))) : W p l e R s m args below meth c H locs cells slots Q (F0 m pc ls (.ref a :: rest)) := fz_gf X hW inX2 rfl 12 (by decide) mw_119 rfl q0 he hv hdg kk
theorem gf_X2_59 (X : fz_X p s m meth c RX2 cc n ret g A) (hW : fz_W g A s ws H locs) (q0 : Nat) {fs : List Value} (he : ws[q0]? = some (a, .inr (2, fs))) {v : Value} (hv : fs[13]? = some v) (hdg : decode cc pc = .ok (.getfield 59, 3)) (kk : W p l e R s m args below meth c H locs cells slots Q (F0 m (pc + 3) ls (v :: rest))) : W p l e R s m args below meth c H locs cells slots Q (F0 m pc ls (.ref a :: rest)) := fz_gf X hW inX2 rfl 13 (by decide) mw_121 rfl q0 he hv hdg kk
theorem lk_X2_76 : fz_LN RX2 76 yX3_tileAt cX3_tileAt 2 (some .int) 2 := ⟨⟨mw_30, mw_306, by decide +kernel, by decide +kernel, by decide +kernel⟩, ⟨_, mw_304⟩, mw_305⟩
theorem lk_X2_94 : fz_LS RX2 94 yJ6_bitCount_0f7a4 cJ6_bitCount_0f7a4 1 (some .int) 1 := ⟨⟨mw_43, mw_433, by decide +kernel, by decide +kernel, by decide +kernel⟩, mw_431, mw_432⟩
theorem lk_X2_107 : fz_LS RX2 107 yJ13_bitCount_95d88 cJ13_bitCount_95d88 2 (some .int) 1 := ⟨⟨mw_41, mw_322, by decide +kernel, by decide +kernel, by decide +kernel⟩, mw_320, mw_321⟩
theorem lk_X2_143 : fz_LS RX2 143 yJ9_abs_0f7a4 cJ9_abs_0f7a4 1 (some .int) 1 := ⟨⟨mw_42, mw_402, by decide +kernel, by decide +kernel, by decide +kernel⟩, mw_400, mw_401⟩
theorem lk_X2_158 : fz_LN RX2 158 yX3_wholeCost cX3_wholeCost 1 (some .int) 1 := ⟨⟨mw_30, mw_197, by decide +kernel, by decide +kernel, by decide +kernel⟩, ⟨_, mw_441⟩, mw_196⟩
theorem lk_X2_69 : fz_LV RX2 69 yX0_copyFrom cX0_copyFrom 2 none 1 := ⟨⟨mw_33, mw_382, by decide +kernel, by decide +kernel, by decide +kernel⟩, mw_379, mw_380, mw_381⟩
theorem lk_X2_73 : fz_LV RX2 73 yX1_copyFrom cX1_copyFrom 2 none 1 := ⟨⟨mw_32, mw_505, by decide +kernel, by decide +kernel, by decide +kernel⟩, mw_502, mw_503, mw_504⟩
theorem lk_X2_80 : fz_LV RX2 80 yX2_noteChanges cX2_noteChanges 2 none 0 := ⟨⟨mw_31, mw_310, by decide +kernel, by decide +kernel, by decide +kernel⟩, mw_307, mw_309, mw_1⟩
theorem lk_X2_83 : fz_LV RX2 83 yX2_noteUnlike cX2_noteUnlike 2 none 0 := ⟨⟨mw_31, mw_314, by decide +kernel, by decide +kernel, by decide +kernel⟩, mw_311, mw_313, mw_2⟩
theorem lk_X2_86 : fz_LV RX2 86 yX0_set cX0_set 7 none 6 := ⟨⟨mw_33, mw_341, by decide +kernel, by decide +kernel, by decide +kernel⟩, mw_338, mw_339, mw_340⟩
theorem lk_X2_90 : fz_LV RX2 90 yX0_applyTo cX0_applyTo 5 none 2 := ⟨⟨mw_33, mw_345, by decide +kernel, by decide +kernel, by decide +kernel⟩, mw_342, mw_343, mw_344⟩
theorem lk_X2_100 : fz_LV RX2 100 yX2_kindOf cX2_kindOf 2 (some .int) 1 := ⟨⟨mw_31, mw_430, by decide +kernel, by decide +kernel, by decide +kernel⟩, mw_427, mw_428, mw_429⟩
theorem lk_X2_103 : fz_LV RX2 103 yX2_unlikeSet cX2_unlikeSet 4 (some .long) 0 := ⟨⟨mw_31, mw_170, by decide +kernel, by decide +kernel, by decide +kernel⟩, mw_319, mw_168, mw_169⟩
theorem lk_X2_112 : fz_LV RX2 112 yX2_tellMoves cX2_tellMoves 3 (some .int) 1 := ⟨⟨mw_31, mw_374, by decide +kernel, by decide +kernel, by decide +kernel⟩, mw_371, mw_373, mw_3⟩
theorem lk_X2_115 : fz_LV RX2 115 yX2_sendTiles cX2_sendTiles 5 (some .int) 1 := ⟨⟨mw_31, mw_387, by decide +kernel, by decide +kernel, by decide +kernel⟩, mw_384, mw_386, mw_5⟩
theorem lk_X2_118 : fz_LV RX2 118 yX2_settleChanges cX2_settleChanges 2 none 0 := ⟨⟨mw_31, mw_445, by decide +kernel, by decide +kernel, by decide +kernel⟩, mw_442, mw_444, mw_13⟩
theorem lk_X2_121 : fz_LV RX2 121 yX2_forgetMoves cX2_forgetMoves 3 none 1 := ⟨⟨mw_31, mw_378, by decide +kernel, by decide +kernel, by decide +kernel⟩, mw_375, mw_377, mw_4⟩
theorem lk_X2_125 : fz_LV RX2 125 yX2_putInOrder cX2_putInOrder 3 (some .int) 0 := ⟨⟨mw_31, mw_391, by decide +kernel, by decide +kernel, by decide +kernel⟩, mw_388, mw_390, mw_6⟩
theorem lk_X2_129 : fz_LV RX2 129 yX2_sendTile cX2_sendTile 4 (some .int) 2 := ⟨⟨mw_31, mw_410, by decide +kernel, by decide +kernel, by decide +kernel⟩, mw_407, mw_409, mw_10⟩
theorem lk_X2_132 : fz_LV RX2 132 yX2_worthOf cX2_worthOf 3 (some .int) 1 := ⟨⟨mw_31, mw_395, by decide +kernel, by decide +kernel, by decide +kernel⟩, mw_392, mw_394, mw_7⟩
theorem lk_X2_135 : fz_LV RX2 135 yX2_insertInOrder cX2_insertInOrder 4 none 2 := ⟨⟨mw_31, mw_406, by decide +kernel, by decide +kernel, by decide +kernel⟩, mw_403, mw_405, mw_9⟩
theorem lk_X2_139 : fz_LV RX2 139 yX2_isLookedAt cX2_isLookedAt 4 (some .boolean) 1 := ⟨⟨mw_31, mw_399, by decide +kernel, by decide +kernel, by decide +kernel⟩, mw_396, mw_398, mw_8⟩
theorem lk_X2_148 : fz_LV RX2 148 yX1_holds cX1_holds 2 (some .boolean) 1 := ⟨⟨mw_32, mw_414, by decide +kernel, by decide +kernel, by decide +kernel⟩, mw_411, mw_412, mw_413⟩
theorem lk_X2_151 : fz_LV RX2 151 yX2_sendPicture cX2_sendPicture 5 (some .int) 4 := ⟨⟨mw_31, mw_422, by decide +kernel, by decide +kernel, by decide +kernel⟩, mw_419, mw_421, mw_11⟩
theorem lk_X2_155 : fz_LV RX2 155 yX2_sendRoughly cX2_sendRoughly 4 (some .int) 2 := ⟨⟨mw_31, mw_440, by decide +kernel, by decide +kernel, by decide +kernel⟩, mw_437, mw_439, mw_12⟩
theorem lk_X2_161 : fz_LV RX2 161 yX1_meet cX1_meet 4 none 1 := ⟨⟨mw_32, mw_426, by decide +kernel, by decide +kernel, by decide +kernel⟩, mw_423, mw_424, mw_425⟩
theorem pf_X2_39 (X : fz_X p s m meth c RX2 cc n ret g A) (hW : fz_W g A s ws H locs) (q0 : Nat) {fs : List Value} (he : ws[q0]? = some (a, .inr (2, fs))) {x : Int32} (hl : 8 < fs.length) (hdg : decode cc pc = .ok (.putfield 39, 3)) (kk : ∀ (H1 : Heap) (locs1 : List Loc), fz_W g A s (ws.set q0 (a, .inr (2, fs.set 8 (.int x)))) H1 locs1 → W p l e R s m args below meth c H1 locs1 cells slots Q (F0 m (pc + 3) ls rest)) : W p l e R s m args below meth c H locs cells slots Q (F0 m pc ls (.int x :: .ref a :: rest)) := fz_pf X hW inX2 rfl tyX2 tyX2_ok nmX2 8 (by decide) mw_111 rfl rfl rfl rfl q0 he hl hdg kk
theorem pf_X2_53 (X : fz_X p s m meth c RX2 cc n ret g A) (hW : fz_W g A s ws H locs) (q0 : Nat) {fs : List Value} (he : ws[q0]? = some (a, .inr (2, fs))) {x : Int32} (hl : 11 < fs.length) (hdg : decode cc pc = .ok (.putfield 53, 3)) (kk : ∀ (H1 : Heap) (locs1 : List Loc), fz_W g A s (ws.set q0 (a, .inr (2, fs.set 11 (.int x)))) H1 locs1 → W p l e R s m args below meth c H1 locs1 cells slots Q (F0 m (pc + 3) ls rest)) : W p l e R s m args below meth c H locs cells slots Q (F0 m pc ls (.int x :: .ref a :: rest)) := fz_pf X hW inX2 rfl tyX2 tyX2_ok nmX2 11 (by decide) mw_117 rfl rfl rfl rfl q0 he hl hdg kk
theorem pf_X2_56 (X : fz_X p s m meth c RX2 cc n ret g A) (hW : fz_W g A s ws H locs) (q0 : Nat) {fs : List Value} (he : ws[q0]? = some (a, .inr (2, fs))) {x : Int32} (hl : 12 < fs.length) (hdg : decode cc pc = .ok (.putfield 56, 3)) (kk : ∀ (H1 : Heap) (locs1 : List Loc), fz_W g A s (ws.set q0 (a, .inr (2, fs.set 12 (.int x)))) H1 locs1 → W p l e R s m args below meth c H1 locs1 cells slots Q (F0 m (pc + 3) ls rest)) : W p l e R s m args below meth c H locs cells slots Q (F0 m pc ls (.int x :: .ref a :: rest)) := fz_pf X hW inX2 rfl tyX2 tyX2_ok nmX2 12 (by decide) mw_119 rfl rfl rfl rfl q0 he hl hdg kk
theorem pf_X2_59 (X : fz_X p s m meth c RX2 cc n ret g A) (hW : fz_W g A s ws H locs) (q0 : Nat) {fs : List Value} (he : ws[q0]? = some (a, .inr (2, fs))) {x : Int32} (hl : 13 < fs.length) (hdg : decode cc pc = .ok (.putfield 59, 3)) (kk : ∀ (H1 : Heap) (locs1 : List Loc), fz_W g A s (ws.set q0 (a, .inr (2, fs.set 13 (.int x)))) H1 locs1 → W p l e R s m args below meth c H1 locs1 cells slots Q (F0 m (pc + 3) ls rest)) : W p l e R s m args below meth c H locs cells slots Q (F0 m pc ls (.int x :: .ref a :: rest)) := fz_pf X hW inX2 rfl tyX2 tyX2_ok nmX2 13 (by decide) mw_121 rfl rfl rfl rfl q0 he hl hdg kk
theorem lk_L_7 : fz_LV RL 7 yX3_fill cX3_fill 6 (some .int) 5 := ⟨⟨mw_30, mw_206, by decide +kernel, by decide +kernel, by decide +kernel⟩, mw_203, mw_204, mw_205⟩
theorem lk_L_17 : fz_LV RL 17 yX3_move cX3_move 7 (some .int) 6 := ⟨⟨mw_30, mw_332, by decide +kernel, by decide +kernel, by decide +kernel⟩, mw_329, mw_330, mw_331⟩
theorem lk_L_21 : fz_LV RL 21 yX3_look cX3_look 4 (some .int) 2 := ⟨⟨mw_30, mw_354, by decide +kernel, by decide +kernel, by decide +kernel⟩, mw_351, mw_352, mw_353⟩
theorem lk_L_25 : fz_LV RL 25 yX3_step cX3_step 2 (some .int) 1 := ⟨⟨mw_30, mw_362, by decide +kernel, by decide +kernel, by decide +kernel⟩, mw_359, mw_360, mw_361⟩
theorem lk_L_29 : fz_LV RL 29 yX3_near cX3_near 3 (some .int) 2 := ⟨⟨mw_30, mw_452, by decide +kernel, by decide +kernel, by decide +kernel⟩, mw_449, mw_450, mw_451⟩
theorem lk_L_32 : fz_LV RL 32 yX3_far cX3_far 3 (some .int) 2 := ⟨⟨mw_30, mw_459, by decide +kernel, by decide +kernel, by decide +kernel⟩, mw_456, mw_457, mw_458⟩
theorem lk_L_35 : fz_LV RL 35 yX3_kind cX3_kind 3 (some .int) 2 := ⟨⟨mw_30, mw_466, by decide +kernel, by decide +kernel, by decide +kernel⟩, mw_463, mw_464, mw_465⟩
theorem lk_L_38 : fz_LV RL 38 yX3_since cX3_since 3 (some .int) 2 := ⟨⟨mw_30, mw_474, by decide +kernel, by decide +kernel, by decide +kernel⟩, mw_471, mw_472, mw_473⟩
theorem lk_L_41 : fz_LV RL 41 yX3_known cX3_known 2 (some .int) 1 := ⟨⟨mw_30, mw_481, by decide +kernel, by decide +kernel, by decide +kernel⟩, mw_478, mw_479, mw_480⟩
theorem lk_L_44 : fz_LV RL 44 yX3_sent cX3_sent 2 (some .int) 1 := ⟨⟨mw_30, mw_489, by decide +kernel, by decide +kernel, by decide +kernel⟩, mw_486, mw_487, mw_488⟩
theorem lk_L_47 : fz_LV RL 47 yX3_stepsToGo cX3_stepsToGo 5 (some .int) 1 := ⟨⟨mw_30, mw_497, by decide +kernel, by decide +kernel, by decide +kernel⟩, mw_494, mw_495, mw_496⟩
theorem lk_L_59 : fz_LV RL 59 yX4_fill cX4_fill 7 (some .int) 5 := ⟨⟨mw_34, mw_593, by decide +kernel, by decide +kernel, by decide +kernel⟩, mw_590, mw_591, mw_592⟩
theorem lk_L_60 : fz_LV RL 60 yX4_thrown cX4_thrown 1 (some .int) 0 := ⟨⟨mw_34, mw_589, by decide +kernel, by decide +kernel, by decide +kernel⟩, mw_586, mw_587, mw_588⟩
theorem lk_L_67 : fz_LV RL 67 yX4_move cX4_move 9 (some .int) 6 := ⟨⟨mw_34, mw_618, by decide +kernel, by decide +kernel, by decide +kernel⟩, mw_615, mw_616, mw_617⟩
theorem lk_L_71 : fz_LV RL 71 yX4_look cX4_look 4 (some .int) 2 := ⟨⟨mw_34, mw_626, by decide +kernel, by decide +kernel, by decide +kernel⟩, mw_623, mw_624, mw_625⟩
theorem lk_L_75 : fz_LV RL 75 yX4_step cX4_step 3 (some .int) 1 := ⟨⟨mw_34, mw_630, by decide +kernel, by decide +kernel, by decide +kernel⟩, mw_627, mw_628, mw_629⟩
theorem lk_L_76 : fz_LV RL 76 yX3_time cX3_time 1 (some .int) 0 := ⟨⟨mw_30, mw_162, by decide +kernel, by decide +kernel, by decide +kernel⟩, mw_159, mw_160, mw_161⟩
theorem lk_L_79 : fz_LV RL 79 yX4_time cX4_time 1 (some .int) 0 := ⟨⟨mw_34, mw_666, by decide +kernel, by decide +kernel, by decide +kernel⟩, mw_663, mw_664, mw_665⟩
theorem lk_L_82 : fz_LV RL 82 yX4_near cX4_near 3 (some .int) 2 := ⟨⟨mw_34, mw_670, by decide +kernel, by decide +kernel, by decide +kernel⟩, mw_667, mw_668, mw_669⟩
theorem lk_L_85 : fz_LV RL 85 yX4_far cX4_far 3 (some .int) 2 := ⟨⟨mw_34, mw_678, by decide +kernel, by decide +kernel, by decide +kernel⟩, mw_675, mw_676, mw_677⟩
theorem lk_L_88 : fz_LV RL 88 yX4_kind cX4_kind 3 (some .int) 2 := ⟨⟨mw_34, mw_682, by decide +kernel, by decide +kernel, by decide +kernel⟩, mw_679, mw_680, mw_681⟩
theorem lk_L_91 : fz_LV RL 91 yX4_since cX4_since 3 (some .int) 2 := ⟨⟨mw_34, mw_686, by decide +kernel, by decide +kernel, by decide +kernel⟩, mw_683, mw_684, mw_685⟩
theorem lk_L_92 : fz_LV RL 92 yX3_unlike cX3_unlike 1 (some .long) 0 := ⟨⟨mw_30, mw_166, by decide +kernel, by decide +kernel, by decide +kernel⟩, mw_163, mw_164, mw_165⟩
theorem lk_L_96 : fz_LV RL 96 yX4_unlike cX4_unlike 4 (some .long) 0 := ⟨⟨mw_34, mw_690, by decide +kernel, by decide +kernel, by decide +kernel⟩, mw_687, mw_688, mw_689⟩
theorem lk_L_97 : fz_LV RL 97 yX3_rough cX3_rough 1 (some .int) 0 := ⟨⟨mw_30, mw_174, by decide +kernel, by decide +kernel, by decide +kernel⟩, mw_171, mw_172, mw_173⟩
theorem lk_L_100 : fz_LV RL 100 yX4_rough cX4_rough 3 (some .int) 0 := ⟨⟨mw_34, mw_694, by decide +kernel, by decide +kernel, by decide +kernel⟩, mw_691, mw_692, mw_693⟩
theorem lk_L_101 : fz_LV RL 101 yX3_waiting cX3_waiting 1 (some .int) 0 := ⟨⟨mw_30, mw_182, by decide +kernel, by decide +kernel, by decide +kernel⟩, mw_179, mw_180, mw_181⟩
theorem lk_L_104 : fz_LV RL 104 yX4_waiting cX4_waiting 1 (some .int) 0 := ⟨⟨mw_34, mw_698, by decide +kernel, by decide +kernel, by decide +kernel⟩, mw_695, mw_696, mw_697⟩
theorem lk_L_107 : fz_LV RL 107 yX4_known cX4_known 2 (some .int) 1 := ⟨⟨mw_34, mw_702, by decide +kernel, by decide +kernel, by decide +kernel⟩, mw_699, mw_700, mw_701⟩
theorem lk_L_108 : fz_LV RL 108 yX3_knownPictures cX3_knownPictures 1 (some .int) 0 := ⟨⟨mw_30, mw_186, by decide +kernel, by decide +kernel, by decide +kernel⟩, mw_183, mw_184, mw_185⟩
theorem lk_L_111 : fz_LV RL 111 yX4_knownPictures cX4_knownPictures 1 (some .int) 0 := ⟨⟨mw_34, mw_706, by decide +kernel, by decide +kernel, by decide +kernel⟩, mw_703, mw_704, mw_705⟩
theorem lk_L_114 : fz_LV RL 114 yX4_sent cX4_sent 2 (some .int) 1 := ⟨⟨mw_34, mw_710, by decide +kernel, by decide +kernel, by decide +kernel⟩, mw_707, mw_708, mw_709⟩
theorem lk_L_115 : fz_LV RL 115 yX3_used cX3_used 1 (some .int) 0 := ⟨⟨mw_30, mw_190, by decide +kernel, by decide +kernel, by decide +kernel⟩, mw_187, mw_188, mw_189⟩
theorem lk_L_118 : fz_LV RL 118 yX4_used cX4_used 1 (some .int) 0 := ⟨⟨mw_34, mw_714, by decide +kernel, by decide +kernel, by decide +kernel⟩, mw_711, mw_712, mw_713⟩
theorem lk_L_119 : fz_LV RL 119 yX3_anew cX3_anew 3 (some .int) 0 := ⟨⟨mw_30, mw_194, by decide +kernel, by decide +kernel, by decide +kernel⟩, mw_191, mw_192, mw_193⟩
theorem lk_L_122 : fz_LV RL 122 yX4_anew cX4_anew 3 (some .int) 0 := ⟨⟨mw_34, mw_718, by decide +kernel, by decide +kernel, by decide +kernel⟩, mw_715, mw_716, mw_717⟩
theorem lk_L_125 : fz_LV RL 125 yX4_stepsToGo cX4_stepsToGo 6 (some .int) 1 := ⟨⟨mw_34, mw_722, by decide +kernel, by decide +kernel, by decide +kernel⟩, mw_719, mw_720, mw_721⟩
theorem gf_X4_7 (X : fz_X p s m meth c RX4 cc n ret g A) (hW : fz_W g A s ws H locs) (q0 : Nat) {fs : List Value} (he : ws[q0]? = some (a, .inr (4, fs))) {v : Value} (hv : fs[3]? = some v) (hdg : decode cc pc = .ok (.getfield 7, 3)) (kk : W p l e R s m args below meth c H locs cells slots Q (F0 m (pc + 3) ls (v :: rest))) : W p l e R s m args below meth c H locs cells slots Q (F0 m pc ls (.ref a :: rest)) := fz_gf X hW inX4 rfl 3 (by decide) mw_524 rfl q0 he hv hdg kk
theorem gf_X4_13 (X : fz_X p s m meth c RX4 cc n ret g A) (hW : fz_W g A s ws H locs) (q0 : Nat) {fs : List Value} (he : ws[q0]? = some (a, .inr (4, fs))) {v : Value} (hv : fs[4]? = some v) (hdg : decode cc pc = .ok (.getfield 13, 3)) (kk : W p l e R s m args below meth c H locs cells slots Q (F0 m (pc + 3) ls (v :: rest))) : W p l e R s m args below meth c H locs cells slots Q (F0 m pc ls (.ref a :: rest)) := fz_gf X hW inX4 rfl 4 (by decide) mw_525 rfl q0 he hv hdg kk
theorem gf_X4_16 (X : fz_X p s m meth c RX4 cc n ret g A) (hW : fz_W g A s ws H locs) (q0 : Nat) {fs : List Value} (he : ws[q0]? = some (a, .inr (4, fs))) {v : Value} (hv : fs[5]? = some v) (hdg : decode cc pc = .ok (.getfield 16, 3)) (kk : W p l e R s m args below meth c H locs cells slots Q (F0 m (pc + 3) ls (v :: rest))) : W p l e R s m args below meth c H locs cells slots Q (F0 m pc ls (.ref a :: rest)) := fz_gf X hW inX4 rfl 5 (by decide) mw_526 rfl q0 he hv hdg kk
theorem gf_X4_19 (X : fz_X p s m meth c RX4 cc n ret g A) (hW : fz_W g A s ws H locs) (q0 : Nat) {fs : List Value} (he : ws[q0]? = some (a, .inr (4, fs))) {v : Value} (hv : fs[6]? = some v) (hdg : decode cc pc = .ok (.getfield 19, 3)) (kk : W p l e R s m args below meth c H locs cells slots Q (F0 m (pc + 3) ls (v :: rest))) : W p l e R s m args below meth c H locs cells slots Q (F0 m pc ls (.ref a :: rest)) := fz_gf X hW inX4 rfl 6 (by decide) mw_527 rfl q0 he hv hdg kk
theorem gf_X4_22 (X : fz_X p s m meth c RX4 cc n ret g A) (hW : fz_W g A s ws H locs) (q0 : Nat) {fs : List Value} (he : ws[q0]? = some (a, .inr (4, fs))) {v : Value} (hv : fs[8]? = some v) (hdg : decode cc pc = .ok (.getfield 22, 3)) (kk : W p l e R s m args below meth c H locs cells slots Q (F0 m (pc + 3) ls (v :: rest))) : W p l e R s m args below meth c H locs cells slots Q (F0 m pc ls (.ref a :: rest)) := fz_gf X hW inX4 rfl 8 (by decide) mw_529 rfl q0 he hv hdg kk
theorem gf_X4_25 (X : fz_X p s m meth c RX4 cc n ret g A) (hW : fz_W g A s ws H locs) (q0 : Nat) {fs : List Value} (he : ws[q0]? = some (a, .inr (4, fs))) {v : Value} (hv : fs[9]? = some v) (hdg : decode cc pc = .ok (.getfield 25, 3)) (kk : W p l e R s m args below meth c H locs cells slots Q (F0 m (pc + 3) ls (v :: rest))) : W p l e R s m args below meth c H locs cells slots Q (F0 m pc ls (.ref a :: rest)) := fz_gf X hW inX4 rfl 9 (by decide) mw_530 rfl q0 he hv hdg kk
theorem gf_X4_28 (X : fz_X p s m meth c RX4 cc n ret g A) (hW : fz_W g A s ws H locs) (q0 : Nat) {fs : List Value} (he : ws[q0]? = some (a, .inr (4, fs))) {v : Value} (hv : fs[10]? = some v) (hdg : decode cc pc = .ok (.getfield 28, 3)) (kk : W p l e R s m args below meth c H locs cells slots Q (F0 m (pc + 3) ls (v :: rest))) : W p l e R s m args below meth c H locs cells slots Q (F0 m pc ls (.ref a :: rest)) := fz_gf X hW inX4 rfl 10 (by decide) mw_531 rfl q0 he hv hdg kk
theorem gf_X4_31 (X : fz_X p s m meth c RX4 cc n ret g A) (hW : fz_W g A s ws H locs) (q0 : Nat) {fs : List Value} (he : ws[q0]? = some (a, .inr (4, fs))) {v : Value} (hv : fs[11]? = some v) (hdg : decode cc pc = .ok (.getfield 31, 3)) (kk : W p l e R s m args below meth c H locs cells slots Q (F0 m (pc + 3) ls (v :: rest))) : W p l e R s m args below meth c H locs cells slots Q (F0 m pc ls (.ref a :: rest)) := fz_gf X hW inX4 rfl 11 (by decide) mw_532 rfl q0 he hv hdg kk
theorem gf_X4_34 (X : fz_X p s m meth c RX4 cc n ret g A) (hW : fz_W g A s ws H locs) (q0 : Nat) {fs : List Value} (he : ws[q0]? = some (a, .inr (4, fs))) {v : Value} (hv : fs[13]? = some v) (hdg : decode cc pc = .ok (.getfield 34, 3)) (kk : W p l e R s m args below meth c H locs cells slots Q (F0 m (pc + 3) ls (v :: rest))) : W p l e R s m args below meth c H locs cells slots Q (F0 m pc ls (.ref a :: rest)) := fz_gf X hW inX4 rfl 13 (by decide) mw_534 rfl q0 he hv hdg kk
theorem gf_X4_37 (X : fz_X p s m meth c RX4 cc n ret g A) (hW : fz_W g A s ws H locs) (q0 : Nat) {fs : List Value} (he : ws[q0]? = some (a, .inr (4, fs))) {v : Value} (hv : fs[14]? = some v) (hdg : decode cc pc = .ok (.getfield 37, 3)) (kk : W p l e R s m args below meth c H locs cells slots Q (F0 m (pc + 3) ls (v :: rest))) : W p l e R s m args below meth c H locs cells slots Q (F0 m pc ls (.ref a :: rest)) := fz_gf X hW inX4 rfl 14 (by decide) mw_535 rfl q0 he hv hdg kk
theorem gf_X4_40 (X : fz_X p s m meth c RX4 cc n ret g A) (hW : fz_W g A s ws H locs) (q0 : Nat) {fs : List Value} (he : ws[q0]? = some (a, .inr (4, fs))) {v : Value} (hv : fs[16]? = some v) (hdg : decode cc pc = .ok (.getfield 40, 3)) (kk : W p l e R s m args below meth c H locs cells slots Q (F0 m (pc + 3) ls (v :: rest))) : W p l e R s m args below meth c H locs cells slots Q (F0 m pc ls (.ref a :: rest)) := fz_gf X hW inX4 rfl 16 (by decide) mw_537 rfl q0 he hv hdg kk
theorem gf_X4_43 (X : fz_X p s m meth c RX4 cc n ret g A) (hW : fz_W g A s ws H locs) (q0 : Nat) {fs : List Value} (he : ws[q0]? = some (a, .inr (4, fs))) {v : Value} (hv : fs[17]? = some v) (hdg : decode cc pc = .ok (.getfield 43, 3)) (kk : W p l e R s m args below meth c H locs cells slots Q (F0 m (pc + 3) ls (v :: rest))) : W p l e R s m args below meth c H locs cells slots Q (F0 m pc ls (.ref a :: rest)) := fz_gf X hW inX4 rfl 17 (by decide) mw_538 rfl q0 he hv hdg kk
theorem gf_X4_47 (X : fz_X p s m meth c RX4 cc n ret g A) (hW : fz_W g A s ws H locs) (q0 : Nat) {fs : List Value} (he : ws[q0]? = some (a, .inr (4, fs))) {v : Value} (hv : fs[18]? = some v) (hdg : decode cc pc = .ok (.getfield 47, 3)) (kk : W p l e R s m args below meth c H locs cells slots Q (F0 m (pc + 3) ls (v :: rest))) : W p l e R s m args below meth c H locs cells slots Q (F0 m pc ls (.ref a :: rest)) := fz_gf X hW inX4 rfl 18 (by decide) mw_539 rfl q0 he hv hdg kk
theorem gf_X4_50 (X : fz_X p s m meth c RX4 cc n ret g A) (hW : fz_W g A s ws H locs) (q0 : Nat) {fs : List Value} (he : ws[q0]? = some (a, .inr (4, fs))) {v : Value} (hv : fs[19]? = some v) (hdg : decode cc pc = .ok (.getfield 50, 3)) (kk : W p l e R s m args below meth c H locs cells slots Q (F0 m (pc + 3) ls (v :: rest))) : W p l e R s m args below meth c H locs cells slots Q (F0 m pc ls (.ref a :: rest)) := fz_gf X hW inX4 rfl 19 (by decide) mw_540 rfl q0 he hv hdg kk
theorem gf_X4_53 (X : fz_X p s m meth c RX4 cc n ret g A) (hW : fz_W g A s ws H locs) (q0 : Nat) {fs : List Value} (he : ws[q0]? = some (a, .inr (4, fs))) {v : Value} (hv : fs[0]? = some v) (hdg : decode cc pc = .ok (.getfield 53, 3)) (kk : W p l e R s m args below meth c H locs cells slots Q (F0 m (pc + 3) ls (v :: rest))) : W p l e R s m args below meth c H locs cells slots Q (F0 m pc ls (.ref a :: rest)) := fz_gf X hW inX4 rfl 0 (by decide) mw_521 rfl q0 he hv hdg kk
theorem gf_X4_65 (X : fz_X p s m meth c RX4 cc n ret g A) (hW : fz_W g A s ws H locs) (q0 : Nat) {fs : List Value} (he : ws[q0]? = some (a, .inr (4, fs))) {v : Value} (hv : fs[1]? = some v) (hdg : decode cc pc = .ok (.getfield 65, 3)) (kk : W p l e R s m args below meth c H locs cells slots Q (F0 m (pc + 3) ls (v :: rest))) : W p l e R s m args below meth c H locs cells slots Q (F0 m pc ls (.ref a :: rest)) := fz_gf X hW inX4 rfl 1 (by decide) mw_522 rfl q0 he hv hdg kk
theorem gf_X4_88 (X : fz_X p s m meth c RX4 cc n ret g A) (hW : fz_W g A s ws H locs) (q0 : Nat) {fs : List Value} (he : ws[q0]? = some (a, .inr (4, fs))) {v : Value} (hv : fs[7]? = some v) (hdg : decode cc pc = .ok (.getfield 88, 3)) (kk : W p l e R s m args below meth c H locs cells slots Q (F0 m (pc + 3) ls (v :: rest))) : W p l e R s m args below meth c H locs cells slots Q (F0 m pc ls (.ref a :: rest)) := fz_gf X hW inX4 rfl 7 (by decide) mw_528 rfl q0 he hv hdg kk
theorem gf_X4_91 (X : fz_X p s m meth c RX4 cc n ret g A) (hW : fz_W g A s ws H locs) (q0 : Nat) {fs : List Value} (he : ws[q0]? = some (a, .inr (4, fs))) {v : Value} (hv : fs[2]? = some v) (hdg : decode cc pc = .ok (.getfield 91, 3)) (kk : W p l e R s m args below meth c H locs cells slots Q (F0 m (pc + 3) ls (v :: rest))) : W p l e R s m args below meth c H locs cells slots Q (F0 m pc ls (.ref a :: rest)) := fz_gf X hW inX4 rfl 2 (by decide) mw_523 rfl q0 he hv hdg kk
theorem gf_X4_94 (X : fz_X p s m meth c RX4 cc n ret g A) (hW : fz_W g A s ws H locs) (q0 : Nat) {fs : List Value} (he : ws[q0]? = some (a, .inr (4, fs))) {v : Value} (hv : fs[12]? = some v) (hdg : decode cc pc = .ok (.getfield 94, 3)) (kk : W p l e R s m args below meth c H locs cells slots Q (F0 m (pc + 3) ls (v :: rest))) : W p l e R s m args below meth c H locs cells slots Q (F0 m pc ls (.ref a :: rest)) := fz_gf X hW inX4 rfl 12 (by decide) mw_533 rfl q0 he hv hdg kk
theorem gf_X4_124 (X : fz_X p s m meth c RX4 cc n ret g A) (hW : fz_W g A s ws H locs) (q0 : Nat) {fs : List Value} (he : ws[q0]? = some (a, .inr (4, fs))) {v : Value} (hv : fs[15]? = some v) (hdg : decode cc pc = .ok (.getfield 124, 3)) (kk : W p l e R s m args below meth c H locs cells slots Q (F0 m (pc + 3) ls (v :: rest))) : W p l e R s m args below meth c H locs cells slots Q (F0 m pc ls (.ref a :: rest)) := fz_gf X hW inX4 rfl 15 (by decide) mw_536 rfl q0 he hv hdg kk
theorem gf_X4_130 (X : fz_X p s m meth c RX4 cc n ret g A) (hW : fz_W g A s ws H locs) (q0 : Nat) {fs : List Value} (he : ws[q0]? = some (a, .inr (4, fs))) {v : Value} (hv : fs[20]? = some v) (hdg : decode cc pc = .ok (.getfield 130, 3)) (kk : W p l e R s m args below meth c H locs cells slots Q (F0 m (pc + 3) ls (v :: rest))) : W p l e R s m args below meth c H locs cells slots Q (F0 m pc ls (.ref a :: rest)) := fz_gf X hW inX4 rfl 20 (by decide) mw_541 rfl q0 he hv hdg kk
theorem lk_X4_57 : fz_LS RX4 57 yX4_isIn cX4_isIn 3 (some .boolean) 3 := ⟨⟨mw_34, mw_602, by decide +kernel, by decide +kernel, by decide +kernel⟩, mw_600, mw_601⟩
theorem lk_X4_61 : fz_LS RX4 61 yX4_isTile cX4_isTile 2 (some .boolean) 2 := ⟨⟨mw_34, mw_599, by decide +kernel, by decide +kernel, by decide +kernel⟩, mw_597, mw_598⟩
theorem lk_X4_72 : fz_LS RX4 72 yX4_isBlock cX4_isBlock 4 (some .boolean) 4 := ⟨⟨mw_34, mw_596, by decide +kernel, by decide +kernel, by decide +kernel⟩, mw_594, mw_595⟩
theorem lk_X4_68 : fz_LV RX4 68 yX4_compares cX4_compares 3 none 1 := ⟨⟨mw_34, mw_610, by decide +kernel, by decide +kernel, by decide +kernel⟩, mw_607, mw_609, mw_15⟩
theorem lk_X4_76 : fz_LV RX4 76 yX4_draws cX4_draws 3 none 2 := ⟨⟨mw_34, mw_606, by decide +kernel, by decide +kernel, by decide +kernel⟩, mw_603, mw_605, mw_14⟩
theorem lk_X4_80 : fz_LV RX4 80 yX4_unlikeTiles cX4_unlikeTiles 3 (some .int) 0 := ⟨⟨mw_34, mw_614, by decide +kernel, by decide +kernel, by decide +kernel⟩, mw_611, mw_613, mw_16⟩
theorem lk_X4_84 : fz_LV RX4 84 yX4_copies cX4_copies 6 none 4 := ⟨⟨mw_34, mw_622, by decide +kernel, by decide +kernel, by decide +kernel⟩, mw_619, mw_621, mw_17⟩
theorem lk_X4_97 : fz_LV RX4 97 yX4_isKnown cX4_isKnown 4 (some .boolean) 1 := ⟨⟨mw_34, mw_654, by decide +kernel, by decide +kernel, by decide +kernel⟩, mw_651, mw_653, mw_23⟩
theorem lk_X4_101 : fz_LV RX4 101 yX4_kindOf cX4_kindOf 4 (some .int) 1 := ⟨⟨mw_34, mw_658, by decide +kernel, by decide +kernel, by decide +kernel⟩, mw_655, mw_657, mw_24⟩
theorem lk_X4_105 : fz_LV RX4 105 yX4_meets cX4_meets 4 none 1 := ⟨⟨mw_34, mw_662, by decide +kernel, by decide +kernel, by decide +kernel⟩, mw_659, mw_661, mw_25⟩
theorem lk_X4_108 : fz_LV RX4 108 yX4_tellsMove cX4_tellsMove 4 none 0 := ⟨⟨mw_34, mw_638, by decide +kernel, by decide +kernel, by decide +kernel⟩, mw_635, mw_637, mw_19⟩
theorem lk_X4_111 : fz_LV RX4 111 yX4_isLookedAt cX4_isLookedAt 4 (some .boolean) 1 := ⟨⟨mw_34, mw_642, by decide +kernel, by decide +kernel, by decide +kernel⟩, mw_639, mw_641, mw_20⟩
theorem lk_X4_114 : fz_LV RX4 114 yX4_nextTile cX4_nextTile 3 (some .int) 0 := ⟨⟨mw_34, mw_646, by decide +kernel, by decide +kernel, by decide +kernel⟩, mw_643, mw_645, mw_21⟩
theorem lk_X4_117 : fz_LV RX4 117 yX4_sends cX4_sends 7 (some .int) 2 := ⟨⟨mw_34, mw_650, by decide +kernel, by decide +kernel, by decide +kernel⟩, mw_647, mw_649, mw_22⟩
theorem lk_X4_121 : fz_LV RX4 121 yX4_passes cX4_passes 5 (some .int) 1 := ⟨⟨mw_34, mw_634, by decide +kernel, by decide +kernel, by decide +kernel⟩, mw_631, mw_633, mw_18⟩
theorem lk_X4_127 : fz_LV RX4 127 yX4_asks cX4_asks 3 (some .boolean) 2 := ⟨⟨mw_34, mw_674, by decide +kernel, by decide +kernel, by decide +kernel⟩, mw_671, mw_673, mw_26⟩
theorem lk_X4_133 : fz_LV RX4 133 yX4_keeps cX4_keeps 5 none 3 := ⟨⟨mw_34, mw_730, by decide +kernel, by decide +kernel, by decide +kernel⟩, mw_727, mw_729, mw_28⟩
theorem lk_X4_137 : fz_LV RX4 137 yX4_keepsAll cX4_keepsAll 2 none 1 := ⟨⟨mw_34, mw_726, by decide +kernel, by decide +kernel, by decide +kernel⟩, mw_723, mw_725, mw_27⟩
theorem pf_X4_53 (X : fz_X p s m meth c RX4 cc n ret g A) (hW : fz_W g A s ws H locs) (q0 : Nat) {fs : List Value} (he : ws[q0]? = some (a, .inr (4, fs))) {x : Int32} (hl : 0 < fs.length) (hdg : decode cc pc = .ok (.putfield 53, 3)) (kk : ∀ (H1 : Heap) (locs1 : List Loc), fz_W g A s (ws.set q0 (a, .inr (4, fs.set 0 (.int x)))) H1 locs1 → W p l e R s m args below meth c H1 locs1 cells slots Q (F0 m (pc + 3) ls rest)) : W p l e R s m args below meth c H locs cells slots Q (F0 m pc ls (.int x :: .ref a :: rest)) := fz_pf X hW inX4 rfl tyX4 tyX4_ok nmX4 0 (by decide) mw_521 rfl rfl rfl rfl q0 he hl hdg kk
theorem pf_X4_65 (X : fz_X p s m meth c RX4 cc n ret g A) (hW : fz_W g A s ws H locs) (q0 : Nat) {fs : List Value} (he : ws[q0]? = some (a, .inr (4, fs))) {x : Int32} (hl : 1 < fs.length) (hdg : decode cc pc = .ok (.putfield 65, 3)) (kk : ∀ (H1 : Heap) (locs1 : List Loc), fz_W g A s (ws.set q0 (a, .inr (4, fs.set 1 (.int x)))) H1 locs1 → W p l e R s m args below meth c H1 locs1 cells slots Q (F0 m (pc + 3) ls rest)) : W p l e R s m args below meth c H locs cells slots Q (F0 m pc ls (.int x :: .ref a :: rest)) := fz_pf X hW inX4 rfl tyX4 tyX4_ok nmX4 1 (by decide) mw_522 rfl rfl rfl rfl q0 he hl hdg kk
theorem pf_X4_88 (X : fz_X p s m meth c RX4 cc n ret g A) (hW : fz_W g A s ws H locs) (q0 : Nat) {fs : List Value} (he : ws[q0]? = some (a, .inr (4, fs))) {x : Int32} (hl : 7 < fs.length) (hdg : decode cc pc = .ok (.putfield 88, 3)) (kk : ∀ (H1 : Heap) (locs1 : List Loc), fz_W g A s (ws.set q0 (a, .inr (4, fs.set 7 (.int x)))) H1 locs1 → W p l e R s m args below meth c H1 locs1 cells slots Q (F0 m (pc + 3) ls rest)) : W p l e R s m args below meth c H locs cells slots Q (F0 m pc ls (.int x :: .ref a :: rest)) := fz_pf X hW inX4 rfl tyX4 tyX4_ok nmX4 7 (by decide) mw_528 rfl rfl rfl rfl q0 he hl hdg kk
theorem pf_X4_91 (X : fz_X p s m meth c RX4 cc n ret g A) (hW : fz_W g A s ws H locs) (q0 : Nat) {fs : List Value} (he : ws[q0]? = some (a, .inr (4, fs))) {x : Int32} (hl : 2 < fs.length) (hdg : decode cc pc = .ok (.putfield 91, 3)) (kk : ∀ (H1 : Heap) (locs1 : List Loc), fz_W g A s (ws.set q0 (a, .inr (4, fs.set 2 (.int x)))) H1 locs1 → W p l e R s m args below meth c H1 locs1 cells slots Q (F0 m (pc + 3) ls rest)) : W p l e R s m args below meth c H locs cells slots Q (F0 m pc ls (.int x :: .ref a :: rest)) := fz_pf X hW inX4 rfl tyX4 tyX4_ok nmX4 2 (by decide) mw_523 rfl rfl rfl rfl q0 he hl hdg kk
theorem pf_X4_94 (X : fz_X p s m meth c RX4 cc n ret g A) (hW : fz_W g A s ws H locs) (q0 : Nat) {fs : List Value} (he : ws[q0]? = some (a, .inr (4, fs))) {x : Int32} (hl : 12 < fs.length) (hdg : decode cc pc = .ok (.putfield 94, 3)) (kk : ∀ (H1 : Heap) (locs1 : List Loc), fz_W g A s (ws.set q0 (a, .inr (4, fs.set 12 (.int x)))) H1 locs1 → W p l e R s m args below meth c H1 locs1 cells slots Q (F0 m (pc + 3) ls rest)) : W p l e R s m args below meth c H locs cells slots Q (F0 m pc ls (.int x :: .ref a :: rest)) := fz_pf X hW inX4 rfl tyX4 tyX4_ok nmX4 12 (by decide) mw_533 rfl rfl rfl rfl q0 he hl hdg kk
theorem pf_X4_124 (X : fz_X p s m meth c RX4 cc n ret g A) (hW : fz_W g A s ws H locs) (q0 : Nat) {fs : List Value} (he : ws[q0]? = some (a, .inr (4, fs))) {x : Int32} (hl : 15 < fs.length) (hdg : decode cc pc = .ok (.putfield 124, 3)) (kk : ∀ (H1 : Heap) (locs1 : List Loc), fz_W g A s (ws.set q0 (a, .inr (4, fs.set 15 (.int x)))) H1 locs1 → W p l e R s m args below meth c H1 locs1 cells slots Q (F0 m (pc + 3) ls rest)) : W p l e R s m args below meth c H locs cells slots Q (F0 m pc ls (.int x :: .ref a :: rest)) := fz_pf X hW inX4 rfl tyX4 tyX4_ok nmX4 15 (by decide) mw_536 rfl rfl rfl rfl q0 he hl hdg kk
theorem pf_X4_130 (X : fz_X p s m meth c RX4 cc n ret g A) (hW : fz_W g A s ws H locs) (q0 : Nat) {fs : List Value} (he : ws[q0]? = some (a, .inr (4, fs))) {x : Int32} (hl : 20 < fs.length) (hdg : decode cc pc = .ok (.putfield 130, 3)) (kk : ∀ (H1 : Heap) (locs1 : List Loc), fz_W g A s (ws.set q0 (a, .inr (4, fs.set 20 (.int x)))) H1 locs1 → W p l e R s m args below meth c H1 locs1 cells slots Q (F0 m (pc + 3) ls rest)) : W p l e R s m args below meth c H locs cells slots Q (F0 m pc ls (.int x :: .ref a :: rest)) := fz_pf X hW inX4 rfl tyX4 tyX4_ok nmX4 20 (by decide) mw_541 rfl rfl rfl rfl q0 he hl hdg kk
end FZL
