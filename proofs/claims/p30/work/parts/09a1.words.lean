/-! words of the tables -/
theorem q_250 : Cond.methodLink RX0 86 Lib.Math.max.name ∈ TBL := tb_z (tz_2 (List.mem_of_getElem? (i := 46) rfl)) rfl
theorem q_251 : Cond.static Lib.Math.max.name ∈ TBL := tb_z (tz_1 (List.mem_of_getElem? (i := 46) rfl)) rfl
theorem q_252 : Cond.code Lib.Math.max.name Lib.Math.max.code 2 (some .int) ∈ TBL := tb_z (tz_1 (List.mem_of_getElem? (i := 47) rfl)) rfl
theorem q_253 : Cond.methodLinkNest RX5 80 yX7_bit "LakeLevels" ∈ NST := tb_n (tz_2 (List.mem_of_getElem? (i := 65) rfl)) rfl
theorem q_254 : Cond.methodLinkNest RX5 83 yX7_lowestIn "LakeLevels" ∈ NST := tb_n (tz_2 (List.mem_of_getElem? (i := 68) rfl)) rfl
theorem q_255 : Cond.code yX7_lowestIn cX7_lowestIn 2 (some .int) ∈ TBL := tb_z (tz_2 (List.mem_of_getElem? (i := 70) rfl)) rfl
theorem q_256 : Cond.initialized yX7_lowestIn.cls ∈ TBL := tb_z (tz_1 (List.mem_of_getElem? (i := 1) rfl)) rfl
theorem q_257 : Cond.static yX7_lowestIn ∈ TBL := tb_z (tz_2 (List.mem_of_getElem? (i := 69) rfl)) rfl
theorem q_258 : Cond.fieldLinkNest RX5 87 (TX0 4).1 (TX0 4).2.1 (TX0 4).2.2.1 "LakeLevels" ∈ NST := tb_n (tz_1 (List.mem_of_getElem? (i := 68) rfl)) rfl
theorem q_259 : Cond.methodLink RX5 74 yX3_at ∈ TBL := tb_z (tz_2 (List.mem_of_getElem? (i := 77) rfl)) rfl
theorem q_260 : Cond.constantLong RX5 90 (-1 : Int64) ∈ TBL := tb_z (tz_2 (List.mem_of_getElem? (i := 78) rfl)) rfl
theorem q_261 : Cond.fieldLinkNest RX5 92 (TX0 5).1 (TX0 5).2.1 (TX0 5).2.2.1 "LakeLevels" ∈ NST := tb_n (tz_1 (List.mem_of_getElem? (i := 73) rfl)) rfl
theorem q_262 : Cond.fieldLinkNest RX5 95 (TX0 7).1 (TX0 7).2.1 (TX0 7).2.2.1 "LakeLevels" ∈ NST := tb_n (tz_1 (List.mem_of_getElem? (i := 78) rfl)) rfl
theorem q_263 : Cond.methodLinkNest RX5 98 yX7_has "LakeLevels" ∈ NST := tb_n (tz_2 (List.mem_of_getElem? (i := 79) rfl)) rfl
theorem q_264 : Cond.fieldLinkNest RX5 105 (TX0 3).1 (TX0 3).2.1 (TX0 3).2.2.1 "LakeLevels" ∈ NST := tb_n (tz_1 (List.mem_of_getElem? (i := 65) rfl)) rfl
theorem q_265 : Cond.fieldLinkNest RX5 45 (TX0 2).1 (TX0 2).2.1 (TX0 2).2.2.1 "LakeLevels" ∈ NST := tb_n (tz_1 (List.mem_of_getElem? (i := 59) rfl)) rfl
theorem q_266 : Cond.methodLink RX5 109 yX5_lowerNeighbor ∈ TBL := tb_z (tz_2 (List.mem_of_getElem? (i := 85) rfl)) rfl
theorem q_267 : Cond.code yX5_lowerNeighbor cX5_lowerNeighbor 7 (some .int) ∈ TBL := tb_z (tz_2 (List.mem_of_getElem? (i := 87) rfl)) rfl
theorem q_268 : Cond.initialized yX5_lowerNeighbor.cls ∈ TBL := tb_z (tz_1 (List.mem_of_getElem? (i := 6) rfl)) rfl
theorem q_269 : Cond.static yX5_lowerNeighbor ∈ TBL := tb_z (tz_2 (List.mem_of_getElem? (i := 86) rfl)) rfl
theorem q_270 : Cond.methodLink RX5 102 yX4_put ∈ TBL := tb_z (tz_2 (List.mem_of_getElem? (i := 92) rfl)) rfl
theorem q_271 : Cond.code yX4_put cX4_put 4 none ∈ TBL := tb_z (tz_2 (List.mem_of_getElem? (i := 95) rfl)) rfl
theorem q_272 : Cond.initialized yX4_put.cls ∈ TBL := tb_z (tz_1 (List.mem_of_getElem? (i := 7) rfl)) rfl
theorem q_273 : Cond.instanceMethod yX4_put ∈ TBL := tb_z (tz_2 (List.mem_of_getElem? (i := 93) rfl)) rfl
theorem q_274 : Cond.selects yX4_put.cls yX4_put yX4_put ∈ TBL := tb_z (tz_2 (List.mem_of_getElem? (i := 94) rfl)) rfl
theorem q_275 : Cond.methodLink RX5 76 yX3_put ∈ TBL := tb_z (tz_2 (List.mem_of_getElem? (i := 96) rfl)) rfl
theorem q_276 : Cond.methodLink RX5 113 yX3_fill ∈ TBL := tb_z (tz_2 (List.mem_of_getElem? (i := 101) rfl)) rfl
theorem q_277 : Cond.methodLink RX5 50 yX4_at ∈ TBL := tb_z (tz_2 (List.mem_of_getElem? (i := 58) rfl)) rfl
theorem q_278 : Cond.methodLink RX5 41 yX4_fill ∈ TBL := tb_z (tz_2 (List.mem_of_getElem? (i := 51) rfl)) rfl
theorem q_279 : Cond.code yX4_fill cX4_fill 3 none ∈ TBL := tb_z (tz_2 (List.mem_of_getElem? (i := 54) rfl)) rfl
theorem q_280 : Cond.initialized yX4_fill.cls ∈ TBL := tb_z (tz_1 (List.mem_of_getElem? (i := 7) rfl)) rfl
theorem q_281 : Cond.instanceMethod yX4_fill ∈ TBL := tb_z (tz_2 (List.mem_of_getElem? (i := 52) rfl)) rfl
theorem q_282 : Cond.selects yX4_fill.cls yX4_fill yX4_fill ∈ TBL := tb_z (tz_2 (List.mem_of_getElem? (i := 53) rfl)) rfl
theorem q_283 : Cond.methodLink RX5 54 yX5_plainAround ∈ TBL := tb_z (tz_2 (List.mem_of_getElem? (i := 62) rfl)) rfl
theorem q_284 : Cond.code yX5_plainAround cX5_plainAround 11 (some .long) ∈ TBL := tb_z (tz_2 (List.mem_of_getElem? (i := 64) rfl)) rfl
theorem q_285 : Cond.initialized yX5_plainAround.cls ∈ TBL := tb_z (tz_1 (List.mem_of_getElem? (i := 6) rfl)) rfl
theorem q_286 : Cond.static yX5_plainAround ∈ TBL := tb_z (tz_2 (List.mem_of_getElem? (i := 63) rfl)) rfl
theorem q_287 : Cond.methodLink RX5 58 yX5_targetOf ∈ TBL := tb_z (tz_2 (List.mem_of_getElem? (i := 82) rfl)) rfl
theorem q_288 : Cond.code yX5_targetOf cX5_targetOf 5 (some .int) ∈ TBL := tb_z (tz_2 (List.mem_of_getElem? (i := 84) rfl)) rfl
theorem q_289 : Cond.initialized yX5_targetOf.cls ∈ TBL := tb_z (tz_1 (List.mem_of_getElem? (i := 6) rfl)) rfl
theorem q_290 : Cond.static yX5_targetOf ∈ TBL := tb_z (tz_2 (List.mem_of_getElem? (i := 83) rfl)) rfl
theorem q_291 : Cond.methodLink RX5 62 yX5_markPlain ∈ TBL := tb_z (tz_2 (List.mem_of_getElem? (i := 88) rfl)) rfl
theorem q_292 : Cond.code yX5_markPlain cX5_markPlain 5 none ∈ TBL := tb_z (tz_2 (List.mem_of_getElem? (i := 91) rfl)) rfl
theorem q_293 : Cond.initialized yX5_markPlain.cls ∈ TBL := tb_z (tz_1 (List.mem_of_getElem? (i := 6) rfl)) rfl
theorem q_294 : Cond.instanceMethod yX5_markPlain ∈ TBL := tb_z (tz_2 (List.mem_of_getElem? (i := 90) rfl)) rfl
theorem q_295 : Cond.selects yX5_markPlain.cls yX5_markPlain yX5_markPlain ∈ TBL := tb_s 2 rfl rfl
theorem q_296 : Cond.methodLink RX5 66 yX5_numberPits ∈ TBL := tb_z (tz_2 (List.mem_of_getElem? (i := 97) rfl)) rfl
theorem q_297 : Cond.code yX5_numberPits cX5_numberPits 6 none ∈ TBL := tb_z (tz_2 (List.mem_of_getElem? (i := 100) rfl)) rfl
theorem q_298 : Cond.initialized yX5_numberPits.cls ∈ TBL := tb_z (tz_1 (List.mem_of_getElem? (i := 6) rfl)) rfl
theorem q_299 : Cond.instanceMethod yX5_numberPits ∈ TBL := tb_z (tz_2 (List.mem_of_getElem? (i := 99) rfl)) rfl
theorem q_300 : Cond.selects yX5_numberPits.cls yX5_numberPits yX5_numberPits ∈ TBL := tb_s 3 rfl rfl
theorem q_301 : Cond.methodLink RX5 70 yX5_endOf ∈ TBL := tb_z (tz_2 (List.mem_of_getElem? (i := 102) rfl)) rfl
theorem q_302 : Cond.code yX5_endOf cX5_endOf 4 (some .int) ∈ TBL := tb_z (tz_2 (List.mem_of_getElem? (i := 105) rfl)) rfl
theorem q_303 : Cond.initialized yX5_endOf.cls ∈ TBL := tb_z (tz_1 (List.mem_of_getElem? (i := 6) rfl)) rfl
theorem q_304 : Cond.instanceMethod yX5_endOf ∈ TBL := tb_z (tz_2 (List.mem_of_getElem? (i := 104) rfl)) rfl
theorem q_305 : Cond.selects yX5_endOf.cls yX5_endOf yX5_endOf ∈ TBL := tb_s 4 rfl rfl
theorem q_306 : Cond.fieldLinkNest RX1 102 (TX0 5).1 (TX0 5).2.1 (TX0 5).2.2.1 "LakeLevels" ∈ NST := tb_n (tz_1 (List.mem_of_getElem? (i := 72) rfl)) rfl
theorem q_307 : Cond.fieldLinkNest RX1 109 (TX0 7).1 (TX0 7).2.1 (TX0 7).2.2.1 "LakeLevels" ∈ NST := tb_n (tz_1 (List.mem_of_getElem? (i := 77) rfl)) rfl
theorem q_308 : Cond.methodLink RX1 92 yX3_put ∈ TBL := tb_z (tz_2 (List.mem_of_getElem? (i := 125) rfl)) rfl
theorem q_309 : Cond.methodLink RX1 61 yX4_fill ∈ TBL := tb_z (tz_2 (List.mem_of_getElem? (i := 110) rfl)) rfl
theorem q_310 : Cond.fieldLinkNest RX1 65 (TX5 3).1 (TX5 3).2.1 (TX5 3).2.2.1 "LakeLevels" ∈ NST := tb_n (tz_1 (List.mem_of_getElem? (i := 127) rfl)) rfl
theorem q_311 : Cond.methodLink RX1 85 yX4_put ∈ TBL := tb_z (tz_2 (List.mem_of_getElem? (i := 124) rfl)) rfl
theorem q_312 : Cond.fieldLinkNest RX1 89 (TX5 0).1 (TX5 0).2.1 (TX5 0).2.2.1 "LakeLevels" ∈ NST := tb_n (tz_1 (List.mem_of_getElem? (i := 122) rfl)) rfl
theorem q_313 : Cond.methodLink RX1 95 yX1_findPass ∈ TBL := tb_z (tz_2 (List.mem_of_getElem? (i := 126) rfl)) rfl
theorem q_314 : Cond.code yX1_findPass cX1_findPass 8 none ∈ TBL := tb_z (tz_2 (List.mem_of_getElem? (i := 129) rfl)) rfl
theorem q_315 : Cond.initialized yX1_findPass.cls ∈ TBL := tb_z (tz_1 (List.mem_of_getElem? (i := 8) rfl)) rfl
theorem q_316 : Cond.instanceMethod yX1_findPass ∈ TBL := tb_z (tz_2 (List.mem_of_getElem? (i := 128) rfl)) rfl
theorem q_317 : Cond.selects yX1_findPass.cls yX1_findPass yX1_findPass ∈ TBL := tb_s 5 rfl rfl
theorem q_318 : Cond.methodLink RX1 99 yX1_findCapacity ∈ TBL := tb_z (tz_2 (List.mem_of_getElem? (i := 131) rfl)) rfl
theorem q_319 : Cond.code yX1_findCapacity cX1_findCapacity 7 none ∈ TBL := tb_z (tz_2 (List.mem_of_getElem? (i := 134) rfl)) rfl
theorem q_320 : Cond.initialized yX1_findCapacity.cls ∈ TBL := tb_z (tz_1 (List.mem_of_getElem? (i := 8) rfl)) rfl
theorem q_321 : Cond.instanceMethod yX1_findCapacity ∈ TBL := tb_z (tz_2 (List.mem_of_getElem? (i := 133) rfl)) rfl
theorem q_322 : Cond.selects yX1_findCapacity.cls yX1_findCapacity yX1_findCapacity ∈ TBL := tb_s 6 rfl rfl
theorem q_323 : Cond.methodLink RX6 67 yX0_measure ∈ TBL := tb_z (tz_2 (List.mem_of_getElem? (i := 38) rfl)) rfl
theorem q_324 : Cond.code yX0_measure cX0_measure 4 none ∈ TBL := tb_z (tz_2 (List.mem_of_getElem? (i := 41) rfl)) rfl
theorem q_325 : Cond.initialized yX0_measure.cls ∈ TBL := tb_z (tz_1 (List.mem_of_getElem? (i := 3) rfl)) rfl
theorem q_326 : Cond.instanceMethod yX0_measure ∈ TBL := tb_z (tz_2 (List.mem_of_getElem? (i := 39) rfl)) rfl
theorem q_327 : Cond.selects yX0_measure.cls yX0_measure yX0_measure ∈ TBL := tb_z (tz_2 (List.mem_of_getElem? (i := 40) rfl)) rfl
theorem q_328 : Cond.methodLink RX6 70 yX5_find ∈ TBL := tb_z (tz_2 (List.mem_of_getElem? (i := 47) rfl)) rfl
theorem q_329 : Cond.code yX5_find cX5_find 5 none ∈ TBL := tb_z (tz_2 (List.mem_of_getElem? (i := 50) rfl)) rfl
theorem q_330 : Cond.initialized yX5_find.cls ∈ TBL := tb_z (tz_1 (List.mem_of_getElem? (i := 6) rfl)) rfl
theorem q_331 : Cond.instanceMethod yX5_find ∈ TBL := tb_z (tz_2 (List.mem_of_getElem? (i := 48) rfl)) rfl
theorem q_332 : Cond.selects yX5_find.cls yX5_find yX5_find ∈ TBL := tb_z (tz_2 (List.mem_of_getElem? (i := 49) rfl)) rfl
theorem q_333 : Cond.methodLink RX6 73 yX1_restart ∈ TBL := tb_z (tz_2 (List.mem_of_getElem? (i := 106) rfl)) rfl
theorem q_334 : Cond.code yX1_restart cX1_restart 5 none ∈ TBL := tb_z (tz_2 (List.mem_of_getElem? (i := 109) rfl)) rfl
theorem q_335 : Cond.initialized yX1_restart.cls ∈ TBL := tb_z (tz_1 (List.mem_of_getElem? (i := 8) rfl)) rfl
theorem q_336 : Cond.instanceMethod yX1_restart ∈ TBL := tb_z (tz_2 (List.mem_of_getElem? (i := 107) rfl)) rfl
theorem q_337 : Cond.selects yX1_restart.cls yX1_restart yX1_restart ∈ TBL := tb_z (tz_2 (List.mem_of_getElem? (i := 108) rfl)) rfl
theorem q_338 : Cond.methodLink RX6 64 yX6_findAnew ∈ TBL := tb_z (tz_2 (List.mem_of_getElem? (i := 34) rfl)) rfl
theorem q_339 : Cond.code yX6_findAnew cX6_findAnew 1 none ∈ TBL := tb_z (tz_2 (List.mem_of_getElem? (i := 37) rfl)) rfl
theorem q_340 : Cond.initialized yX6_findAnew.cls ∈ TBL := tb_z (tz_1 (List.mem_of_getElem? (i := 2) rfl)) rfl
theorem q_341 : Cond.instanceMethod yX6_findAnew ∈ TBL := tb_z (tz_2 (List.mem_of_getElem? (i := 36) rfl)) rfl
theorem q_342 : Cond.selects yX6_findAnew.cls yX6_findAnew yX6_findAnew ∈ TBL := tb_s 1 rfl rfl
theorem q_343 : Cond.fieldLink RX7 16 (TX7 1).1 (TX7 1).2.1 (TX7 1).2.2.1 ∈ TBL := tb_z (tz_2 (List.mem_of_getElem? (i := 136) rfl)) rfl
theorem q_344 : Cond.methodLink RX7 210 yX2_readInto ∈ TBL := tb_z (tz_4 (List.mem_of_getElem? (i := 7) rfl)) rfl
theorem q_345 : Cond.code yX2_readInto cX2_readInto 6 (some .int) ∈ TBL := tb_z (tz_4 (List.mem_of_getElem? (i := 10) rfl)) rfl
theorem q_346 : Cond.initialized yX2_readInto.cls ∈ TBL := tb_z (tz_1 (List.mem_of_getElem? (i := 9) rfl)) rfl
theorem q_347 : Cond.instanceMethod yX2_readInto ∈ TBL := tb_z (tz_4 (List.mem_of_getElem? (i := 8) rfl)) rfl
theorem q_348 : Cond.selects yX2_readInto.cls yX2_readInto yX2_readInto ∈ TBL := tb_z (tz_4 (List.mem_of_getElem? (i := 9) rfl)) rfl
theorem q_349 : Cond.methodLink RX7 47 yX7_save ∈ TBL := tb_z (tz_3 (List.mem_of_getElem? (i := 14) rfl)) rfl
theorem q_350 : Cond.code yX7_save cX7_save 1 none ∈ TBL := tb_z (tz_3 (List.mem_of_getElem? (i := 17) rfl)) rfl
theorem q_351 : Cond.initialized yX7_save.cls ∈ TBL := tb_z (tz_1 (List.mem_of_getElem? (i := 1) rfl)) rfl
theorem q_352 : Cond.instanceMethod yX7_save ∈ TBL := tb_z (tz_3 (List.mem_of_getElem? (i := 16) rfl)) rfl
theorem q_353 : Cond.selects yX7_save.cls yX7_save yX7_save ∈ TBL := tb_s 9 rfl rfl
theorem q_354 : Cond.methodLink RX7 214 yX0_copyFrom ∈ TBL := tb_z (tz_4 (List.mem_of_getElem? (i := 67) rfl)) rfl
theorem q_355 : Cond.methodLink RX7 40 yX6_restart ∈ TBL := tb_z (tz_2 (List.mem_of_getElem? (i := 30) rfl)) rfl
theorem q_356 : Cond.code yX6_restart cX6_restart 1 none ∈ TBL := tb_z (tz_2 (List.mem_of_getElem? (i := 33) rfl)) rfl
theorem q_357 : Cond.initialized yX6_restart.cls ∈ TBL := tb_z (tz_1 (List.mem_of_getElem? (i := 2) rfl)) rfl
theorem q_358 : Cond.instanceMethod yX6_restart ∈ TBL := tb_z (tz_2 (List.mem_of_getElem? (i := 31) rfl)) rfl
theorem q_359 : Cond.selects yX6_restart.cls yX6_restart yX6_restart ∈ TBL := tb_z (tz_2 (List.mem_of_getElem? (i := 32) rfl)) rfl
theorem q_360 : Cond.fieldLinkNest RX7 106 (TX6 1).1 (TX6 1).2.1 (TX6 1).2.2.1 "LakeLevels" ∈ NST := tb_n (tz_1 (List.mem_of_getElem? (i := 197) rfl)) rfl
theorem q_361 : Cond.fieldLinkNest RX7 110 (TX5 0).1 (TX5 0).2.1 (TX5 0).2.2.1 "LakeLevels" ∈ NST := tb_n (tz_1 (List.mem_of_getElem? (i := 123) rfl)) rfl
theorem q_362 : Cond.constantLong RX7 342 (31 : Int64) ∈ TBL := tb_z (tz_4 (List.mem_of_getElem? (i := 81) rfl)) rfl
theorem q_363 : Cond.methodLinkNest RX1 115 yX7_lowestIn "LakeLevels" ∈ NST := tb_n (tz_3 (List.mem_of_getElem? (i := 60) rfl)) rfl
theorem q_364 : Cond.methodLink RX1 119 yX1_isLowestOfLake ∈ TBL := tb_z (tz_3 (List.mem_of_getElem? (i := 56) rfl)) rfl
theorem q_365 : Cond.code yX1_isLowestOfLake cX1_isLowestOfLake 3 (some .boolean) ∈ TBL := tb_z (tz_3 (List.mem_of_getElem? (i := 59) rfl)) rfl
theorem q_366 : Cond.initialized yX1_isLowestOfLake.cls ∈ TBL := tb_z (tz_1 (List.mem_of_getElem? (i := 8) rfl)) rfl
theorem q_367 : Cond.instanceMethod yX1_isLowestOfLake ∈ TBL := tb_z (tz_3 (List.mem_of_getElem? (i := 58) rfl)) rfl
theorem q_368 : Cond.selects yX1_isLowestOfLake.cls yX1_isLowestOfLake yX1_isLowestOfLake ∈ TBL := tb_s 11 rfl rfl
theorem q_369 : Cond.fieldLinkNest RX6 107 (TX1 8).1 (TX1 8).2.1 (TX1 8).2.2.1 "LakeLevels" ∈ NST := tb_n (tz_1 (List.mem_of_getElem? (i := 165) rfl)) rfl
theorem q_370 : Cond.methodLink RX6 100 yX3_at ∈ TBL := tb_z (tz_3 (List.mem_of_getElem? (i := 70) rfl)) rfl
theorem q_371 : Cond.methodLink RX6 120 yX1_wetCells ∈ TBL := tb_z (tz_3 (List.mem_of_getElem? (i := 123) rfl)) rfl
theorem q_372 : Cond.methodLinkNest RX6 138 yX7_has "LakeLevels" ∈ NST := tb_n (tz_3 (List.mem_of_getElem? (i := 127) rfl)) rfl
theorem q_373 : Cond.fieldLinkNest RX6 114 (TX0 2).1 (TX0 2).2.1 (TX0 2).2.2.1 "LakeLevels" ∈ NST := tb_n (tz_1 (List.mem_of_getElem? (i := 62) rfl)) rfl
theorem q_374 : Cond.methodLink RX6 142 yX6_isWet ∈ TBL := tb_z (tz_3 (List.mem_of_getElem? (i := 145) rfl)) rfl
theorem q_375 : Cond.code yX6_isWet cX6_isWet 2 (some .boolean) ∈ TBL := tb_z (tz_3 (List.mem_of_getElem? (i := 122) rfl)) rfl
theorem q_376 : Cond.initialized yX6_isWet.cls ∈ TBL := tb_z (tz_1 (List.mem_of_getElem? (i := 2) rfl)) rfl
theorem q_377 : Cond.instanceMethod yX6_isWet ∈ TBL := tb_z (tz_3 (List.mem_of_getElem? (i := 120) rfl)) rfl
theorem q_378 : Cond.selects yX6_isWet.cls yX6_isWet yX6_isWet ∈ TBL := tb_z (tz_3 (List.mem_of_getElem? (i := 121) rfl)) rfl
theorem q_379 : Cond.fieldLinkNest RX6 146 (TX5 3).1 (TX5 3).2.1 (TX5 3).2.2.1 "LakeLevels" ∈ NST := tb_n (tz_1 (List.mem_of_getElem? (i := 128) rfl)) rfl
theorem q_380 : Cond.methodLink RX1 123 yX1_isFull ∈ TBL := tb_z (tz_3 (List.mem_of_getElem? (i := 90) rfl)) rfl
theorem q_381 : Cond.code yX1_isFull cX1_isFull 2 (some .boolean) ∈ TBL := tb_z (tz_3 (List.mem_of_getElem? (i := 93) rfl)) rfl
theorem q_382 : Cond.initialized yX1_isFull.cls ∈ TBL := tb_z (tz_1 (List.mem_of_getElem? (i := 8) rfl)) rfl
theorem q_383 : Cond.instanceMethod yX1_isFull ∈ TBL := tb_z (tz_3 (List.mem_of_getElem? (i := 92) rfl)) rfl
theorem q_384 : Cond.selects yX1_isFull.cls yX1_isFull yX1_isFull ∈ TBL := tb_s 13 rfl rfl
theorem q_385 : Cond.methodLink RX7 292 yX1_fullTotal ∈ TBL := tb_z (tz_3 (List.mem_of_getElem? (i := 150) rfl)) rfl
theorem q_386 : Cond.code yX1_fullTotal cX1_fullTotal 3 (some .int) ∈ TBL := tb_z (tz_3 (List.mem_of_getElem? (i := 153) rfl)) rfl
theorem q_387 : Cond.initialized yX1_fullTotal.cls ∈ TBL := tb_z (tz_1 (List.mem_of_getElem? (i := 8) rfl)) rfl
theorem q_388 : Cond.instanceMethod yX1_fullTotal ∈ TBL := tb_z (tz_3 (List.mem_of_getElem? (i := 151) rfl)) rfl
theorem q_389 : Cond.selects yX1_fullTotal.cls yX1_fullTotal yX1_fullTotal ∈ TBL := tb_z (tz_3 (List.mem_of_getElem? (i := 152) rfl)) rfl
theorem q_390 : Cond.methodLink RX7 289 yX6_seaTotal ∈ TBL := tb_z (tz_3 (List.mem_of_getElem? (i := 146) rfl)) rfl
theorem q_391 : Cond.code yX6_seaTotal cX6_seaTotal 3 (some .int) ∈ TBL := tb_z (tz_3 (List.mem_of_getElem? (i := 149) rfl)) rfl
theorem q_392 : Cond.initialized yX6_seaTotal.cls ∈ TBL := tb_z (tz_1 (List.mem_of_getElem? (i := 2) rfl)) rfl
theorem q_393 : Cond.instanceMethod yX6_seaTotal ∈ TBL := tb_z (tz_3 (List.mem_of_getElem? (i := 147) rfl)) rfl
theorem q_394 : Cond.selects yX6_seaTotal.cls yX6_seaTotal yX6_seaTotal ∈ TBL := tb_z (tz_3 (List.mem_of_getElem? (i := 148) rfl)) rfl
theorem q_395 : Cond.methodLink RX7 194 yX6_wetTotal ∈ TBL := tb_z (tz_3 (List.mem_of_getElem? (i := 141) rfl)) rfl
theorem q_396 : Cond.code yX6_wetTotal cX6_wetTotal 3 (some .int) ∈ TBL := tb_z (tz_3 (List.mem_of_getElem? (i := 144) rfl)) rfl
theorem q_397 : Cond.initialized yX6_wetTotal.cls ∈ TBL := tb_z (tz_1 (List.mem_of_getElem? (i := 2) rfl)) rfl
theorem q_398 : Cond.instanceMethod yX6_wetTotal ∈ TBL := tb_z (tz_3 (List.mem_of_getElem? (i := 142) rfl)) rfl
theorem q_399 : Cond.selects yX6_wetTotal.cls yX6_wetTotal yX6_wetTotal ∈ TBL := tb_z (tz_3 (List.mem_of_getElem? (i := 143) rfl)) rfl
theorem q_400 : Cond.methodLink RX7 158 yX1_total ∈ TBL := tb_z (tz_3 (List.mem_of_getElem? (i := 140) rfl)) rfl
theorem q_401 : Cond.code yX1_total cX1_total 3 (some .int) ∈ TBL := tb_z (tz_3 (List.mem_of_getElem? (i := 55) rfl)) rfl
theorem q_402 : Cond.initialized yX1_total.cls ∈ TBL := tb_z (tz_1 (List.mem_of_getElem? (i := 8) rfl)) rfl
theorem q_403 : Cond.instanceMethod yX1_total ∈ TBL := tb_z (tz_3 (List.mem_of_getElem? (i := 53) rfl)) rfl
theorem q_404 : Cond.selects yX1_total.cls yX1_total yX1_total ∈ TBL := tb_z (tz_3 (List.mem_of_getElem? (i := 54) rfl)) rfl
theorem q_405 : Cond.fieldLinkNest RX7 286 (TX0 1).1 (TX0 1).2.1 (TX0 1).2.2.1 "LakeLevels" ∈ NST := tb_n (tz_1 (List.mem_of_getElem? (i := 56) rfl)) rfl
theorem q_406 : Cond.fieldLinkNest RX7 283 (TX0 0).1 (TX0 0).2.1 (TX0 0).2.2.1 "LakeLevels" ∈ NST := tb_n (tz_1 (List.mem_of_getElem? (i := 54) rfl)) rfl
theorem q_407 : Cond.methodLink RX7 280 yX5_isInPit ∈ TBL := tb_z (tz_3 (List.mem_of_getElem? (i := 128) rfl)) rfl
theorem q_408 : Cond.code yX5_isInPit cX5_isInPit 2 (some .boolean) ∈ TBL := tb_z (tz_3 (List.mem_of_getElem? (i := 131) rfl)) rfl
theorem q_409 : Cond.initialized yX5_isInPit.cls ∈ TBL := tb_z (tz_1 (List.mem_of_getElem? (i := 6) rfl)) rfl
theorem q_410 : Cond.instanceMethod yX5_isInPit ∈ TBL := tb_z (tz_3 (List.mem_of_getElem? (i := 129) rfl)) rfl
theorem q_411 : Cond.selects yX5_isInPit.cls yX5_isInPit yX5_isInPit ∈ TBL := tb_z (tz_3 (List.mem_of_getElem? (i := 130) rfl)) rfl
theorem q_412 : Cond.methodLink RX7 277 yX6_isWet ∈ TBL := tb_z (tz_3 (List.mem_of_getElem? (i := 119) rfl)) rfl
theorem q_413 : Cond.methodLink RX7 274 yX1_numberAt ∈ TBL := tb_z (tz_3 (List.mem_of_getElem? (i := 115) rfl)) rfl
theorem q_414 : Cond.code yX1_numberAt cX1_numberAt 6 (some .int) ∈ TBL := tb_z (tz_3 (List.mem_of_getElem? (i := 118) rfl)) rfl
theorem q_415 : Cond.initialized yX1_numberAt.cls ∈ TBL := tb_z (tz_1 (List.mem_of_getElem? (i := 8) rfl)) rfl
theorem q_416 : Cond.instanceMethod yX1_numberAt ∈ TBL := tb_z (tz_3 (List.mem_of_getElem? (i := 116) rfl)) rfl
theorem q_417 : Cond.selects yX1_numberAt.cls yX1_numberAt yX1_numberAt ∈ TBL := tb_z (tz_3 (List.mem_of_getElem? (i := 117) rfl)) rfl
theorem q_418 : Cond.fieldLinkNest RX7 271 (TX5 3).1 (TX5 3).2.1 (TX5 3).2.2.1 "LakeLevels" ∈ NST := tb_n (tz_1 (List.mem_of_getElem? (i := 129) rfl)) rfl
theorem q_419 : Cond.fieldLinkNest RX7 77 (TX0 3).1 (TX0 3).2.1 (TX0 3).2.2.1 "LakeLevels" ∈ NST := tb_n (tz_1 (List.mem_of_getElem? (i := 64) rfl)) rfl
theorem q_420 : Cond.fieldLinkNest RX7 298 (TX1 3).1 (TX1 3).2.1 (TX1 3).2.2.1 "LakeLevels" ∈ NST := tb_n (tz_1 (List.mem_of_getElem? (i := 157) rfl)) rfl
theorem q_421 : Cond.fieldLinkNest RX7 323 (TX1 4).1 (TX1 4).2.1 (TX1 4).2.2.1 "LakeLevels" ∈ NST := tb_n (tz_1 (List.mem_of_getElem? (i := 159) rfl)) rfl
theorem q_422 : Cond.fieldLinkNest RX7 320 (TX0 5).1 (TX0 5).2.1 (TX0 5).2.2.1 "LakeLevels" ∈ NST := tb_n (tz_1 (List.mem_of_getElem? (i := 74) rfl)) rfl
theorem q_423 : Cond.fieldLinkNest RX7 118 (TX0 7).1 (TX0 7).2.1 (TX0 7).2.2.1 "LakeLevels" ∈ NST := tb_n (tz_1 (List.mem_of_getElem? (i := 79) rfl)) rfl
theorem q_424 : Cond.fieldLinkNest RX7 317 (TX1 5).1 (TX1 5).2.1 (TX1 5).2.2.1 "LakeLevels" ∈ NST := tb_n (tz_1 (List.mem_of_getElem? (i := 161) rfl)) rfl
theorem q_425 : Cond.fieldLinkNest RX7 169 (TX1 0).1 (TX1 0).2.1 (TX1 0).2.2.1 "LakeLevels" ∈ NST := tb_n (tz_1 (List.mem_of_getElem? (i := 150) rfl)) rfl
theorem q_426 : Cond.methodLink RX7 172 yX4_at ∈ TBL := tb_z (tz_4 (List.mem_of_getElem? (i := 91) rfl)) rfl
theorem q_427 : Cond.methodLink RX7 304 yX7_lowestIn ∈ TBL := tb_z (tz_4 (List.mem_of_getElem? (i := 92) rfl)) rfl
theorem q_428 : Cond.fieldLinkNest RX7 301 (TX1 2).1 (TX1 2).2.1 (TX1 2).2.2.1 "LakeLevels" ∈ NST := tb_n (tz_1 (List.mem_of_getElem? (i := 155) rfl)) rfl
theorem q_429 : Cond.methodLink RX7 326 yX1_lowestPlace ∈ TBL := tb_z (tz_4 (List.mem_of_getElem? (i := 97) rfl)) rfl
theorem q_430 : Cond.code yX1_lowestPlace cX1_lowestPlace 4 (some .int) ∈ TBL := tb_z (tz_3 (List.mem_of_getElem? (i := 68) rfl)) rfl
theorem q_431 : Cond.initialized yX1_lowestPlace.cls ∈ TBL := tb_z (tz_1 (List.mem_of_getElem? (i := 8) rfl)) rfl
theorem q_432 : Cond.instanceMethod yX1_lowestPlace ∈ TBL := tb_z (tz_3 (List.mem_of_getElem? (i := 66) rfl)) rfl
theorem q_433 : Cond.selects yX1_lowestPlace.cls yX1_lowestPlace yX1_lowestPlace ∈ TBL := tb_z (tz_3 (List.mem_of_getElem? (i := 67) rfl)) rfl
theorem q_434 : Cond.methodLink RX7 166 yX7_lakeValue ∈ TBL := tb_z (tz_4 (List.mem_of_getElem? (i := 87) rfl)) rfl
theorem q_435 : Cond.code yX7_lakeValue cX7_lakeValue 5 (some .int) ∈ TBL := tb_z (tz_4 (List.mem_of_getElem? (i := 90) rfl)) rfl
theorem q_436 : Cond.initialized yX7_lakeValue.cls ∈ TBL := tb_z (tz_1 (List.mem_of_getElem? (i := 1) rfl)) rfl
theorem q_437 : Cond.instanceMethod yX7_lakeValue ∈ TBL := tb_z (tz_4 (List.mem_of_getElem? (i := 89) rfl)) rfl
theorem q_438 : Cond.selects yX7_lakeValue.cls yX7_lakeValue yX7_lakeValue ∈ TBL := tb_s 35 rfl rfl
theorem q_439 : Cond.methodLink RX7 231 yX7_mix ∈ TBL := tb_z (tz_4 (List.mem_of_getElem? (i := 78) rfl)) rfl
theorem q_440 : Cond.code yX7_mix cX7_mix 4 (some .long) ∈ TBL := tb_z (tz_4 (List.mem_of_getElem? (i := 80) rfl)) rfl
theorem q_441 : Cond.initialized yX7_mix.cls ∈ TBL := tb_z (tz_1 (List.mem_of_getElem? (i := 1) rfl)) rfl
theorem q_442 : Cond.static yX7_mix ∈ TBL := tb_z (tz_4 (List.mem_of_getElem? (i := 79) rfl)) rfl
theorem q_443 : Cond.methodLink RX7 176 yX7_levelPart ∈ TBL := tb_z (tz_4 (List.mem_of_getElem? (i := 93) rfl)) rfl
theorem q_444 : Cond.code yX7_levelPart cX7_levelPart 8 (some .int) ∈ TBL := tb_z (tz_4 (List.mem_of_getElem? (i := 96) rfl)) rfl
theorem q_445 : Cond.initialized yX7_levelPart.cls ∈ TBL := tb_z (tz_1 (List.mem_of_getElem? (i := 1) rfl)) rfl
theorem q_446 : Cond.instanceMethod yX7_levelPart ∈ TBL := tb_z (tz_4 (List.mem_of_getElem? (i := 95) rfl)) rfl
theorem q_447 : Cond.selects yX7_levelPart.cls yX7_levelPart yX7_levelPart ∈ TBL := tb_s 36 rfl rfl
theorem q_448 : Cond.fieldLinkNest RX7 155 (TX6 5).1 (TX6 5).2.1 (TX6 5).2.2.1 "LakeLevels" ∈ NST := tb_n (tz_1 (List.mem_of_getElem? (i := 205) rfl)) rfl
theorem q_449 : Cond.fieldLinkNest RX7 295 (TX6 4).1 (TX6 4).2.1 (TX6 4).2.2.1 "LakeLevels" ∈ NST := tb_n (tz_1 (List.mem_of_getElem? (i := 203) rfl)) rfl
theorem q_450 : Cond.methodLink RX7 255 yX1_water ∈ TBL := tb_z (tz_3 (List.mem_of_getElem? (i := 163) rfl)) rfl
theorem q_451 : Cond.code yX1_water cX1_water 3 (some .int) ∈ TBL := tb_z (tz_3 (List.mem_of_getElem? (i := 166) rfl)) rfl
theorem q_452 : Cond.initialized yX1_water.cls ∈ TBL := tb_z (tz_1 (List.mem_of_getElem? (i := 8) rfl)) rfl
theorem q_453 : Cond.instanceMethod yX1_water ∈ TBL := tb_z (tz_3 (List.mem_of_getElem? (i := 164) rfl)) rfl
theorem q_454 : Cond.selects yX1_water.cls yX1_water yX1_water ∈ TBL := tb_z (tz_3 (List.mem_of_getElem? (i := 165) rfl)) rfl
theorem q_455 : Cond.fieldLinkNest RX7 128 (TX6 3).1 (TX6 3).2.1 (TX6 3).2.2.1 "LakeLevels" ∈ NST := tb_n (tz_1 (List.mem_of_getElem? (i := 201) rfl)) rfl
theorem q_456 : Cond.constantLong RX7 229 (3049 : Int64) ∈ TBL := tb_z (tz_4 (List.mem_of_getElem? (i := 77) rfl)) rfl
theorem q_457 : Cond.methodLink RX7 121 yX7_countValue ∈ TBL := tb_z (tz_3 (List.mem_of_getElem? (i := 136) rfl)) rfl
theorem q_458 : Cond.code yX7_countValue cX7_countValue 2 (some .int) ∈ TBL := tb_z (tz_3 (List.mem_of_getElem? (i := 139) rfl)) rfl
theorem q_459 : Cond.initialized yX7_countValue.cls ∈ TBL := tb_z (tz_1 (List.mem_of_getElem? (i := 1) rfl)) rfl
theorem q_460 : Cond.instanceMethod yX7_countValue ∈ TBL := tb_z (tz_3 (List.mem_of_getElem? (i := 138) rfl)) rfl
theorem q_461 : Cond.selects yX7_countValue.cls yX7_countValue yX7_countValue ∈ TBL := tb_s 18 rfl rfl
theorem q_462 : Cond.methodLink RX7 115 yX7_cellValue ∈ TBL := tb_z (tz_3 (List.mem_of_getElem? (i := 110) rfl)) rfl
theorem q_463 : Cond.code yX7_cellValue cX7_cellValue 3 (some .int) ∈ TBL := tb_z (tz_3 (List.mem_of_getElem? (i := 113) rfl)) rfl
theorem q_464 : Cond.initialized yX7_cellValue.cls ∈ TBL := tb_z (tz_1 (List.mem_of_getElem? (i := 1) rfl)) rfl
theorem q_465 : Cond.instanceMethod yX7_cellValue ∈ TBL := tb_z (tz_3 (List.mem_of_getElem? (i := 112) rfl)) rfl
theorem q_466 : Cond.selects yX7_cellValue.cls yX7_cellValue yX7_cellValue ∈ TBL := tb_s 17 rfl rfl
theorem q_467 : Cond.methodLink RX7 235 yX1_placeOf ∈ TBL := tb_z (tz_4 (List.mem_of_getElem? (i := 82) rfl)) rfl
theorem q_468 : Cond.code yX1_placeOf cX1_placeOf 4 (some .int) ∈ TBL := tb_z (tz_3 (List.mem_of_getElem? (i := 64) rfl)) rfl
theorem q_469 : Cond.initialized yX1_placeOf.cls ∈ TBL := tb_z (tz_1 (List.mem_of_getElem? (i := 8) rfl)) rfl
theorem q_470 : Cond.instanceMethod yX1_placeOf ∈ TBL := tb_z (tz_3 (List.mem_of_getElem? (i := 62) rfl)) rfl
theorem q_471 : Cond.selects yX1_placeOf.cls yX1_placeOf yX1_placeOf ∈ TBL := tb_z (tz_3 (List.mem_of_getElem? (i := 63) rfl)) rfl
theorem q_472 : Cond.methodLink RX7 238 yX7_mixLake ∈ TBL := tb_z (tz_4 (List.mem_of_getElem? (i := 83) rfl)) rfl
theorem q_473 : Cond.code yX7_mixLake cX7_mixLake 7 (some .long) ∈ TBL := tb_z (tz_4 (List.mem_of_getElem? (i := 86) rfl)) rfl
theorem q_474 : Cond.initialized yX7_mixLake.cls ∈ TBL := tb_z (tz_1 (List.mem_of_getElem? (i := 1) rfl)) rfl
theorem q_475 : Cond.instanceMethod yX7_mixLake ∈ TBL := tb_z (tz_4 (List.mem_of_getElem? (i := 85) rfl)) rfl
theorem q_476 : Cond.selects yX7_mixLake.cls yX7_mixLake yX7_mixLake ∈ TBL := tb_s 34 rfl rfl
theorem q_477 : Cond.methodLink RX7 162 yX7_balanceValue ∈ TBL := tb_z (tz_3 (List.mem_of_getElem? (i := 211) rfl)) rfl
theorem q_478 : Cond.code yX7_balanceValue cX7_balanceValue 2 (some .long) ∈ TBL := tb_z (tz_3 (List.mem_of_getElem? (i := 214) rfl)) rfl
theorem q_479 : Cond.initialized yX7_balanceValue.cls ∈ TBL := tb_z (tz_1 (List.mem_of_getElem? (i := 1) rfl)) rfl
theorem q_480 : Cond.instanceMethod yX7_balanceValue ∈ TBL := tb_z (tz_3 (List.mem_of_getElem? (i := 213) rfl)) rfl
theorem q_481 : Cond.selects yX7_balanceValue.cls yX7_balanceValue yX7_balanceValue ∈ TBL := tb_s 22 rfl rfl
theorem q_482 : Cond.methodLink RX1 137 Lib.Math.min.name ∈ TBL := tb_z (tz_3 (List.mem_of_getElem? (i := 89) rfl)) rfl
theorem q_483 : Cond.methodLink RX1 142 yX1_freePlace ∈ TBL := tb_z (tz_3 (List.mem_of_getElem? (i := 98) rfl)) rfl
theorem q_484 : Cond.code yX1_freePlace cX1_freePlace 2 (some .int) ∈ TBL := tb_z (tz_3 (List.mem_of_getElem? (i := 101) rfl)) rfl
theorem q_485 : Cond.initialized yX1_freePlace.cls ∈ TBL := tb_z (tz_1 (List.mem_of_getElem? (i := 8) rfl)) rfl
theorem q_486 : Cond.instanceMethod yX1_freePlace ∈ TBL := tb_z (tz_3 (List.mem_of_getElem? (i := 100) rfl)) rfl
theorem q_487 : Cond.selects yX1_freePlace.cls yX1_freePlace yX1_freePlace ∈ TBL := tb_s 15 rfl rfl
theorem q_488 : Cond.methodLink RX1 146 yX1_claimCells ∈ TBL := tb_z (tz_3 (List.mem_of_getElem? (i := 102) rfl)) rfl
theorem q_489 : Cond.code yX1_claimCells cX1_claimCells 3 none ∈ TBL := tb_z (tz_3 (List.mem_of_getElem? (i := 105) rfl)) rfl
theorem q_490 : Cond.initialized yX1_claimCells.cls ∈ TBL := tb_z (tz_1 (List.mem_of_getElem? (i := 8) rfl)) rfl
theorem q_491 : Cond.instanceMethod yX1_claimCells ∈ TBL := tb_z (tz_3 (List.mem_of_getElem? (i := 104) rfl)) rfl
theorem q_492 : Cond.selects yX1_claimCells.cls yX1_claimCells yX1_claimCells ∈ TBL := tb_s 16 rfl rfl
theorem q_493 : Cond.constant RX1 129 (1000000 : Int32) ∈ TBL := tb_z (tz_3 (List.mem_of_getElem? (i := 84) rfl)) rfl
theorem q_494 : Cond.methodLink RX1 130 yX1_fill ∈ TBL := tb_z (tz_3 (List.mem_of_getElem? (i := 85) rfl)) rfl
theorem q_495 : Cond.code yX1_fill cX1_fill 5 (some .int) ∈ TBL := tb_z (tz_3 (List.mem_of_getElem? (i := 88) rfl)) rfl
theorem q_496 : Cond.initialized yX1_fill.cls ∈ TBL := tb_z (tz_1 (List.mem_of_getElem? (i := 8) rfl)) rfl
theorem q_497 : Cond.instanceMethod yX1_fill ∈ TBL := tb_z (tz_3 (List.mem_of_getElem? (i := 87) rfl)) rfl
theorem q_498 : Cond.selects yX1_fill.cls yX1_fill yX1_fill ∈ TBL := tb_s 12 rfl rfl
theorem q_499 : Cond.methodLink RX1 133 yX1_join ∈ TBL := tb_z (tz_3 (List.mem_of_getElem? (i := 94) rfl)) rfl
