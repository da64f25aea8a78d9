/-! called methods, classes, kinds of cells -/
theorem wdJ7_fill_53178 : WdS yJ7_fill_53178 cJ7_fill_53178 4 none 2 := ⟨q_3, q_5, q_4, by decide +kernel, by decide +kernel⟩
theorem wdJ7_fill_d0a16 : WdS yJ7_fill_d0a16 cJ7_fill_d0a16 5 none 2 := ⟨q_7, q_9, q_8, by decide +kernel, by decide +kernel⟩
theorem wdX4_at : WdV yX4_at cX4_at 2 (some .long) 1 := ⟨q_25, q_27, q_28, q_26, by decide +kernel, by decide +kernel⟩
theorem wdX3_at : WdV yX3_at cX3_at 2 (some .int) 1 := ⟨q_32, q_34, q_35, q_33, by decide +kernel, by decide +kernel⟩
theorem wdX7_has : WdS yX7_has cX7_has 3 (some .boolean) 2 := ⟨q_38, q_40, q_39, by decide +kernel, by decide +kernel⟩
theorem wdX7_bit : WdS yX7_bit cX7_bit 1 (some .long) 1 := ⟨q_43, q_45, q_44, by decide +kernel, by decide +kernel⟩
theorem wdX1_wetCells : WdV yX1_wetCells cX1_wetCells 12 (some .long) 2 := ⟨q_56, q_58, q_59, q_57, by decide +kernel, by decide +kernel⟩
theorem wdJ13_bitCount_95d88 : WdS yJ13_bitCount_95d88 cJ13_bitCount_95d88 2 (some .int) 1 := ⟨q_62, q_64, q_63, by decide +kernel, by decide +kernel⟩
theorem wdX0_heightSum : WdV yX0_heightSum cX0_heightSum 5 (some .int) 1 := ⟨q_67, q_69, q_70, q_68, by decide +kernel, by decide +kernel⟩
theorem wdX7_commonDivisor : WdS yX7_commonDivisor cX7_commonDivisor 3 (some .int) 2 := ⟨q_73, q_75, q_74, by decide +kernel, by decide +kernel⟩
theorem wdX7_reduced : WdS yX7_reduced cX7_reduced 2 (some .int) 2 := ⟨q_77, q_79, q_78, by decide +kernel, by decide +kernel⟩
theorem wdX7_depthValue : WdV yX7_depthValue cX7_depthValue 9 (some .double) 1 := ⟨q_82, q_84, q_85, q_83, by decide +kernel, by decide +kernel⟩
theorem wdX2_next : WdV yX2_next cX2_next 1 (some .int) 0 := ⟨q_94, q_96, q_97, q_95, by decide +kernel, by decide +kernel⟩
theorem wdX2_fail : WdV yX2_fail cX2_fail 2 none 1 := ⟨q_99, q_101, q_102, q_100, by decide +kernel, by decide +kernel⟩
theorem wdX3_put : WdV yX3_put cX3_put 3 none 2 := ⟨q_106, q_108, q_109, q_107, by decide +kernel, by decide +kernel⟩
theorem wdX3_fill : WdV yX3_fill cX3_fill 2 none 1 := ⟨q_113, q_115, q_116, q_114, by decide +kernel, by decide +kernel⟩
theorem wdX0_laySides : WdV yX0_laySides cX0_laySides 5 none 2 := ⟨q_119, q_121, q_122, q_120, by decide +kernel, by decide +kernel⟩
theorem wdX2_isAtDigit : WdV yX2_isAtDigit cX2_isAtDigit 1 (some .boolean) 0 := ⟨q_124, q_126, q_127, q_125, by decide +kernel, by decide +kernel⟩
theorem wdX2_readSign : WdV yX2_readSign cX2_readSign 2 none 1 := ⟨q_130, q_132, q_133, q_131, by decide +kernel, by decide +kernel⟩
theorem wdX2_readNumber : WdV yX2_readNumber cX2_readNumber 3 (some .int) 0 := ⟨q_136, q_138, q_139, q_137, by decide +kernel, by decide +kernel⟩
theorem wdX0_exists : WdV yX0_exists cX0_exists 2 (some .boolean) 1 := ⟨q_144, q_146, q_147, q_145, by decide +kernel, by decide +kernel⟩
theorem wdX0_putDrain : WdV yX0_putDrain cX0_putDrain 3 none 2 := ⟨q_149, q_151, q_152, q_150, by decide +kernel, by decide +kernel⟩
theorem wdX0_sideTo : WdV yX0_sideTo cX0_sideTo 4 (some .int) 2 := ⟨q_155, q_157, q_158, q_156, by decide +kernel, by decide +kernel⟩
theorem wdX0_putGate : WdV yX0_putGate cX0_putGate 4 none 3 := ⟨q_161, q_163, q_164, q_162, by decide +kernel, by decide +kernel⟩
theorem wdX2_readSize : WdV yX2_readSize cX2_readSize 3 (some .int) 1 := ⟨q_166, q_168, q_169, q_167, by decide +kernel, by decide +kernel⟩
theorem wdX0_lay : WdV yX0_lay cX0_lay 5 none 2 := ⟨q_171, q_173, q_174, q_172, by decide +kernel, by decide +kernel⟩
theorem wdX2_readHeights : WdV yX2_readHeights cX2_readHeights 3 none 1 := ⟨q_176, q_178, q_179, q_177, by decide +kernel, by decide +kernel⟩
theorem wdX2_readDrain : WdV yX2_readDrain cX2_readDrain 4 none 1 := ⟨q_181, q_183, q_184, q_182, by decide +kernel, by decide +kernel⟩
theorem wdX2_readGate : WdV yX2_readGate cX2_readGate 7 none 1 := ⟨q_186, q_188, q_189, q_187, by decide +kernel, by decide +kernel⟩
theorem wdX3_copyFrom : WdV yX3_copyFrom cX3_copyFrom 2 none 1 := ⟨q_191, q_193, q_194, q_192, by decide +kernel, by decide +kernel⟩
theorem wdX4_copyFrom : WdV yX4_copyFrom cX4_copyFrom 2 none 1 := ⟨q_200, q_202, q_203, q_201, by decide +kernel, by decide +kernel⟩
theorem wdX0_copyFrom : WdV yX0_copyFrom cX0_copyFrom 2 none 1 := ⟨q_218, q_220, q_221, q_219, by decide +kernel, by decide +kernel⟩
theorem wdX5_copyFrom : WdV yX5_copyFrom cX5_copyFrom 2 none 1 := ⟨q_224, q_226, q_227, q_225, by decide +kernel, by decide +kernel⟩
theorem wdX1_copyFrom : WdV yX1_copyFrom cX1_copyFrom 2 none 1 := ⟨q_230, q_232, q_233, q_231, by decide +kernel, by decide +kernel⟩
theorem wdX7_savedAt : WdV yX7_savedAt cX7_savedAt 3 (some (.object "LakeLevels$World")) 1 := ⟨q_239, q_241, q_242, q_240, by decide +kernel, by decide +kernel⟩
theorem wdX6_copyFrom : WdV yX6_copyFrom cX6_copyFrom 2 none 1 := ⟨q_244, q_246, q_247, q_245, by decide +kernel, by decide +kernel⟩
theorem wdX7_lowestIn : WdS yX7_lowestIn cX7_lowestIn 2 (some .int) 1 := ⟨q_255, q_257, q_256, by decide +kernel, by decide +kernel⟩
theorem wdX5_lowerNeighbor : WdS yX5_lowerNeighbor cX5_lowerNeighbor 7 (some .int) 2 := ⟨q_267, q_269, q_268, by decide +kernel, by decide +kernel⟩
theorem wdX4_put : WdV yX4_put cX4_put 4 none 2 := ⟨q_271, q_273, q_274, q_272, by decide +kernel, by decide +kernel⟩
theorem wdX4_fill : WdV yX4_fill cX4_fill 3 none 1 := ⟨q_279, q_281, q_282, q_280, by decide +kernel, by decide +kernel⟩
theorem wdX5_plainAround : WdS yX5_plainAround cX5_plainAround 11 (some .long) 2 := ⟨q_284, q_286, q_285, by decide +kernel, by decide +kernel⟩
theorem wdX5_targetOf : WdS yX5_targetOf cX5_targetOf 5 (some .int) 2 := ⟨q_288, q_290, q_289, by decide +kernel, by decide +kernel⟩
theorem wdX5_markPlain : WdV yX5_markPlain cX5_markPlain 5 none 2 := ⟨q_292, q_294, q_295, q_293, by decide +kernel, by decide +kernel⟩
theorem wdX5_numberPits : WdV yX5_numberPits cX5_numberPits 6 none 1 := ⟨q_297, q_299, q_300, q_298, by decide +kernel, by decide +kernel⟩
theorem wdX5_endOf : WdV yX5_endOf cX5_endOf 4 (some .int) 1 := ⟨q_302, q_304, q_305, q_303, by decide +kernel, by decide +kernel⟩
theorem wdX1_findPass : WdV yX1_findPass cX1_findPass 8 none 2 := ⟨q_314, q_316, q_317, q_315, by decide +kernel, by decide +kernel⟩
theorem wdX1_findCapacity : WdV yX1_findCapacity cX1_findCapacity 7 none 2 := ⟨q_319, q_321, q_322, q_320, by decide +kernel, by decide +kernel⟩
theorem wdX0_measure : WdV yX0_measure cX0_measure 4 none 0 := ⟨q_324, q_326, q_327, q_325, by decide +kernel, by decide +kernel⟩
theorem wdX5_find : WdV yX5_find cX5_find 5 none 1 := ⟨q_329, q_331, q_332, q_330, by decide +kernel, by decide +kernel⟩
theorem wdX1_restart : WdV yX1_restart cX1_restart 5 none 2 := ⟨q_334, q_336, q_337, q_335, by decide +kernel, by decide +kernel⟩
theorem wdX6_findAnew : WdV yX6_findAnew cX6_findAnew 1 none 0 := ⟨q_339, q_341, q_342, q_340, by decide +kernel, by decide +kernel⟩
theorem wdX2_readInto : WdV yX2_readInto cX2_readInto 6 (some .int) 1 := ⟨q_345, q_347, q_348, q_346, by decide +kernel, by decide +kernel⟩
theorem wdX7_save : WdV yX7_save cX7_save 1 none 0 := ⟨q_350, q_352, q_353, q_351, by decide +kernel, by decide +kernel⟩
theorem wdX6_restart : WdV yX6_restart cX6_restart 1 none 0 := ⟨q_356, q_358, q_359, q_357, by decide +kernel, by decide +kernel⟩
theorem wdX1_isLowestOfLake : WdV yX1_isLowestOfLake cX1_isLowestOfLake 3 (some .boolean) 1 := ⟨q_365, q_367, q_368, q_366, by decide +kernel, by decide +kernel⟩
theorem wdX6_isWet : WdV yX6_isWet cX6_isWet 2 (some .boolean) 1 := ⟨q_375, q_377, q_378, q_376, by decide +kernel, by decide +kernel⟩
theorem wdX1_isFull : WdV yX1_isFull cX1_isFull 2 (some .boolean) 1 := ⟨q_381, q_383, q_384, q_382, by decide +kernel, by decide +kernel⟩
theorem wdX1_fullTotal : WdV yX1_fullTotal cX1_fullTotal 3 (some .int) 0 := ⟨q_386, q_388, q_389, q_387, by decide +kernel, by decide +kernel⟩
theorem wdX6_seaTotal : WdV yX6_seaTotal cX6_seaTotal 3 (some .int) 0 := ⟨q_391, q_393, q_394, q_392, by decide +kernel, by decide +kernel⟩
theorem wdX6_wetTotal : WdV yX6_wetTotal cX6_wetTotal 3 (some .int) 0 := ⟨q_396, q_398, q_399, q_397, by decide +kernel, by decide +kernel⟩
theorem wdX1_total : WdV yX1_total cX1_total 3 (some .int) 0 := ⟨q_401, q_403, q_404, q_402, by decide +kernel, by decide +kernel⟩
theorem wdX5_isInPit : WdV yX5_isInPit cX5_isInPit 2 (some .boolean) 1 := ⟨q_408, q_410, q_411, q_409, by decide +kernel, by decide +kernel⟩
theorem wdX1_numberAt : WdV yX1_numberAt cX1_numberAt 6 (some .int) 1 := ⟨q_414, q_416, q_417, q_415, by decide +kernel, by decide +kernel⟩
theorem wdX1_lowestPlace : WdV yX1_lowestPlace cX1_lowestPlace 4 (some .int) 2 := ⟨q_430, q_432, q_433, q_431, by decide +kernel, by decide +kernel⟩
theorem wdX7_lakeValue : WdV yX7_lakeValue cX7_lakeValue 5 (some .int) 2 := ⟨q_435, q_437, q_438, q_436, by decide +kernel, by decide +kernel⟩
theorem wdX7_mix : WdS yX7_mix cX7_mix 4 (some .long) 2 := ⟨q_440, q_442, q_441, by decide +kernel, by decide +kernel⟩
theorem wdX7_levelPart : WdV yX7_levelPart cX7_levelPart 8 (some .int) 2 := ⟨q_444, q_446, q_447, q_445, by decide +kernel, by decide +kernel⟩
theorem wdX1_water : WdV yX1_water cX1_water 3 (some .int) 0 := ⟨q_451, q_453, q_454, q_452, by decide +kernel, by decide +kernel⟩
theorem wdX7_countValue : WdV yX7_countValue cX7_countValue 2 (some .int) 1 := ⟨q_458, q_460, q_461, q_459, by decide +kernel, by decide +kernel⟩
theorem wdX7_cellValue : WdV yX7_cellValue cX7_cellValue 3 (some .int) 2 := ⟨q_463, q_465, q_466, q_464, by decide +kernel, by decide +kernel⟩
theorem wdX1_placeOf : WdV yX1_placeOf cX1_placeOf 4 (some .int) 1 := ⟨q_468, q_470, q_471, q_469, by decide +kernel, by decide +kernel⟩
theorem wdX7_mixLake : WdV yX7_mixLake cX7_mixLake 7 (some .long) 2 := ⟨q_473, q_475, q_476, q_474, by decide +kernel, by decide +kernel⟩
theorem wdX7_balanceValue : WdV yX7_balanceValue cX7_balanceValue 2 (some .long) 1 := ⟨q_478, q_480, q_481, q_479, by decide +kernel, by decide +kernel⟩
theorem wdX1_freePlace : WdV yX1_freePlace cX1_freePlace 2 (some .int) 0 := ⟨q_484, q_486, q_487, q_485, by decide +kernel, by decide +kernel⟩
theorem wdX1_claimCells : WdV yX1_claimCells cX1_claimCells 3 none 1 := ⟨q_489, q_491, q_492, q_490, by decide +kernel, by decide +kernel⟩
theorem wdX1_fill : WdV yX1_fill cX1_fill 5 (some .int) 2 := ⟨q_495, q_497, q_498, q_496, by decide +kernel, by decide +kernel⟩
theorem wdX1_join : WdV yX1_join cX1_join 6 (some .int) 3 := ⟨q_500, q_502, q_503, q_501, by decide +kernel, by decide +kernel⟩
theorem wdX1_pourInto : WdV yX1_pourInto cX1_pourInto 10 (some .int) 3 := ⟨q_505, q_507, q_508, q_506, by decide +kernel, by decide +kernel⟩
theorem wdX6_pourAt : WdV yX6_pourAt cX6_pourAt 5 (some .int) 2 := ⟨q_510, q_512, q_513, q_511, by decide +kernel, by decide +kernel⟩
theorem wdX1_partLake : WdV yX1_partLake cX1_partLake 4 none 1 := ⟨q_521, q_523, q_524, q_522, by decide +kernel, by decide +kernel⟩
theorem wdX1_draw : WdV yX1_draw cX1_draw 9 none 2 := ⟨q_537, q_539, q_540, q_538, by decide +kernel, by decide +kernel⟩
theorem wdX6_dryOnce : WdV yX6_dryOnce cX6_dryOnce 5 (some .int) 0 := ⟨q_542, q_544, q_545, q_543, by decide +kernel, by decide +kernel⟩
theorem fc0 : FCl 0 RX0 TX0 9 tyX0 := ⟨rfl, by decide, (show ∀ w ∈ [u_lay RX0 TX0 0, u_lay RX0 TX0 1, u_lay RX0 TX0 2, u_lay RX0 TX0 3, u_lay RX0 TX0 4, u_lay RX0 TX0 5, u_lay RX0 TX0 6, u_lay RX0 TX0 7, u_lay RX0 TX0 8], w ∈ TBL from List.forall_mem_cons.mpr ⟨q_547, List.forall_mem_cons.mpr ⟨q_548, List.forall_mem_cons.mpr ⟨q_549, List.forall_mem_cons.mpr ⟨q_550, List.forall_mem_cons.mpr ⟨q_551, List.forall_mem_cons.mpr ⟨q_552, List.forall_mem_cons.mpr ⟨q_553, List.forall_mem_cons.mpr ⟨q_554, List.forall_mem_cons.mpr ⟨q_555, fun _ h => absurd h List.not_mem_nil⟩⟩⟩⟩⟩⟩⟩⟩⟩), tyX0_ok, nmX0, rfl⟩
theorem fc1 : FCl 1 RX1 TX1 11 tyX1 := ⟨rfl, by decide, (show ∀ w ∈ [u_lay RX1 TX1 0, u_lay RX1 TX1 1, u_lay RX1 TX1 2, u_lay RX1 TX1 3, u_lay RX1 TX1 4, u_lay RX1 TX1 5, u_lay RX1 TX1 6, u_lay RX1 TX1 7, u_lay RX1 TX1 8, u_lay RX1 TX1 9, u_lay RX1 TX1 10], w ∈ TBL from List.forall_mem_cons.mpr ⟨q_556, List.forall_mem_cons.mpr ⟨q_557, List.forall_mem_cons.mpr ⟨q_558, List.forall_mem_cons.mpr ⟨q_559, List.forall_mem_cons.mpr ⟨q_560, List.forall_mem_cons.mpr ⟨q_561, List.forall_mem_cons.mpr ⟨q_562, List.forall_mem_cons.mpr ⟨q_563, List.forall_mem_cons.mpr ⟨q_564, List.forall_mem_cons.mpr ⟨q_565, List.forall_mem_cons.mpr ⟨q_566, fun _ h => absurd h List.not_mem_nil⟩⟩⟩⟩⟩⟩⟩⟩⟩⟩⟩), tyX1_ok, nmX1, rfl⟩
theorem fc2 : FCl 2 RX2 TX2 4 tyX2 := ⟨rfl, by decide, (show ∀ w ∈ [u_lay RX2 TX2 0, u_lay RX2 TX2 1, u_lay RX2 TX2 2, u_lay RX2 TX2 3], w ∈ TBL from List.forall_mem_cons.mpr ⟨q_567, List.forall_mem_cons.mpr ⟨q_568, List.forall_mem_cons.mpr ⟨q_569, List.forall_mem_cons.mpr ⟨q_570, fun _ h => absurd h List.not_mem_nil⟩⟩⟩⟩), tyX2_ok, nmX2, rfl⟩
theorem fc3 : FCl 3 RX3 TX3 1 tyX3 := ⟨rfl, by decide, (show ∀ w ∈ [u_lay RX3 TX3 0], w ∈ TBL from List.forall_mem_cons.mpr ⟨q_571, fun _ h => absurd h List.not_mem_nil⟩), tyX3_ok, nmX3, rfl⟩
theorem fc4 : FCl 4 RX4 TX4 1 tyX4 := ⟨rfl, by decide, (show ∀ w ∈ [u_lay RX4 TX4 0], w ∈ TBL from List.forall_mem_cons.mpr ⟨q_572, fun _ h => absurd h List.not_mem_nil⟩), tyX4_ok, nmX4, rfl⟩
theorem fc5 : FCl 5 RX5 TX5 4 tyX5 := ⟨rfl, by decide, (show ∀ w ∈ [u_lay RX5 TX5 0, u_lay RX5 TX5 1, u_lay RX5 TX5 2, u_lay RX5 TX5 3], w ∈ TBL from List.forall_mem_cons.mpr ⟨q_573, List.forall_mem_cons.mpr ⟨q_574, List.forall_mem_cons.mpr ⟨q_575, List.forall_mem_cons.mpr ⟨q_576, fun _ h => absurd h List.not_mem_nil⟩⟩⟩⟩), tyX5_ok, nmX5, rfl⟩
theorem fc6 : FCl 6 RX6 TX6 9 tyX6 := ⟨rfl, by decide, (show ∀ w ∈ [u_lay RX6 TX6 0, u_lay RX6 TX6 1, u_lay RX6 TX6 2, u_lay RX6 TX6 3, u_lay RX6 TX6 4, u_lay RX6 TX6 5, u_lay RX6 TX6 6, u_lay RX6 TX6 7, u_lay RX6 TX6 8], w ∈ TBL from List.forall_mem_cons.mpr ⟨q_577, List.forall_mem_cons.mpr ⟨q_578, List.forall_mem_cons.mpr ⟨q_579, List.forall_mem_cons.mpr ⟨q_580, List.forall_mem_cons.mpr ⟨q_581, List.forall_mem_cons.mpr ⟨q_582, List.forall_mem_cons.mpr ⟨q_583, List.forall_mem_cons.mpr ⟨q_584, List.forall_mem_cons.mpr ⟨q_585, fun _ h => absurd h List.not_mem_nil⟩⟩⟩⟩⟩⟩⟩⟩⟩), tyX6_ok, nmX6, rfl⟩
theorem fc7 : FCl 7 RX7 TX7 6 tyX7 := ⟨rfl, by decide, (show ∀ w ∈ [u_lay RX7 TX7 0, u_lay RX7 TX7 1, u_lay RX7 TX7 2, u_lay RX7 TX7 3, u_lay RX7 TX7 4, u_lay RX7 TX7 5], w ∈ TBL from List.forall_mem_cons.mpr ⟨q_586, List.forall_mem_cons.mpr ⟨q_587, List.forall_mem_cons.mpr ⟨q_588, List.forall_mem_cons.mpr ⟨q_589, List.forall_mem_cons.mpr ⟨q_590, List.forall_mem_cons.mpr ⟨q_591, fun _ h => absurd h List.not_mem_nil⟩⟩⟩⟩⟩⟩), tyX7_ok, nmX7, rfl⟩
theorem nC_le (o : Nat) : nC o ≤ 150 := by
  by_cases q : o < 281
  · have : ∀ o, o < 281 → nC o ≤ 150 := by decide +kernel
    exact this o q
  · have h2 : gC[o]? = none := List.getElem?_eq_none (by have : gC.length = 281 := by decide +kernel
                                                         omega)
    unfold nC nG
    rw [List.getD_eq_getElem?_getD, h2]
    exact Nat.zero_le _
theorem kk_savedAt (i : Int32) : kC (fSavedAt i) = 6 := by
  unfold fSavedAt
  split
  · rename_i h
    have h2 : i.toNatClampNeg < 4 := by
      have := of_decide_eq_true h
      omega
    generalize i.toNatClampNeg = j at h2
    have : ∀ j, j < 4 → kC (97 + 46 * j) = 6 := by decide +kernel
    exact this j h2
  · decide +kernel
theorem kC_lt {o k : Nat} (h : kC o = k) (hk : k < 99) : o < 281 := by
  by_cases q : o < 281
  · exact q
  · exfalso
    have h2 : gC[o]? = none := List.getElem?_eq_none (by have : gC.length = 281 := by decide +kernel
                                                         omega)
    unfold kC kG at h
    rw [List.getD_eq_getElem?_getD, h2] at h
    have : (99 : Nat) = k := h
    omega
theorem kkd0_1 : ∀ o, o < 281 → kC o = 0 → kC (o + 1) = 3 := by decide +kernel
theorem kk0_1 {o : Nat} (h : kC o = 0) : kC (o + 1) = 3 := kkd0_1 o (kC_lt h (by decide)) h
theorem kkd0_3 : ∀ o, o < 281 → kC o = 0 → kC (o + 3) = 3 := by decide +kernel
theorem kk0_3 {o : Nat} (h : kC o = 0) : kC (o + 3) = 3 := kkd0_3 o (kC_lt h (by decide)) h
theorem kkd0_5 : ∀ o, o < 281 → kC o = 0 → kC (o + 5) = 3 := by decide +kernel
theorem kk0_5 {o : Nat} (h : kC o = 0) : kC (o + 5) = 3 := kkd0_5 o (kC_lt h (by decide)) h
theorem kkd0_7 : ∀ o, o < 281 → kC o = 0 → kC (o + 7) = 3 := by decide +kernel
theorem kk0_7 {o : Nat} (h : kC o = 0) : kC (o + 7) = 3 := kkd0_7 o (kC_lt h (by decide)) h
theorem kkd0_9 : ∀ o, o < 281 → kC o = 0 → kC (o + 9) = 3 := by decide +kernel
theorem kk0_9 {o : Nat} (h : kC o = 0) : kC (o + 9) = 3 := kkd0_9 o (kC_lt h (by decide)) h
theorem kkd1_1 : ∀ o, o < 281 → kC o = 1 → kC (o + 1) = 4 := by decide +kernel
theorem kk1_1 {o : Nat} (h : kC o = 1) : kC (o + 1) = 4 := kkd1_1 o (kC_lt h (by decide)) h
theorem kkd1_3 : ∀ o, o < 281 → kC o = 1 → kC (o + 3) = 3 := by decide +kernel
theorem kk1_3 {o : Nat} (h : kC o = 1) : kC (o + 3) = 3 := kkd1_3 o (kC_lt h (by decide)) h
theorem kkd1_5 : ∀ o, o < 281 → kC o = 1 → kC (o + 5) = 3 := by decide +kernel
theorem kk1_5 {o : Nat} (h : kC o = 1) : kC (o + 5) = 3 := kkd1_5 o (kC_lt h (by decide)) h
theorem kkd1_7 : ∀ o, o < 281 → kC o = 1 → kC (o + 7) = 3 := by decide +kernel
theorem kk1_7 {o : Nat} (h : kC o = 1) : kC (o + 7) = 3 := kkd1_7 o (kC_lt h (by decide)) h
theorem kkd1_9 : ∀ o, o < 281 → kC o = 1 → kC (o + 9) = 3 := by decide +kernel
theorem kk1_9 {o : Nat} (h : kC o = 1) : kC (o + 9) = 3 := kkd1_9 o (kC_lt h (by decide)) h
theorem kkd1_11 : ∀ o, o < 281 → kC o = 1 → kC (o + 11) = 3 := by decide +kernel
theorem kk1_11 {o : Nat} (h : kC o = 1) : kC (o + 11) = 3 := kkd1_11 o (kC_lt h (by decide)) h
theorem kkd1_13 : ∀ o, o < 281 → kC o = 1 → kC (o + 13) = 3 := by decide +kernel
theorem kk1_13 {o : Nat} (h : kC o = 1) : kC (o + 13) = 3 := kkd1_13 o (kC_lt h (by decide)) h
theorem kkd1_15 : ∀ o, o < 281 → kC o = 1 → kC (o + 15) = 3 := by decide +kernel
theorem kk1_15 {o : Nat} (h : kC o = 1) : kC (o + 15) = 3 := kkd1_15 o (kC_lt h (by decide)) h
theorem kkd1_17 : ∀ o, o < 281 → kC o = 1 → kC (o + 17) = 3 := by decide +kernel
theorem kk1_17 {o : Nat} (h : kC o = 1) : kC (o + 17) = 3 := kkd1_17 o (kC_lt h (by decide)) h
theorem kkd1_19 : ∀ o, o < 281 → kC o = 1 → kC (o + 19) = 3 := by decide +kernel
theorem kk1_19 {o : Nat} (h : kC o = 1) : kC (o + 19) = 3 := kkd1_19 o (kC_lt h (by decide)) h
theorem kkd1_21 : ∀ o, o < 281 → kC o = 1 → kC (o + 21) = 3 := by decide +kernel
theorem kk1_21 {o : Nat} (h : kC o = 1) : kC (o + 21) = 3 := kkd1_21 o (kC_lt h (by decide)) h
theorem kkd2_1 : ∀ o, o < 281 → kC o = 2 → kC (o + 1) = 3 := by decide +kernel
theorem kk2_1 {o : Nat} (h : kC o = 2) : kC (o + 1) = 3 := kkd2_1 o (kC_lt h (by decide)) h
theorem kkd3_1 : ∀ o, o < 281 → kC o = 3 → kC (o + 1) = 9 := by decide +kernel
theorem kk3_1 {o : Nat} (h : kC o = 3) : kC (o + 1) = 9 := kkd3_1 o (kC_lt h (by decide)) h
theorem kkd4_1 : ∀ o, o < 281 → kC o = 4 → kC (o + 1) = 10 := by decide +kernel
theorem kk4_1 {o : Nat} (h : kC o = 4) : kC (o + 1) = 10 := kkd4_1 o (kC_lt h (by decide)) h
theorem kkd5_1 : ∀ o, o < 281 → kC o = 5 → kC (o + 1) = 4 := by decide +kernel
theorem kk5_1 {o : Nat} (h : kC o = 5) : kC (o + 1) = 4 := kkd5_1 o (kC_lt h (by decide)) h
theorem kkd5_3 : ∀ o, o < 281 → kC o = 5 → kC (o + 3) = 3 := by decide +kernel
theorem kk5_3 {o : Nat} (h : kC o = 5) : kC (o + 3) = 3 := kkd5_3 o (kC_lt h (by decide)) h
theorem kkd5_5 : ∀ o, o < 281 → kC o = 5 → kC (o + 5) = 3 := by decide +kernel
theorem kk5_5 {o : Nat} (h : kC o = 5) : kC (o + 5) = 3 := kkd5_5 o (kC_lt h (by decide)) h
theorem kkd6_1 : ∀ o, o < 281 → kC o = 6 → kC (o + 1) = 0 := by decide +kernel
theorem kk6_1 {o : Nat} (h : kC o = 6) : kC (o + 1) = 0 := kkd6_1 o (kC_lt h (by decide)) h
theorem kkd6_12 : ∀ o, o < 281 → kC o = 6 → kC (o + 12) = 5 := by decide +kernel
theorem kk6_12 {o : Nat} (h : kC o = 6) : kC (o + 12) = 5 := kkd6_12 o (kC_lt h (by decide)) h
theorem kkd6_19 : ∀ o, o < 281 → kC o = 6 → kC (o + 19) = 1 := by decide +kernel
theorem kk6_19 {o : Nat} (h : kC o = 6) : kC (o + 19) = 1 := kkd6_19 o (kC_lt h (by decide)) h
theorem kkd6_42 : ∀ o, o < 281 → kC o = 6 → kC (o + 42) = 3 := by decide +kernel
theorem kk6_42 {o : Nat} (h : kC o = 6) : kC (o + 42) = 3 := kkd6_42 o (kC_lt h (by decide)) h
theorem kkd6_44 : ∀ o, o < 281 → kC o = 6 → kC (o + 44) = 3 := by decide +kernel
theorem kk6_44 {o : Nat} (h : kC o = 6) : kC (o + 44) = 3 := kkd6_44 o (kC_lt h (by decide)) h
