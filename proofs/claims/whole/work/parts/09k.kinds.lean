/-! called methods, classes, kinds of cells -/
theorem wdJ7_fill_53178 : WdS yJ7_fill_53178 cJ7_fill_53178 4 none 2 := ⟨q_3, q_5, q_4, by decide +kernel, by decide +kernel⟩
theorem wdJ7_fill_d0a16 : WdS yJ7_fill_d0a16 cJ7_fill_d0a16 5 none 2 := ⟨q_7, q_9, q_8, by decide +kernel, by decide +kernel⟩
theorem wdX4_at : WdV yX4_at cX4_at 2 (some .long) 1 := ⟨q_25, q_27, q_28, q_26, by decide +kernel, by decide +kernel⟩
theorem wdX3_at : WdV yX3_at cX3_at 2 (some .int) 1 := ⟨q_32, q_34, q_35, q_33, by decide +kernel, by decide +kernel⟩
theorem wdX7_has : WdS yX7_has cX7_has 3 (some .boolean) 2 := ⟨q_38, q_40, q_39, by decide +kernel, by decide +kernel⟩
theorem wdX7_bit : WdS yX7_bit cX7_bit 1 (some .long) 1 := ⟨q_43, q_45, q_44, by decide +kernel, by decide +kernel⟩
theorem wdX1_wetCells : WdV yX1_wetCells cX1_wetCells 12 (some .long) 2 := ⟨q_56, q_58, q_59, q_57, by decide +kernel, by decide +kernel⟩
theorem wdJ13_bitCount_95d88 : WdS yJ13_bitCount_95d88 cJ13_bitCount_95d88 2 (some .int) 1 := ⟨q_62, q_64, q_63, by decide +kernel, by decide +kernel⟩
theorem wdX0_heightSum : WdV yX0_heightSum cX0_heightSum 5 (some .int) 1 := ⟨q_67, q_69, q_70, q_68, by decide +kernel, by decide +kernel⟩
theorem wdX7_commonDivisor : WdS yX7_commonDivisor cX7_commonDivisor 3 (some .int) 2 := ⟨q_73, q_75, q_74, by decide +kernel, by decide +kernel⟩
theorem wdX7_reduced : WdS yX7_reduced cX7_reduced 2 (some .int) 2 := ⟨q_77, q_79, q_78, by decide +kernel, by decide +kernel⟩
theorem wdX7_depthValue : WdV yX7_depthValue cX7_depthValue 9 (some .double) 1 := ⟨q_82, q_84, q_85, q_83, by decide +kernel, by decide +kernel⟩
theorem wdX7_lowestIn : WdS yX7_lowestIn cX7_lowestIn 2 (some .int) 1 := ⟨q_88, q_90, q_89, by decide +kernel, by decide +kernel⟩
theorem wdX1_isLowestOfLake : WdV yX1_isLowestOfLake cX1_isLowestOfLake 3 (some .boolean) 1 := ⟨q_92, q_94, q_95, q_93, by decide +kernel, by decide +kernel⟩
theorem wdX3_copyFrom : WdV yX3_copyFrom cX3_copyFrom 2 none 1 := ⟨q_100, q_102, q_103, q_101, by decide +kernel, by decide +kernel⟩
theorem wdX4_copyFrom : WdV yX4_copyFrom cX4_copyFrom 2 none 1 := ⟨q_111, q_113, q_114, q_112, by decide +kernel, by decide +kernel⟩
theorem wdX0_copyFrom : WdV yX0_copyFrom cX0_copyFrom 2 none 1 := ⟨q_128, q_130, q_131, q_129, by decide +kernel, by decide +kernel⟩
theorem wdX5_copyFrom : WdV yX5_copyFrom cX5_copyFrom 2 none 1 := ⟨q_134, q_136, q_137, q_135, by decide +kernel, by decide +kernel⟩
theorem wdX1_copyFrom : WdV yX1_copyFrom cX1_copyFrom 2 none 1 := ⟨q_140, q_142, q_143, q_141, by decide +kernel, by decide +kernel⟩
theorem wdX3_put : WdV yX3_put cX3_put 3 none 2 := ⟨q_148, q_150, q_151, q_149, by decide +kernel, by decide +kernel⟩
theorem wdX1_freePlace : WdV yX1_freePlace cX1_freePlace 2 (some .int) 0 := ⟨q_156, q_158, q_159, q_157, by decide +kernel, by decide +kernel⟩
theorem wdX4_put : WdV yX4_put cX4_put 4 none 2 := ⟨q_161, q_163, q_164, q_162, by decide +kernel, by decide +kernel⟩
theorem wdX1_findPass : WdV yX1_findPass cX1_findPass 8 none 2 := ⟨q_166, q_168, q_169, q_167, by decide +kernel, by decide +kernel⟩
theorem wdX1_findCapacity : WdV yX1_findCapacity cX1_findCapacity 7 none 2 := ⟨q_171, q_173, q_174, q_172, by decide +kernel, by decide +kernel⟩
theorem wdX1_claimCells : WdV yX1_claimCells cX1_claimCells 3 none 1 := ⟨q_176, q_178, q_179, q_177, by decide +kernel, by decide +kernel⟩
theorem wdX1_fill : WdV yX1_fill cX1_fill 5 (some .int) 2 := ⟨q_182, q_184, q_185, q_183, by decide +kernel, by decide +kernel⟩
theorem wdX1_isFull : WdV yX1_isFull cX1_isFull 2 (some .boolean) 1 := ⟨q_187, q_189, q_190, q_188, by decide +kernel, by decide +kernel⟩
theorem wdX1_join : WdV yX1_join cX1_join 6 (some .int) 3 := ⟨q_192, q_194, q_195, q_193, by decide +kernel, by decide +kernel⟩
theorem wdX1_pourInto : WdV yX1_pourInto cX1_pourInto 10 (some .int) 3 := ⟨q_199, q_201, q_202, q_200, by decide +kernel, by decide +kernel⟩
theorem wdX6_pourAt : WdV yX6_pourAt cX6_pourAt 5 (some .int) 2 := ⟨q_205, q_207, q_208, q_206, by decide +kernel, by decide +kernel⟩
theorem wdX1_total : WdV yX1_total cX1_total 3 (some .int) 0 := ⟨q_210, q_212, q_213, q_211, by decide +kernel, by decide +kernel⟩
theorem wdX6_copyFrom : WdV yX6_copyFrom cX6_copyFrom 2 none 1 := ⟨q_216, q_218, q_219, q_217, by decide +kernel, by decide +kernel⟩
theorem wdX6_pourAtAll : WdV yX6_pourAtAll cX6_pourAtAll 4 (some .int) 1 := ⟨q_221, q_223, q_224, q_222, by decide +kernel, by decide +kernel⟩
theorem wdX2_next : WdV yX2_next cX2_next 1 (some .int) 0 := ⟨q_233, q_235, q_236, q_234, by decide +kernel, by decide +kernel⟩
theorem wdX2_fail : WdV yX2_fail cX2_fail 2 none 1 := ⟨q_238, q_240, q_241, q_239, by decide +kernel, by decide +kernel⟩
theorem wdX3_fill : WdV yX3_fill cX3_fill 2 none 1 := ⟨q_244, q_246, q_247, q_245, by decide +kernel, by decide +kernel⟩
theorem wdX0_laySides : WdV yX0_laySides cX0_laySides 5 none 2 := ⟨q_249, q_251, q_252, q_250, by decide +kernel, by decide +kernel⟩
theorem wdX2_isAtDigit : WdV yX2_isAtDigit cX2_isAtDigit 1 (some .boolean) 0 := ⟨q_254, q_256, q_257, q_255, by decide +kernel, by decide +kernel⟩
theorem wdX2_readSign : WdV yX2_readSign cX2_readSign 2 none 1 := ⟨q_260, q_262, q_263, q_261, by decide +kernel, by decide +kernel⟩
theorem wdX2_readNumber : WdV yX2_readNumber cX2_readNumber 3 (some .int) 0 := ⟨q_266, q_268, q_269, q_267, by decide +kernel, by decide +kernel⟩
theorem wdX0_exists : WdV yX0_exists cX0_exists 2 (some .boolean) 1 := ⟨q_274, q_276, q_277, q_275, by decide +kernel, by decide +kernel⟩
theorem wdX0_putDrain : WdV yX0_putDrain cX0_putDrain 3 none 2 := ⟨q_279, q_281, q_282, q_280, by decide +kernel, by decide +kernel⟩
theorem wdX0_sideTo : WdV yX0_sideTo cX0_sideTo 4 (some .int) 2 := ⟨q_285, q_287, q_288, q_286, by decide +kernel, by decide +kernel⟩
theorem wdX0_putGate : WdV yX0_putGate cX0_putGate 4 none 3 := ⟨q_291, q_293, q_294, q_292, by decide +kernel, by decide +kernel⟩
theorem wdX2_readSize : WdV yX2_readSize cX2_readSize 3 (some .int) 1 := ⟨q_296, q_298, q_299, q_297, by decide +kernel, by decide +kernel⟩
theorem wdX0_lay : WdV yX0_lay cX0_lay 5 none 2 := ⟨q_301, q_303, q_304, q_302, by decide +kernel, by decide +kernel⟩
theorem wdX2_readHeights : WdV yX2_readHeights cX2_readHeights 3 none 1 := ⟨q_306, q_308, q_309, q_307, by decide +kernel, by decide +kernel⟩
theorem wdX2_readDrain : WdV yX2_readDrain cX2_readDrain 4 none 1 := ⟨q_311, q_313, q_314, q_312, by decide +kernel, by decide +kernel⟩
theorem wdX2_readGate : WdV yX2_readGate cX2_readGate 7 none 1 := ⟨q_316, q_318, q_319, q_317, by decide +kernel, by decide +kernel⟩
theorem wdX7_savedAt : WdV yX7_savedAt cX7_savedAt 3 (some (.object "LakeLevels$World")) 1 := ⟨q_322, q_324, q_325, q_323, by decide +kernel, by decide +kernel⟩
theorem wdX5_lowerNeighbor : WdS yX5_lowerNeighbor cX5_lowerNeighbor 7 (some .int) 2 := ⟨q_342, q_344, q_343, by decide +kernel, by decide +kernel⟩
theorem wdX4_fill : WdV yX4_fill cX4_fill 3 none 1 := ⟨q_350, q_352, q_353, q_351, by decide +kernel, by decide +kernel⟩
theorem wdX5_plainAround : WdS yX5_plainAround cX5_plainAround 11 (some .long) 2 := ⟨q_355, q_357, q_356, by decide +kernel, by decide +kernel⟩
theorem wdX5_targetOf : WdS yX5_targetOf cX5_targetOf 5 (some .int) 2 := ⟨q_359, q_361, q_360, by decide +kernel, by decide +kernel⟩
theorem wdX5_markPlain : WdV yX5_markPlain cX5_markPlain 5 none 2 := ⟨q_363, q_365, q_366, q_364, by decide +kernel, by decide +kernel⟩
theorem wdX5_numberPits : WdV yX5_numberPits cX5_numberPits 6 none 1 := ⟨q_368, q_370, q_371, q_369, by decide +kernel, by decide +kernel⟩
theorem wdX5_endOf : WdV yX5_endOf cX5_endOf 4 (some .int) 1 := ⟨q_373, q_375, q_376, q_374, by decide +kernel, by decide +kernel⟩
theorem wdX0_measure : WdV yX0_measure cX0_measure 4 none 0 := ⟨q_381, q_383, q_384, q_382, by decide +kernel, by decide +kernel⟩
theorem wdX5_find : WdV yX5_find cX5_find 5 none 1 := ⟨q_386, q_388, q_389, q_387, by decide +kernel, by decide +kernel⟩
theorem wdX1_restart : WdV yX1_restart cX1_restart 5 none 2 := ⟨q_391, q_393, q_394, q_392, by decide +kernel, by decide +kernel⟩
theorem wdX6_findAnew : WdV yX6_findAnew cX6_findAnew 1 none 0 := ⟨q_396, q_398, q_399, q_397, by decide +kernel, by decide +kernel⟩
theorem wdX2_readInto : WdV yX2_readInto cX2_readInto 6 (some .int) 1 := ⟨q_401, q_403, q_404, q_402, by decide +kernel, by decide +kernel⟩
theorem wdX7_save : WdV yX7_save cX7_save 1 none 0 := ⟨q_406, q_408, q_409, q_407, by decide +kernel, by decide +kernel⟩
theorem wdX6_restart : WdV yX6_restart cX6_restart 1 none 0 := ⟨q_412, q_414, q_415, q_413, by decide +kernel, by decide +kernel⟩
theorem wdX6_isWet : WdV yX6_isWet cX6_isWet 2 (some .boolean) 1 := ⟨q_422, q_424, q_425, q_423, by decide +kernel, by decide +kernel⟩
theorem wdX1_fullTotal : WdV yX1_fullTotal cX1_fullTotal 3 (some .int) 0 := ⟨q_428, q_430, q_431, q_429, by decide +kernel, by decide +kernel⟩
theorem wdX6_seaTotal : WdV yX6_seaTotal cX6_seaTotal 3 (some .int) 0 := ⟨q_433, q_435, q_436, q_434, by decide +kernel, by decide +kernel⟩
theorem wdX6_wetTotal : WdV yX6_wetTotal cX6_wetTotal 3 (some .int) 0 := ⟨q_438, q_440, q_441, q_439, by decide +kernel, by decide +kernel⟩
theorem wdX5_isInPit : WdV yX5_isInPit cX5_isInPit 2 (some .boolean) 1 := ⟨q_445, q_447, q_448, q_446, by decide +kernel, by decide +kernel⟩
theorem wdX1_numberAt : WdV yX1_numberAt cX1_numberAt 6 (some .int) 1 := ⟨q_451, q_453, q_454, q_452, by decide +kernel, by decide +kernel⟩
theorem wdX1_lowestPlace : WdV yX1_lowestPlace cX1_lowestPlace 4 (some .int) 2 := ⟨q_467, q_469, q_470, q_468, by decide +kernel, by decide +kernel⟩
theorem wdX7_lakeValue : WdV yX7_lakeValue cX7_lakeValue 5 (some .int) 2 := ⟨q_472, q_474, q_475, q_473, by decide +kernel, by decide +kernel⟩
theorem wdX7_mix : WdS yX7_mix cX7_mix 4 (some .long) 2 := ⟨q_477, q_479, q_478, by decide +kernel, by decide +kernel⟩
theorem wdX7_levelPart : WdV yX7_levelPart cX7_levelPart 8 (some .int) 2 := ⟨q_481, q_483, q_484, q_482, by decide +kernel, by decide +kernel⟩
theorem wdX1_water : WdV yX1_water cX1_water 3 (some .int) 0 := ⟨q_488, q_490, q_491, q_489, by decide +kernel, by decide +kernel⟩
theorem wdX7_countValue : WdV yX7_countValue cX7_countValue 2 (some .int) 1 := ⟨q_495, q_497, q_498, q_496, by decide +kernel, by decide +kernel⟩
theorem wdX7_cellValue : WdV yX7_cellValue cX7_cellValue 3 (some .int) 2 := ⟨q_500, q_502, q_503, q_501, by decide +kernel, by decide +kernel⟩
theorem wdX1_placeOf : WdV yX1_placeOf cX1_placeOf 4 (some .int) 1 := ⟨q_505, q_507, q_508, q_506, by decide +kernel, by decide +kernel⟩
theorem wdX7_mixLake : WdV yX7_mixLake cX7_mixLake 7 (some .long) 2 := ⟨q_510, q_512, q_513, q_511, by decide +kernel, by decide +kernel⟩
theorem wdX7_balanceValue : WdV yX7_balanceValue cX7_balanceValue 2 (some .long) 1 := ⟨q_515, q_517, q_518, q_516, by decide +kernel, by decide +kernel⟩
theorem wdX8_many : WdV yX8_many cX8_many 1 (some .int) 0 := ⟨q_526, q_528, q_529, q_527, by decide +kernel, by decide +kernel⟩
theorem wdX8_in : WdS yX8_in cX8_in 6 (some .boolean) 3 := ⟨q_531, q_533, q_532, by decide +kernel, by decide +kernel⟩
theorem wdX8_neighbor : WdV yX8_neighbor cX8_neighbor 4 (some .int) 2 := ⟨q_535, q_537, q_538, q_536, by decide +kernel, by decide +kernel⟩
theorem wdX8_isCell : WdV yX8_isCell cX8_isCell 2 (some .boolean) 1 := ⟨q_540, q_542, q_543, q_541, by decide +kernel, by decide +kernel⟩
theorem wdX8_areNeighbors : WdV yX8_areNeighbors cX8_areNeighbors 5 (some .boolean) 2 := ⟨q_545, q_547, q_548, q_546, by decide +kernel, by decide +kernel⟩
theorem wdX8_gateAt : WdV yX8_gateAt cX8_gateAt 5 (some .int) 2 := ⟨q_550, q_552, q_553, q_551, by decide +kernel, by decide +kernel⟩
theorem wdX8_threshold : WdV yX8_threshold cX8_threshold 7 (some .int) 2 := ⟨q_555, q_557, q_558, q_556, by decide +kernel, by decide +kernel⟩
theorem wdX8_height : WdV yX8_height cX8_height 2 (some .int) 1 := ⟨q_560, q_562, q_563, q_561, by decide +kernel, by decide +kernel⟩
theorem wdX8_has : WdS yX8_has cX8_has 3 (some .boolean) 2 := ⟨q_565, q_567, q_566, by decide +kernel, by decide +kernel⟩
theorem wdX8_runs : WdV yX8_runs cX8_runs 3 (some .boolean) 2 := ⟨q_569, q_571, q_572, q_570, by decide +kernel, by decide +kernel⟩
theorem wdX8_plain : WdV yX8_plain cX8_plain 8 (some .long) 1 := ⟨q_574, q_576, q_577, q_575, by decide +kernel, by decide +kernel⟩
theorem wdX8_way : WdV yX8_way cX8_way 7 (some .int) 1 := ⟨q_579, q_581, q_582, q_580, by decide +kernel, by decide +kernel⟩
theorem wdX8_endOf : WdV yX8_endOf cX8_endOf 5 (some .long) 1 := ⟨q_585, q_587, q_588, q_586, by decide +kernel, by decide +kernel⟩
theorem wdX8_lowest : WdS yX8_lowest cX8_lowest 3 (some .int) 1 := ⟨q_591, q_593, q_592, by decide +kernel, by decide +kernel⟩
theorem wdX8_findsPass : WdV yX8_findsPass cX8_findsPass 7 none 1 := ⟨q_598, q_600, q_601, q_599, by decide +kernel, by decide +kernel⟩
theorem wdX8_capacity : WdV yX8_capacity cX8_capacity 5 (some .long) 1 := ⟨q_603, q_605, q_606, q_604, by decide +kernel, by decide +kernel⟩
theorem wdX8_isJoined : WdV yX8_isJoined cX8_isJoined 2 (some .boolean) 1 := ⟨q_608, q_610, q_611, q_609, by decide +kernel, by decide +kernel⟩
theorem wdX8_lakeOf : WdV yX8_lakeOf cX8_lakeOf 4 (some .int) 1 := ⟨q_613, q_615, q_616, q_614, by decide +kernel, by decide +kernel⟩
theorem wdX8_isFull : WdV yX8_isFull cX8_isFull 2 (some .boolean) 1 := ⟨q_618, q_620, q_621, q_619, by decide +kernel, by decide +kernel⟩
theorem wdX8_join : WdV yX8_join cX8_join 4 (some .int) 2 := ⟨q_623, q_625, q_626, q_624, by decide +kernel, by decide +kernel⟩
theorem wdX8_leastVolume : WdV yX8_leastVolume cX8_leastVolume 2 (some .long) 1 := ⟨q_630, q_632, q_633, q_631, by decide +kernel, by decide +kernel⟩
theorem wdX8_parts : WdV yX8_parts cX8_parts 4 none 3 := ⟨q_635, q_637, q_638, q_636, by decide +kernel, by decide +kernel⟩
theorem wdX8_orders : WdV yX8_orders cX8_orders 3 none 0 := ⟨q_642, q_644, q_645, q_643, by decide +kernel, by decide +kernel⟩
theorem wdX8_levels : WdV yX8_levels cX8_levels 11 none 1 := ⟨q_649, q_651, q_652, q_650, by decide +kernel, by decide +kernel⟩
theorem wdX8_isWet : WdV yX8_isWet cX8_isWet 3 (some .boolean) 1 := ⟨q_654, q_656, q_657, q_655, by decide +kernel, by decide +kernel⟩
theorem wdX8_wetOf : WdV yX8_wetOf cX8_wetOf 5 (some .int) 1 := ⟨q_659, q_661, q_662, q_660, by decide +kernel, by decide +kernel⟩
theorem wdX8_finds : WdV yX8_finds cX8_finds 5 none 0 := ⟨q_667, q_669, q_670, q_668, by decide +kernel, by decide +kernel⟩
theorem wdX8_pours : WdV yX8_pours cX8_pours 15 none 2 := ⟨q_672, q_674, q_675, q_673, by decide +kernel, by decide +kernel⟩
theorem wdX8_goes : WdV yX8_goes cX8_goes 4 (some .boolean) 3 := ⟨q_678, q_680, q_681, q_679, by decide +kernel, by decide +kernel⟩
theorem wdX8_save : WdV yX8_save cX8_save 2 none 0 := ⟨q_683, q_685, q_686, q_684, by decide +kernel, by decide +kernel⟩
theorem wdX8_begins : WdV yX8_begins cX8_begins 4 none 2 := ⟨q_688, q_690, q_691, q_689, by decide +kernel, by decide +kernel⟩
theorem wdX8_remembers : WdV yX8_remembers cX8_remembers 5 none 0 := ⟨q_694, q_696, q_697, q_695, by decide +kernel, by decide +kernel⟩
theorem wdX8_changes : WdV yX8_changes cX8_changes 2 none 0 := ⟨q_699, q_701, q_702, q_700, by decide +kernel, by decide +kernel⟩
theorem wdX8_isPair : WdV yX8_isPair cX8_isPair 3 (some .boolean) 2 := ⟨q_704, q_706, q_707, q_705, by decide +kernel, by decide +kernel⟩
theorem wdX8_numberOf : WdV yX8_numberOf cX8_numberOf 3 (some .int) 1 := ⟨q_714, q_716, q_717, q_715, by decide +kernel, by decide +kernel⟩
theorem wdX8_cellValue : WdV yX8_cellValue cX8_cellValue 4 (some .int) 2 := ⟨q_720, q_722, q_723, q_721, by decide +kernel, by decide +kernel⟩
theorem wdX8_seaCells : WdV yX8_seaCells cX8_seaCells 3 (some .int) 0 := ⟨q_725, q_727, q_728, q_726, by decide +kernel, by decide +kernel⟩
theorem wdX8_wet : WdV yX8_wet cX8_wet 1 (some .int) 0 := ⟨q_730, q_732, q_733, q_731, by decide +kernel, by decide +kernel⟩
theorem wdX8_countOf : WdV yX8_countOf cX8_countOf 4 (some .int) 1 := ⟨q_735, q_737, q_738, q_736, by decide +kernel, by decide +kernel⟩
theorem wdX8_water : WdV yX8_water cX8_water 4 (some .long) 0 := ⟨q_741, q_743, q_744, q_742, by decide +kernel, by decide +kernel⟩
theorem wdX8_takes : WdV yX8_takes cX8_takes 17 none 2 := ⟨q_750, q_752, q_753, q_751, by decide +kernel, by decide +kernel⟩
theorem wdX8_evaporates : WdV yX8_evaporates cX8_evaporates 7 none 0 := ⟨q_756, q_758, q_759, q_757, by decide +kernel, by decide +kernel⟩
theorem wdX8_isLake : WdV yX8_isLake cX8_isLake 2 (some .boolean) 1 := ⟨q_761, q_763, q_764, q_762, by decide +kernel, by decide +kernel⟩
theorem wdX8_balanceOf : WdV yX8_balanceOf cX8_balanceOf 2 (some .long) 1 := ⟨q_767, q_769, q_770, q_768, by decide +kernel, by decide +kernel⟩
theorem wdX8_basinsOf : WdV yX8_basinsOf cX8_basinsOf 7 (some .int) 1 := ⟨q_772, q_774, q_775, q_773, by decide +kernel, by decide +kernel⟩
theorem wdX8_bits : WdS yX8_bits cX8_bits 5 (some .int) 1 := ⟨q_777, q_779, q_778, by decide +kernel, by decide +kernel⟩
theorem wdX8_lakeValue : WdV yX8_lakeValue cX8_lakeValue 6 (some .int) 2 := ⟨q_782, q_784, q_785, q_783, by decide +kernel, by decide +kernel⟩
theorem wdX8_divisor : WdS yX8_divisor cX8_divisor 10 (some .long) 2 := ⟨q_787, q_789, q_788, by decide +kernel, by decide +kernel⟩
theorem wdX8_levelPart : WdV yX8_levelPart cX8_levelPart 5 (some .int) 2 := ⟨q_791, q_793, q_794, q_792, by decide +kernel, by decide +kernel⟩
theorem wdX8_lays : WdV yX8_lays cX8_lays 2 none 0 := ⟨q_796, q_798, q_799, q_797, by decide +kernel, by decide +kernel⟩
theorem wdX8_takesBack : WdV yX8_takesBack cX8_takesBack 2 none 0 := ⟨q_801, q_803, q_804, q_802, by decide +kernel, by decide +kernel⟩
theorem wdX8_wets : WdV yX8_wets cX8_wets 5 (some .boolean) 3 := ⟨q_807, q_809, q_810, q_808, by decide +kernel, by decide +kernel⟩
theorem wdX8_lakesAfter : WdV yX8_lakesAfter cX8_lakesAfter 3 (some .int) 1 := ⟨q_812, q_814, q_815, q_813, by decide +kernel, by decide +kernel⟩
theorem wdX8_isFigure : WdV yX8_isFigure cX8_isFigure 1 (some .boolean) 0 := ⟨q_826, q_828, q_829, q_827, by decide +kernel, by decide +kernel⟩
theorem wdX8_readsNumber : WdV yX8_readsNumber cX8_readsNumber 2 (some .boolean) 0 := ⟨q_831, q_833, q_834, q_832, by decide +kernel, by decide +kernel⟩
theorem wdX8_readsCell : WdV yX8_readsCell cX8_readsCell 4 (some .boolean) 1 := ⟨q_836, q_838, q_839, q_837, by decide +kernel, by decide +kernel⟩
theorem wdX8_passes : WdV yX8_passes cX8_passes 3 (some .boolean) 1 := ⟨q_841, q_843, q_844, q_842, by decide +kernel, by decide +kernel⟩
theorem wdX8_readsSize : WdV yX8_readsSize cX8_readsSize 2 (some .boolean) 0 := ⟨q_846, q_848, q_849, q_847, by decide +kernel, by decide +kernel⟩
theorem wdX8_readsHeights : WdV yX8_readsHeights cX8_readsHeights 2 (some .boolean) 0 := ⟨q_851, q_853, q_854, q_852, by decide +kernel, by decide +kernel⟩
theorem wdX8_readsDrain : WdV yX8_readsDrain cX8_readsDrain 2 (some .boolean) 0 := ⟨q_856, q_858, q_859, q_857, by decide +kernel, by decide +kernel⟩
theorem wdX8_readsGate : WdV yX8_readsGate cX8_readsGate 3 (some .boolean) 0 := ⟨q_861, q_863, q_864, q_862, by decide +kernel, by decide +kernel⟩
theorem wdX8_reads : WdV yX8_reads cX8_reads 3 (some .boolean) 0 := ⟨q_866, q_868, q_869, q_867, by decide +kernel, by decide +kernel⟩
theorem wdX8_sums : WdS yX8_sums cX8_sums 4 (some .long) 2 := ⟨q_873, q_875, q_874, by decide +kernel, by decide +kernel⟩
theorem wdX1_partLake : WdV yX1_partLake cX1_partLake 4 none 1 := ⟨q_883, q_885, q_886, q_884, by decide +kernel, by decide +kernel⟩
theorem wdX1_draw : WdV yX1_draw cX1_draw 9 none 2 := ⟨q_898, q_900, q_901, q_899, by decide +kernel, by decide +kernel⟩
theorem wdX6_dryOnce : WdV yX6_dryOnce cX6_dryOnce 5 (some .int) 0 := ⟨q_903, q_905, q_906, q_904, by decide +kernel, by decide +kernel⟩
theorem fc0 : FCl 0 RX0 TX0 9 tyX0 := ⟨rfl, by decide, (show ∀ w ∈ [u_lay RX0 TX0 0, u_lay RX0 TX0 1, u_lay RX0 TX0 2, u_lay RX0 TX0 3, u_lay RX0 TX0 4, u_lay RX0 TX0 5, u_lay RX0 TX0 6, u_lay RX0 TX0 7, u_lay RX0 TX0 8], w ∈ TBL from List.forall_mem_cons.mpr ⟨q_908, List.forall_mem_cons.mpr ⟨q_909, List.forall_mem_cons.mpr ⟨q_910, List.forall_mem_cons.mpr ⟨q_911, List.forall_mem_cons.mpr ⟨q_912, List.forall_mem_cons.mpr ⟨q_913, List.forall_mem_cons.mpr ⟨q_914, List.forall_mem_cons.mpr ⟨q_915, List.forall_mem_cons.mpr ⟨q_916, fun _ h => absurd h List.not_mem_nil⟩⟩⟩⟩⟩⟩⟩⟩⟩), tyX0_ok, nmX0, rfl⟩
theorem fc1 : FCl 1 RX1 TX1 11 tyX1 := ⟨rfl, by decide, (show ∀ w ∈ [u_lay RX1 TX1 0, u_lay RX1 TX1 1, u_lay RX1 TX1 2, u_lay RX1 TX1 3, u_lay RX1 TX1 4, u_lay RX1 TX1 5, u_lay RX1 TX1 6, u_lay RX1 TX1 7, u_lay RX1 TX1 8, u_lay RX1 TX1 9, u_lay RX1 TX1 10], w ∈ TBL from List.forall_mem_cons.mpr ⟨q_917, List.forall_mem_cons.mpr ⟨q_918, List.forall_mem_cons.mpr ⟨q_919, List.forall_mem_cons.mpr ⟨q_920, List.forall_mem_cons.mpr ⟨q_921, List.forall_mem_cons.mpr ⟨q_922, List.forall_mem_cons.mpr ⟨q_923, List.forall_mem_cons.mpr ⟨q_924, List.forall_mem_cons.mpr ⟨q_925, List.forall_mem_cons.mpr ⟨q_926, List.forall_mem_cons.mpr ⟨q_927, fun _ h => absurd h List.not_mem_nil⟩⟩⟩⟩⟩⟩⟩⟩⟩⟩⟩), tyX1_ok, nmX1, rfl⟩
theorem fc2 : FCl 2 RX2 TX2 4 tyX2 := ⟨rfl, by decide, (show ∀ w ∈ [u_lay RX2 TX2 0, u_lay RX2 TX2 1, u_lay RX2 TX2 2, u_lay RX2 TX2 3], w ∈ TBL from List.forall_mem_cons.mpr ⟨q_928, List.forall_mem_cons.mpr ⟨q_929, List.forall_mem_cons.mpr ⟨q_930, List.forall_mem_cons.mpr ⟨q_931, fun _ h => absurd h List.not_mem_nil⟩⟩⟩⟩), tyX2_ok, nmX2, rfl⟩
theorem fc3 : FCl 3 RX3 TX3 1 tyX3 := ⟨rfl, by decide, (show ∀ w ∈ [u_lay RX3 TX3 0], w ∈ TBL from List.forall_mem_cons.mpr ⟨q_932, fun _ h => absurd h List.not_mem_nil⟩), tyX3_ok, nmX3, rfl⟩
theorem fc4 : FCl 4 RX4 TX4 1 tyX4 := ⟨rfl, by decide, (show ∀ w ∈ [u_lay RX4 TX4 0], w ∈ TBL from List.forall_mem_cons.mpr ⟨q_933, fun _ h => absurd h List.not_mem_nil⟩), tyX4_ok, nmX4, rfl⟩
theorem fc5 : FCl 5 RX5 TX5 4 tyX5 := ⟨rfl, by decide, (show ∀ w ∈ [u_lay RX5 TX5 0, u_lay RX5 TX5 1, u_lay RX5 TX5 2, u_lay RX5 TX5 3], w ∈ TBL from List.forall_mem_cons.mpr ⟨q_934, List.forall_mem_cons.mpr ⟨q_935, List.forall_mem_cons.mpr ⟨q_936, List.forall_mem_cons.mpr ⟨q_937, fun _ h => absurd h List.not_mem_nil⟩⟩⟩⟩), tyX5_ok, nmX5, rfl⟩
theorem fc6 : FCl 6 RX6 TX6 9 tyX6 := ⟨rfl, by decide, (show ∀ w ∈ [u_lay RX6 TX6 0, u_lay RX6 TX6 1, u_lay RX6 TX6 2, u_lay RX6 TX6 3, u_lay RX6 TX6 4, u_lay RX6 TX6 5, u_lay RX6 TX6 6, u_lay RX6 TX6 7, u_lay RX6 TX6 8], w ∈ TBL from List.forall_mem_cons.mpr ⟨q_938, List.forall_mem_cons.mpr ⟨q_939, List.forall_mem_cons.mpr ⟨q_940, List.forall_mem_cons.mpr ⟨q_941, List.forall_mem_cons.mpr ⟨q_942, List.forall_mem_cons.mpr ⟨q_943, List.forall_mem_cons.mpr ⟨q_944, List.forall_mem_cons.mpr ⟨q_945, List.forall_mem_cons.mpr ⟨q_946, fun _ h => absurd h List.not_mem_nil⟩⟩⟩⟩⟩⟩⟩⟩⟩), tyX6_ok, nmX6, rfl⟩
theorem fc7 : FCl 7 RX7 TX7 6 tyX7 := ⟨rfl, by decide, (show ∀ w ∈ [u_lay RX7 TX7 0, u_lay RX7 TX7 1, u_lay RX7 TX7 2, u_lay RX7 TX7 3, u_lay RX7 TX7 4, u_lay RX7 TX7 5], w ∈ TBL from List.forall_mem_cons.mpr ⟨q_947, List.forall_mem_cons.mpr ⟨q_948, List.forall_mem_cons.mpr ⟨q_949, List.forall_mem_cons.mpr ⟨q_950, List.forall_mem_cons.mpr ⟨q_951, List.forall_mem_cons.mpr ⟨q_952, fun _ h => absurd h List.not_mem_nil⟩⟩⟩⟩⟩⟩), tyX7_ok, nmX7, rfl⟩
theorem fc8 : FCl 8 RX8 TX8 25 tyX8 := ⟨rfl, by decide, (show ∀ w ∈ [u_lay RX8 TX8 0, u_lay RX8 TX8 1, u_lay RX8 TX8 2, u_lay RX8 TX8 3, u_lay RX8 TX8 4, u_lay RX8 TX8 5, u_lay RX8 TX8 6, u_lay RX8 TX8 7, u_lay RX8 TX8 8, u_lay RX8 TX8 9, u_lay RX8 TX8 10, u_lay RX8 TX8 11, u_lay RX8 TX8 12, u_lay RX8 TX8 13, u_lay RX8 TX8 14, u_lay RX8 TX8 15, u_lay RX8 TX8 16, u_lay RX8 TX8 17, u_lay RX8 TX8 18, u_lay RX8 TX8 19, u_lay RX8 TX8 20, u_lay RX8 TX8 21, u_lay RX8 TX8 22, u_lay RX8 TX8 23, u_lay RX8 TX8 24], w ∈ TBL from List.forall_mem_cons.mpr ⟨q_953, List.forall_mem_cons.mpr ⟨q_954, List.forall_mem_cons.mpr ⟨q_955, List.forall_mem_cons.mpr ⟨q_956, List.forall_mem_cons.mpr ⟨q_957, List.forall_mem_cons.mpr ⟨q_958, List.forall_mem_cons.mpr ⟨q_959, List.forall_mem_cons.mpr ⟨q_960, List.forall_mem_cons.mpr ⟨q_961, List.forall_mem_cons.mpr ⟨q_962, List.forall_mem_cons.mpr ⟨q_963, List.forall_mem_cons.mpr ⟨q_964, List.forall_mem_cons.mpr ⟨q_965, List.forall_mem_cons.mpr ⟨q_966, List.forall_mem_cons.mpr ⟨q_967, List.forall_mem_cons.mpr ⟨q_968, List.forall_mem_cons.mpr ⟨q_969, List.forall_mem_cons.mpr ⟨q_970, List.forall_mem_cons.mpr ⟨q_971, List.forall_mem_cons.mpr ⟨q_972, List.forall_mem_cons.mpr ⟨q_973, List.forall_mem_cons.mpr ⟨q_974, List.forall_mem_cons.mpr ⟨q_975, List.forall_mem_cons.mpr ⟨q_976, List.forall_mem_cons.mpr ⟨q_977, fun _ h => absurd h List.not_mem_nil⟩⟩⟩⟩⟩⟩⟩⟩⟩⟩⟩⟩⟩⟩⟩⟩⟩⟩⟩⟩⟩⟩⟩⟩⟩), tyX8_ok, nmX8, rfl⟩
theorem nC_le (o : Nat) : nC o ≤ 150 := by
  by_cases q : o < 281
  · have : ∀ o, o < 281 → nC o ≤ 150 := by decide +kernel
    exact this o q
  · have h2 : gC[o]? = none := List.getElem?_eq_none (by have : gC.length = 281 := by decide +kernel
                                                         omega)
    unfold nC nG
    rw [List.getD_eq_getElem?_getD, h2]
    exact Nat.zero_le _
theorem kk_savedAt (i : Int32) : kC (fSavedAt i) = 6 := by
  unfold fSavedAt
  split
  · rename_i h
    have h2 : i.toNatClampNeg < 4 := by
      have := of_decide_eq_true h
      omega
    generalize i.toNatClampNeg = j at h2
    have : ∀ j, j < 4 → kC (97 + 46 * j) = 6 := by decide +kernel
    exact this j h2
  · decide +kernel
theorem kC_lt {o k : Nat} (h : kC o = k) (hk : k < 99) : o < 281 := by
  by_cases q : o < 281
  · exact q
  · exfalso
    have h2 : gC[o]? = none := List.getElem?_eq_none (by have : gC.length = 281 := by decide +kernel
                                                         omega)
    unfold kC kG at h
    rw [List.getD_eq_getElem?_getD, h2] at h
    have : (99 : Nat) = k := h
    omega
theorem kkd0_1 : ∀ o, o < 281 → kC o = 0 → kC (o + 1) = 3 := by decide +kernel
theorem kk0_1 {o : Nat} (h : kC o = 0) : kC (o + 1) = 3 := kkd0_1 o (kC_lt h (by decide)) h
theorem kkd0_3 : ∀ o, o < 281 → kC o = 0 → kC (o + 3) = 3 := by decide +kernel
theorem kk0_3 {o : Nat} (h : kC o = 0) : kC (o + 3) = 3 := kkd0_3 o (kC_lt h (by decide)) h
theorem kkd0_5 : ∀ o, o < 281 → kC o = 0 → kC (o + 5) = 3 := by decide +kernel
theorem kk0_5 {o : Nat} (h : kC o = 0) : kC (o + 5) = 3 := kkd0_5 o (kC_lt h (by decide)) h
theorem kkd0_7 : ∀ o, o < 281 → kC o = 0 → kC (o + 7) = 3 := by decide +kernel
theorem kk0_7 {o : Nat} (h : kC o = 0) : kC (o + 7) = 3 := kkd0_7 o (kC_lt h (by decide)) h
theorem kkd0_9 : ∀ o, o < 281 → kC o = 0 → kC (o + 9) = 3 := by decide +kernel
theorem kk0_9 {o : Nat} (h : kC o = 0) : kC (o + 9) = 3 := kkd0_9 o (kC_lt h (by decide)) h
theorem kkd1_1 : ∀ o, o < 281 → kC o = 1 → kC (o + 1) = 4 := by decide +kernel
theorem kk1_1 {o : Nat} (h : kC o = 1) : kC (o + 1) = 4 := kkd1_1 o (kC_lt h (by decide)) h
theorem kkd1_3 : ∀ o, o < 281 → kC o = 1 → kC (o + 3) = 3 := by decide +kernel
theorem kk1_3 {o : Nat} (h : kC o = 1) : kC (o + 3) = 3 := kkd1_3 o (kC_lt h (by decide)) h
theorem kkd1_5 : ∀ o, o < 281 → kC o = 1 → kC (o + 5) = 3 := by decide +kernel
theorem kk1_5 {o : Nat} (h : kC o = 1) : kC (o + 5) = 3 := kkd1_5 o (kC_lt h (by decide)) h
theorem kkd1_7 : ∀ o, o < 281 → kC o = 1 → kC (o + 7) = 3 := by decide +kernel
theorem kk1_7 {o : Nat} (h : kC o = 1) : kC (o + 7) = 3 := kkd1_7 o (kC_lt h (by decide)) h
theorem kkd1_9 : ∀ o, o < 281 → kC o = 1 → kC (o + 9) = 3 := by decide +kernel
theorem kk1_9 {o : Nat} (h : kC o = 1) : kC (o + 9) = 3 := kkd1_9 o (kC_lt h (by decide)) h
theorem kkd1_11 : ∀ o, o < 281 → kC o = 1 → kC (o + 11) = 3 := by decide +kernel
theorem kk1_11 {o : Nat} (h : kC o = 1) : kC (o + 11) = 3 := kkd1_11 o (kC_lt h (by decide)) h
theorem kkd1_13 : ∀ o, o < 281 → kC o = 1 → kC (o + 13) = 3 := by decide +kernel
theorem kk1_13 {o : Nat} (h : kC o = 1) : kC (o + 13) = 3 := kkd1_13 o (kC_lt h (by decide)) h
theorem kkd1_15 : ∀ o, o < 281 → kC o = 1 → kC (o + 15) = 3 := by decide +kernel
theorem kk1_15 {o : Nat} (h : kC o = 1) : kC (o + 15) = 3 := kkd1_15 o (kC_lt h (by decide)) h
theorem kkd1_17 : ∀ o, o < 281 → kC o = 1 → kC (o + 17) = 3 := by decide +kernel
theorem kk1_17 {o : Nat} (h : kC o = 1) : kC (o + 17) = 3 := kkd1_17 o (kC_lt h (by decide)) h
theorem kkd1_19 : ∀ o, o < 281 → kC o = 1 → kC (o + 19) = 3 := by decide +kernel
theorem kk1_19 {o : Nat} (h : kC o = 1) : kC (o + 19) = 3 := kkd1_19 o (kC_lt h (by decide)) h
theorem kkd1_21 : ∀ o, o < 281 → kC o = 1 → kC (o + 21) = 3 := by decide +kernel
theorem kk1_21 {o : Nat} (h : kC o = 1) : kC (o + 21) = 3 := kkd1_21 o (kC_lt h (by decide)) h
theorem kkd2_1 : ∀ o, o < 281 → kC o = 2 → kC (o + 1) = 3 := by decide +kernel
theorem kk2_1 {o : Nat} (h : kC o = 2) : kC (o + 1) = 3 := kkd2_1 o (kC_lt h (by decide)) h
theorem kkd3_1 : ∀ o, o < 281 → kC o = 3 → kC (o + 1) = 9 := by decide +kernel
theorem kk3_1 {o : Nat} (h : kC o = 3) : kC (o + 1) = 9 := kkd3_1 o (kC_lt h (by decide)) h
theorem kkd4_1 : ∀ o, o < 281 → kC o = 4 → kC (o + 1) = 10 := by decide +kernel
theorem kk4_1 {o : Nat} (h : kC o = 4) : kC (o + 1) = 10 := kkd4_1 o (kC_lt h (by decide)) h
theorem kkd5_1 : ∀ o, o < 281 → kC o = 5 → kC (o + 1) = 4 := by decide +kernel
theorem kk5_1 {o : Nat} (h : kC o = 5) : kC (o + 1) = 4 := kkd5_1 o (kC_lt h (by decide)) h
theorem kkd5_3 : ∀ o, o < 281 → kC o = 5 → kC (o + 3) = 3 := by decide +kernel
theorem kk5_3 {o : Nat} (h : kC o = 5) : kC (o + 3) = 3 := kkd5_3 o (kC_lt h (by decide)) h
theorem kkd5_5 : ∀ o, o < 281 → kC o = 5 → kC (o + 5) = 3 := by decide +kernel
theorem kk5_5 {o : Nat} (h : kC o = 5) : kC (o + 5) = 3 := kkd5_5 o (kC_lt h (by decide)) h
theorem kkd6_1 : ∀ o, o < 281 → kC o = 6 → kC (o + 1) = 0 := by decide +kernel
theorem kk6_1 {o : Nat} (h : kC o = 6) : kC (o + 1) = 0 := kkd6_1 o (kC_lt h (by decide)) h
theorem kkd6_12 : ∀ o, o < 281 → kC o = 6 → kC (o + 12) = 5 := by decide +kernel
theorem kk6_12 {o : Nat} (h : kC o = 6) : kC (o + 12) = 5 := kkd6_12 o (kC_lt h (by decide)) h
theorem kkd6_19 : ∀ o, o < 281 → kC o = 6 → kC (o + 19) = 1 := by decide +kernel
theorem kk6_19 {o : Nat} (h : kC o = 6) : kC (o + 19) = 1 := kkd6_19 o (kC_lt h (by decide)) h
theorem kkd6_42 : ∀ o, o < 281 → kC o = 6 → kC (o + 42) = 3 := by decide +kernel
theorem kk6_42 {o : Nat} (h : kC o = 6) : kC (o + 42) = 3 := kkd6_42 o (kC_lt h (by decide)) h
theorem kkd6_44 : ∀ o, o < 281 → kC o = 6 → kC (o + 44) = 3 := by decide +kernel
theorem kk6_44 {o : Nat} (h : kC o = 6) : kC (o + 44) = 3 := kkd6_44 o (kC_lt h (by decide)) h
