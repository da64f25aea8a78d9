/-! words of the tables -/
theorem q_0 : Cond.fieldLink RX3 15 (TX3 0).1 (TX3 0).2.1 (TX3 0).2.2.1 ∈ TBL := tb_z (tz_1 (List.mem_of_getElem? (i := 49) rfl)) rfl
theorem q_1 : Cond.fieldLink RX4 13 (TX4 0).1 (TX4 0).2.1 (TX4 0).2.2.1 ∈ TBL := tb_z (tz_1 (List.mem_of_getElem? (i := 116) rfl)) rfl
theorem q_2 : Cond.methodLink RX3 21 yJ7_fill_53178 ∈ TBL := tb_z (tz_2 (List.mem_of_getElem? (i := 21) rfl)) rfl
theorem q_3 : Cond.code yJ7_fill_53178 cJ7_fill_53178 4 none ∈ TBL := tb_z (tz_2 (List.mem_of_getElem? (i := 23) rfl)) rfl
theorem q_4 : Cond.initialized yJ7_fill_53178.cls ∈ TBL := tb_z (tz_1 (List.mem_of_getElem? (i := 10) rfl)) rfl
theorem q_5 : Cond.static yJ7_fill_53178 ∈ TBL := tb_z (tz_2 (List.mem_of_getElem? (i := 22) rfl)) rfl
theorem q_6 : Cond.methodLink RX4 19 yJ7_fill_d0a16 ∈ TBL := tb_z (tz_2 (List.mem_of_getElem? (i := 57) rfl)) rfl
theorem q_7 : Cond.code yJ7_fill_d0a16 cJ7_fill_d0a16 5 none ∈ TBL := tb_z (tz_2 (List.mem_of_getElem? (i := 59) rfl)) rfl
theorem q_8 : Cond.initialized yJ7_fill_d0a16.cls ∈ TBL := tb_z (tz_1 (List.mem_of_getElem? (i := 10) rfl)) rfl
theorem q_9 : Cond.static yJ7_fill_d0a16 ∈ TBL := tb_z (tz_2 (List.mem_of_getElem? (i := 58) rfl)) rfl
theorem q_10 : Cond.methodLink RX3 27 Lib.Math.min.name ∈ TBL := tb_z (tz_2 (List.mem_of_getElem? (i := 117) rfl)) rfl
theorem q_11 : Cond.static Lib.Math.min.name ∈ TBL := tb_z (tz_2 (List.mem_of_getElem? (i := 118) rfl)) rfl
theorem q_12 : Cond.initialized "java/lang/Math" ∈ TBL := tb_z (tz_1 (List.mem_of_getElem? (i := 5) rfl)) rfl
theorem q_13 : Cond.code Lib.Math.min.name Lib.Math.min.code 2 (some .int) ∈ TBL := tb_z (tz_2 (List.mem_of_getElem? (i := 119) rfl)) rfl
theorem q_14 : Cond.methodLink RX3 30 arraycopyName ∈ TBL := tb_z (tz_2 (List.mem_of_getElem? (i := 120) rfl)) rfl
theorem q_15 : Cond.native arraycopyName ∈ TBL := tb_z (tz_2 (List.mem_of_getElem? (i := 122) rfl)) rfl
theorem q_16 : Cond.static arraycopyName ∈ TBL := tb_z (tz_2 (List.mem_of_getElem? (i := 121) rfl)) rfl
theorem q_17 : Cond.initialized "java/lang/System" ∈ TBL := tb_z (tz_1 (List.mem_of_getElem? (i := 12) rfl)) rfl
theorem q_18 : Cond.methodLink RX4 25 Lib.Math.min.name ∈ TBL := tb_z (tz_2 (List.mem_of_getElem? (i := 211) rfl)) rfl
theorem q_19 : Cond.methodLink RX4 28 arraycopyName ∈ TBL := tb_z (tz_2 (List.mem_of_getElem? (i := 212) rfl)) rfl
theorem q_20 : Cond.constantLong RJ13 314 (6148914691236517205 : Int64) ∈ TBL := tb_z (tz_2 (List.mem_of_getElem? (i := 76) rfl)) rfl
theorem q_21 : Cond.constantLong RJ13 316 (3689348814741910323 : Int64) ∈ TBL := tb_z (tz_2 (List.mem_of_getElem? (i := 77) rfl)) rfl
theorem q_22 : Cond.constantLong RJ13 318 (1085102592571150095 : Int64) ∈ TBL := tb_z (tz_2 (List.mem_of_getElem? (i := 78) rfl)) rfl
theorem q_23 : Cond.fieldLink RX1 14 (TX1 0).1 (TX1 0).2.1 (TX1 0).2.2.1 ∈ TBL := tb_z (tz_1 (List.mem_of_getElem? (i := 151) rfl)) rfl
theorem q_24 : Cond.methodLink RX1 79 yX4_at ∈ TBL := tb_z (tz_2 (List.mem_of_getElem? (i := 124) rfl)) rfl
theorem q_25 : Cond.code yX4_at cX4_at 2 (some .long) ∈ TBL := tb_z (tz_2 (List.mem_of_getElem? (i := 63) rfl)) rfl
theorem q_26 : Cond.initialized yX4_at.cls ∈ TBL := tb_z (tz_1 (List.mem_of_getElem? (i := 7) rfl)) rfl
theorem q_27 : Cond.instanceMethod yX4_at ∈ TBL := tb_z (tz_2 (List.mem_of_getElem? (i := 61) rfl)) rfl
theorem q_28 : Cond.selects yX4_at.cls yX4_at yX4_at ∈ TBL := tb_z (tz_2 (List.mem_of_getElem? (i := 62) rfl)) rfl
theorem q_29 : Cond.fieldLinkNest RX1 70 (TX0 2).1 (TX0 2).2.1 (TX0 2).2.2.1 "LakeLevels" ∈ NST := tb_n (tz_1 (List.mem_of_getElem? (i := 61) rfl)) rfl
theorem q_30 : Cond.fieldLinkNest RX1 126 (TX0 8).1 (TX0 8).2.1 (TX0 8).2.2.1 "LakeLevels" ∈ NST := tb_n (tz_1 (List.mem_of_getElem? (i := 83) rfl)) rfl
theorem q_31 : Cond.methodLink RX1 75 yX3_at ∈ TBL := tb_z (tz_2 (List.mem_of_getElem? (i := 123) rfl)) rfl
theorem q_32 : Cond.code yX3_at cX3_at 2 (some .int) ∈ TBL := tb_z (tz_2 (List.mem_of_getElem? (i := 47) rfl)) rfl
theorem q_33 : Cond.initialized yX3_at.cls ∈ TBL := tb_z (tz_1 (List.mem_of_getElem? (i := 4) rfl)) rfl
theorem q_34 : Cond.instanceMethod yX3_at ∈ TBL := tb_z (tz_2 (List.mem_of_getElem? (i := 45) rfl)) rfl
theorem q_35 : Cond.selects yX3_at.cls yX3_at yX3_at ∈ TBL := tb_z (tz_2 (List.mem_of_getElem? (i := 46) rfl)) rfl
theorem q_36 : Cond.fieldLinkNest RX1 112 (TX0 4).1 (TX0 4).2.1 (TX0 4).2.2.1 "LakeLevels" ∈ NST := tb_n (tz_1 (List.mem_of_getElem? (i := 70) rfl)) rfl
theorem q_37 : Cond.methodLinkNest RX1 105 yX7_has "LakeLevels" ∈ NST := tb_n (tz_2 (List.mem_of_getElem? (i := 132) rfl)) rfl
theorem q_38 : Cond.code yX7_has cX7_has 3 (some .boolean) ∈ TBL := tb_z (tz_2 (List.mem_of_getElem? (i := 83) rfl)) rfl
theorem q_39 : Cond.initialized yX7_has.cls ∈ TBL := tb_z (tz_1 (List.mem_of_getElem? (i := 1) rfl)) rfl
theorem q_40 : Cond.static yX7_has ∈ TBL := tb_z (tz_2 (List.mem_of_getElem? (i := 82) rfl)) rfl
theorem q_41 : Cond.fieldLink RX1 23 (TX1 1).1 (TX1 1).2.1 (TX1 1).2.2.1 ∈ TBL := tb_z (tz_1 (List.mem_of_getElem? (i := 153) rfl)) rfl
theorem q_42 : Cond.methodLinkNest RX1 82 yX7_bit "LakeLevels" ∈ NST := tb_n (tz_2 (List.mem_of_getElem? (i := 125) rfl)) rfl
theorem q_43 : Cond.code yX7_bit cX7_bit 1 (some .long) ∈ TBL := tb_z (tz_2 (List.mem_of_getElem? (i := 69) rfl)) rfl
theorem q_44 : Cond.initialized yX7_bit.cls ∈ TBL := tb_z (tz_1 (List.mem_of_getElem? (i := 1) rfl)) rfl
theorem q_45 : Cond.static yX7_bit ∈ TBL := tb_z (tz_2 (List.mem_of_getElem? (i := 68) rfl)) rfl
theorem q_46 : Cond.fieldLink RX0 39 (TX0 2).1 (TX0 2).2.1 (TX0 2).2.2.1 ∈ TBL := tb_z (tz_1 (List.mem_of_getElem? (i := 58) rfl)) rfl
theorem q_47 : Cond.methodLinkNest RX0 91 yX7_has "LakeLevels" ∈ NST := tb_n (tz_2 (List.mem_of_getElem? (i := 174) rfl)) rfl
theorem q_48 : Cond.fieldLink RX0 14 (TX0 4).1 (TX0 4).2.1 (TX0 4).2.2.1 ∈ TBL := tb_z (tz_1 (List.mem_of_getElem? (i := 67) rfl)) rfl
theorem q_49 : Cond.methodLink RX0 64 yX3_at ∈ TBL := tb_z (tz_2 (List.mem_of_getElem? (i := 44) rfl)) rfl
theorem q_50 : Cond.fieldLink RX7 12 (TX7 0).1 (TX7 0).2.1 (TX7 0).2.2.1 ∈ TBL := tb_z (tz_2 (List.mem_of_getElem? (i := 137) rfl)) rfl
theorem q_51 : Cond.fieldLinkNest RX7 143 (TX6 2).1 (TX6 2).2.1 (TX6 2).2.2.1 "LakeLevels" ∈ NST := tb_n (tz_1 (List.mem_of_getElem? (i := 201) rfl)) rfl
theorem q_52 : Cond.fieldLinkNest RX7 339 (TX1 8).1 (TX1 8).2.1 (TX1 8).2.2.1 "LakeLevels" ∈ NST := tb_n (tz_1 (List.mem_of_getElem? (i := 168) rfl)) rfl
theorem q_53 : Cond.methodLink RX7 62 yX3_at ∈ TBL := tb_z (tz_2 (List.mem_of_getElem? (i := 164) rfl)) rfl
theorem q_54 : Cond.fieldLinkNest RX7 30 (TX6 0).1 (TX6 0).2.1 (TX6 0).2.2.1 "LakeLevels" ∈ NST := tb_n (tz_1 (List.mem_of_getElem? (i := 197) rfl)) rfl
theorem q_55 : Cond.methodLink RX7 313 yX1_wetCells ∈ TBL := tb_z (tz_2 (List.mem_of_getElem? (i := 165) rfl)) rfl
theorem q_56 : Cond.code yX1_wetCells cX1_wetCells 12 (some .long) ∈ TBL := tb_z (tz_2 (List.mem_of_getElem? (i := 168) rfl)) rfl
theorem q_57 : Cond.initialized yX1_wetCells.cls ∈ TBL := tb_z (tz_1 (List.mem_of_getElem? (i := 8) rfl)) rfl
theorem q_58 : Cond.instanceMethod yX1_wetCells ∈ TBL := tb_z (tz_2 (List.mem_of_getElem? (i := 166) rfl)) rfl
theorem q_59 : Cond.selects yX1_wetCells.cls yX1_wetCells yX1_wetCells ∈ TBL := tb_z (tz_2 (List.mem_of_getElem? (i := 167) rfl)) rfl
theorem q_60 : Cond.methodLink RX7 81 yX7_has ∈ TBL := tb_z (tz_2 (List.mem_of_getElem? (i := 169) rfl)) rfl
theorem q_61 : Cond.methodLink RX7 308 yJ13_bitCount_95d88 ∈ TBL := tb_z (tz_2 (List.mem_of_getElem? (i := 73) rfl)) rfl
theorem q_62 : Cond.code yJ13_bitCount_95d88 cJ13_bitCount_95d88 2 (some .int) ∈ TBL := tb_z (tz_2 (List.mem_of_getElem? (i := 75) rfl)) rfl
theorem q_63 : Cond.initialized yJ13_bitCount_95d88.cls ∈ TBL := tb_z (tz_1 (List.mem_of_getElem? (i := 11) rfl)) rfl
theorem q_64 : Cond.static yJ13_bitCount_95d88 ∈ TBL := tb_z (tz_2 (List.mem_of_getElem? (i := 74) rfl)) rfl
theorem q_65 : Cond.fieldLinkNest RX7 147 (TX1 1).1 (TX1 1).2.1 (TX1 1).2.2.1 "LakeLevels" ∈ NST := tb_n (tz_1 (List.mem_of_getElem? (i := 155) rfl)) rfl
theorem q_66 : Cond.methodLink RX7 330 yX0_heightSum ∈ TBL := tb_z (tz_2 (List.mem_of_getElem? (i := 170) rfl)) rfl
theorem q_67 : Cond.code yX0_heightSum cX0_heightSum 5 (some .int) ∈ TBL := tb_z (tz_2 (List.mem_of_getElem? (i := 173) rfl)) rfl
theorem q_68 : Cond.initialized yX0_heightSum.cls ∈ TBL := tb_z (tz_1 (List.mem_of_getElem? (i := 3) rfl)) rfl
theorem q_69 : Cond.instanceMethod yX0_heightSum ∈ TBL := tb_z (tz_2 (List.mem_of_getElem? (i := 171) rfl)) rfl
theorem q_70 : Cond.selects yX0_heightSum.cls yX0_heightSum yX0_heightSum ∈ TBL := tb_z (tz_2 (List.mem_of_getElem? (i := 172) rfl)) rfl
theorem q_71 : Cond.fieldLinkNest RX7 58 (TX0 4).1 (TX0 4).2.1 (TX0 4).2.2.1 "LakeLevels" ∈ NST := tb_n (tz_1 (List.mem_of_getElem? (i := 68) rfl)) rfl
theorem q_72 : Cond.methodLink RX7 333 yX7_commonDivisor ∈ TBL := tb_z (tz_2 (List.mem_of_getElem? (i := 175) rfl)) rfl
theorem q_73 : Cond.code yX7_commonDivisor cX7_commonDivisor 3 (some .int) ∈ TBL := tb_z (tz_2 (List.mem_of_getElem? (i := 177) rfl)) rfl
theorem q_74 : Cond.initialized yX7_commonDivisor.cls ∈ TBL := tb_z (tz_1 (List.mem_of_getElem? (i := 1) rfl)) rfl
theorem q_75 : Cond.static yX7_commonDivisor ∈ TBL := tb_z (tz_2 (List.mem_of_getElem? (i := 176) rfl)) rfl
theorem q_76 : Cond.methodLink RX7 336 yX7_reduced ∈ TBL := tb_z (tz_2 (List.mem_of_getElem? (i := 178) rfl)) rfl
theorem q_77 : Cond.code yX7_reduced cX7_reduced 2 (some .int) ∈ TBL := tb_z (tz_2 (List.mem_of_getElem? (i := 180) rfl)) rfl
theorem q_78 : Cond.initialized yX7_reduced.cls ∈ TBL := tb_z (tz_1 (List.mem_of_getElem? (i := 1) rfl)) rfl
theorem q_79 : Cond.static yX7_reduced ∈ TBL := tb_z (tz_2 (List.mem_of_getElem? (i := 179) rfl)) rfl
theorem q_80 : Cond.fieldLinkNest RX7 50 (TX0 2).1 (TX0 2).2.1 (TX0 2).2.2.1 "LakeLevels" ∈ NST := tb_n (tz_1 (List.mem_of_getElem? (i := 59) rfl)) rfl
theorem q_81 : Cond.methodLink RX7 179 yX7_depthValue ∈ TBL := tb_z (tz_2 (List.mem_of_getElem? (i := 160) rfl)) rfl
theorem q_82 : Cond.code yX7_depthValue cX7_depthValue 9 (some .double) ∈ TBL := tb_z (tz_2 (List.mem_of_getElem? (i := 163) rfl)) rfl
theorem q_83 : Cond.initialized yX7_depthValue.cls ∈ TBL := tb_z (tz_1 (List.mem_of_getElem? (i := 1) rfl)) rfl
theorem q_84 : Cond.instanceMethod yX7_depthValue ∈ TBL := tb_z (tz_2 (List.mem_of_getElem? (i := 162) rfl)) rfl
theorem q_85 : Cond.selects yX7_depthValue.cls yX7_depthValue yX7_depthValue ∈ TBL := tb_s 7 rfl rfl
theorem q_86 : Cond.fieldLink RX1 45 (TX1 8).1 (TX1 8).2.1 (TX1 8).2.2.1 ∈ TBL := tb_z (tz_1 (List.mem_of_getElem? (i := 166) rfl)) rfl
theorem q_87 : Cond.methodLinkNest RX1 115 yX7_lowestIn "LakeLevels" ∈ NST := tb_n (tz_2 (List.mem_of_getElem? (i := 193) rfl)) rfl
theorem q_88 : Cond.code yX7_lowestIn cX7_lowestIn 2 (some .int) ∈ TBL := tb_z (tz_2 (List.mem_of_getElem? (i := 72) rfl)) rfl
theorem q_89 : Cond.initialized yX7_lowestIn.cls ∈ TBL := tb_z (tz_1 (List.mem_of_getElem? (i := 1) rfl)) rfl
theorem q_90 : Cond.static yX7_lowestIn ∈ TBL := tb_z (tz_2 (List.mem_of_getElem? (i := 71) rfl)) rfl
theorem q_91 : Cond.methodLink RX1 119 yX1_isLowestOfLake ∈ TBL := tb_z (tz_2 (List.mem_of_getElem? (i := 189) rfl)) rfl
theorem q_92 : Cond.code yX1_isLowestOfLake cX1_isLowestOfLake 3 (some .boolean) ∈ TBL := tb_z (tz_2 (List.mem_of_getElem? (i := 192) rfl)) rfl
theorem q_93 : Cond.initialized yX1_isLowestOfLake.cls ∈ TBL := tb_z (tz_1 (List.mem_of_getElem? (i := 8) rfl)) rfl
theorem q_94 : Cond.instanceMethod yX1_isLowestOfLake ∈ TBL := tb_z (tz_2 (List.mem_of_getElem? (i := 191) rfl)) rfl
theorem q_95 : Cond.selects yX1_isLowestOfLake.cls yX1_isLowestOfLake yX1_isLowestOfLake ∈ TBL := tb_s 8 rfl rfl
theorem q_96 : Cond.fieldLink RX0 32 (TX0 0).1 (TX0 0).2.1 (TX0 0).2.2.1 ∈ TBL := tb_z (tz_1 (List.mem_of_getElem? (i := 54) rfl)) rfl
theorem q_97 : Cond.fieldLink RX0 36 (TX0 1).1 (TX0 1).2.1 (TX0 1).2.2.1 ∈ TBL := tb_z (tz_1 (List.mem_of_getElem? (i := 56) rfl)) rfl
theorem q_98 : Cond.fieldLink RX0 42 (TX0 3).1 (TX0 3).2.1 (TX0 3).2.2.1 ∈ TBL := tb_z (tz_1 (List.mem_of_getElem? (i := 64) rfl)) rfl
theorem q_99 : Cond.methodLink RX0 46 yX3_copyFrom ∈ TBL := tb_z (tz_2 (List.mem_of_getElem? (i := 202) rfl)) rfl
theorem q_100 : Cond.code yX3_copyFrom cX3_copyFrom 2 none ∈ TBL := tb_z (tz_2 (List.mem_of_getElem? (i := 116) rfl)) rfl
theorem q_101 : Cond.initialized yX3_copyFrom.cls ∈ TBL := tb_z (tz_1 (List.mem_of_getElem? (i := 4) rfl)) rfl
theorem q_102 : Cond.instanceMethod yX3_copyFrom ∈ TBL := tb_z (tz_2 (List.mem_of_getElem? (i := 114) rfl)) rfl
theorem q_103 : Cond.selects yX3_copyFrom.cls yX3_copyFrom yX3_copyFrom ∈ TBL := tb_z (tz_2 (List.mem_of_getElem? (i := 115) rfl)) rfl
theorem q_104 : Cond.fieldLink RX0 20 (TX0 5).1 (TX0 5).2.1 (TX0 5).2.2.1 ∈ TBL := tb_z (tz_1 (List.mem_of_getElem? (i := 72) rfl)) rfl
theorem q_105 : Cond.fieldLink RX0 23 (TX0 6).1 (TX0 6).2.1 (TX0 6).2.2.1 ∈ TBL := tb_z (tz_1 (List.mem_of_getElem? (i := 76) rfl)) rfl
theorem q_106 : Cond.fieldLink RX0 26 (TX0 7).1 (TX0 7).2.1 (TX0 7).2.2.1 ∈ TBL := tb_z (tz_1 (List.mem_of_getElem? (i := 78) rfl)) rfl
theorem q_107 : Cond.fieldLink RX0 29 (TX0 8).1 (TX0 8).2.1 (TX0 8).2.2.1 ∈ TBL := tb_z (tz_1 (List.mem_of_getElem? (i := 82) rfl)) rfl
theorem q_108 : Cond.fieldLink RX5 30 (TX5 0).1 (TX5 0).2.1 (TX5 0).2.2.1 ∈ TBL := tb_z (tz_1 (List.mem_of_getElem? (i := 123) rfl)) rfl
theorem q_109 : Cond.fieldLink RX5 14 (TX5 1).1 (TX5 1).2.1 (TX5 1).2.2.1 ∈ TBL := tb_z (tz_1 (List.mem_of_getElem? (i := 126) rfl)) rfl
theorem q_110 : Cond.methodLink RX5 34 yX4_copyFrom ∈ TBL := tb_z (tz_2 (List.mem_of_getElem? (i := 207) rfl)) rfl
theorem q_111 : Cond.code yX4_copyFrom cX4_copyFrom 2 none ∈ TBL := tb_z (tz_2 (List.mem_of_getElem? (i := 210) rfl)) rfl
theorem q_112 : Cond.initialized yX4_copyFrom.cls ∈ TBL := tb_z (tz_1 (List.mem_of_getElem? (i := 7) rfl)) rfl
theorem q_113 : Cond.instanceMethod yX4_copyFrom ∈ TBL := tb_z (tz_2 (List.mem_of_getElem? (i := 208) rfl)) rfl
theorem q_114 : Cond.selects yX4_copyFrom.cls yX4_copyFrom yX4_copyFrom ∈ TBL := tb_z (tz_2 (List.mem_of_getElem? (i := 209) rfl)) rfl
theorem q_115 : Cond.fieldLink RX5 23 (TX5 2).1 (TX5 2).2.1 (TX5 2).2.2.1 ∈ TBL := tb_z (tz_1 (List.mem_of_getElem? (i := 127) rfl)) rfl
theorem q_116 : Cond.methodLink RX5 38 yX3_copyFrom ∈ TBL := tb_z (tz_2 (List.mem_of_getElem? (i := 213) rfl)) rfl
theorem q_117 : Cond.fieldLink RX5 27 (TX5 3).1 (TX5 3).2.1 (TX5 3).2.2.1 ∈ TBL := tb_z (tz_1 (List.mem_of_getElem? (i := 128) rfl)) rfl
theorem q_118 : Cond.methodLink RX1 54 yX4_copyFrom ∈ TBL := tb_z (tz_2 (List.mem_of_getElem? (i := 218) rfl)) rfl
theorem q_119 : Cond.methodLink RX1 58 yX3_copyFrom ∈ TBL := tb_z (tz_2 (List.mem_of_getElem? (i := 113) rfl)) rfl
theorem q_120 : Cond.fieldLink RX1 27 (TX1 2).1 (TX1 2).2.1 (TX1 2).2.2.1 ∈ TBL := tb_z (tz_1 (List.mem_of_getElem? (i := 156) rfl)) rfl
theorem q_121 : Cond.fieldLink RX1 30 (TX1 3).1 (TX1 3).2.1 (TX1 3).2.2.1 ∈ TBL := tb_z (tz_1 (List.mem_of_getElem? (i := 158) rfl)) rfl
theorem q_122 : Cond.fieldLink RX1 33 (TX1 4).1 (TX1 4).2.1 (TX1 4).2.2.1 ∈ TBL := tb_z (tz_1 (List.mem_of_getElem? (i := 160) rfl)) rfl
theorem q_123 : Cond.fieldLink RX1 36 (TX1 5).1 (TX1 5).2.1 (TX1 5).2.2.1 ∈ TBL := tb_z (tz_1 (List.mem_of_getElem? (i := 162) rfl)) rfl
theorem q_124 : Cond.fieldLink RX1 39 (TX1 6).1 (TX1 6).2.1 (TX1 6).2.2.1 ∈ TBL := tb_z (tz_1 (List.mem_of_getElem? (i := 164) rfl)) rfl
theorem q_125 : Cond.fieldLink RX1 42 (TX1 7).1 (TX1 7).2.1 (TX1 7).2.2.1 ∈ TBL := tb_z (tz_1 (List.mem_of_getElem? (i := 165) rfl)) rfl
theorem q_126 : Cond.fieldLink RX6 12 (TX6 0).1 (TX6 0).2.1 (TX6 0).2.2.1 ∈ TBL := tb_z (tz_1 (List.mem_of_getElem? (i := 196) rfl)) rfl
theorem q_127 : Cond.methodLink RX6 44 yX0_copyFrom ∈ TBL := tb_z (tz_2 (List.mem_of_getElem? (i := 198) rfl)) rfl
theorem q_128 : Cond.code yX0_copyFrom cX0_copyFrom 2 none ∈ TBL := tb_z (tz_2 (List.mem_of_getElem? (i := 201) rfl)) rfl
theorem q_129 : Cond.initialized yX0_copyFrom.cls ∈ TBL := tb_z (tz_1 (List.mem_of_getElem? (i := 3) rfl)) rfl
theorem q_130 : Cond.instanceMethod yX0_copyFrom ∈ TBL := tb_z (tz_2 (List.mem_of_getElem? (i := 199) rfl)) rfl
theorem q_131 : Cond.selects yX0_copyFrom.cls yX0_copyFrom yX0_copyFrom ∈ TBL := tb_z (tz_2 (List.mem_of_getElem? (i := 200) rfl)) rfl
theorem q_132 : Cond.fieldLink RX6 21 (TX6 1).1 (TX6 1).2.1 (TX6 1).2.2.1 ∈ TBL := tb_z (tz_1 (List.mem_of_getElem? (i := 198) rfl)) rfl
theorem q_133 : Cond.methodLink RX6 48 yX5_copyFrom ∈ TBL := tb_z (tz_2 (List.mem_of_getElem? (i := 203) rfl)) rfl
theorem q_134 : Cond.code yX5_copyFrom cX5_copyFrom 2 none ∈ TBL := tb_z (tz_2 (List.mem_of_getElem? (i := 206) rfl)) rfl
theorem q_135 : Cond.initialized yX5_copyFrom.cls ∈ TBL := tb_z (tz_1 (List.mem_of_getElem? (i := 6) rfl)) rfl
theorem q_136 : Cond.instanceMethod yX5_copyFrom ∈ TBL := tb_z (tz_2 (List.mem_of_getElem? (i := 204) rfl)) rfl
theorem q_137 : Cond.selects yX5_copyFrom.cls yX5_copyFrom yX5_copyFrom ∈ TBL := tb_z (tz_2 (List.mem_of_getElem? (i := 205) rfl)) rfl
theorem q_138 : Cond.fieldLink RX6 28 (TX6 2).1 (TX6 2).2.1 (TX6 2).2.2.1 ∈ TBL := tb_z (tz_1 (List.mem_of_getElem? (i := 200) rfl)) rfl
theorem q_139 : Cond.methodLink RX6 51 yX1_copyFrom ∈ TBL := tb_z (tz_2 (List.mem_of_getElem? (i := 214) rfl)) rfl
theorem q_140 : Cond.code yX1_copyFrom cX1_copyFrom 2 none ∈ TBL := tb_z (tz_2 (List.mem_of_getElem? (i := 217) rfl)) rfl
theorem q_141 : Cond.initialized yX1_copyFrom.cls ∈ TBL := tb_z (tz_1 (List.mem_of_getElem? (i := 8) rfl)) rfl
theorem q_142 : Cond.instanceMethod yX1_copyFrom ∈ TBL := tb_z (tz_2 (List.mem_of_getElem? (i := 215) rfl)) rfl
theorem q_143 : Cond.selects yX1_copyFrom.cls yX1_copyFrom yX1_copyFrom ∈ TBL := tb_z (tz_2 (List.mem_of_getElem? (i := 216) rfl)) rfl
theorem q_144 : Cond.fieldLink RX6 54 (TX6 3).1 (TX6 3).2.1 (TX6 3).2.2.1 ∈ TBL := tb_z (tz_1 (List.mem_of_getElem? (i := 202) rfl)) rfl
theorem q_145 : Cond.fieldLink RX6 58 (TX6 4).1 (TX6 4).2.1 (TX6 4).2.2.1 ∈ TBL := tb_z (tz_1 (List.mem_of_getElem? (i := 204) rfl)) rfl
theorem q_146 : Cond.fieldLink RX6 61 (TX6 5).1 (TX6 5).2.1 (TX6 5).2.2.1 ∈ TBL := tb_z (tz_1 (List.mem_of_getElem? (i := 206) rfl)) rfl
theorem q_147 : Cond.methodLink RX1 92 yX3_put ∈ TBL := tb_z (tz_2 (List.mem_of_getElem? (i := 127) rfl)) rfl
theorem q_148 : Cond.code yX3_put cX3_put 3 none ∈ TBL := tb_z (tz_2 (List.mem_of_getElem? (i := 31) rfl)) rfl
theorem q_149 : Cond.initialized yX3_put.cls ∈ TBL := tb_z (tz_1 (List.mem_of_getElem? (i := 4) rfl)) rfl
theorem q_150 : Cond.instanceMethod yX3_put ∈ TBL := tb_z (tz_2 (List.mem_of_getElem? (i := 29) rfl)) rfl
theorem q_151 : Cond.selects yX3_put.cls yX3_put yX3_put ∈ TBL := tb_z (tz_2 (List.mem_of_getElem? (i := 30) rfl)) rfl
theorem q_152 : Cond.methodLink RX1 137 Lib.Math.min.name ∈ TBL := tb_z (tz_2 (List.mem_of_getElem? (i := 237) rfl)) rfl
theorem q_153 : Cond.fieldLinkNest RX1 102 (TX0 5).1 (TX0 5).2.1 (TX0 5).2.2.1 "LakeLevels" ∈ NST := tb_n (tz_1 (List.mem_of_getElem? (i := 73) rfl)) rfl
theorem q_154 : Cond.fieldLinkNest RX1 109 (TX0 7).1 (TX0 7).2.1 (TX0 7).2.2.1 "LakeLevels" ∈ NST := tb_n (tz_1 (List.mem_of_getElem? (i := 79) rfl)) rfl
theorem q_155 : Cond.methodLink RX1 142 yX1_freePlace ∈ TBL := tb_z (tz_3 (List.mem_of_getElem? (i := 6) rfl)) rfl
theorem q_156 : Cond.code yX1_freePlace cX1_freePlace 2 (some .int) ∈ TBL := tb_z (tz_3 (List.mem_of_getElem? (i := 9) rfl)) rfl
theorem q_157 : Cond.initialized yX1_freePlace.cls ∈ TBL := tb_z (tz_1 (List.mem_of_getElem? (i := 8) rfl)) rfl
theorem q_158 : Cond.instanceMethod yX1_freePlace ∈ TBL := tb_z (tz_3 (List.mem_of_getElem? (i := 8) rfl)) rfl
theorem q_159 : Cond.selects yX1_freePlace.cls yX1_freePlace yX1_freePlace ∈ TBL := tb_s 12 rfl rfl
theorem q_160 : Cond.methodLink RX1 85 yX4_put ∈ TBL := tb_z (tz_2 (List.mem_of_getElem? (i := 126) rfl)) rfl
theorem q_161 : Cond.code yX4_put cX4_put 4 none ∈ TBL := tb_z (tz_2 (List.mem_of_getElem? (i := 97) rfl)) rfl
theorem q_162 : Cond.initialized yX4_put.cls ∈ TBL := tb_z (tz_1 (List.mem_of_getElem? (i := 7) rfl)) rfl
theorem q_163 : Cond.instanceMethod yX4_put ∈ TBL := tb_z (tz_2 (List.mem_of_getElem? (i := 95) rfl)) rfl
theorem q_164 : Cond.selects yX4_put.cls yX4_put yX4_put ∈ TBL := tb_z (tz_2 (List.mem_of_getElem? (i := 96) rfl)) rfl
theorem q_165 : Cond.methodLink RX1 95 yX1_findPass ∈ TBL := tb_z (tz_2 (List.mem_of_getElem? (i := 128) rfl)) rfl
theorem q_166 : Cond.code yX1_findPass cX1_findPass 8 none ∈ TBL := tb_z (tz_2 (List.mem_of_getElem? (i := 131) rfl)) rfl
theorem q_167 : Cond.initialized yX1_findPass.cls ∈ TBL := tb_z (tz_1 (List.mem_of_getElem? (i := 8) rfl)) rfl
theorem q_168 : Cond.instanceMethod yX1_findPass ∈ TBL := tb_z (tz_2 (List.mem_of_getElem? (i := 130) rfl)) rfl
theorem q_169 : Cond.selects yX1_findPass.cls yX1_findPass yX1_findPass ∈ TBL := tb_s 5 rfl rfl
theorem q_170 : Cond.methodLink RX1 99 yX1_findCapacity ∈ TBL := tb_z (tz_2 (List.mem_of_getElem? (i := 133) rfl)) rfl
theorem q_171 : Cond.code yX1_findCapacity cX1_findCapacity 7 none ∈ TBL := tb_z (tz_2 (List.mem_of_getElem? (i := 136) rfl)) rfl
theorem q_172 : Cond.initialized yX1_findCapacity.cls ∈ TBL := tb_z (tz_1 (List.mem_of_getElem? (i := 8) rfl)) rfl
theorem q_173 : Cond.instanceMethod yX1_findCapacity ∈ TBL := tb_z (tz_2 (List.mem_of_getElem? (i := 135) rfl)) rfl
theorem q_174 : Cond.selects yX1_findCapacity.cls yX1_findCapacity yX1_findCapacity ∈ TBL := tb_s 6 rfl rfl
theorem q_175 : Cond.methodLink RX1 146 yX1_claimCells ∈ TBL := tb_z (tz_3 (List.mem_of_getElem? (i := 10) rfl)) rfl
theorem q_176 : Cond.code yX1_claimCells cX1_claimCells 3 none ∈ TBL := tb_z (tz_3 (List.mem_of_getElem? (i := 13) rfl)) rfl
theorem q_177 : Cond.initialized yX1_claimCells.cls ∈ TBL := tb_z (tz_1 (List.mem_of_getElem? (i := 8) rfl)) rfl
theorem q_178 : Cond.instanceMethod yX1_claimCells ∈ TBL := tb_z (tz_3 (List.mem_of_getElem? (i := 12) rfl)) rfl
theorem q_179 : Cond.selects yX1_claimCells.cls yX1_claimCells yX1_claimCells ∈ TBL := tb_s 13 rfl rfl
theorem q_180 : Cond.constant RX1 129 (1000000 : Int32) ∈ TBL := tb_z (tz_2 (List.mem_of_getElem? (i := 232) rfl)) rfl
theorem q_181 : Cond.methodLink RX1 130 yX1_fill ∈ TBL := tb_z (tz_2 (List.mem_of_getElem? (i := 233) rfl)) rfl
theorem q_182 : Cond.code yX1_fill cX1_fill 5 (some .int) ∈ TBL := tb_z (tz_2 (List.mem_of_getElem? (i := 236) rfl)) rfl
theorem q_183 : Cond.initialized yX1_fill.cls ∈ TBL := tb_z (tz_1 (List.mem_of_getElem? (i := 8) rfl)) rfl
theorem q_184 : Cond.instanceMethod yX1_fill ∈ TBL := tb_z (tz_2 (List.mem_of_getElem? (i := 235) rfl)) rfl
theorem q_185 : Cond.selects yX1_fill.cls yX1_fill yX1_fill ∈ TBL := tb_s 9 rfl rfl
theorem q_186 : Cond.methodLink RX1 123 yX1_isFull ∈ TBL := tb_z (tz_2 (List.mem_of_getElem? (i := 238) rfl)) rfl
theorem q_187 : Cond.code yX1_isFull cX1_isFull 2 (some .boolean) ∈ TBL := tb_z (tz_3 (List.mem_of_getElem? (i := 1) rfl)) rfl
theorem q_188 : Cond.initialized yX1_isFull.cls ∈ TBL := tb_z (tz_1 (List.mem_of_getElem? (i := 8) rfl)) rfl
theorem q_189 : Cond.instanceMethod yX1_isFull ∈ TBL := tb_z (tz_3 (List.mem_of_getElem? (i := 0) rfl)) rfl
theorem q_190 : Cond.selects yX1_isFull.cls yX1_isFull yX1_isFull ∈ TBL := tb_s 10 rfl rfl
theorem q_191 : Cond.methodLink RX1 133 yX1_join ∈ TBL := tb_z (tz_3 (List.mem_of_getElem? (i := 2) rfl)) rfl
theorem q_192 : Cond.code yX1_join cX1_join 6 (some .int) ∈ TBL := tb_z (tz_3 (List.mem_of_getElem? (i := 5) rfl)) rfl
theorem q_193 : Cond.initialized yX1_join.cls ∈ TBL := tb_z (tz_1 (List.mem_of_getElem? (i := 8) rfl)) rfl
theorem q_194 : Cond.instanceMethod yX1_join ∈ TBL := tb_z (tz_3 (List.mem_of_getElem? (i := 4) rfl)) rfl
theorem q_195 : Cond.selects yX1_join.cls yX1_join yX1_join ∈ TBL := tb_s 11 rfl rfl
theorem q_196 : Cond.fieldLinkNest RX6 107 (TX1 8).1 (TX1 8).2.1 (TX1 8).2.2.1 "LakeLevels" ∈ NST := tb_n (tz_1 (List.mem_of_getElem? (i := 167) rfl)) rfl
theorem q_197 : Cond.methodLink RX6 100 yX3_at ∈ TBL := tb_z (tz_2 (List.mem_of_getElem? (i := 227) rfl)) rfl
theorem q_198 : Cond.methodLink RX6 110 yX1_pourInto ∈ TBL := tb_z (tz_2 (List.mem_of_getElem? (i := 228) rfl)) rfl
theorem q_199 : Cond.code yX1_pourInto cX1_pourInto 10 (some .int) ∈ TBL := tb_z (tz_2 (List.mem_of_getElem? (i := 231) rfl)) rfl
theorem q_200 : Cond.initialized yX1_pourInto.cls ∈ TBL := tb_z (tz_1 (List.mem_of_getElem? (i := 8) rfl)) rfl
theorem q_201 : Cond.instanceMethod yX1_pourInto ∈ TBL := tb_z (tz_2 (List.mem_of_getElem? (i := 229) rfl)) rfl
theorem q_202 : Cond.selects yX1_pourInto.cls yX1_pourInto yX1_pourInto ∈ TBL := tb_z (tz_2 (List.mem_of_getElem? (i := 230) rfl)) rfl
theorem q_203 : Cond.fieldLinkNest RX6 114 (TX0 2).1 (TX0 2).2.1 (TX0 2).2.2.1 "LakeLevels" ∈ NST := tb_n (tz_1 (List.mem_of_getElem? (i := 62) rfl)) rfl
theorem q_204 : Cond.methodLink RX6 103 yX6_pourAt ∈ TBL := tb_z (tz_2 (List.mem_of_getElem? (i := 223) rfl)) rfl
theorem q_205 : Cond.code yX6_pourAt cX6_pourAt 5 (some .int) ∈ TBL := tb_z (tz_2 (List.mem_of_getElem? (i := 226) rfl)) rfl
theorem q_206 : Cond.initialized yX6_pourAt.cls ∈ TBL := tb_z (tz_1 (List.mem_of_getElem? (i := 2) rfl)) rfl
theorem q_207 : Cond.instanceMethod yX6_pourAt ∈ TBL := tb_z (tz_2 (List.mem_of_getElem? (i := 224) rfl)) rfl
theorem q_208 : Cond.selects yX6_pourAt.cls yX6_pourAt yX6_pourAt ∈ TBL := tb_z (tz_2 (List.mem_of_getElem? (i := 225) rfl)) rfl
theorem q_209 : Cond.methodLink RX7 158 yX1_total ∈ TBL := tb_z (tz_2 (List.mem_of_getElem? (i := 185) rfl)) rfl
theorem q_210 : Cond.code yX1_total cX1_total 3 (some .int) ∈ TBL := tb_z (tz_2 (List.mem_of_getElem? (i := 188) rfl)) rfl
theorem q_211 : Cond.initialized yX1_total.cls ∈ TBL := tb_z (tz_1 (List.mem_of_getElem? (i := 8) rfl)) rfl
theorem q_212 : Cond.instanceMethod yX1_total ∈ TBL := tb_z (tz_2 (List.mem_of_getElem? (i := 186) rfl)) rfl
theorem q_213 : Cond.selects yX1_total.cls yX1_total yX1_total ∈ TBL := tb_z (tz_2 (List.mem_of_getElem? (i := 187) rfl)) rfl
theorem q_214 : Cond.fieldLink RX7 16 (TX7 1).1 (TX7 1).2.1 (TX7 1).2.2.1 ∈ TBL := tb_z (tz_2 (List.mem_of_getElem? (i := 138) rfl)) rfl
theorem q_215 : Cond.methodLink RX7 190 yX6_copyFrom ∈ TBL := tb_z (tz_2 (List.mem_of_getElem? (i := 194) rfl)) rfl
theorem q_216 : Cond.code yX6_copyFrom cX6_copyFrom 2 none ∈ TBL := tb_z (tz_2 (List.mem_of_getElem? (i := 197) rfl)) rfl
theorem q_217 : Cond.initialized yX6_copyFrom.cls ∈ TBL := tb_z (tz_1 (List.mem_of_getElem? (i := 2) rfl)) rfl
theorem q_218 : Cond.instanceMethod yX6_copyFrom ∈ TBL := tb_z (tz_2 (List.mem_of_getElem? (i := 195) rfl)) rfl
theorem q_219 : Cond.selects yX6_copyFrom.cls yX6_copyFrom yX6_copyFrom ∈ TBL := tb_z (tz_2 (List.mem_of_getElem? (i := 196) rfl)) rfl
theorem q_220 : Cond.methodLink RX7 134 yX6_pourAtAll ∈ TBL := tb_z (tz_2 (List.mem_of_getElem? (i := 219) rfl)) rfl
theorem q_221 : Cond.code yX6_pourAtAll cX6_pourAtAll 4 (some .int) ∈ TBL := tb_z (tz_2 (List.mem_of_getElem? (i := 222) rfl)) rfl
theorem q_222 : Cond.initialized yX6_pourAtAll.cls ∈ TBL := tb_z (tz_1 (List.mem_of_getElem? (i := 2) rfl)) rfl
theorem q_223 : Cond.instanceMethod yX6_pourAtAll ∈ TBL := tb_z (tz_2 (List.mem_of_getElem? (i := 220) rfl)) rfl
theorem q_224 : Cond.selects yX6_pourAtAll.cls yX6_pourAtAll yX6_pourAtAll ∈ TBL := tb_z (tz_2 (List.mem_of_getElem? (i := 221) rfl)) rfl
theorem q_225 : Cond.fieldLink RX7 26 (TX7 3).1 (TX7 3).2.1 (TX7 3).2.2.1 ∈ TBL := tb_z (tz_2 (List.mem_of_getElem? (i := 140) rfl)) rfl
theorem q_226 : Cond.fieldLinkNest RX7 197 (TX2 1).1 (TX2 1).2.1 (TX2 1).2.2.1 "LakeLevels" ∈ NST := tb_n (tz_2 (List.mem_of_getElem? (i := 1) rfl)) rfl
theorem q_227 : Cond.fieldLink RX2 28 (TX2 2).1 (TX2 2).2.1 (TX2 2).2.2.1 ∈ TBL := tb_z (tz_2 (List.mem_of_getElem? (i := 2) rfl)) rfl
theorem q_228 : Cond.fieldLink RX2 20 (TX2 1).1 (TX2 1).2.1 (TX2 1).2.2.1 ∈ TBL := tb_z (tz_2 (List.mem_of_getElem? (i := 0) rfl)) rfl
theorem q_229 : Cond.fieldLink RX2 14 (TX2 0).1 (TX2 0).2.1 (TX2 0).2.2.1 ∈ TBL := tb_z (tz_1 (List.mem_of_getElem? (i := 239) rfl)) rfl
theorem q_230 : Cond.methodLink RX2 60 yX3_at ∈ TBL := tb_z (tz_3 (List.mem_of_getElem? (i := 34) rfl)) rfl
theorem q_231 : Cond.fieldLink RX2 31 (TX2 3).1 (TX2 3).2.1 (TX2 3).2.2.1 ∈ TBL := tb_z (tz_2 (List.mem_of_getElem? (i := 3) rfl)) rfl
theorem q_232 : Cond.methodLink RX2 50 yX2_next ∈ TBL := tb_z (tz_3 (List.mem_of_getElem? (i := 30) rfl)) rfl
theorem q_233 : Cond.code yX2_next cX2_next 1 (some .int) ∈ TBL := tb_z (tz_3 (List.mem_of_getElem? (i := 33) rfl)) rfl
theorem q_234 : Cond.initialized yX2_next.cls ∈ TBL := tb_z (tz_1 (List.mem_of_getElem? (i := 9) rfl)) rfl
theorem q_235 : Cond.instanceMethod yX2_next ∈ TBL := tb_z (tz_3 (List.mem_of_getElem? (i := 32) rfl)) rfl
theorem q_236 : Cond.selects yX2_next.cls yX2_next yX2_next ∈ TBL := tb_s 15 rfl rfl
theorem q_237 : Cond.methodLink RX2 63 yX2_fail ∈ TBL := tb_z (tz_3 (List.mem_of_getElem? (i := 35) rfl)) rfl
theorem q_238 : Cond.code yX2_fail cX2_fail 2 none ∈ TBL := tb_z (tz_3 (List.mem_of_getElem? (i := 38) rfl)) rfl
theorem q_239 : Cond.initialized yX2_fail.cls ∈ TBL := tb_z (tz_1 (List.mem_of_getElem? (i := 9) rfl)) rfl
theorem q_240 : Cond.instanceMethod yX2_fail ∈ TBL := tb_z (tz_3 (List.mem_of_getElem? (i := 37) rfl)) rfl
theorem q_241 : Cond.selects yX2_fail.cls yX2_fail yX2_fail ∈ TBL := tb_s 16 rfl rfl
theorem q_242 : Cond.methodLink RX0 57 yX3_put ∈ TBL := tb_z (tz_2 (List.mem_of_getElem? (i := 28) rfl)) rfl
theorem q_243 : Cond.methodLink RX0 50 yX3_fill ∈ TBL := tb_z (tz_2 (List.mem_of_getElem? (i := 17) rfl)) rfl
theorem q_244 : Cond.code yX3_fill cX3_fill 2 none ∈ TBL := tb_z (tz_2 (List.mem_of_getElem? (i := 20) rfl)) rfl
theorem q_245 : Cond.initialized yX3_fill.cls ∈ TBL := tb_z (tz_1 (List.mem_of_getElem? (i := 4) rfl)) rfl
theorem q_246 : Cond.instanceMethod yX3_fill ∈ TBL := tb_z (tz_2 (List.mem_of_getElem? (i := 18) rfl)) rfl
theorem q_247 : Cond.selects yX3_fill.cls yX3_fill yX3_fill ∈ TBL := tb_z (tz_2 (List.mem_of_getElem? (i := 19) rfl)) rfl
theorem q_248 : Cond.methodLink RX0 53 yX0_laySides ∈ TBL := tb_z (tz_2 (List.mem_of_getElem? (i := 24) rfl)) rfl
theorem q_249 : Cond.code yX0_laySides cX0_laySides 5 none ∈ TBL := tb_z (tz_2 (List.mem_of_getElem? (i := 27) rfl)) rfl
theorem q_250 : Cond.initialized yX0_laySides.cls ∈ TBL := tb_z (tz_1 (List.mem_of_getElem? (i := 3) rfl)) rfl
theorem q_251 : Cond.instanceMethod yX0_laySides ∈ TBL := tb_z (tz_2 (List.mem_of_getElem? (i := 26) rfl)) rfl
theorem q_252 : Cond.selects yX0_laySides.cls yX0_laySides yX0_laySides ∈ TBL := tb_s 0 rfl rfl
theorem q_253 : Cond.methodLink RX2 66 yX2_isAtDigit ∈ TBL := tb_z (tz_3 (List.mem_of_getElem? (i := 52) rfl)) rfl
theorem q_254 : Cond.code yX2_isAtDigit cX2_isAtDigit 1 (some .boolean) ∈ TBL := tb_z (tz_3 (List.mem_of_getElem? (i := 55) rfl)) rfl
theorem q_255 : Cond.initialized yX2_isAtDigit.cls ∈ TBL := tb_z (tz_1 (List.mem_of_getElem? (i := 9) rfl)) rfl
theorem q_256 : Cond.instanceMethod yX2_isAtDigit ∈ TBL := tb_z (tz_3 (List.mem_of_getElem? (i := 54) rfl)) rfl
theorem q_257 : Cond.selects yX2_isAtDigit.cls yX2_isAtDigit yX2_isAtDigit ∈ TBL := tb_s 20 rfl rfl
theorem q_258 : Cond.fieldLinkNest RX2 70 (TX0 2).1 (TX0 2).2.1 (TX0 2).2.2.1 "LakeLevels" ∈ NST := tb_n (tz_1 (List.mem_of_getElem? (i := 63) rfl)) rfl
theorem q_259 : Cond.methodLink RX2 38 yX2_readSign ∈ TBL := tb_z (tz_3 (List.mem_of_getElem? (i := 39) rfl)) rfl
theorem q_260 : Cond.code yX2_readSign cX2_readSign 2 none ∈ TBL := tb_z (tz_3 (List.mem_of_getElem? (i := 42) rfl)) rfl
theorem q_261 : Cond.initialized yX2_readSign.cls ∈ TBL := tb_z (tz_1 (List.mem_of_getElem? (i := 9) rfl)) rfl
theorem q_262 : Cond.instanceMethod yX2_readSign ∈ TBL := tb_z (tz_3 (List.mem_of_getElem? (i := 41) rfl)) rfl
theorem q_263 : Cond.selects yX2_readSign.cls yX2_readSign yX2_readSign ∈ TBL := tb_s 17 rfl rfl
theorem q_264 : Cond.fieldLinkNest RX2 73 (TX0 4).1 (TX0 4).2.1 (TX0 4).2.2.1 "LakeLevels" ∈ NST := tb_n (tz_1 (List.mem_of_getElem? (i := 71) rfl)) rfl
theorem q_265 : Cond.methodLink RX2 76 yX2_readNumber ∈ TBL := tb_z (tz_3 (List.mem_of_getElem? (i := 48) rfl)) rfl
theorem q_266 : Cond.code yX2_readNumber cX2_readNumber 3 (some .int) ∈ TBL := tb_z (tz_3 (List.mem_of_getElem? (i := 51) rfl)) rfl
theorem q_267 : Cond.initialized yX2_readNumber.cls ∈ TBL := tb_z (tz_1 (List.mem_of_getElem? (i := 9) rfl)) rfl
theorem q_268 : Cond.instanceMethod yX2_readNumber ∈ TBL := tb_z (tz_3 (List.mem_of_getElem? (i := 50) rfl)) rfl
theorem q_269 : Cond.selects yX2_readNumber.cls yX2_readNumber yX2_readNumber ∈ TBL := tb_s 19 rfl rfl
theorem q_270 : Cond.methodLink RX2 24 yX3_put ∈ TBL := tb_z (tz_3 (List.mem_of_getElem? (i := 56) rfl)) rfl
theorem q_271 : Cond.methodLinkNest RX0 68 yX7_bit "LakeLevels" ∈ NST := tb_n (tz_3 (List.mem_of_getElem? (i := 69) rfl)) rfl
theorem q_272 : Cond.constantLong RX0 72 (-1 : Int64) ∈ TBL := tb_z (tz_3 (List.mem_of_getElem? (i := 70) rfl)) rfl
theorem q_273 : Cond.methodLink RX2 79 yX0_exists ∈ TBL := tb_z (tz_3 (List.mem_of_getElem? (i := 61) rfl)) rfl
theorem q_274 : Cond.code yX0_exists cX0_exists 2 (some .boolean) ∈ TBL := tb_z (tz_3 (List.mem_of_getElem? (i := 64) rfl)) rfl
theorem q_275 : Cond.initialized yX0_exists.cls ∈ TBL := tb_z (tz_1 (List.mem_of_getElem? (i := 3) rfl)) rfl
theorem q_276 : Cond.instanceMethod yX0_exists ∈ TBL := tb_z (tz_3 (List.mem_of_getElem? (i := 62) rfl)) rfl
theorem q_277 : Cond.selects yX0_exists.cls yX0_exists yX0_exists ∈ TBL := tb_z (tz_3 (List.mem_of_getElem? (i := 63) rfl)) rfl
theorem q_278 : Cond.methodLink RX2 83 yX0_putDrain ∈ TBL := tb_z (tz_3 (List.mem_of_getElem? (i := 65) rfl)) rfl
theorem q_279 : Cond.code yX0_putDrain cX0_putDrain 3 none ∈ TBL := tb_z (tz_3 (List.mem_of_getElem? (i := 68) rfl)) rfl
theorem q_280 : Cond.initialized yX0_putDrain.cls ∈ TBL := tb_z (tz_1 (List.mem_of_getElem? (i := 3) rfl)) rfl
theorem q_281 : Cond.instanceMethod yX0_putDrain ∈ TBL := tb_z (tz_3 (List.mem_of_getElem? (i := 66) rfl)) rfl
theorem q_282 : Cond.selects yX0_putDrain.cls yX0_putDrain yX0_putDrain ∈ TBL := tb_z (tz_3 (List.mem_of_getElem? (i := 67) rfl)) rfl
theorem q_283 : Cond.methodLink RX0 60 yX0_exists ∈ TBL := tb_z (tz_3 (List.mem_of_getElem? (i := 79) rfl)) rfl
theorem q_284 : Cond.methodLink RX0 74 yX0_sideTo ∈ TBL := tb_z (tz_3 (List.mem_of_getElem? (i := 84) rfl)) rfl
theorem q_285 : Cond.code yX0_sideTo cX0_sideTo 4 (some .int) ∈ TBL := tb_z (tz_3 (List.mem_of_getElem? (i := 78) rfl)) rfl
theorem q_286 : Cond.initialized yX0_sideTo.cls ∈ TBL := tb_z (tz_1 (List.mem_of_getElem? (i := 3) rfl)) rfl
theorem q_287 : Cond.instanceMethod yX0_sideTo ∈ TBL := tb_z (tz_3 (List.mem_of_getElem? (i := 76) rfl)) rfl
theorem q_288 : Cond.selects yX0_sideTo.cls yX0_sideTo yX0_sideTo ∈ TBL := tb_z (tz_3 (List.mem_of_getElem? (i := 77) rfl)) rfl
theorem q_289 : Cond.methodLink RX2 87 yX0_sideTo ∈ TBL := tb_z (tz_3 (List.mem_of_getElem? (i := 75) rfl)) rfl
theorem q_290 : Cond.methodLink RX2 91 yX0_putGate ∈ TBL := tb_z (tz_3 (List.mem_of_getElem? (i := 80) rfl)) rfl
theorem q_291 : Cond.code yX0_putGate cX0_putGate 4 none ∈ TBL := tb_z (tz_3 (List.mem_of_getElem? (i := 83) rfl)) rfl
theorem q_292 : Cond.initialized yX0_putGate.cls ∈ TBL := tb_z (tz_1 (List.mem_of_getElem? (i := 3) rfl)) rfl
theorem q_293 : Cond.instanceMethod yX0_putGate ∈ TBL := tb_z (tz_3 (List.mem_of_getElem? (i := 81) rfl)) rfl
theorem q_294 : Cond.selects yX0_putGate.cls yX0_putGate yX0_putGate ∈ TBL := tb_z (tz_3 (List.mem_of_getElem? (i := 82) rfl)) rfl
theorem q_295 : Cond.methodLink RX2 34 yX2_readSize ∈ TBL := tb_z (tz_3 (List.mem_of_getElem? (i := 26) rfl)) rfl
theorem q_296 : Cond.code yX2_readSize cX2_readSize 3 (some .int) ∈ TBL := tb_z (tz_3 (List.mem_of_getElem? (i := 29) rfl)) rfl
theorem q_297 : Cond.initialized yX2_readSize.cls ∈ TBL := tb_z (tz_1 (List.mem_of_getElem? (i := 9) rfl)) rfl
theorem q_298 : Cond.instanceMethod yX2_readSize ∈ TBL := tb_z (tz_3 (List.mem_of_getElem? (i := 28) rfl)) rfl
theorem q_299 : Cond.selects yX2_readSize.cls yX2_readSize yX2_readSize ∈ TBL := tb_s 14 rfl rfl
theorem q_300 : Cond.methodLink RX2 41 yX0_lay ∈ TBL := tb_z (tz_3 (List.mem_of_getElem? (i := 43) rfl)) rfl
theorem q_301 : Cond.code yX0_lay cX0_lay 5 none ∈ TBL := tb_z (tz_2 (List.mem_of_getElem? (i := 16) rfl)) rfl
theorem q_302 : Cond.initialized yX0_lay.cls ∈ TBL := tb_z (tz_1 (List.mem_of_getElem? (i := 3) rfl)) rfl
theorem q_303 : Cond.instanceMethod yX0_lay ∈ TBL := tb_z (tz_2 (List.mem_of_getElem? (i := 14) rfl)) rfl
theorem q_304 : Cond.selects yX0_lay.cls yX0_lay yX0_lay ∈ TBL := tb_z (tz_2 (List.mem_of_getElem? (i := 15) rfl)) rfl
theorem q_305 : Cond.methodLink RX2 46 yX2_readHeights ∈ TBL := tb_z (tz_3 (List.mem_of_getElem? (i := 44) rfl)) rfl
theorem q_306 : Cond.code yX2_readHeights cX2_readHeights 3 none ∈ TBL := tb_z (tz_3 (List.mem_of_getElem? (i := 47) rfl)) rfl
theorem q_307 : Cond.initialized yX2_readHeights.cls ∈ TBL := tb_z (tz_1 (List.mem_of_getElem? (i := 9) rfl)) rfl
theorem q_308 : Cond.instanceMethod yX2_readHeights ∈ TBL := tb_z (tz_3 (List.mem_of_getElem? (i := 46) rfl)) rfl
theorem q_309 : Cond.selects yX2_readHeights.cls yX2_readHeights yX2_readHeights ∈ TBL := tb_s 18 rfl rfl
theorem q_310 : Cond.methodLink RX2 54 yX2_readDrain ∈ TBL := tb_z (tz_3 (List.mem_of_getElem? (i := 57) rfl)) rfl
theorem q_311 : Cond.code yX2_readDrain cX2_readDrain 4 none ∈ TBL := tb_z (tz_3 (List.mem_of_getElem? (i := 60) rfl)) rfl
theorem q_312 : Cond.initialized yX2_readDrain.cls ∈ TBL := tb_z (tz_1 (List.mem_of_getElem? (i := 9) rfl)) rfl
theorem q_313 : Cond.instanceMethod yX2_readDrain ∈ TBL := tb_z (tz_3 (List.mem_of_getElem? (i := 59) rfl)) rfl
theorem q_314 : Cond.selects yX2_readDrain.cls yX2_readDrain yX2_readDrain ∈ TBL := tb_s 21 rfl rfl
theorem q_315 : Cond.methodLink RX2 57 yX2_readGate ∈ TBL := tb_z (tz_3 (List.mem_of_getElem? (i := 71) rfl)) rfl
theorem q_316 : Cond.code yX2_readGate cX2_readGate 7 none ∈ TBL := tb_z (tz_3 (List.mem_of_getElem? (i := 74) rfl)) rfl
theorem q_317 : Cond.initialized yX2_readGate.cls ∈ TBL := tb_z (tz_1 (List.mem_of_getElem? (i := 9) rfl)) rfl
theorem q_318 : Cond.instanceMethod yX2_readGate ∈ TBL := tb_z (tz_3 (List.mem_of_getElem? (i := 73) rfl)) rfl
theorem q_319 : Cond.selects yX2_readGate.cls yX2_readGate yX2_readGate ∈ TBL := tb_s 22 rfl rfl
theorem q_320 : Cond.fieldLink RX7 222 (TX7 5).1 (TX7 5).2.1 (TX7 5).2.2.1 ∈ TBL := tb_z (tz_2 (List.mem_of_getElem? (i := 142) rfl)) rfl
theorem q_321 : Cond.methodLink RX7 225 yX7_savedAt ∈ TBL := tb_z (tz_3 (List.mem_of_getElem? (i := 89) rfl)) rfl
theorem q_322 : Cond.code yX7_savedAt cX7_savedAt 3 (some (.object "LakeLevels$World")) ∈ TBL := tb_z (tz_3 (List.mem_of_getElem? (i := 92) rfl)) rfl
theorem q_323 : Cond.initialized yX7_savedAt.cls ∈ TBL := tb_z (tz_1 (List.mem_of_getElem? (i := 1) rfl)) rfl
theorem q_324 : Cond.instanceMethod yX7_savedAt ∈ TBL := tb_z (tz_3 (List.mem_of_getElem? (i := 91) rfl)) rfl
theorem q_325 : Cond.selects yX7_savedAt.cls yX7_savedAt yX7_savedAt ∈ TBL := tb_s 24 rfl rfl
theorem q_326 : Cond.fieldLink RX7 217 (TX7 4).1 (TX7 4).2.1 (TX7 4).2.2.1 ∈ TBL := tb_z (tz_2 (List.mem_of_getElem? (i := 141) rfl)) rfl
theorem q_327 : Cond.methodLink RX7 266 Lib.Math.min.name ∈ TBL := tb_z (tz_3 (List.mem_of_getElem? (i := 93) rfl)) rfl
theorem q_328 : Cond.methodLink RX0 86 Lib.Math.max.name ∈ TBL := tb_z (tz_2 (List.mem_of_getElem? (i := 48) rfl)) rfl
theorem q_329 : Cond.static Lib.Math.max.name ∈ TBL := tb_z (tz_1 (List.mem_of_getElem? (i := 47) rfl)) rfl
theorem q_330 : Cond.code Lib.Math.max.name Lib.Math.max.code 2 (some .int) ∈ TBL := tb_z (tz_1 (List.mem_of_getElem? (i := 48) rfl)) rfl
theorem q_331 : Cond.methodLinkNest RX5 80 yX7_bit "LakeLevels" ∈ NST := tb_n (tz_2 (List.mem_of_getElem? (i := 67) rfl)) rfl
theorem q_332 : Cond.methodLinkNest RX5 83 yX7_lowestIn "LakeLevels" ∈ NST := tb_n (tz_2 (List.mem_of_getElem? (i := 70) rfl)) rfl
theorem q_333 : Cond.fieldLinkNest RX5 87 (TX0 4).1 (TX0 4).2.1 (TX0 4).2.2.1 "LakeLevels" ∈ NST := tb_n (tz_1 (List.mem_of_getElem? (i := 69) rfl)) rfl
theorem q_334 : Cond.methodLink RX5 74 yX3_at ∈ TBL := tb_z (tz_2 (List.mem_of_getElem? (i := 79) rfl)) rfl
theorem q_335 : Cond.constantLong RX5 90 (-1 : Int64) ∈ TBL := tb_z (tz_2 (List.mem_of_getElem? (i := 80) rfl)) rfl
theorem q_336 : Cond.fieldLinkNest RX5 92 (TX0 5).1 (TX0 5).2.1 (TX0 5).2.2.1 "LakeLevels" ∈ NST := tb_n (tz_1 (List.mem_of_getElem? (i := 74) rfl)) rfl
theorem q_337 : Cond.fieldLinkNest RX5 95 (TX0 7).1 (TX0 7).2.1 (TX0 7).2.2.1 "LakeLevels" ∈ NST := tb_n (tz_1 (List.mem_of_getElem? (i := 80) rfl)) rfl
theorem q_338 : Cond.methodLinkNest RX5 98 yX7_has "LakeLevels" ∈ NST := tb_n (tz_2 (List.mem_of_getElem? (i := 81) rfl)) rfl
theorem q_339 : Cond.fieldLinkNest RX5 105 (TX0 3).1 (TX0 3).2.1 (TX0 3).2.2.1 "LakeLevels" ∈ NST := tb_n (tz_1 (List.mem_of_getElem? (i := 66) rfl)) rfl
theorem q_340 : Cond.fieldLinkNest RX5 45 (TX0 2).1 (TX0 2).2.1 (TX0 2).2.2.1 "LakeLevels" ∈ NST := tb_n (tz_1 (List.mem_of_getElem? (i := 60) rfl)) rfl
theorem q_341 : Cond.methodLink RX5 109 yX5_lowerNeighbor ∈ TBL := tb_z (tz_2 (List.mem_of_getElem? (i := 87) rfl)) rfl
theorem q_342 : Cond.code yX5_lowerNeighbor cX5_lowerNeighbor 7 (some .int) ∈ TBL := tb_z (tz_2 (List.mem_of_getElem? (i := 89) rfl)) rfl
theorem q_343 : Cond.initialized yX5_lowerNeighbor.cls ∈ TBL := tb_z (tz_1 (List.mem_of_getElem? (i := 6) rfl)) rfl
theorem q_344 : Cond.static yX5_lowerNeighbor ∈ TBL := tb_z (tz_2 (List.mem_of_getElem? (i := 88) rfl)) rfl
theorem q_345 : Cond.methodLink RX5 102 yX4_put ∈ TBL := tb_z (tz_2 (List.mem_of_getElem? (i := 94) rfl)) rfl
theorem q_346 : Cond.methodLink RX5 76 yX3_put ∈ TBL := tb_z (tz_2 (List.mem_of_getElem? (i := 98) rfl)) rfl
theorem q_347 : Cond.methodLink RX5 113 yX3_fill ∈ TBL := tb_z (tz_2 (List.mem_of_getElem? (i := 103) rfl)) rfl
theorem q_348 : Cond.methodLink RX5 50 yX4_at ∈ TBL := tb_z (tz_2 (List.mem_of_getElem? (i := 60) rfl)) rfl
theorem q_349 : Cond.methodLink RX5 41 yX4_fill ∈ TBL := tb_z (tz_2 (List.mem_of_getElem? (i := 53) rfl)) rfl
theorem q_350 : Cond.code yX4_fill cX4_fill 3 none ∈ TBL := tb_z (tz_2 (List.mem_of_getElem? (i := 56) rfl)) rfl
theorem q_351 : Cond.initialized yX4_fill.cls ∈ TBL := tb_z (tz_1 (List.mem_of_getElem? (i := 7) rfl)) rfl
theorem q_352 : Cond.instanceMethod yX4_fill ∈ TBL := tb_z (tz_2 (List.mem_of_getElem? (i := 54) rfl)) rfl
theorem q_353 : Cond.selects yX4_fill.cls yX4_fill yX4_fill ∈ TBL := tb_z (tz_2 (List.mem_of_getElem? (i := 55) rfl)) rfl
theorem q_354 : Cond.methodLink RX5 54 yX5_plainAround ∈ TBL := tb_z (tz_2 (List.mem_of_getElem? (i := 64) rfl)) rfl
theorem q_355 : Cond.code yX5_plainAround cX5_plainAround 11 (some .long) ∈ TBL := tb_z (tz_2 (List.mem_of_getElem? (i := 66) rfl)) rfl
theorem q_356 : Cond.initialized yX5_plainAround.cls ∈ TBL := tb_z (tz_1 (List.mem_of_getElem? (i := 6) rfl)) rfl
theorem q_357 : Cond.static yX5_plainAround ∈ TBL := tb_z (tz_2 (List.mem_of_getElem? (i := 65) rfl)) rfl
theorem q_358 : Cond.methodLink RX5 58 yX5_targetOf ∈ TBL := tb_z (tz_2 (List.mem_of_getElem? (i := 84) rfl)) rfl
theorem q_359 : Cond.code yX5_targetOf cX5_targetOf 5 (some .int) ∈ TBL := tb_z (tz_2 (List.mem_of_getElem? (i := 86) rfl)) rfl
theorem q_360 : Cond.initialized yX5_targetOf.cls ∈ TBL := tb_z (tz_1 (List.mem_of_getElem? (i := 6) rfl)) rfl
theorem q_361 : Cond.static yX5_targetOf ∈ TBL := tb_z (tz_2 (List.mem_of_getElem? (i := 85) rfl)) rfl
theorem q_362 : Cond.methodLink RX5 62 yX5_markPlain ∈ TBL := tb_z (tz_2 (List.mem_of_getElem? (i := 90) rfl)) rfl
theorem q_363 : Cond.code yX5_markPlain cX5_markPlain 5 none ∈ TBL := tb_z (tz_2 (List.mem_of_getElem? (i := 93) rfl)) rfl
theorem q_364 : Cond.initialized yX5_markPlain.cls ∈ TBL := tb_z (tz_1 (List.mem_of_getElem? (i := 6) rfl)) rfl
theorem q_365 : Cond.instanceMethod yX5_markPlain ∈ TBL := tb_z (tz_2 (List.mem_of_getElem? (i := 92) rfl)) rfl
theorem q_366 : Cond.selects yX5_markPlain.cls yX5_markPlain yX5_markPlain ∈ TBL := tb_s 2 rfl rfl
theorem q_367 : Cond.methodLink RX5 66 yX5_numberPits ∈ TBL := tb_z (tz_2 (List.mem_of_getElem? (i := 99) rfl)) rfl
theorem q_368 : Cond.code yX5_numberPits cX5_numberPits 6 none ∈ TBL := tb_z (tz_2 (List.mem_of_getElem? (i := 102) rfl)) rfl
theorem q_369 : Cond.initialized yX5_numberPits.cls ∈ TBL := tb_z (tz_1 (List.mem_of_getElem? (i := 6) rfl)) rfl
theorem q_370 : Cond.instanceMethod yX5_numberPits ∈ TBL := tb_z (tz_2 (List.mem_of_getElem? (i := 101) rfl)) rfl
theorem q_371 : Cond.selects yX5_numberPits.cls yX5_numberPits yX5_numberPits ∈ TBL := tb_s 3 rfl rfl
theorem q_372 : Cond.methodLink RX5 70 yX5_endOf ∈ TBL := tb_z (tz_2 (List.mem_of_getElem? (i := 104) rfl)) rfl
theorem q_373 : Cond.code yX5_endOf cX5_endOf 4 (some .int) ∈ TBL := tb_z (tz_2 (List.mem_of_getElem? (i := 107) rfl)) rfl
theorem q_374 : Cond.initialized yX5_endOf.cls ∈ TBL := tb_z (tz_1 (List.mem_of_getElem? (i := 6) rfl)) rfl
theorem q_375 : Cond.instanceMethod yX5_endOf ∈ TBL := tb_z (tz_2 (List.mem_of_getElem? (i := 106) rfl)) rfl
theorem q_376 : Cond.selects yX5_endOf.cls yX5_endOf yX5_endOf ∈ TBL := tb_s 4 rfl rfl
theorem q_377 : Cond.methodLink RX1 61 yX4_fill ∈ TBL := tb_z (tz_2 (List.mem_of_getElem? (i := 112) rfl)) rfl
theorem q_378 : Cond.fieldLinkNest RX1 65 (TX5 3).1 (TX5 3).2.1 (TX5 3).2.2.1 "LakeLevels" ∈ NST := tb_n (tz_1 (List.mem_of_getElem? (i := 129) rfl)) rfl
theorem q_379 : Cond.fieldLinkNest RX1 89 (TX5 0).1 (TX5 0).2.1 (TX5 0).2.2.1 "LakeLevels" ∈ NST := tb_n (tz_1 (List.mem_of_getElem? (i := 124) rfl)) rfl
theorem q_380 : Cond.methodLink RX6 67 yX0_measure ∈ TBL := tb_z (tz_2 (List.mem_of_getElem? (i := 40) rfl)) rfl
theorem q_381 : Cond.code yX0_measure cX0_measure 4 none ∈ TBL := tb_z (tz_2 (List.mem_of_getElem? (i := 43) rfl)) rfl
theorem q_382 : Cond.initialized yX0_measure.cls ∈ TBL := tb_z (tz_1 (List.mem_of_getElem? (i := 3) rfl)) rfl
theorem q_383 : Cond.instanceMethod yX0_measure ∈ TBL := tb_z (tz_2 (List.mem_of_getElem? (i := 41) rfl)) rfl
theorem q_384 : Cond.selects yX0_measure.cls yX0_measure yX0_measure ∈ TBL := tb_z (tz_2 (List.mem_of_getElem? (i := 42) rfl)) rfl
theorem q_385 : Cond.methodLink RX6 70 yX5_find ∈ TBL := tb_z (tz_2 (List.mem_of_getElem? (i := 49) rfl)) rfl
theorem q_386 : Cond.code yX5_find cX5_find 5 none ∈ TBL := tb_z (tz_2 (List.mem_of_getElem? (i := 52) rfl)) rfl
theorem q_387 : Cond.initialized yX5_find.cls ∈ TBL := tb_z (tz_1 (List.mem_of_getElem? (i := 6) rfl)) rfl
theorem q_388 : Cond.instanceMethod yX5_find ∈ TBL := tb_z (tz_2 (List.mem_of_getElem? (i := 50) rfl)) rfl
theorem q_389 : Cond.selects yX5_find.cls yX5_find yX5_find ∈ TBL := tb_z (tz_2 (List.mem_of_getElem? (i := 51) rfl)) rfl
theorem q_390 : Cond.methodLink RX6 73 yX1_restart ∈ TBL := tb_z (tz_2 (List.mem_of_getElem? (i := 108) rfl)) rfl
theorem q_391 : Cond.code yX1_restart cX1_restart 5 none ∈ TBL := tb_z (tz_2 (List.mem_of_getElem? (i := 111) rfl)) rfl
theorem q_392 : Cond.initialized yX1_restart.cls ∈ TBL := tb_z (tz_1 (List.mem_of_getElem? (i := 8) rfl)) rfl
theorem q_393 : Cond.instanceMethod yX1_restart ∈ TBL := tb_z (tz_2 (List.mem_of_getElem? (i := 109) rfl)) rfl
theorem q_394 : Cond.selects yX1_restart.cls yX1_restart yX1_restart ∈ TBL := tb_z (tz_2 (List.mem_of_getElem? (i := 110) rfl)) rfl
theorem q_395 : Cond.methodLink RX6 64 yX6_findAnew ∈ TBL := tb_z (tz_2 (List.mem_of_getElem? (i := 36) rfl)) rfl
theorem q_396 : Cond.code yX6_findAnew cX6_findAnew 1 none ∈ TBL := tb_z (tz_2 (List.mem_of_getElem? (i := 39) rfl)) rfl
theorem q_397 : Cond.initialized yX6_findAnew.cls ∈ TBL := tb_z (tz_1 (List.mem_of_getElem? (i := 2) rfl)) rfl
theorem q_398 : Cond.instanceMethod yX6_findAnew ∈ TBL := tb_z (tz_2 (List.mem_of_getElem? (i := 38) rfl)) rfl
theorem q_399 : Cond.selects yX6_findAnew.cls yX6_findAnew yX6_findAnew ∈ TBL := tb_s 1 rfl rfl
theorem q_400 : Cond.methodLink RX7 210 yX2_readInto ∈ TBL := tb_z (tz_3 (List.mem_of_getElem? (i := 22) rfl)) rfl
theorem q_401 : Cond.code yX2_readInto cX2_readInto 6 (some .int) ∈ TBL := tb_z (tz_3 (List.mem_of_getElem? (i := 25) rfl)) rfl
theorem q_402 : Cond.initialized yX2_readInto.cls ∈ TBL := tb_z (tz_1 (List.mem_of_getElem? (i := 9) rfl)) rfl
theorem q_403 : Cond.instanceMethod yX2_readInto ∈ TBL := tb_z (tz_3 (List.mem_of_getElem? (i := 23) rfl)) rfl
theorem q_404 : Cond.selects yX2_readInto.cls yX2_readInto yX2_readInto ∈ TBL := tb_z (tz_3 (List.mem_of_getElem? (i := 24) rfl)) rfl
theorem q_405 : Cond.methodLink RX7 47 yX7_save ∈ TBL := tb_z (tz_3 (List.mem_of_getElem? (i := 85) rfl)) rfl
theorem q_406 : Cond.code yX7_save cX7_save 1 none ∈ TBL := tb_z (tz_3 (List.mem_of_getElem? (i := 88) rfl)) rfl
theorem q_407 : Cond.initialized yX7_save.cls ∈ TBL := tb_z (tz_1 (List.mem_of_getElem? (i := 1) rfl)) rfl
theorem q_408 : Cond.instanceMethod yX7_save ∈ TBL := tb_z (tz_3 (List.mem_of_getElem? (i := 87) rfl)) rfl
theorem q_409 : Cond.selects yX7_save.cls yX7_save yX7_save ∈ TBL := tb_s 23 rfl rfl
theorem q_410 : Cond.methodLink RX7 214 yX0_copyFrom ∈ TBL := tb_z (tz_3 (List.mem_of_getElem? (i := 94) rfl)) rfl
theorem q_411 : Cond.methodLink RX7 40 yX6_restart ∈ TBL := tb_z (tz_2 (List.mem_of_getElem? (i := 32) rfl)) rfl
theorem q_412 : Cond.code yX6_restart cX6_restart 1 none ∈ TBL := tb_z (tz_2 (List.mem_of_getElem? (i := 35) rfl)) rfl
theorem q_413 : Cond.initialized yX6_restart.cls ∈ TBL := tb_z (tz_1 (List.mem_of_getElem? (i := 2) rfl)) rfl
theorem q_414 : Cond.instanceMethod yX6_restart ∈ TBL := tb_z (tz_2 (List.mem_of_getElem? (i := 33) rfl)) rfl
theorem q_415 : Cond.selects yX6_restart.cls yX6_restart yX6_restart ∈ TBL := tb_z (tz_2 (List.mem_of_getElem? (i := 34) rfl)) rfl
theorem q_416 : Cond.fieldLinkNest RX7 106 (TX6 1).1 (TX6 1).2.1 (TX6 1).2.2.1 "LakeLevels" ∈ NST := tb_n (tz_1 (List.mem_of_getElem? (i := 199) rfl)) rfl
theorem q_417 : Cond.fieldLinkNest RX7 110 (TX5 0).1 (TX5 0).2.1 (TX5 0).2.2.1 "LakeLevels" ∈ NST := tb_n (tz_1 (List.mem_of_getElem? (i := 125) rfl)) rfl
theorem q_418 : Cond.constantLong RX7 342 (31 : Int64) ∈ TBL := tb_z (tz_3 (List.mem_of_getElem? (i := 103) rfl)) rfl
theorem q_419 : Cond.methodLink RX6 120 yX1_wetCells ∈ TBL := tb_z (tz_3 (List.mem_of_getElem? (i := 116) rfl)) rfl
theorem q_420 : Cond.methodLinkNest RX6 138 yX7_has "LakeLevels" ∈ NST := tb_n (tz_3 (List.mem_of_getElem? (i := 117) rfl)) rfl
theorem q_421 : Cond.methodLink RX6 142 yX6_isWet ∈ TBL := tb_z (tz_3 (List.mem_of_getElem? (i := 112) rfl)) rfl
theorem q_422 : Cond.code yX6_isWet cX6_isWet 2 (some .boolean) ∈ TBL := tb_z (tz_3 (List.mem_of_getElem? (i := 115) rfl)) rfl
theorem q_423 : Cond.initialized yX6_isWet.cls ∈ TBL := tb_z (tz_1 (List.mem_of_getElem? (i := 2) rfl)) rfl
theorem q_424 : Cond.instanceMethod yX6_isWet ∈ TBL := tb_z (tz_3 (List.mem_of_getElem? (i := 113) rfl)) rfl
theorem q_425 : Cond.selects yX6_isWet.cls yX6_isWet yX6_isWet ∈ TBL := tb_z (tz_3 (List.mem_of_getElem? (i := 114) rfl)) rfl
theorem q_426 : Cond.fieldLinkNest RX6 146 (TX5 3).1 (TX5 3).2.1 (TX5 3).2.2.1 "LakeLevels" ∈ NST := tb_n (tz_1 (List.mem_of_getElem? (i := 130) rfl)) rfl
theorem q_427 : Cond.methodLink RX7 292 yX1_fullTotal ∈ TBL := tb_z (tz_3 (List.mem_of_getElem? (i := 122) rfl)) rfl
theorem q_428 : Cond.code yX1_fullTotal cX1_fullTotal 3 (some .int) ∈ TBL := tb_z (tz_3 (List.mem_of_getElem? (i := 125) rfl)) rfl
theorem q_429 : Cond.initialized yX1_fullTotal.cls ∈ TBL := tb_z (tz_1 (List.mem_of_getElem? (i := 8) rfl)) rfl
theorem q_430 : Cond.instanceMethod yX1_fullTotal ∈ TBL := tb_z (tz_3 (List.mem_of_getElem? (i := 123) rfl)) rfl
theorem q_431 : Cond.selects yX1_fullTotal.cls yX1_fullTotal yX1_fullTotal ∈ TBL := tb_z (tz_3 (List.mem_of_getElem? (i := 124) rfl)) rfl
theorem q_432 : Cond.methodLink RX7 289 yX6_seaTotal ∈ TBL := tb_z (tz_3 (List.mem_of_getElem? (i := 118) rfl)) rfl
theorem q_433 : Cond.code yX6_seaTotal cX6_seaTotal 3 (some .int) ∈ TBL := tb_z (tz_3 (List.mem_of_getElem? (i := 121) rfl)) rfl
theorem q_434 : Cond.initialized yX6_seaTotal.cls ∈ TBL := tb_z (tz_1 (List.mem_of_getElem? (i := 2) rfl)) rfl
theorem q_435 : Cond.instanceMethod yX6_seaTotal ∈ TBL := tb_z (tz_3 (List.mem_of_getElem? (i := 119) rfl)) rfl
theorem q_436 : Cond.selects yX6_seaTotal.cls yX6_seaTotal yX6_seaTotal ∈ TBL := tb_z (tz_3 (List.mem_of_getElem? (i := 120) rfl)) rfl
theorem q_437 : Cond.methodLink RX7 194 yX6_wetTotal ∈ TBL := tb_z (tz_3 (List.mem_of_getElem? (i := 108) rfl)) rfl
theorem q_438 : Cond.code yX6_wetTotal cX6_wetTotal 3 (some .int) ∈ TBL := tb_z (tz_3 (List.mem_of_getElem? (i := 111) rfl)) rfl
theorem q_439 : Cond.initialized yX6_wetTotal.cls ∈ TBL := tb_z (tz_1 (List.mem_of_getElem? (i := 2) rfl)) rfl
theorem q_440 : Cond.instanceMethod yX6_wetTotal ∈ TBL := tb_z (tz_3 (List.mem_of_getElem? (i := 109) rfl)) rfl
theorem q_441 : Cond.selects yX6_wetTotal.cls yX6_wetTotal yX6_wetTotal ∈ TBL := tb_z (tz_3 (List.mem_of_getElem? (i := 110) rfl)) rfl
theorem q_442 : Cond.fieldLinkNest RX7 286 (TX0 1).1 (TX0 1).2.1 (TX0 1).2.2.1 "LakeLevels" ∈ NST := tb_n (tz_1 (List.mem_of_getElem? (i := 57) rfl)) rfl
theorem q_443 : Cond.fieldLinkNest RX7 283 (TX0 0).1 (TX0 0).2.1 (TX0 0).2.2.1 "LakeLevels" ∈ NST := tb_n (tz_1 (List.mem_of_getElem? (i := 55) rfl)) rfl
theorem q_444 : Cond.methodLink RX7 280 yX5_isInPit ∈ TBL := tb_z (tz_3 (List.mem_of_getElem? (i := 135) rfl)) rfl
theorem q_445 : Cond.code yX5_isInPit cX5_isInPit 2 (some .boolean) ∈ TBL := tb_z (tz_3 (List.mem_of_getElem? (i := 138) rfl)) rfl
theorem q_446 : Cond.initialized yX5_isInPit.cls ∈ TBL := tb_z (tz_1 (List.mem_of_getElem? (i := 6) rfl)) rfl
theorem q_447 : Cond.instanceMethod yX5_isInPit ∈ TBL := tb_z (tz_3 (List.mem_of_getElem? (i := 136) rfl)) rfl
theorem q_448 : Cond.selects yX5_isInPit.cls yX5_isInPit yX5_isInPit ∈ TBL := tb_z (tz_3 (List.mem_of_getElem? (i := 137) rfl)) rfl
theorem q_449 : Cond.methodLink RX7 277 yX6_isWet ∈ TBL := tb_z (tz_3 (List.mem_of_getElem? (i := 134) rfl)) rfl
theorem q_450 : Cond.methodLink RX7 274 yX1_numberAt ∈ TBL := tb_z (tz_3 (List.mem_of_getElem? (i := 130) rfl)) rfl
theorem q_451 : Cond.code yX1_numberAt cX1_numberAt 6 (some .int) ∈ TBL := tb_z (tz_3 (List.mem_of_getElem? (i := 133) rfl)) rfl
theorem q_452 : Cond.initialized yX1_numberAt.cls ∈ TBL := tb_z (tz_1 (List.mem_of_getElem? (i := 8) rfl)) rfl
theorem q_453 : Cond.instanceMethod yX1_numberAt ∈ TBL := tb_z (tz_3 (List.mem_of_getElem? (i := 131) rfl)) rfl
theorem q_454 : Cond.selects yX1_numberAt.cls yX1_numberAt yX1_numberAt ∈ TBL := tb_z (tz_3 (List.mem_of_getElem? (i := 132) rfl)) rfl
theorem q_455 : Cond.fieldLinkNest RX7 271 (TX5 3).1 (TX5 3).2.1 (TX5 3).2.2.1 "LakeLevels" ∈ NST := tb_n (tz_1 (List.mem_of_getElem? (i := 131) rfl)) rfl
theorem q_456 : Cond.fieldLinkNest RX7 77 (TX0 3).1 (TX0 3).2.1 (TX0 3).2.2.1 "LakeLevels" ∈ NST := tb_n (tz_1 (List.mem_of_getElem? (i := 65) rfl)) rfl
theorem q_457 : Cond.fieldLinkNest RX7 298 (TX1 3).1 (TX1 3).2.1 (TX1 3).2.2.1 "LakeLevels" ∈ NST := tb_n (tz_1 (List.mem_of_getElem? (i := 159) rfl)) rfl
theorem q_458 : Cond.fieldLinkNest RX7 323 (TX1 4).1 (TX1 4).2.1 (TX1 4).2.2.1 "LakeLevels" ∈ NST := tb_n (tz_1 (List.mem_of_getElem? (i := 161) rfl)) rfl
theorem q_459 : Cond.fieldLinkNest RX7 320 (TX0 5).1 (TX0 5).2.1 (TX0 5).2.2.1 "LakeLevels" ∈ NST := tb_n (tz_1 (List.mem_of_getElem? (i := 75) rfl)) rfl
theorem q_460 : Cond.fieldLinkNest RX7 118 (TX0 7).1 (TX0 7).2.1 (TX0 7).2.2.1 "LakeLevels" ∈ NST := tb_n (tz_1 (List.mem_of_getElem? (i := 81) rfl)) rfl
theorem q_461 : Cond.fieldLinkNest RX7 317 (TX1 5).1 (TX1 5).2.1 (TX1 5).2.2.1 "LakeLevels" ∈ NST := tb_n (tz_1 (List.mem_of_getElem? (i := 163) rfl)) rfl
theorem q_462 : Cond.fieldLinkNest RX7 169 (TX1 0).1 (TX1 0).2.1 (TX1 0).2.2.1 "LakeLevels" ∈ NST := tb_n (tz_1 (List.mem_of_getElem? (i := 152) rfl)) rfl
theorem q_463 : Cond.methodLink RX7 172 yX4_at ∈ TBL := tb_z (tz_3 (List.mem_of_getElem? (i := 151) rfl)) rfl
theorem q_464 : Cond.methodLink RX7 304 yX7_lowestIn ∈ TBL := tb_z (tz_3 (List.mem_of_getElem? (i := 152) rfl)) rfl
theorem q_465 : Cond.fieldLinkNest RX7 301 (TX1 2).1 (TX1 2).2.1 (TX1 2).2.2.1 "LakeLevels" ∈ NST := tb_n (tz_1 (List.mem_of_getElem? (i := 157) rfl)) rfl
theorem q_466 : Cond.methodLink RX7 326 yX1_lowestPlace ∈ TBL := tb_z (tz_3 (List.mem_of_getElem? (i := 157) rfl)) rfl
theorem q_467 : Cond.code yX1_lowestPlace cX1_lowestPlace 4 (some .int) ∈ TBL := tb_z (tz_3 (List.mem_of_getElem? (i := 160) rfl)) rfl
theorem q_468 : Cond.initialized yX1_lowestPlace.cls ∈ TBL := tb_z (tz_1 (List.mem_of_getElem? (i := 8) rfl)) rfl
theorem q_469 : Cond.instanceMethod yX1_lowestPlace ∈ TBL := tb_z (tz_3 (List.mem_of_getElem? (i := 158) rfl)) rfl
theorem q_470 : Cond.selects yX1_lowestPlace.cls yX1_lowestPlace yX1_lowestPlace ∈ TBL := tb_z (tz_3 (List.mem_of_getElem? (i := 159) rfl)) rfl
theorem q_471 : Cond.methodLink RX7 166 yX7_lakeValue ∈ TBL := tb_z (tz_3 (List.mem_of_getElem? (i := 147) rfl)) rfl
theorem q_472 : Cond.code yX7_lakeValue cX7_lakeValue 5 (some .int) ∈ TBL := tb_z (tz_3 (List.mem_of_getElem? (i := 150) rfl)) rfl
theorem q_473 : Cond.initialized yX7_lakeValue.cls ∈ TBL := tb_z (tz_1 (List.mem_of_getElem? (i := 1) rfl)) rfl
theorem q_474 : Cond.instanceMethod yX7_lakeValue ∈ TBL := tb_z (tz_3 (List.mem_of_getElem? (i := 149) rfl)) rfl
theorem q_475 : Cond.selects yX7_lakeValue.cls yX7_lakeValue yX7_lakeValue ∈ TBL := tb_s 28 rfl rfl
theorem q_476 : Cond.methodLink RX7 231 yX7_mix ∈ TBL := tb_z (tz_3 (List.mem_of_getElem? (i := 100) rfl)) rfl
theorem q_477 : Cond.code yX7_mix cX7_mix 4 (some .long) ∈ TBL := tb_z (tz_3 (List.mem_of_getElem? (i := 102) rfl)) rfl
theorem q_478 : Cond.initialized yX7_mix.cls ∈ TBL := tb_z (tz_1 (List.mem_of_getElem? (i := 1) rfl)) rfl
theorem q_479 : Cond.static yX7_mix ∈ TBL := tb_z (tz_3 (List.mem_of_getElem? (i := 101) rfl)) rfl
theorem q_480 : Cond.methodLink RX7 176 yX7_levelPart ∈ TBL := tb_z (tz_3 (List.mem_of_getElem? (i := 153) rfl)) rfl
theorem q_481 : Cond.code yX7_levelPart cX7_levelPart 8 (some .int) ∈ TBL := tb_z (tz_3 (List.mem_of_getElem? (i := 156) rfl)) rfl
theorem q_482 : Cond.initialized yX7_levelPart.cls ∈ TBL := tb_z (tz_1 (List.mem_of_getElem? (i := 1) rfl)) rfl
theorem q_483 : Cond.instanceMethod yX7_levelPart ∈ TBL := tb_z (tz_3 (List.mem_of_getElem? (i := 155) rfl)) rfl
theorem q_484 : Cond.selects yX7_levelPart.cls yX7_levelPart yX7_levelPart ∈ TBL := tb_s 29 rfl rfl
theorem q_485 : Cond.fieldLinkNest RX7 155 (TX6 5).1 (TX6 5).2.1 (TX6 5).2.2.1 "LakeLevels" ∈ NST := tb_n (tz_1 (List.mem_of_getElem? (i := 207) rfl)) rfl
theorem q_486 : Cond.fieldLinkNest RX7 295 (TX6 4).1 (TX6 4).2.1 (TX6 4).2.2.1 "LakeLevels" ∈ NST := tb_n (tz_1 (List.mem_of_getElem? (i := 205) rfl)) rfl
theorem q_487 : Cond.methodLink RX7 255 yX1_water ∈ TBL := tb_z (tz_3 (List.mem_of_getElem? (i := 165) rfl)) rfl
theorem q_488 : Cond.code yX1_water cX1_water 3 (some .int) ∈ TBL := tb_z (tz_3 (List.mem_of_getElem? (i := 168) rfl)) rfl
theorem q_489 : Cond.initialized yX1_water.cls ∈ TBL := tb_z (tz_1 (List.mem_of_getElem? (i := 8) rfl)) rfl
theorem q_490 : Cond.instanceMethod yX1_water ∈ TBL := tb_z (tz_3 (List.mem_of_getElem? (i := 166) rfl)) rfl
theorem q_491 : Cond.selects yX1_water.cls yX1_water yX1_water ∈ TBL := tb_z (tz_3 (List.mem_of_getElem? (i := 167) rfl)) rfl
theorem q_492 : Cond.fieldLinkNest RX7 128 (TX6 3).1 (TX6 3).2.1 (TX6 3).2.2.1 "LakeLevels" ∈ NST := tb_n (tz_1 (List.mem_of_getElem? (i := 203) rfl)) rfl
theorem q_493 : Cond.constantLong RX7 229 (3049 : Int64) ∈ TBL := tb_z (tz_3 (List.mem_of_getElem? (i := 99) rfl)) rfl
theorem q_494 : Cond.methodLink RX7 121 yX7_countValue ∈ TBL := tb_z (tz_3 (List.mem_of_getElem? (i := 104) rfl)) rfl
theorem q_495 : Cond.code yX7_countValue cX7_countValue 2 (some .int) ∈ TBL := tb_z (tz_3 (List.mem_of_getElem? (i := 107) rfl)) rfl
theorem q_496 : Cond.initialized yX7_countValue.cls ∈ TBL := tb_z (tz_1 (List.mem_of_getElem? (i := 1) rfl)) rfl
theorem q_497 : Cond.instanceMethod yX7_countValue ∈ TBL := tb_z (tz_3 (List.mem_of_getElem? (i := 106) rfl)) rfl
theorem q_498 : Cond.selects yX7_countValue.cls yX7_countValue yX7_countValue ∈ TBL := tb_s 25 rfl rfl
theorem q_499 : Cond.methodLink RX7 115 yX7_cellValue ∈ TBL := tb_z (tz_3 (List.mem_of_getElem? (i := 126) rfl)) rfl
theorem q_500 : Cond.code yX7_cellValue cX7_cellValue 3 (some .int) ∈ TBL := tb_z (tz_3 (List.mem_of_getElem? (i := 129) rfl)) rfl
theorem q_501 : Cond.initialized yX7_cellValue.cls ∈ TBL := tb_z (tz_1 (List.mem_of_getElem? (i := 1) rfl)) rfl
theorem q_502 : Cond.instanceMethod yX7_cellValue ∈ TBL := tb_z (tz_3 (List.mem_of_getElem? (i := 128) rfl)) rfl
theorem q_503 : Cond.selects yX7_cellValue.cls yX7_cellValue yX7_cellValue ∈ TBL := tb_s 26 rfl rfl
theorem q_504 : Cond.methodLink RX7 235 yX1_placeOf ∈ TBL := tb_z (tz_3 (List.mem_of_getElem? (i := 139) rfl)) rfl
theorem q_505 : Cond.code yX1_placeOf cX1_placeOf 4 (some .int) ∈ TBL := tb_z (tz_3 (List.mem_of_getElem? (i := 142) rfl)) rfl
theorem q_506 : Cond.initialized yX1_placeOf.cls ∈ TBL := tb_z (tz_1 (List.mem_of_getElem? (i := 8) rfl)) rfl
theorem q_507 : Cond.instanceMethod yX1_placeOf ∈ TBL := tb_z (tz_3 (List.mem_of_getElem? (i := 140) rfl)) rfl
theorem q_508 : Cond.selects yX1_placeOf.cls yX1_placeOf yX1_placeOf ∈ TBL := tb_z (tz_3 (List.mem_of_getElem? (i := 141) rfl)) rfl
theorem q_509 : Cond.methodLink RX7 238 yX7_mixLake ∈ TBL := tb_z (tz_3 (List.mem_of_getElem? (i := 143) rfl)) rfl
theorem q_510 : Cond.code yX7_mixLake cX7_mixLake 7 (some .long) ∈ TBL := tb_z (tz_3 (List.mem_of_getElem? (i := 146) rfl)) rfl
theorem q_511 : Cond.initialized yX7_mixLake.cls ∈ TBL := tb_z (tz_1 (List.mem_of_getElem? (i := 1) rfl)) rfl
theorem q_512 : Cond.instanceMethod yX7_mixLake ∈ TBL := tb_z (tz_3 (List.mem_of_getElem? (i := 145) rfl)) rfl
theorem q_513 : Cond.selects yX7_mixLake.cls yX7_mixLake yX7_mixLake ∈ TBL := tb_s 27 rfl rfl
theorem q_514 : Cond.methodLink RX7 162 yX7_balanceValue ∈ TBL := tb_z (tz_3 (List.mem_of_getElem? (i := 161) rfl)) rfl
theorem q_515 : Cond.code yX7_balanceValue cX7_balanceValue 2 (some .long) ∈ TBL := tb_z (tz_3 (List.mem_of_getElem? (i := 164) rfl)) rfl
theorem q_516 : Cond.initialized yX7_balanceValue.cls ∈ TBL := tb_z (tz_1 (List.mem_of_getElem? (i := 1) rfl)) rfl
theorem q_517 : Cond.instanceMethod yX7_balanceValue ∈ TBL := tb_z (tz_3 (List.mem_of_getElem? (i := 163) rfl)) rfl
theorem q_518 : Cond.selects yX7_balanceValue.cls yX7_balanceValue yX7_balanceValue ∈ TBL := tb_s 30 rfl rfl
theorem q_519 : Cond.methodLink RX7 131 yX6_pourAt ∈ TBL := tb_z (tz_4 (List.mem_of_getElem? (i := 139) rfl)) rfl
theorem q_520 : Cond.fieldLink RX8 54 (TX8 4).1 (TX8 4).2.1 (TX8 4).2.2.1 ∈ TBL := tb_z (tz_5 (List.mem_of_getElem? (i := 90) rfl)) rfl
theorem q_521 : Cond.fieldLink RX8 58 (TX8 3).1 (TX8 3).2.1 (TX8 3).2.2.1 ∈ TBL := tb_z (tz_5 (List.mem_of_getElem? (i := 89) rfl)) rfl
theorem q_522 : Cond.fieldLink RX8 13 (TX8 1).1 (TX8 1).2.1 (TX8 1).2.2.1 ∈ TBL := tb_z (tz_5 (List.mem_of_getElem? (i := 87) rfl)) rfl
theorem q_523 : Cond.fieldLink RX8 7 (TX8 0).1 (TX8 0).2.1 (TX8 0).2.2.1 ∈ TBL := tb_z (tz_5 (List.mem_of_getElem? (i := 86) rfl)) rfl
theorem q_524 : Cond.fieldLink RX8 16 (TX8 2).1 (TX8 2).2.1 (TX8 2).2.2.1 ∈ TBL := tb_z (tz_5 (List.mem_of_getElem? (i := 88) rfl)) rfl
theorem q_525 : Cond.methodLink RX8 61 yX8_many ∈ TBL := tb_z (tz_5 (List.mem_of_getElem? (i := 44) rfl)) rfl
theorem q_526 : Cond.code yX8_many cX8_many 1 (some .int) ∈ TBL := tb_z (tz_5 (List.mem_of_getElem? (i := 47) rfl)) rfl
theorem q_527 : Cond.initialized yX8_many.cls ∈ TBL := tb_z (tz_1 (List.mem_of_getElem? (i := 13) rfl)) rfl
theorem q_528 : Cond.instanceMethod yX8_many ∈ TBL := tb_z (tz_5 (List.mem_of_getElem? (i := 46) rfl)) rfl
theorem q_529 : Cond.selects yX8_many.cls yX8_many yX8_many ∈ TBL := tb_s 41 rfl rfl
theorem q_530 : Cond.methodLink RX8 65 yX8_in ∈ TBL := tb_z (tz_5 (List.mem_of_getElem? (i := 171) rfl)) rfl
theorem q_531 : Cond.code yX8_in cX8_in 6 (some .boolean) ∈ TBL := tb_z (tz_5 (List.mem_of_getElem? (i := 173) rfl)) rfl
theorem q_532 : Cond.initialized yX8_in.cls ∈ TBL := tb_z (tz_1 (List.mem_of_getElem? (i := 13) rfl)) rfl
theorem q_533 : Cond.static yX8_in ∈ TBL := tb_z (tz_5 (List.mem_of_getElem? (i := 172) rfl)) rfl
theorem q_534 : Cond.methodLink RX8 69 yX8_neighbor ∈ TBL := tb_z (tz_5 (List.mem_of_getElem? (i := 59) rfl)) rfl
theorem q_535 : Cond.code yX8_neighbor cX8_neighbor 4 (some .int) ∈ TBL := tb_z (tz_5 (List.mem_of_getElem? (i := 62) rfl)) rfl
theorem q_536 : Cond.initialized yX8_neighbor.cls ∈ TBL := tb_z (tz_1 (List.mem_of_getElem? (i := 13) rfl)) rfl
theorem q_537 : Cond.instanceMethod yX8_neighbor ∈ TBL := tb_z (tz_5 (List.mem_of_getElem? (i := 61) rfl)) rfl
theorem q_538 : Cond.selects yX8_neighbor.cls yX8_neighbor yX8_neighbor ∈ TBL := tb_s 44 rfl rfl
theorem q_539 : Cond.methodLink RX8 73 yX8_isCell ∈ TBL := tb_z (tz_5 (List.mem_of_getElem? (i := 186) rfl)) rfl
theorem q_540 : Cond.code yX8_isCell cX8_isCell 2 (some .boolean) ∈ TBL := tb_z (tz_5 (List.mem_of_getElem? (i := 189) rfl)) rfl
theorem q_541 : Cond.initialized yX8_isCell.cls ∈ TBL := tb_z (tz_1 (List.mem_of_getElem? (i := 13) rfl)) rfl
theorem q_542 : Cond.instanceMethod yX8_isCell ∈ TBL := tb_z (tz_5 (List.mem_of_getElem? (i := 188) rfl)) rfl
theorem q_543 : Cond.selects yX8_isCell.cls yX8_isCell yX8_isCell ∈ TBL := tb_s 52 rfl rfl
theorem q_544 : Cond.methodLink RX8 77 yX8_areNeighbors ∈ TBL := tb_z (tz_5 (List.mem_of_getElem? (i := 239) rfl)) rfl
theorem q_545 : Cond.code yX8_areNeighbors cX8_areNeighbors 5 (some .boolean) ∈ TBL := tb_z (tz_6 (List.mem_of_getElem? (i := 2) rfl)) rfl
theorem q_546 : Cond.initialized yX8_areNeighbors.cls ∈ TBL := tb_z (tz_1 (List.mem_of_getElem? (i := 13) rfl)) rfl
theorem q_547 : Cond.instanceMethod yX8_areNeighbors ∈ TBL := tb_z (tz_6 (List.mem_of_getElem? (i := 1) rfl)) rfl
theorem q_548 : Cond.selects yX8_areNeighbors.cls yX8_areNeighbors yX8_areNeighbors ∈ TBL := tb_s 63 rfl rfl
theorem q_549 : Cond.methodLink RX8 81 yX8_gateAt ∈ TBL := tb_z (tz_5 (List.mem_of_getElem? (i := 75) rfl)) rfl
theorem q_550 : Cond.code yX8_gateAt cX8_gateAt 5 (some .int) ∈ TBL := tb_z (tz_5 (List.mem_of_getElem? (i := 78) rfl)) rfl
theorem q_551 : Cond.initialized yX8_gateAt.cls ∈ TBL := tb_z (tz_1 (List.mem_of_getElem? (i := 13) rfl)) rfl
theorem q_552 : Cond.instanceMethod yX8_gateAt ∈ TBL := tb_z (tz_5 (List.mem_of_getElem? (i := 77) rfl)) rfl
theorem q_553 : Cond.selects yX8_gateAt.cls yX8_gateAt yX8_gateAt ∈ TBL := tb_s 48 rfl rfl
theorem q_554 : Cond.methodLink RX8 84 yX8_threshold ∈ TBL := tb_z (tz_5 (List.mem_of_getElem? (i := 71) rfl)) rfl
theorem q_555 : Cond.code yX8_threshold cX8_threshold 7 (some .int) ∈ TBL := tb_z (tz_5 (List.mem_of_getElem? (i := 74) rfl)) rfl
theorem q_556 : Cond.initialized yX8_threshold.cls ∈ TBL := tb_z (tz_1 (List.mem_of_getElem? (i := 13) rfl)) rfl
theorem q_557 : Cond.instanceMethod yX8_threshold ∈ TBL := tb_z (tz_5 (List.mem_of_getElem? (i := 73) rfl)) rfl
theorem q_558 : Cond.selects yX8_threshold.cls yX8_threshold yX8_threshold ∈ TBL := tb_s 47 rfl rfl
theorem q_559 : Cond.methodLink RX8 87 yX8_height ∈ TBL := tb_z (tz_5 (List.mem_of_getElem? (i := 63) rfl)) rfl
theorem q_560 : Cond.code yX8_height cX8_height 2 (some .int) ∈ TBL := tb_z (tz_5 (List.mem_of_getElem? (i := 66) rfl)) rfl
theorem q_561 : Cond.initialized yX8_height.cls ∈ TBL := tb_z (tz_1 (List.mem_of_getElem? (i := 13) rfl)) rfl
theorem q_562 : Cond.instanceMethod yX8_height ∈ TBL := tb_z (tz_5 (List.mem_of_getElem? (i := 65) rfl)) rfl
theorem q_563 : Cond.selects yX8_height.cls yX8_height yX8_height ∈ TBL := tb_s 45 rfl rfl
theorem q_564 : Cond.methodLink RX8 91 yX8_has ∈ TBL := tb_z (tz_5 (List.mem_of_getElem? (i := 56) rfl)) rfl
theorem q_565 : Cond.code yX8_has cX8_has 3 (some .boolean) ∈ TBL := tb_z (tz_5 (List.mem_of_getElem? (i := 58) rfl)) rfl
theorem q_566 : Cond.initialized yX8_has.cls ∈ TBL := tb_z (tz_1 (List.mem_of_getElem? (i := 13) rfl)) rfl
theorem q_567 : Cond.static yX8_has ∈ TBL := tb_z (tz_5 (List.mem_of_getElem? (i := 57) rfl)) rfl
theorem q_568 : Cond.methodLink RX8 95 yX8_runs ∈ TBL := tb_z (tz_5 (List.mem_of_getElem? (i := 67) rfl)) rfl
theorem q_569 : Cond.code yX8_runs cX8_runs 3 (some .boolean) ∈ TBL := tb_z (tz_5 (List.mem_of_getElem? (i := 70) rfl)) rfl
theorem q_570 : Cond.initialized yX8_runs.cls ∈ TBL := tb_z (tz_1 (List.mem_of_getElem? (i := 13) rfl)) rfl
theorem q_571 : Cond.instanceMethod yX8_runs ∈ TBL := tb_z (tz_5 (List.mem_of_getElem? (i := 69) rfl)) rfl
theorem q_572 : Cond.selects yX8_runs.cls yX8_runs yX8_runs ∈ TBL := tb_s 46 rfl rfl
theorem q_573 : Cond.methodLink RX8 98 yX8_plain ∈ TBL := tb_z (tz_5 (List.mem_of_getElem? (i := 52) rfl)) rfl
theorem q_574 : Cond.code yX8_plain cX8_plain 8 (some .long) ∈ TBL := tb_z (tz_5 (List.mem_of_getElem? (i := 55) rfl)) rfl
theorem q_575 : Cond.initialized yX8_plain.cls ∈ TBL := tb_z (tz_1 (List.mem_of_getElem? (i := 13) rfl)) rfl
theorem q_576 : Cond.instanceMethod yX8_plain ∈ TBL := tb_z (tz_5 (List.mem_of_getElem? (i := 54) rfl)) rfl
theorem q_577 : Cond.selects yX8_plain.cls yX8_plain yX8_plain ∈ TBL := tb_s 43 rfl rfl
theorem q_578 : Cond.methodLink RX8 102 yX8_way ∈ TBL := tb_z (tz_5 (List.mem_of_getElem? (i := 79) rfl)) rfl
theorem q_579 : Cond.code yX8_way cX8_way 7 (some .int) ∈ TBL := tb_z (tz_5 (List.mem_of_getElem? (i := 82) rfl)) rfl
theorem q_580 : Cond.initialized yX8_way.cls ∈ TBL := tb_z (tz_1 (List.mem_of_getElem? (i := 13) rfl)) rfl
theorem q_581 : Cond.instanceMethod yX8_way ∈ TBL := tb_z (tz_5 (List.mem_of_getElem? (i := 81) rfl)) rfl
theorem q_582 : Cond.selects yX8_way.cls yX8_way yX8_way ∈ TBL := tb_s 49 rfl rfl
theorem q_583 : Cond.fieldLink RX8 19 (TX8 5).1 (TX8 5).2.1 (TX8 5).2.2.1 ∈ TBL := tb_z (tz_5 (List.mem_of_getElem? (i := 91) rfl)) rfl
theorem q_584 : Cond.methodLink RX8 106 yX8_endOf ∈ TBL := tb_z (tz_5 (List.mem_of_getElem? (i := 48) rfl)) rfl
theorem q_585 : Cond.code yX8_endOf cX8_endOf 5 (some .long) ∈ TBL := tb_z (tz_5 (List.mem_of_getElem? (i := 51) rfl)) rfl
theorem q_586 : Cond.initialized yX8_endOf.cls ∈ TBL := tb_z (tz_1 (List.mem_of_getElem? (i := 13) rfl)) rfl
theorem q_587 : Cond.instanceMethod yX8_endOf ∈ TBL := tb_z (tz_5 (List.mem_of_getElem? (i := 50) rfl)) rfl
theorem q_588 : Cond.selects yX8_endOf.cls yX8_endOf yX8_endOf ∈ TBL := tb_s 42 rfl rfl
theorem q_589 : Cond.constantLong RX8 109 (-1 : Int64) ∈ TBL := tb_z (tz_5 (List.mem_of_getElem? (i := 39) rfl)) rfl
theorem q_590 : Cond.methodLink RX8 111 yX8_lowest ∈ TBL := tb_z (tz_5 (List.mem_of_getElem? (i := 83) rfl)) rfl
theorem q_591 : Cond.code yX8_lowest cX8_lowest 3 (some .int) ∈ TBL := tb_z (tz_5 (List.mem_of_getElem? (i := 85) rfl)) rfl
theorem q_592 : Cond.initialized yX8_lowest.cls ∈ TBL := tb_z (tz_1 (List.mem_of_getElem? (i := 13) rfl)) rfl
theorem q_593 : Cond.static yX8_lowest ∈ TBL := tb_z (tz_5 (List.mem_of_getElem? (i := 84) rfl)) rfl
theorem q_594 : Cond.fieldLink RX8 114 (TX8 8).1 (TX8 8).2.1 (TX8 8).2.2.1 ∈ TBL := tb_z (tz_5 (List.mem_of_getElem? (i := 94) rfl)) rfl
theorem q_595 : Cond.fieldLink RX8 117 (TX8 6).1 (TX8 6).2.1 (TX8 6).2.2.1 ∈ TBL := tb_z (tz_5 (List.mem_of_getElem? (i := 92) rfl)) rfl
theorem q_596 : Cond.fieldLink RX8 120 (TX8 7).1 (TX8 7).2.1 (TX8 7).2.2.1 ∈ TBL := tb_z (tz_5 (List.mem_of_getElem? (i := 93) rfl)) rfl
theorem q_597 : Cond.methodLink RX8 123 yX8_findsPass ∈ TBL := tb_z (tz_5 (List.mem_of_getElem? (i := 215) rfl)) rfl
theorem q_598 : Cond.code yX8_findsPass cX8_findsPass 7 none ∈ TBL := tb_z (tz_5 (List.mem_of_getElem? (i := 218) rfl)) rfl
theorem q_599 : Cond.initialized yX8_findsPass.cls ∈ TBL := tb_z (tz_1 (List.mem_of_getElem? (i := 13) rfl)) rfl
theorem q_600 : Cond.instanceMethod yX8_findsPass ∈ TBL := tb_z (tz_5 (List.mem_of_getElem? (i := 217) rfl)) rfl
theorem q_601 : Cond.selects yX8_findsPass.cls yX8_findsPass yX8_findsPass ∈ TBL := tb_s 59 rfl rfl
theorem q_602 : Cond.methodLink RX8 127 yX8_capacity ∈ TBL := tb_z (tz_5 (List.mem_of_getElem? (i := 211) rfl)) rfl
theorem q_603 : Cond.code yX8_capacity cX8_capacity 5 (some .long) ∈ TBL := tb_z (tz_5 (List.mem_of_getElem? (i := 214) rfl)) rfl
theorem q_604 : Cond.initialized yX8_capacity.cls ∈ TBL := tb_z (tz_1 (List.mem_of_getElem? (i := 13) rfl)) rfl
theorem q_605 : Cond.instanceMethod yX8_capacity ∈ TBL := tb_z (tz_5 (List.mem_of_getElem? (i := 213) rfl)) rfl
theorem q_606 : Cond.selects yX8_capacity.cls yX8_capacity yX8_capacity ∈ TBL := tb_s 58 rfl rfl
theorem q_607 : Cond.methodLink RX8 130 yX8_isJoined ∈ TBL := tb_z (tz_6 (List.mem_of_getElem? (i := 89) rfl)) rfl
theorem q_608 : Cond.code yX8_isJoined cX8_isJoined 2 (some .boolean) ∈ TBL := tb_z (tz_6 (List.mem_of_getElem? (i := 92) rfl)) rfl
theorem q_609 : Cond.initialized yX8_isJoined.cls ∈ TBL := tb_z (tz_1 (List.mem_of_getElem? (i := 13) rfl)) rfl
theorem q_610 : Cond.instanceMethod yX8_isJoined ∈ TBL := tb_z (tz_6 (List.mem_of_getElem? (i := 91) rfl)) rfl
theorem q_611 : Cond.selects yX8_isJoined.cls yX8_isJoined yX8_isJoined ∈ TBL := tb_s 76 rfl rfl
theorem q_612 : Cond.methodLink RX8 133 yX8_lakeOf ∈ TBL := tb_z (tz_5 (List.mem_of_getElem? (i := 199) rfl)) rfl
theorem q_613 : Cond.code yX8_lakeOf cX8_lakeOf 4 (some .int) ∈ TBL := tb_z (tz_5 (List.mem_of_getElem? (i := 202) rfl)) rfl
theorem q_614 : Cond.initialized yX8_lakeOf.cls ∈ TBL := tb_z (tz_1 (List.mem_of_getElem? (i := 13) rfl)) rfl
theorem q_615 : Cond.instanceMethod yX8_lakeOf ∈ TBL := tb_z (tz_5 (List.mem_of_getElem? (i := 201) rfl)) rfl
theorem q_616 : Cond.selects yX8_lakeOf.cls yX8_lakeOf yX8_lakeOf ∈ TBL := tb_s 55 rfl rfl
theorem q_617 : Cond.methodLink RX8 136 yX8_isFull ∈ TBL := tb_z (tz_5 (List.mem_of_getElem? (i := 219) rfl)) rfl
theorem q_618 : Cond.code yX8_isFull cX8_isFull 2 (some .boolean) ∈ TBL := tb_z (tz_5 (List.mem_of_getElem? (i := 222) rfl)) rfl
theorem q_619 : Cond.initialized yX8_isFull.cls ∈ TBL := tb_z (tz_1 (List.mem_of_getElem? (i := 13) rfl)) rfl
theorem q_620 : Cond.instanceMethod yX8_isFull ∈ TBL := tb_z (tz_5 (List.mem_of_getElem? (i := 221) rfl)) rfl
theorem q_621 : Cond.selects yX8_isFull.cls yX8_isFull yX8_isFull ∈ TBL := tb_s 60 rfl rfl
theorem q_622 : Cond.methodLink RX8 139 yX8_join ∈ TBL := tb_z (tz_5 (List.mem_of_getElem? (i := 223) rfl)) rfl
theorem q_623 : Cond.code yX8_join cX8_join 4 (some .int) ∈ TBL := tb_z (tz_5 (List.mem_of_getElem? (i := 226) rfl)) rfl
theorem q_624 : Cond.initialized yX8_join.cls ∈ TBL := tb_z (tz_1 (List.mem_of_getElem? (i := 13) rfl)) rfl
theorem q_625 : Cond.instanceMethod yX8_join ∈ TBL := tb_z (tz_5 (List.mem_of_getElem? (i := 225) rfl)) rfl
theorem q_626 : Cond.selects yX8_join.cls yX8_join yX8_join ∈ TBL := tb_s 61 rfl rfl
theorem q_627 : Cond.fieldLink RX8 22 (TX8 9).1 (TX8 9).2.1 (TX8 9).2.2.1 ∈ TBL := tb_z (tz_5 (List.mem_of_getElem? (i := 95) rfl)) rfl
theorem q_628 : Cond.fieldLink RX8 26 (TX8 10).1 (TX8 10).2.1 (TX8 10).2.2.1 ∈ TBL := tb_z (tz_5 (List.mem_of_getElem? (i := 96) rfl)) rfl
theorem q_629 : Cond.methodLink RX8 142 yX8_leastVolume ∈ TBL := tb_z (tz_6 (List.mem_of_getElem? (i := 85) rfl)) rfl
theorem q_630 : Cond.code yX8_leastVolume cX8_leastVolume 2 (some .long) ∈ TBL := tb_z (tz_6 (List.mem_of_getElem? (i := 88) rfl)) rfl
theorem q_631 : Cond.initialized yX8_leastVolume.cls ∈ TBL := tb_z (tz_1 (List.mem_of_getElem? (i := 13) rfl)) rfl
theorem q_632 : Cond.instanceMethod yX8_leastVolume ∈ TBL := tb_z (tz_6 (List.mem_of_getElem? (i := 87) rfl)) rfl
theorem q_633 : Cond.selects yX8_leastVolume.cls yX8_leastVolume yX8_leastVolume ∈ TBL := tb_s 75 rfl rfl
theorem q_634 : Cond.methodLink RX8 145 yX8_parts ∈ TBL := tb_z (tz_6 (List.mem_of_getElem? (i := 93) rfl)) rfl
theorem q_635 : Cond.code yX8_parts cX8_parts 4 none ∈ TBL := tb_z (tz_6 (List.mem_of_getElem? (i := 96) rfl)) rfl
theorem q_636 : Cond.initialized yX8_parts.cls ∈ TBL := tb_z (tz_1 (List.mem_of_getElem? (i := 13) rfl)) rfl
theorem q_637 : Cond.instanceMethod yX8_parts ∈ TBL := tb_z (tz_6 (List.mem_of_getElem? (i := 95) rfl)) rfl
theorem q_638 : Cond.selects yX8_parts.cls yX8_parts yX8_parts ∈ TBL := tb_s 77 rfl rfl
theorem q_639 : Cond.fieldLink RX8 149 (TX8 12).1 (TX8 12).2.1 (TX8 12).2.2.1 ∈ TBL := tb_z (tz_5 (List.mem_of_getElem? (i := 98) rfl)) rfl
theorem q_640 : Cond.fieldLink RX8 29 (TX8 11).1 (TX8 11).2.1 (TX8 11).2.2.1 ∈ TBL := tb_z (tz_5 (List.mem_of_getElem? (i := 97) rfl)) rfl
theorem q_641 : Cond.methodLink RX8 152 yX8_orders ∈ TBL := tb_z (tz_5 (List.mem_of_getElem? (i := 195) rfl)) rfl
theorem q_642 : Cond.code yX8_orders cX8_orders 3 none ∈ TBL := tb_z (tz_5 (List.mem_of_getElem? (i := 198) rfl)) rfl
theorem q_643 : Cond.initialized yX8_orders.cls ∈ TBL := tb_z (tz_1 (List.mem_of_getElem? (i := 13) rfl)) rfl
theorem q_644 : Cond.instanceMethod yX8_orders ∈ TBL := tb_z (tz_5 (List.mem_of_getElem? (i := 197) rfl)) rfl
theorem q_645 : Cond.selects yX8_orders.cls yX8_orders yX8_orders ∈ TBL := tb_s 54 rfl rfl
theorem q_646 : Cond.fieldLink RX8 155 (TX8 14).1 (TX8 14).2.1 (TX8 14).2.2.1 ∈ TBL := tb_z (tz_5 (List.mem_of_getElem? (i := 100) rfl)) rfl
theorem q_647 : Cond.fieldLink RX8 159 (TX8 13).1 (TX8 13).2.1 (TX8 13).2.2.1 ∈ TBL := tb_z (tz_5 (List.mem_of_getElem? (i := 99) rfl)) rfl
theorem q_648 : Cond.methodLink RX8 162 yX8_levels ∈ TBL := tb_z (tz_6 (List.mem_of_getElem? (i := 29) rfl)) rfl
theorem q_649 : Cond.code yX8_levels cX8_levels 11 none ∈ TBL := tb_z (tz_6 (List.mem_of_getElem? (i := 32) rfl)) rfl
theorem q_650 : Cond.initialized yX8_levels.cls ∈ TBL := tb_z (tz_1 (List.mem_of_getElem? (i := 13) rfl)) rfl
theorem q_651 : Cond.instanceMethod yX8_levels ∈ TBL := tb_z (tz_6 (List.mem_of_getElem? (i := 31) rfl)) rfl
theorem q_652 : Cond.selects yX8_levels.cls yX8_levels yX8_levels ∈ TBL := tb_s 67 rfl rfl
theorem q_653 : Cond.methodLink RX8 165 yX8_isWet ∈ TBL := tb_z (tz_6 (List.mem_of_getElem? (i := 25) rfl)) rfl
theorem q_654 : Cond.code yX8_isWet cX8_isWet 3 (some .boolean) ∈ TBL := tb_z (tz_6 (List.mem_of_getElem? (i := 28) rfl)) rfl
theorem q_655 : Cond.initialized yX8_isWet.cls ∈ TBL := tb_z (tz_1 (List.mem_of_getElem? (i := 13) rfl)) rfl
theorem q_656 : Cond.instanceMethod yX8_isWet ∈ TBL := tb_z (tz_6 (List.mem_of_getElem? (i := 27) rfl)) rfl
theorem q_657 : Cond.selects yX8_isWet.cls yX8_isWet yX8_isWet ∈ TBL := tb_s 66 rfl rfl
theorem q_658 : Cond.methodLink RX8 168 yX8_wetOf ∈ TBL := tb_z (tz_6 (List.mem_of_getElem? (i := 49) rfl)) rfl
theorem q_659 : Cond.code yX8_wetOf cX8_wetOf 5 (some .int) ∈ TBL := tb_z (tz_6 (List.mem_of_getElem? (i := 52) rfl)) rfl
theorem q_660 : Cond.initialized yX8_wetOf.cls ∈ TBL := tb_z (tz_1 (List.mem_of_getElem? (i := 13) rfl)) rfl
theorem q_661 : Cond.instanceMethod yX8_wetOf ∈ TBL := tb_z (tz_6 (List.mem_of_getElem? (i := 51) rfl)) rfl
theorem q_662 : Cond.selects yX8_wetOf.cls yX8_wetOf yX8_wetOf ∈ TBL := tb_s 70 rfl rfl
theorem q_663 : Cond.fieldLink RX8 171 (TX8 17).1 (TX8 17).2.1 (TX8 17).2.2.1 ∈ TBL := tb_z (tz_5 (List.mem_of_getElem? (i := 103) rfl)) rfl
theorem q_664 : Cond.fieldLink RX8 32 (TX8 15).1 (TX8 15).2.1 (TX8 15).2.2.1 ∈ TBL := tb_z (tz_5 (List.mem_of_getElem? (i := 101) rfl)) rfl
theorem q_665 : Cond.fieldLink RX8 35 (TX8 16).1 (TX8 16).2.1 (TX8 16).2.2.1 ∈ TBL := tb_z (tz_5 (List.mem_of_getElem? (i := 102) rfl)) rfl
theorem q_666 : Cond.methodLink RX8 174 yX8_finds ∈ TBL := tb_z (tz_5 (List.mem_of_getElem? (i := 40) rfl)) rfl
theorem q_667 : Cond.code yX8_finds cX8_finds 5 none ∈ TBL := tb_z (tz_5 (List.mem_of_getElem? (i := 43) rfl)) rfl
theorem q_668 : Cond.initialized yX8_finds.cls ∈ TBL := tb_z (tz_1 (List.mem_of_getElem? (i := 13) rfl)) rfl
theorem q_669 : Cond.instanceMethod yX8_finds ∈ TBL := tb_z (tz_5 (List.mem_of_getElem? (i := 42) rfl)) rfl
theorem q_670 : Cond.selects yX8_finds.cls yX8_finds yX8_finds ∈ TBL := tb_s 40 rfl rfl
theorem q_671 : Cond.methodLink RX8 177 yX8_pours ∈ TBL := tb_z (tz_5 (List.mem_of_getElem? (i := 207) rfl)) rfl
theorem q_672 : Cond.code yX8_pours cX8_pours 15 none ∈ TBL := tb_z (tz_5 (List.mem_of_getElem? (i := 210) rfl)) rfl
theorem q_673 : Cond.initialized yX8_pours.cls ∈ TBL := tb_z (tz_1 (List.mem_of_getElem? (i := 13) rfl)) rfl
theorem q_674 : Cond.instanceMethod yX8_pours ∈ TBL := tb_z (tz_5 (List.mem_of_getElem? (i := 209) rfl)) rfl
theorem q_675 : Cond.selects yX8_pours.cls yX8_pours yX8_pours ∈ TBL := tb_s 57 rfl rfl
theorem q_676 : Cond.constantLong RX8 181 (6 : Int64) ∈ TBL := tb_z (tz_5 (List.mem_of_getElem? (i := 170) rfl)) rfl
theorem q_677 : Cond.methodLink RX8 183 yX8_goes ∈ TBL := tb_z (tz_5 (List.mem_of_getElem? (i := 174) rfl)) rfl
theorem q_678 : Cond.code yX8_goes cX8_goes 4 (some .boolean) ∈ TBL := tb_z (tz_5 (List.mem_of_getElem? (i := 177) rfl)) rfl
theorem q_679 : Cond.initialized yX8_goes.cls ∈ TBL := tb_z (tz_1 (List.mem_of_getElem? (i := 13) rfl)) rfl
theorem q_680 : Cond.instanceMethod yX8_goes ∈ TBL := tb_z (tz_5 (List.mem_of_getElem? (i := 176) rfl)) rfl
theorem q_681 : Cond.selects yX8_goes.cls yX8_goes yX8_goes ∈ TBL := tb_s 50 rfl rfl
theorem q_682 : Cond.methodLink RX8 187 yX8_save ∈ TBL := tb_z (tz_5 (List.mem_of_getElem? (i := 178) rfl)) rfl
theorem q_683 : Cond.code yX8_save cX8_save 2 none ∈ TBL := tb_z (tz_5 (List.mem_of_getElem? (i := 181) rfl)) rfl
theorem q_684 : Cond.initialized yX8_save.cls ∈ TBL := tb_z (tz_1 (List.mem_of_getElem? (i := 13) rfl)) rfl
theorem q_685 : Cond.instanceMethod yX8_save ∈ TBL := tb_z (tz_5 (List.mem_of_getElem? (i := 180) rfl)) rfl
theorem q_686 : Cond.selects yX8_save.cls yX8_save yX8_save ∈ TBL := tb_s 51 rfl rfl
theorem q_687 : Cond.methodLink RX8 50 yX8_begins ∈ TBL := tb_z (tz_5 (List.mem_of_getElem? (i := 35) rfl)) rfl
theorem q_688 : Cond.code yX8_begins cX8_begins 4 none ∈ TBL := tb_z (tz_5 (List.mem_of_getElem? (i := 38) rfl)) rfl
theorem q_689 : Cond.initialized yX8_begins.cls ∈ TBL := tb_z (tz_1 (List.mem_of_getElem? (i := 13) rfl)) rfl
theorem q_690 : Cond.instanceMethod yX8_begins ∈ TBL := tb_z (tz_5 (List.mem_of_getElem? (i := 37) rfl)) rfl
theorem q_691 : Cond.selects yX8_begins.cls yX8_begins yX8_begins ∈ TBL := tb_s 39 rfl rfl
theorem q_692 : Cond.constantLong RX8 190 (99 : Int64) ∈ TBL := tb_z (tz_5 (List.mem_of_getElem? (i := 190) rfl)) rfl
theorem q_693 : Cond.methodLink RX8 192 yX8_remembers ∈ TBL := tb_z (tz_5 (List.mem_of_getElem? (i := 191) rfl)) rfl
theorem q_694 : Cond.code yX8_remembers cX8_remembers 5 none ∈ TBL := tb_z (tz_5 (List.mem_of_getElem? (i := 194) rfl)) rfl
theorem q_695 : Cond.initialized yX8_remembers.cls ∈ TBL := tb_z (tz_1 (List.mem_of_getElem? (i := 13) rfl)) rfl
theorem q_696 : Cond.instanceMethod yX8_remembers ∈ TBL := tb_z (tz_5 (List.mem_of_getElem? (i := 193) rfl)) rfl
theorem q_697 : Cond.selects yX8_remembers.cls yX8_remembers yX8_remembers ∈ TBL := tb_s 53 rfl rfl
theorem q_698 : Cond.methodLink RX8 195 yX8_changes ∈ TBL := tb_z (tz_5 (List.mem_of_getElem? (i := 203) rfl)) rfl
theorem q_699 : Cond.code yX8_changes cX8_changes 2 none ∈ TBL := tb_z (tz_5 (List.mem_of_getElem? (i := 206) rfl)) rfl
theorem q_700 : Cond.initialized yX8_changes.cls ∈ TBL := tb_z (tz_1 (List.mem_of_getElem? (i := 13) rfl)) rfl
theorem q_701 : Cond.instanceMethod yX8_changes ∈ TBL := tb_z (tz_5 (List.mem_of_getElem? (i := 205) rfl)) rfl
theorem q_702 : Cond.selects yX8_changes.cls yX8_changes yX8_changes ∈ TBL := tb_s 56 rfl rfl
theorem q_703 : Cond.methodLink RX8 198 yX8_isPair ∈ TBL := tb_z (tz_5 (List.mem_of_getElem? (i := 235) rfl)) rfl
theorem q_704 : Cond.code yX8_isPair cX8_isPair 3 (some .boolean) ∈ TBL := tb_z (tz_5 (List.mem_of_getElem? (i := 238) rfl)) rfl
theorem q_705 : Cond.initialized yX8_isPair.cls ∈ TBL := tb_z (tz_1 (List.mem_of_getElem? (i := 13) rfl)) rfl
theorem q_706 : Cond.instanceMethod yX8_isPair ∈ TBL := tb_z (tz_5 (List.mem_of_getElem? (i := 237) rfl)) rfl
theorem q_707 : Cond.selects yX8_isPair.cls yX8_isPair yX8_isPair ∈ TBL := tb_s 62 rfl rfl
theorem q_708 : Cond.constantLong RX8 201 (999999 : Int64) ∈ TBL := tb_z (tz_6 (List.mem_of_getElem? (i := 7) rfl)) rfl
theorem q_709 : Cond.constantLong RX8 203 (1103515245 : Int64) ∈ TBL := tb_z (tz_6 (List.mem_of_getElem? (i := 8) rfl)) rfl
theorem q_710 : Cond.constantLong RX8 205 (12345 : Int64) ∈ TBL := tb_z (tz_6 (List.mem_of_getElem? (i := 9) rfl)) rfl
theorem q_711 : Cond.constantLong RX8 207 (2147483648 : Int64) ∈ TBL := tb_z (tz_6 (List.mem_of_getElem? (i := 10) rfl)) rfl
theorem q_712 : Cond.constantLong RX8 209 (65536 : Int64) ∈ TBL := tb_z (tz_6 (List.mem_of_getElem? (i := 11) rfl)) rfl
theorem q_713 : Cond.methodLink RX8 211 yX8_numberOf ∈ TBL := tb_z (tz_6 (List.mem_of_getElem? (i := 21) rfl)) rfl
theorem q_714 : Cond.code yX8_numberOf cX8_numberOf 3 (some .int) ∈ TBL := tb_z (tz_6 (List.mem_of_getElem? (i := 24) rfl)) rfl
theorem q_715 : Cond.initialized yX8_numberOf.cls ∈ TBL := tb_z (tz_1 (List.mem_of_getElem? (i := 13) rfl)) rfl
theorem q_716 : Cond.instanceMethod yX8_numberOf ∈ TBL := tb_z (tz_6 (List.mem_of_getElem? (i := 23) rfl)) rfl
theorem q_717 : Cond.selects yX8_numberOf.cls yX8_numberOf yX8_numberOf ∈ TBL := tb_s 65 rfl rfl
theorem q_718 : Cond.constantLong RX8 214 (5 : Int64) ∈ TBL := tb_z (tz_6 (List.mem_of_getElem? (i := 16) rfl)) rfl
theorem q_719 : Cond.methodLink RX8 216 yX8_cellValue ∈ TBL := tb_z (tz_6 (List.mem_of_getElem? (i := 17) rfl)) rfl
theorem q_720 : Cond.code yX8_cellValue cX8_cellValue 4 (some .int) ∈ TBL := tb_z (tz_6 (List.mem_of_getElem? (i := 20) rfl)) rfl
theorem q_721 : Cond.initialized yX8_cellValue.cls ∈ TBL := tb_z (tz_1 (List.mem_of_getElem? (i := 13) rfl)) rfl
theorem q_722 : Cond.instanceMethod yX8_cellValue ∈ TBL := tb_z (tz_6 (List.mem_of_getElem? (i := 19) rfl)) rfl
theorem q_723 : Cond.selects yX8_cellValue.cls yX8_cellValue yX8_cellValue ∈ TBL := tb_s 64 rfl rfl
theorem q_724 : Cond.methodLink RX8 222 yX8_seaCells ∈ TBL := tb_z (tz_6 (List.mem_of_getElem? (i := 53) rfl)) rfl
theorem q_725 : Cond.code yX8_seaCells cX8_seaCells 3 (some .int) ∈ TBL := tb_z (tz_6 (List.mem_of_getElem? (i := 56) rfl)) rfl
theorem q_726 : Cond.initialized yX8_seaCells.cls ∈ TBL := tb_z (tz_1 (List.mem_of_getElem? (i := 13) rfl)) rfl
theorem q_727 : Cond.instanceMethod yX8_seaCells ∈ TBL := tb_z (tz_6 (List.mem_of_getElem? (i := 55) rfl)) rfl
theorem q_728 : Cond.selects yX8_seaCells.cls yX8_seaCells yX8_seaCells ∈ TBL := tb_s 71 rfl rfl
theorem q_729 : Cond.methodLink RX8 219 yX8_wet ∈ TBL := tb_z (tz_6 (List.mem_of_getElem? (i := 45) rfl)) rfl
theorem q_730 : Cond.code yX8_wet cX8_wet 1 (some .int) ∈ TBL := tb_z (tz_6 (List.mem_of_getElem? (i := 48) rfl)) rfl
theorem q_731 : Cond.initialized yX8_wet.cls ∈ TBL := tb_z (tz_1 (List.mem_of_getElem? (i := 13) rfl)) rfl
theorem q_732 : Cond.instanceMethod yX8_wet ∈ TBL := tb_z (tz_6 (List.mem_of_getElem? (i := 47) rfl)) rfl
theorem q_733 : Cond.selects yX8_wet.cls yX8_wet yX8_wet ∈ TBL := tb_s 69 rfl rfl
theorem q_734 : Cond.methodLink RX8 225 yX8_countOf ∈ TBL := tb_z (tz_6 (List.mem_of_getElem? (i := 41) rfl)) rfl
theorem q_735 : Cond.code yX8_countOf cX8_countOf 4 (some .int) ∈ TBL := tb_z (tz_6 (List.mem_of_getElem? (i := 44) rfl)) rfl
theorem q_736 : Cond.initialized yX8_countOf.cls ∈ TBL := tb_z (tz_1 (List.mem_of_getElem? (i := 13) rfl)) rfl
theorem q_737 : Cond.instanceMethod yX8_countOf ∈ TBL := tb_z (tz_6 (List.mem_of_getElem? (i := 43) rfl)) rfl
theorem q_738 : Cond.selects yX8_countOf.cls yX8_countOf yX8_countOf ∈ TBL := tb_s 68 rfl rfl
theorem q_739 : Cond.constantLong RX8 228 (100000 : Int64) ∈ TBL := tb_z (tz_6 (List.mem_of_getElem? (i := 61) rfl)) rfl
theorem q_740 : Cond.methodLink RX8 230 yX8_water ∈ TBL := tb_z (tz_6 (List.mem_of_getElem? (i := 62) rfl)) rfl
theorem q_741 : Cond.code yX8_water cX8_water 4 (some .long) ∈ TBL := tb_z (tz_6 (List.mem_of_getElem? (i := 65) rfl)) rfl
theorem q_742 : Cond.initialized yX8_water.cls ∈ TBL := tb_z (tz_1 (List.mem_of_getElem? (i := 13) rfl)) rfl
theorem q_743 : Cond.instanceMethod yX8_water ∈ TBL := tb_z (tz_6 (List.mem_of_getElem? (i := 64) rfl)) rfl
theorem q_744 : Cond.selects yX8_water.cls yX8_water yX8_water ∈ TBL := tb_s 72 rfl rfl
theorem q_745 : Cond.constantLong RX8 234 (1000000 : Int64) ∈ TBL := tb_z (tz_6 (List.mem_of_getElem? (i := 66) rfl)) rfl
theorem q_746 : Cond.constantLong RX8 236 (1000 : Int64) ∈ TBL := tb_z (tz_6 (List.mem_of_getElem? (i := 71) rfl)) rfl
theorem q_747 : Cond.fieldLink RX8 38 (TX8 18).1 (TX8 18).2.1 (TX8 18).2.2.1 ∈ TBL := tb_z (tz_5 (List.mem_of_getElem? (i := 104) rfl)) rfl
theorem q_748 : Cond.fieldLink RX8 41 (TX8 19).1 (TX8 19).2.1 (TX8 19).2.2.1 ∈ TBL := tb_z (tz_5 (List.mem_of_getElem? (i := 105) rfl)) rfl
theorem q_749 : Cond.methodLink RX8 238 yX8_takes ∈ TBL := tb_z (tz_6 (List.mem_of_getElem? (i := 81) rfl)) rfl
theorem q_750 : Cond.code yX8_takes cX8_takes 17 none ∈ TBL := tb_z (tz_6 (List.mem_of_getElem? (i := 84) rfl)) rfl
theorem q_751 : Cond.initialized yX8_takes.cls ∈ TBL := tb_z (tz_1 (List.mem_of_getElem? (i := 13) rfl)) rfl
theorem q_752 : Cond.instanceMethod yX8_takes ∈ TBL := tb_z (tz_6 (List.mem_of_getElem? (i := 83) rfl)) rfl
theorem q_753 : Cond.selects yX8_takes.cls yX8_takes yX8_takes ∈ TBL := tb_s 74 rfl rfl
theorem q_754 : Cond.constantLong RX8 241 (100 : Int64) ∈ TBL := tb_z (tz_6 (List.mem_of_getElem? (i := 76) rfl)) rfl
theorem q_755 : Cond.methodLink RX8 243 yX8_evaporates ∈ TBL := tb_z (tz_6 (List.mem_of_getElem? (i := 77) rfl)) rfl
theorem q_756 : Cond.code yX8_evaporates cX8_evaporates 7 none ∈ TBL := tb_z (tz_6 (List.mem_of_getElem? (i := 80) rfl)) rfl
theorem q_757 : Cond.initialized yX8_evaporates.cls ∈ TBL := tb_z (tz_1 (List.mem_of_getElem? (i := 13) rfl)) rfl
theorem q_758 : Cond.instanceMethod yX8_evaporates ∈ TBL := tb_z (tz_6 (List.mem_of_getElem? (i := 79) rfl)) rfl
theorem q_759 : Cond.selects yX8_evaporates.cls yX8_evaporates yX8_evaporates ∈ TBL := tb_s 73 rfl rfl
theorem q_760 : Cond.methodLink RX8 246 yX8_isLake ∈ TBL := tb_z (tz_6 (List.mem_of_getElem? (i := 101) rfl)) rfl
theorem q_761 : Cond.code yX8_isLake cX8_isLake 2 (some .boolean) ∈ TBL := tb_z (tz_6 (List.mem_of_getElem? (i := 104) rfl)) rfl
theorem q_762 : Cond.initialized yX8_isLake.cls ∈ TBL := tb_z (tz_1 (List.mem_of_getElem? (i := 13) rfl)) rfl
theorem q_763 : Cond.instanceMethod yX8_isLake ∈ TBL := tb_z (tz_6 (List.mem_of_getElem? (i := 103) rfl)) rfl
theorem q_764 : Cond.selects yX8_isLake.cls yX8_isLake yX8_isLake ∈ TBL := tb_s 78 rfl rfl
theorem q_765 : Cond.constantLong RX8 249 (3 : Int64) ∈ TBL := tb_z (tz_6 (List.mem_of_getElem? (i := 109) rfl)) rfl
theorem q_766 : Cond.methodLink RX8 251 yX8_balanceOf ∈ TBL := tb_z (tz_6 (List.mem_of_getElem? (i := 110) rfl)) rfl
theorem q_767 : Cond.code yX8_balanceOf cX8_balanceOf 2 (some .long) ∈ TBL := tb_z (tz_6 (List.mem_of_getElem? (i := 113) rfl)) rfl
theorem q_768 : Cond.initialized yX8_balanceOf.cls ∈ TBL := tb_z (tz_1 (List.mem_of_getElem? (i := 13) rfl)) rfl
theorem q_769 : Cond.instanceMethod yX8_balanceOf ∈ TBL := tb_z (tz_6 (List.mem_of_getElem? (i := 112) rfl)) rfl
theorem q_770 : Cond.selects yX8_balanceOf.cls yX8_balanceOf yX8_balanceOf ∈ TBL := tb_s 79 rfl rfl
theorem q_771 : Cond.methodLink RX8 257 yX8_basinsOf ∈ TBL := tb_z (tz_6 (List.mem_of_getElem? (i := 126) rfl)) rfl
theorem q_772 : Cond.code yX8_basinsOf cX8_basinsOf 7 (some .int) ∈ TBL := tb_z (tz_6 (List.mem_of_getElem? (i := 129) rfl)) rfl
theorem q_773 : Cond.initialized yX8_basinsOf.cls ∈ TBL := tb_z (tz_1 (List.mem_of_getElem? (i := 13) rfl)) rfl
theorem q_774 : Cond.instanceMethod yX8_basinsOf ∈ TBL := tb_z (tz_6 (List.mem_of_getElem? (i := 128) rfl)) rfl
theorem q_775 : Cond.selects yX8_basinsOf.cls yX8_basinsOf yX8_basinsOf ∈ TBL := tb_s 81 rfl rfl
theorem q_776 : Cond.methodLink RX8 254 yX8_bits ∈ TBL := tb_z (tz_6 (List.mem_of_getElem? (i := 123) rfl)) rfl
theorem q_777 : Cond.code yX8_bits cX8_bits 5 (some .int) ∈ TBL := tb_z (tz_6 (List.mem_of_getElem? (i := 125) rfl)) rfl
theorem q_778 : Cond.initialized yX8_bits.cls ∈ TBL := tb_z (tz_1 (List.mem_of_getElem? (i := 13) rfl)) rfl
theorem q_779 : Cond.static yX8_bits ∈ TBL := tb_z (tz_6 (List.mem_of_getElem? (i := 124) rfl)) rfl
theorem q_780 : Cond.constantLong RX8 260 (9 : Int64) ∈ TBL := tb_z (tz_6 (List.mem_of_getElem? (i := 118) rfl)) rfl
theorem q_781 : Cond.methodLink RX8 262 yX8_lakeValue ∈ TBL := tb_z (tz_6 (List.mem_of_getElem? (i := 119) rfl)) rfl
theorem q_782 : Cond.code yX8_lakeValue cX8_lakeValue 6 (some .int) ∈ TBL := tb_z (tz_6 (List.mem_of_getElem? (i := 122) rfl)) rfl
theorem q_783 : Cond.initialized yX8_lakeValue.cls ∈ TBL := tb_z (tz_1 (List.mem_of_getElem? (i := 13) rfl)) rfl
theorem q_784 : Cond.instanceMethod yX8_lakeValue ∈ TBL := tb_z (tz_6 (List.mem_of_getElem? (i := 121) rfl)) rfl
theorem q_785 : Cond.selects yX8_lakeValue.cls yX8_lakeValue yX8_lakeValue ∈ TBL := tb_s 80 rfl rfl
theorem q_786 : Cond.methodLink RX8 265 yX8_divisor ∈ TBL := tb_z (tz_6 (List.mem_of_getElem? (i := 142) rfl)) rfl
theorem q_787 : Cond.code yX8_divisor cX8_divisor 10 (some .long) ∈ TBL := tb_z (tz_6 (List.mem_of_getElem? (i := 144) rfl)) rfl
theorem q_788 : Cond.initialized yX8_divisor.cls ∈ TBL := tb_z (tz_1 (List.mem_of_getElem? (i := 13) rfl)) rfl
theorem q_789 : Cond.static yX8_divisor ∈ TBL := tb_z (tz_6 (List.mem_of_getElem? (i := 143) rfl)) rfl
theorem q_790 : Cond.methodLink RX8 269 yX8_levelPart ∈ TBL := tb_z (tz_6 (List.mem_of_getElem? (i := 138) rfl)) rfl
theorem q_791 : Cond.code yX8_levelPart cX8_levelPart 5 (some .int) ∈ TBL := tb_z (tz_6 (List.mem_of_getElem? (i := 141) rfl)) rfl
theorem q_792 : Cond.initialized yX8_levelPart.cls ∈ TBL := tb_z (tz_1 (List.mem_of_getElem? (i := 13) rfl)) rfl
theorem q_793 : Cond.instanceMethod yX8_levelPart ∈ TBL := tb_z (tz_6 (List.mem_of_getElem? (i := 140) rfl)) rfl
theorem q_794 : Cond.selects yX8_levelPart.cls yX8_levelPart yX8_levelPart ∈ TBL := tb_s 82 rfl rfl
theorem q_795 : Cond.methodLink RX8 272 yX8_lays ∈ TBL := tb_z (tz_6 (List.mem_of_getElem? (i := 166) rfl)) rfl
theorem q_796 : Cond.code yX8_lays cX8_lays 2 none ∈ TBL := tb_z (tz_6 (List.mem_of_getElem? (i := 169) rfl)) rfl
theorem q_797 : Cond.initialized yX8_lays.cls ∈ TBL := tb_z (tz_1 (List.mem_of_getElem? (i := 13) rfl)) rfl
theorem q_798 : Cond.instanceMethod yX8_lays ∈ TBL := tb_z (tz_6 (List.mem_of_getElem? (i := 168) rfl)) rfl
theorem q_799 : Cond.selects yX8_lays.cls yX8_lays yX8_lays ∈ TBL := tb_s 84 rfl rfl
theorem q_800 : Cond.methodLink RX8 275 yX8_takesBack ∈ TBL := tb_z (tz_6 (List.mem_of_getElem? (i := 170) rfl)) rfl
theorem q_801 : Cond.code yX8_takesBack cX8_takesBack 2 none ∈ TBL := tb_z (tz_6 (List.mem_of_getElem? (i := 173) rfl)) rfl
theorem q_802 : Cond.initialized yX8_takesBack.cls ∈ TBL := tb_z (tz_1 (List.mem_of_getElem? (i := 13) rfl)) rfl
theorem q_803 : Cond.instanceMethod yX8_takesBack ∈ TBL := tb_z (tz_6 (List.mem_of_getElem? (i := 172) rfl)) rfl
theorem q_804 : Cond.selects yX8_takesBack.cls yX8_takesBack yX8_takesBack ∈ TBL := tb_s 85 rfl rfl
theorem q_805 : Cond.constant RX8 278 (100000 : Int32) ∈ TBL := tb_z (tz_6 (List.mem_of_getElem? (i := 161) rfl)) rfl
theorem q_806 : Cond.methodLink RX8 279 yX8_wets ∈ TBL := tb_z (tz_6 (List.mem_of_getElem? (i := 162) rfl)) rfl
theorem q_807 : Cond.code yX8_wets cX8_wets 5 (some .boolean) ∈ TBL := tb_z (tz_6 (List.mem_of_getElem? (i := 165) rfl)) rfl
theorem q_808 : Cond.initialized yX8_wets.cls ∈ TBL := tb_z (tz_1 (List.mem_of_getElem? (i := 13) rfl)) rfl
theorem q_809 : Cond.instanceMethod yX8_wets ∈ TBL := tb_z (tz_6 (List.mem_of_getElem? (i := 164) rfl)) rfl
theorem q_810 : Cond.selects yX8_wets.cls yX8_wets yX8_wets ∈ TBL := tb_s 83 rfl rfl
theorem q_811 : Cond.methodLink RX8 283 yX8_lakesAfter ∈ TBL := tb_z (tz_6 (List.mem_of_getElem? (i := 178) rfl)) rfl
theorem q_812 : Cond.code yX8_lakesAfter cX8_lakesAfter 3 (some .int) ∈ TBL := tb_z (tz_6 (List.mem_of_getElem? (i := 181) rfl)) rfl
theorem q_813 : Cond.initialized yX8_lakesAfter.cls ∈ TBL := tb_z (tz_1 (List.mem_of_getElem? (i := 13) rfl)) rfl
theorem q_814 : Cond.instanceMethod yX8_lakesAfter ∈ TBL := tb_z (tz_6 (List.mem_of_getElem? (i := 180) rfl)) rfl
theorem q_815 : Cond.selects yX8_lakesAfter.cls yX8_lakesAfter yX8_lakesAfter ∈ TBL := tb_s 86 rfl rfl
theorem q_816 : Cond.constantLong RX8 286 (127 : Int64) ∈ TBL := tb_z (tz_6 (List.mem_of_getElem? (i := 190) rfl)) rfl
theorem q_817 : Cond.fieldLink RX8 288 (TX8 21).1 (TX8 21).2.1 (TX8 21).2.2.1 ∈ TBL := tb_z (tz_5 (List.mem_of_getElem? (i := 107) rfl)) rfl
theorem q_818 : Cond.fieldLink RX8 44 (TX8 20).1 (TX8 20).2.1 (TX8 20).2.2.1 ∈ TBL := tb_z (tz_5 (List.mem_of_getElem? (i := 106) rfl)) rfl
theorem q_819 : Cond.fieldLink RX8 291 (TX8 22).1 (TX8 22).2.1 (TX8 22).2.2.1 ∈ TBL := tb_z (tz_5 (List.mem_of_getElem? (i := 108) rfl)) rfl
theorem q_820 : Cond.constantLong RX8 294 (48 : Int64) ∈ TBL := tb_z (tz_6 (List.mem_of_getElem? (i := 225) rfl)) rfl
theorem q_821 : Cond.constantLong RX8 296 (57 : Int64) ∈ TBL := tb_z (tz_6 (List.mem_of_getElem? (i := 226) rfl)) rfl
theorem q_822 : Cond.constantLong RX8 298 (49 : Int64) ∈ TBL := tb_z (tz_6 (List.mem_of_getElem? (i := 207) rfl)) rfl
theorem q_823 : Cond.constantLong RX8 300 (54 : Int64) ∈ TBL := tb_z (tz_6 (List.mem_of_getElem? (i := 208) rfl)) rfl
theorem q_824 : Cond.fieldLink RX8 302 (TX8 23).1 (TX8 23).2.1 (TX8 23).2.2.1 ∈ TBL := tb_z (tz_5 (List.mem_of_getElem? (i := 109) rfl)) rfl
theorem q_825 : Cond.methodLink RX8 305 yX8_isFigure ∈ TBL := tb_z (tz_6 (List.mem_of_getElem? (i := 221) rfl)) rfl
theorem q_826 : Cond.code yX8_isFigure cX8_isFigure 1 (some .boolean) ∈ TBL := tb_z (tz_6 (List.mem_of_getElem? (i := 224) rfl)) rfl
theorem q_827 : Cond.initialized yX8_isFigure.cls ∈ TBL := tb_z (tz_1 (List.mem_of_getElem? (i := 13) rfl)) rfl
theorem q_828 : Cond.instanceMethod yX8_isFigure ∈ TBL := tb_z (tz_6 (List.mem_of_getElem? (i := 223) rfl)) rfl
theorem q_829 : Cond.selects yX8_isFigure.cls yX8_isFigure yX8_isFigure ∈ TBL := tb_s 92 rfl rfl
theorem q_830 : Cond.methodLink RX8 309 yX8_readsNumber ∈ TBL := tb_z (tz_6 (List.mem_of_getElem? (i := 217) rfl)) rfl
theorem q_831 : Cond.code yX8_readsNumber cX8_readsNumber 2 (some .boolean) ∈ TBL := tb_z (tz_6 (List.mem_of_getElem? (i := 220) rfl)) rfl
theorem q_832 : Cond.initialized yX8_readsNumber.cls ∈ TBL := tb_z (tz_1 (List.mem_of_getElem? (i := 13) rfl)) rfl
theorem q_833 : Cond.instanceMethod yX8_readsNumber ∈ TBL := tb_z (tz_6 (List.mem_of_getElem? (i := 219) rfl)) rfl
theorem q_834 : Cond.selects yX8_readsNumber.cls yX8_readsNumber yX8_readsNumber ∈ TBL := tb_s 91 rfl rfl
theorem q_835 : Cond.methodLink RX8 312 yX8_readsCell ∈ TBL := tb_z (tz_6 (List.mem_of_getElem? (i := 231) rfl)) rfl
theorem q_836 : Cond.code yX8_readsCell cX8_readsCell 4 (some .boolean) ∈ TBL := tb_z (tz_6 (List.mem_of_getElem? (i := 234) rfl)) rfl
theorem q_837 : Cond.initialized yX8_readsCell.cls ∈ TBL := tb_z (tz_1 (List.mem_of_getElem? (i := 13) rfl)) rfl
theorem q_838 : Cond.instanceMethod yX8_readsCell ∈ TBL := tb_z (tz_6 (List.mem_of_getElem? (i := 233) rfl)) rfl
theorem q_839 : Cond.selects yX8_readsCell.cls yX8_readsCell yX8_readsCell ∈ TBL := tb_s 94 rfl rfl
theorem q_840 : Cond.methodLink RX8 315 yX8_passes ∈ TBL := tb_z (tz_6 (List.mem_of_getElem? (i := 209) rfl)) rfl
theorem q_841 : Cond.code yX8_passes cX8_passes 3 (some .boolean) ∈ TBL := tb_z (tz_6 (List.mem_of_getElem? (i := 212) rfl)) rfl
theorem q_842 : Cond.initialized yX8_passes.cls ∈ TBL := tb_z (tz_1 (List.mem_of_getElem? (i := 13) rfl)) rfl
theorem q_843 : Cond.instanceMethod yX8_passes ∈ TBL := tb_z (tz_6 (List.mem_of_getElem? (i := 211) rfl)) rfl
theorem q_844 : Cond.selects yX8_passes.cls yX8_passes yX8_passes ∈ TBL := tb_s 89 rfl rfl
theorem q_845 : Cond.methodLink RX8 318 yX8_readsSize ∈ TBL := tb_z (tz_6 (List.mem_of_getElem? (i := 203) rfl)) rfl
theorem q_846 : Cond.code yX8_readsSize cX8_readsSize 2 (some .boolean) ∈ TBL := tb_z (tz_6 (List.mem_of_getElem? (i := 206) rfl)) rfl
theorem q_847 : Cond.initialized yX8_readsSize.cls ∈ TBL := tb_z (tz_1 (List.mem_of_getElem? (i := 13) rfl)) rfl
theorem q_848 : Cond.instanceMethod yX8_readsSize ∈ TBL := tb_z (tz_6 (List.mem_of_getElem? (i := 205) rfl)) rfl
theorem q_849 : Cond.selects yX8_readsSize.cls yX8_readsSize yX8_readsSize ∈ TBL := tb_s 88 rfl rfl
theorem q_850 : Cond.methodLink RX8 321 yX8_readsHeights ∈ TBL := tb_z (tz_6 (List.mem_of_getElem? (i := 213) rfl)) rfl
theorem q_851 : Cond.code yX8_readsHeights cX8_readsHeights 2 (some .boolean) ∈ TBL := tb_z (tz_6 (List.mem_of_getElem? (i := 216) rfl)) rfl
theorem q_852 : Cond.initialized yX8_readsHeights.cls ∈ TBL := tb_z (tz_1 (List.mem_of_getElem? (i := 13) rfl)) rfl
theorem q_853 : Cond.instanceMethod yX8_readsHeights ∈ TBL := tb_z (tz_6 (List.mem_of_getElem? (i := 215) rfl)) rfl
theorem q_854 : Cond.selects yX8_readsHeights.cls yX8_readsHeights yX8_readsHeights ∈ TBL := tb_s 90 rfl rfl
theorem q_855 : Cond.methodLink RX8 324 yX8_readsDrain ∈ TBL := tb_z (tz_6 (List.mem_of_getElem? (i := 227) rfl)) rfl
theorem q_856 : Cond.code yX8_readsDrain cX8_readsDrain 2 (some .boolean) ∈ TBL := tb_z (tz_6 (List.mem_of_getElem? (i := 230) rfl)) rfl
theorem q_857 : Cond.initialized yX8_readsDrain.cls ∈ TBL := tb_z (tz_1 (List.mem_of_getElem? (i := 13) rfl)) rfl
theorem q_858 : Cond.instanceMethod yX8_readsDrain ∈ TBL := tb_z (tz_6 (List.mem_of_getElem? (i := 229) rfl)) rfl
theorem q_859 : Cond.selects yX8_readsDrain.cls yX8_readsDrain yX8_readsDrain ∈ TBL := tb_s 93 rfl rfl
theorem q_860 : Cond.methodLink RX8 327 yX8_readsGate ∈ TBL := tb_z (tz_6 (List.mem_of_getElem? (i := 235) rfl)) rfl
theorem q_861 : Cond.code yX8_readsGate cX8_readsGate 3 (some .boolean) ∈ TBL := tb_z (tz_6 (List.mem_of_getElem? (i := 238) rfl)) rfl
theorem q_862 : Cond.initialized yX8_readsGate.cls ∈ TBL := tb_z (tz_1 (List.mem_of_getElem? (i := 13) rfl)) rfl
theorem q_863 : Cond.instanceMethod yX8_readsGate ∈ TBL := tb_z (tz_6 (List.mem_of_getElem? (i := 237) rfl)) rfl
theorem q_864 : Cond.selects yX8_readsGate.cls yX8_readsGate yX8_readsGate ∈ TBL := tb_s 95 rfl rfl
theorem q_865 : Cond.methodLink RX8 330 yX8_reads ∈ TBL := tb_z (tz_6 (List.mem_of_getElem? (i := 199) rfl)) rfl
theorem q_866 : Cond.code yX8_reads cX8_reads 3 (some .boolean) ∈ TBL := tb_z (tz_6 (List.mem_of_getElem? (i := 202) rfl)) rfl
theorem q_867 : Cond.initialized yX8_reads.cls ∈ TBL := tb_z (tz_1 (List.mem_of_getElem? (i := 13) rfl)) rfl
theorem q_868 : Cond.instanceMethod yX8_reads ∈ TBL := tb_z (tz_6 (List.mem_of_getElem? (i := 201) rfl)) rfl
theorem q_869 : Cond.selects yX8_reads.cls yX8_reads yX8_reads ∈ TBL := tb_s 87 rfl rfl
theorem q_870 : Cond.constantLong RX8 333 (31 : Int64) ∈ TBL := tb_z (tz_7 (List.mem_of_getElem? (i := 11) rfl)) rfl
theorem q_871 : Cond.constantLong RX8 335 (3049 : Int64) ∈ TBL := tb_z (tz_7 (List.mem_of_getElem? (i := 7) rfl)) rfl
theorem q_872 : Cond.methodLink RX8 337 yX8_sums ∈ TBL := tb_z (tz_7 (List.mem_of_getElem? (i := 8) rfl)) rfl
theorem q_873 : Cond.code yX8_sums cX8_sums 4 (some .long) ∈ TBL := tb_z (tz_7 (List.mem_of_getElem? (i := 10) rfl)) rfl
theorem q_874 : Cond.initialized yX8_sums.cls ∈ TBL := tb_z (tz_1 (List.mem_of_getElem? (i := 13) rfl)) rfl
theorem q_875 : Cond.static yX8_sums ∈ TBL := tb_z (tz_7 (List.mem_of_getElem? (i := 9) rfl)) rfl
theorem q_876 : Cond.constantLong RX0 78 (1103515245 : Int64) ∈ TBL := tb_z (tz_4 (List.mem_of_getElem? (i := 84) rfl)) rfl
theorem q_877 : Cond.constantLong RX0 80 (12345 : Int64) ∈ TBL := tb_z (tz_4 (List.mem_of_getElem? (i := 85) rfl)) rfl
theorem q_878 : Cond.constantLong RX0 82 (2147483648 : Int64) ∈ TBL := tb_z (tz_4 (List.mem_of_getElem? (i := 86) rfl)) rfl
theorem q_879 : Cond.constantLong RX0 84 (65536 : Int64) ∈ TBL := tb_z (tz_4 (List.mem_of_getElem? (i := 87) rfl)) rfl
theorem q_880 : Cond.fieldLink RX1 48 (TX1 9).1 (TX1 9).2.1 (TX1 9).2.2.1 ∈ TBL := tb_z (tz_1 (List.mem_of_getElem? (i := 169) rfl)) rfl
theorem q_881 : Cond.fieldLink RX1 51 (TX1 10).1 (TX1 10).2.1 (TX1 10).2.2.1 ∈ TBL := tb_z (tz_1 (List.mem_of_getElem? (i := 170) rfl)) rfl
theorem q_882 : Cond.methodLink RX1 149 yX1_partLake ∈ TBL := tb_z (tz_4 (List.mem_of_getElem? (i := 168) rfl)) rfl
theorem q_883 : Cond.code yX1_partLake cX1_partLake 4 none ∈ TBL := tb_z (tz_4 (List.mem_of_getElem? (i := 171) rfl)) rfl
theorem q_884 : Cond.initialized yX1_partLake.cls ∈ TBL := tb_z (tz_1 (List.mem_of_getElem? (i := 8) rfl)) rfl
theorem q_885 : Cond.instanceMethod yX1_partLake ∈ TBL := tb_z (tz_4 (List.mem_of_getElem? (i := 170) rfl)) rfl
theorem q_886 : Cond.selects yX1_partLake.cls yX1_partLake yX1_partLake ∈ TBL := tb_s 36 rfl rfl
theorem q_887 : Cond.methodLink RX6 77 yX1_total ∈ TBL := tb_z (tz_4 (List.mem_of_getElem? (i := 41) rfl)) rfl
theorem q_888 : Cond.fieldLink RX6 81 (TX6 8).1 (TX6 8).2.1 (TX6 8).2.2.1 ∈ TBL := tb_z (tz_1 (List.mem_of_getElem? (i := 210) rfl)) rfl
theorem q_889 : Cond.methodLink RX6 85 yX1_placeOf ∈ TBL := tb_z (tz_4 (List.mem_of_getElem? (i := 42) rfl)) rfl
theorem q_890 : Cond.fieldLink RX6 37 (TX6 6).1 (TX6 6).2.1 (TX6 6).2.2.1 ∈ TBL := tb_z (tz_1 (List.mem_of_getElem? (i := 208) rfl)) rfl
theorem q_891 : Cond.methodLink RX6 89 yX1_lowestPlace ∈ TBL := tb_z (tz_4 (List.mem_of_getElem? (i := 43) rfl)) rfl
theorem q_892 : Cond.methodLink RX6 93 yX3_put ∈ TBL := tb_z (tz_4 (List.mem_of_getElem? (i := 44) rfl)) rfl
theorem q_893 : Cond.fieldLink RX6 41 (TX6 7).1 (TX6 7).2.1 (TX6 7).2.2.1 ∈ TBL := tb_z (tz_1 (List.mem_of_getElem? (i := 209) rfl)) rfl
theorem q_894 : Cond.fieldLinkNest RX6 97 (TX1 1).1 (TX1 1).2.1 (TX1 1).2.2.1 "LakeLevels" ∈ NST := tb_n (tz_1 (List.mem_of_getElem? (i := 154) rfl)) rfl
theorem q_895 : Cond.methodLink RX6 124 yJ13_bitCount_95d88 ∈ TBL := tb_z (tz_4 (List.mem_of_getElem? (i := 162) rfl)) rfl
theorem q_896 : Cond.methodLink RX6 130 Lib.Math.min.name ∈ TBL := tb_z (tz_4 (List.mem_of_getElem? (i := 163) rfl)) rfl
theorem q_897 : Cond.methodLink RX6 135 yX1_draw ∈ TBL := tb_z (tz_4 (List.mem_of_getElem? (i := 164) rfl)) rfl
theorem q_898 : Cond.code yX1_draw cX1_draw 9 none ∈ TBL := tb_z (tz_4 (List.mem_of_getElem? (i := 167) rfl)) rfl
theorem q_899 : Cond.initialized yX1_draw.cls ∈ TBL := tb_z (tz_1 (List.mem_of_getElem? (i := 8) rfl)) rfl
theorem q_900 : Cond.instanceMethod yX1_draw ∈ TBL := tb_z (tz_4 (List.mem_of_getElem? (i := 165) rfl)) rfl
theorem q_901 : Cond.selects yX1_draw.cls yX1_draw yX1_draw ∈ TBL := tb_z (tz_4 (List.mem_of_getElem? (i := 166) rfl)) rfl
theorem q_902 : Cond.methodLink RX6 117 yX6_dryOnce ∈ TBL := tb_z (tz_4 (List.mem_of_getElem? (i := 158) rfl)) rfl
theorem q_903 : Cond.code yX6_dryOnce cX6_dryOnce 5 (some .int) ∈ TBL := tb_z (tz_4 (List.mem_of_getElem? (i := 161) rfl)) rfl
theorem q_904 : Cond.initialized yX6_dryOnce.cls ∈ TBL := tb_z (tz_1 (List.mem_of_getElem? (i := 2) rfl)) rfl
theorem q_905 : Cond.instanceMethod yX6_dryOnce ∈ TBL := tb_z (tz_4 (List.mem_of_getElem? (i := 160) rfl)) rfl
theorem q_906 : Cond.selects yX6_dryOnce.cls yX6_dryOnce yX6_dryOnce ∈ TBL := tb_s 35 rfl rfl
theorem q_907 : u_lay RX0 TX0 0 ∈ TBL := tb_z (tz_1 (List.mem_of_getElem? (i := 84) rfl)) rfl
theorem q_908 : u_lay RX0 TX0 1 ∈ TBL := tb_z (tz_1 (List.mem_of_getElem? (i := 86) rfl)) rfl
theorem q_909 : u_lay RX0 TX0 2 ∈ TBL := tb_z (tz_1 (List.mem_of_getElem? (i := 88) rfl)) rfl
theorem q_910 : u_lay RX0 TX0 3 ∈ TBL := tb_z (tz_1 (List.mem_of_getElem? (i := 90) rfl)) rfl
theorem q_911 : u_lay RX0 TX0 4 ∈ TBL := tb_z (tz_1 (List.mem_of_getElem? (i := 92) rfl)) rfl
theorem q_912 : u_lay RX0 TX0 5 ∈ TBL := tb_z (tz_1 (List.mem_of_getElem? (i := 94) rfl)) rfl
theorem q_913 : u_lay RX0 TX0 6 ∈ TBL := tb_z (tz_1 (List.mem_of_getElem? (i := 96) rfl)) rfl
theorem q_914 : u_lay RX0 TX0 7 ∈ TBL := tb_z (tz_1 (List.mem_of_getElem? (i := 98) rfl)) rfl
theorem q_915 : u_lay RX0 TX0 8 ∈ TBL := tb_z (tz_1 (List.mem_of_getElem? (i := 100) rfl)) rfl
theorem q_916 : u_lay RX1 TX1 0 ∈ TBL := tb_z (tz_1 (List.mem_of_getElem? (i := 171) rfl)) rfl
theorem q_917 : u_lay RX1 TX1 1 ∈ TBL := tb_z (tz_1 (List.mem_of_getElem? (i := 173) rfl)) rfl
theorem q_918 : u_lay RX1 TX1 2 ∈ TBL := tb_z (tz_1 (List.mem_of_getElem? (i := 175) rfl)) rfl
theorem q_919 : u_lay RX1 TX1 3 ∈ TBL := tb_z (tz_1 (List.mem_of_getElem? (i := 177) rfl)) rfl
theorem q_920 : u_lay RX1 TX1 4 ∈ TBL := tb_z (tz_1 (List.mem_of_getElem? (i := 179) rfl)) rfl
theorem q_921 : u_lay RX1 TX1 5 ∈ TBL := tb_z (tz_1 (List.mem_of_getElem? (i := 181) rfl)) rfl
theorem q_922 : u_lay RX1 TX1 6 ∈ TBL := tb_z (tz_1 (List.mem_of_getElem? (i := 183) rfl)) rfl
theorem q_923 : u_lay RX1 TX1 7 ∈ TBL := tb_z (tz_1 (List.mem_of_getElem? (i := 185) rfl)) rfl
theorem q_924 : u_lay RX1 TX1 8 ∈ TBL := tb_z (tz_1 (List.mem_of_getElem? (i := 187) rfl)) rfl
theorem q_925 : u_lay RX1 TX1 9 ∈ TBL := tb_z (tz_1 (List.mem_of_getElem? (i := 189) rfl)) rfl
theorem q_926 : u_lay RX1 TX1 10 ∈ TBL := tb_z (tz_1 (List.mem_of_getElem? (i := 191) rfl)) rfl
theorem q_927 : u_lay RX2 TX2 0 ∈ TBL := tb_z (tz_2 (List.mem_of_getElem? (i := 4) rfl)) rfl
theorem q_928 : u_lay RX2 TX2 1 ∈ TBL := tb_z (tz_2 (List.mem_of_getElem? (i := 6) rfl)) rfl
theorem q_929 : u_lay RX2 TX2 2 ∈ TBL := tb_z (tz_2 (List.mem_of_getElem? (i := 8) rfl)) rfl
theorem q_930 : u_lay RX2 TX2 3 ∈ TBL := tb_z (tz_2 (List.mem_of_getElem? (i := 10) rfl)) rfl
theorem q_931 : u_lay RX3 TX3 0 ∈ TBL := tb_z (tz_1 (List.mem_of_getElem? (i := 50) rfl)) rfl
theorem q_932 : u_lay RX4 TX4 0 ∈ TBL := tb_z (tz_1 (List.mem_of_getElem? (i := 117) rfl)) rfl
theorem q_933 : u_lay RX5 TX5 0 ∈ TBL := tb_z (tz_1 (List.mem_of_getElem? (i := 132) rfl)) rfl
theorem q_934 : u_lay RX5 TX5 1 ∈ TBL := tb_z (tz_1 (List.mem_of_getElem? (i := 134) rfl)) rfl
theorem q_935 : u_lay RX5 TX5 2 ∈ TBL := tb_z (tz_1 (List.mem_of_getElem? (i := 136) rfl)) rfl
theorem q_936 : u_lay RX5 TX5 3 ∈ TBL := tb_z (tz_1 (List.mem_of_getElem? (i := 138) rfl)) rfl
theorem q_937 : u_lay RX6 TX6 0 ∈ TBL := tb_z (tz_1 (List.mem_of_getElem? (i := 211) rfl)) rfl
theorem q_938 : u_lay RX6 TX6 1 ∈ TBL := tb_z (tz_1 (List.mem_of_getElem? (i := 213) rfl)) rfl
theorem q_939 : u_lay RX6 TX6 2 ∈ TBL := tb_z (tz_1 (List.mem_of_getElem? (i := 215) rfl)) rfl
theorem q_940 : u_lay RX6 TX6 3 ∈ TBL := tb_z (tz_1 (List.mem_of_getElem? (i := 217) rfl)) rfl
theorem q_941 : u_lay RX6 TX6 4 ∈ TBL := tb_z (tz_1 (List.mem_of_getElem? (i := 219) rfl)) rfl
theorem q_942 : u_lay RX6 TX6 5 ∈ TBL := tb_z (tz_1 (List.mem_of_getElem? (i := 221) rfl)) rfl
theorem q_943 : u_lay RX6 TX6 6 ∈ TBL := tb_z (tz_1 (List.mem_of_getElem? (i := 223) rfl)) rfl
theorem q_944 : u_lay RX6 TX6 7 ∈ TBL := tb_z (tz_1 (List.mem_of_getElem? (i := 225) rfl)) rfl
theorem q_945 : u_lay RX6 TX6 8 ∈ TBL := tb_z (tz_1 (List.mem_of_getElem? (i := 227) rfl)) rfl
theorem q_946 : u_lay RX7 TX7 0 ∈ TBL := tb_z (tz_2 (List.mem_of_getElem? (i := 143) rfl)) rfl
theorem q_947 : u_lay RX7 TX7 1 ∈ TBL := tb_z (tz_2 (List.mem_of_getElem? (i := 145) rfl)) rfl
theorem q_948 : u_lay RX7 TX7 2 ∈ TBL := tb_z (tz_2 (List.mem_of_getElem? (i := 147) rfl)) rfl
theorem q_949 : u_lay RX7 TX7 3 ∈ TBL := tb_z (tz_2 (List.mem_of_getElem? (i := 149) rfl)) rfl
theorem q_950 : u_lay RX7 TX7 4 ∈ TBL := tb_z (tz_2 (List.mem_of_getElem? (i := 151) rfl)) rfl
theorem q_951 : u_lay RX7 TX7 5 ∈ TBL := tb_z (tz_2 (List.mem_of_getElem? (i := 153) rfl)) rfl
theorem q_952 : u_lay RX8 TX8 0 ∈ TBL := tb_z (tz_5 (List.mem_of_getElem? (i := 111) rfl)) rfl
theorem q_953 : u_lay RX8 TX8 1 ∈ TBL := tb_z (tz_5 (List.mem_of_getElem? (i := 113) rfl)) rfl
theorem q_954 : u_lay RX8 TX8 2 ∈ TBL := tb_z (tz_5 (List.mem_of_getElem? (i := 115) rfl)) rfl
theorem q_955 : u_lay RX8 TX8 3 ∈ TBL := tb_z (tz_5 (List.mem_of_getElem? (i := 117) rfl)) rfl
theorem q_956 : u_lay RX8 TX8 4 ∈ TBL := tb_z (tz_5 (List.mem_of_getElem? (i := 119) rfl)) rfl
theorem q_957 : u_lay RX8 TX8 5 ∈ TBL := tb_z (tz_5 (List.mem_of_getElem? (i := 121) rfl)) rfl
theorem q_958 : u_lay RX8 TX8 6 ∈ TBL := tb_z (tz_5 (List.mem_of_getElem? (i := 123) rfl)) rfl
theorem q_959 : u_lay RX8 TX8 7 ∈ TBL := tb_z (tz_5 (List.mem_of_getElem? (i := 125) rfl)) rfl
theorem q_960 : u_lay RX8 TX8 8 ∈ TBL := tb_z (tz_5 (List.mem_of_getElem? (i := 127) rfl)) rfl
theorem q_961 : u_lay RX8 TX8 9 ∈ TBL := tb_z (tz_5 (List.mem_of_getElem? (i := 129) rfl)) rfl
theorem q_962 : u_lay RX8 TX8 10 ∈ TBL := tb_z (tz_5 (List.mem_of_getElem? (i := 131) rfl)) rfl
theorem q_963 : u_lay RX8 TX8 11 ∈ TBL := tb_z (tz_5 (List.mem_of_getElem? (i := 133) rfl)) rfl
theorem q_964 : u_lay RX8 TX8 12 ∈ TBL := tb_z (tz_5 (List.mem_of_getElem? (i := 135) rfl)) rfl
theorem q_965 : u_lay RX8 TX8 13 ∈ TBL := tb_z (tz_5 (List.mem_of_getElem? (i := 137) rfl)) rfl
theorem q_966 : u_lay RX8 TX8 14 ∈ TBL := tb_z (tz_5 (List.mem_of_getElem? (i := 139) rfl)) rfl
theorem q_967 : u_lay RX8 TX8 15 ∈ TBL := tb_z (tz_5 (List.mem_of_getElem? (i := 141) rfl)) rfl
theorem q_968 : u_lay RX8 TX8 16 ∈ TBL := tb_z (tz_5 (List.mem_of_getElem? (i := 143) rfl)) rfl
theorem q_969 : u_lay RX8 TX8 17 ∈ TBL := tb_z (tz_5 (List.mem_of_getElem? (i := 145) rfl)) rfl
theorem q_970 : u_lay RX8 TX8 18 ∈ TBL := tb_z (tz_5 (List.mem_of_getElem? (i := 147) rfl)) rfl
theorem q_971 : u_lay RX8 TX8 19 ∈ TBL := tb_z (tz_5 (List.mem_of_getElem? (i := 149) rfl)) rfl
theorem q_972 : u_lay RX8 TX8 20 ∈ TBL := tb_z (tz_5 (List.mem_of_getElem? (i := 151) rfl)) rfl
theorem q_973 : u_lay RX8 TX8 21 ∈ TBL := tb_z (tz_5 (List.mem_of_getElem? (i := 153) rfl)) rfl
theorem q_974 : u_lay RX8 TX8 22 ∈ TBL := tb_z (tz_5 (List.mem_of_getElem? (i := 155) rfl)) rfl
theorem q_975 : u_lay RX8 TX8 23 ∈ TBL := tb_z (tz_5 (List.mem_of_getElem? (i := 157) rfl)) rfl
theorem q_976 : u_lay RX8 TX8 24 ∈ TBL := tb_z (tz_5 (List.mem_of_getElem? (i := 159) rfl)) rfl
