/-! words of the tables -/
theorem q_0 : Cond.fieldLink RX3 15 (TX3 0).1 (TX3 0).2.1 (TX3 0).2.2.1 ∈ TBL := tb_z (tz_1 (List.mem_of_getElem? (i := 48) rfl)) rfl
theorem q_1 : Cond.fieldLink RX4 13 (TX4 0).1 (TX4 0).2.1 (TX4 0).2.2.1 ∈ TBL := tb_z (tz_1 (List.mem_of_getElem? (i := 114) rfl)) rfl
theorem q_2 : Cond.methodLink RX3 21 yJ7_fill_53178 ∈ TBL := tb_z (tz_2 (List.mem_of_getElem? (i := 19) rfl)) rfl
theorem q_3 : Cond.code yJ7_fill_53178 cJ7_fill_53178 4 none ∈ TBL := tb_z (tz_2 (List.mem_of_getElem? (i := 21) rfl)) rfl
theorem q_4 : Cond.initialized yJ7_fill_53178.cls ∈ TBL := tb_z (tz_1 (List.mem_of_getElem? (i := 10) rfl)) rfl
theorem q_5 : Cond.static yJ7_fill_53178 ∈ TBL := tb_z (tz_2 (List.mem_of_getElem? (i := 20) rfl)) rfl
theorem q_6 : Cond.methodLink RX4 19 yJ7_fill_d0a16 ∈ TBL := tb_z (tz_2 (List.mem_of_getElem? (i := 55) rfl)) rfl
theorem q_7 : Cond.code yJ7_fill_d0a16 cJ7_fill_d0a16 5 none ∈ TBL := tb_z (tz_2 (List.mem_of_getElem? (i := 57) rfl)) rfl
theorem q_8 : Cond.initialized yJ7_fill_d0a16.cls ∈ TBL := tb_z (tz_1 (List.mem_of_getElem? (i := 10) rfl)) rfl
theorem q_9 : Cond.static yJ7_fill_d0a16 ∈ TBL := tb_z (tz_2 (List.mem_of_getElem? (i := 56) rfl)) rfl
theorem q_10 : Cond.methodLink RX3 27 Lib.Math.min.name ∈ TBL := tb_z (tz_2 (List.mem_of_getElem? (i := 115) rfl)) rfl
theorem q_11 : Cond.static Lib.Math.min.name ∈ TBL := tb_z (tz_2 (List.mem_of_getElem? (i := 116) rfl)) rfl
theorem q_12 : Cond.initialized "java/lang/Math" ∈ TBL := tb_z (tz_1 (List.mem_of_getElem? (i := 5) rfl)) rfl
theorem q_13 : Cond.code Lib.Math.min.name Lib.Math.min.code 2 (some .int) ∈ TBL := tb_z (tz_2 (List.mem_of_getElem? (i := 117) rfl)) rfl
theorem q_14 : Cond.methodLink RX3 30 arraycopyName ∈ TBL := tb_z (tz_2 (List.mem_of_getElem? (i := 118) rfl)) rfl
theorem q_15 : Cond.native arraycopyName ∈ TBL := tb_z (tz_2 (List.mem_of_getElem? (i := 120) rfl)) rfl
theorem q_16 : Cond.static arraycopyName ∈ TBL := tb_z (tz_2 (List.mem_of_getElem? (i := 119) rfl)) rfl
theorem q_17 : Cond.initialized "java/lang/System" ∈ TBL := tb_z (tz_1 (List.mem_of_getElem? (i := 12) rfl)) rfl
theorem q_18 : Cond.methodLink RX4 25 Lib.Math.min.name ∈ TBL := tb_z (tz_3 (List.mem_of_getElem? (i := 39) rfl)) rfl
theorem q_19 : Cond.methodLink RX4 28 arraycopyName ∈ TBL := tb_z (tz_3 (List.mem_of_getElem? (i := 40) rfl)) rfl
theorem q_20 : Cond.constantLong RJ13 314 (6148914691236517205 : Int64) ∈ TBL := tb_z (tz_2 (List.mem_of_getElem? (i := 74) rfl)) rfl
theorem q_21 : Cond.constantLong RJ13 316 (3689348814741910323 : Int64) ∈ TBL := tb_z (tz_2 (List.mem_of_getElem? (i := 75) rfl)) rfl
theorem q_22 : Cond.constantLong RJ13 318 (1085102592571150095 : Int64) ∈ TBL := tb_z (tz_2 (List.mem_of_getElem? (i := 76) rfl)) rfl
theorem q_23 : Cond.fieldLink RX1 14 (TX1 0).1 (TX1 0).2.1 (TX1 0).2.2.1 ∈ TBL := tb_z (tz_1 (List.mem_of_getElem? (i := 149) rfl)) rfl
theorem q_24 : Cond.methodLink RX1 79 yX4_at ∈ TBL := tb_z (tz_2 (List.mem_of_getElem? (i := 122) rfl)) rfl
theorem q_25 : Cond.code yX4_at cX4_at 2 (some .long) ∈ TBL := tb_z (tz_2 (List.mem_of_getElem? (i := 61) rfl)) rfl
theorem q_26 : Cond.initialized yX4_at.cls ∈ TBL := tb_z (tz_1 (List.mem_of_getElem? (i := 7) rfl)) rfl
theorem q_27 : Cond.instanceMethod yX4_at ∈ TBL := tb_z (tz_2 (List.mem_of_getElem? (i := 59) rfl)) rfl
theorem q_28 : Cond.selects yX4_at.cls yX4_at yX4_at ∈ TBL := tb_z (tz_2 (List.mem_of_getElem? (i := 60) rfl)) rfl
theorem q_29 : Cond.fieldLinkNest RX1 70 (TX0 2).1 (TX0 2).2.1 (TX0 2).2.2.1 "LakeLevels" ∈ NST := tb_n (tz_1 (List.mem_of_getElem? (i := 60) rfl)) rfl
theorem q_30 : Cond.fieldLinkNest RX1 126 (TX0 8).1 (TX0 8).2.1 (TX0 8).2.2.1 "LakeLevels" ∈ NST := tb_n (tz_1 (List.mem_of_getElem? (i := 81) rfl)) rfl
theorem q_31 : Cond.methodLink RX1 75 yX3_at ∈ TBL := tb_z (tz_2 (List.mem_of_getElem? (i := 121) rfl)) rfl
theorem q_32 : Cond.code yX3_at cX3_at 2 (some .int) ∈ TBL := tb_z (tz_2 (List.mem_of_getElem? (i := 45) rfl)) rfl
theorem q_33 : Cond.initialized yX3_at.cls ∈ TBL := tb_z (tz_1 (List.mem_of_getElem? (i := 4) rfl)) rfl
theorem q_34 : Cond.instanceMethod yX3_at ∈ TBL := tb_z (tz_2 (List.mem_of_getElem? (i := 43) rfl)) rfl
theorem q_35 : Cond.selects yX3_at.cls yX3_at yX3_at ∈ TBL := tb_z (tz_2 (List.mem_of_getElem? (i := 44) rfl)) rfl
theorem q_36 : Cond.fieldLinkNest RX1 112 (TX0 4).1 (TX0 4).2.1 (TX0 4).2.2.1 "LakeLevels" ∈ NST := tb_n (tz_1 (List.mem_of_getElem? (i := 69) rfl)) rfl
theorem q_37 : Cond.methodLinkNest RX1 105 yX7_has "LakeLevels" ∈ NST := tb_n (tz_2 (List.mem_of_getElem? (i := 130) rfl)) rfl
theorem q_38 : Cond.code yX7_has cX7_has 3 (some .boolean) ∈ TBL := tb_z (tz_2 (List.mem_of_getElem? (i := 81) rfl)) rfl
theorem q_39 : Cond.initialized yX7_has.cls ∈ TBL := tb_z (tz_1 (List.mem_of_getElem? (i := 1) rfl)) rfl
theorem q_40 : Cond.static yX7_has ∈ TBL := tb_z (tz_2 (List.mem_of_getElem? (i := 80) rfl)) rfl
theorem q_41 : Cond.fieldLink RX1 23 (TX1 1).1 (TX1 1).2.1 (TX1 1).2.2.1 ∈ TBL := tb_z (tz_1 (List.mem_of_getElem? (i := 151) rfl)) rfl
theorem q_42 : Cond.methodLinkNest RX1 82 yX7_bit "LakeLevels" ∈ NST := tb_n (tz_2 (List.mem_of_getElem? (i := 123) rfl)) rfl
theorem q_43 : Cond.code yX7_bit cX7_bit 1 (some .long) ∈ TBL := tb_z (tz_2 (List.mem_of_getElem? (i := 67) rfl)) rfl
theorem q_44 : Cond.initialized yX7_bit.cls ∈ TBL := tb_z (tz_1 (List.mem_of_getElem? (i := 1) rfl)) rfl
theorem q_45 : Cond.static yX7_bit ∈ TBL := tb_z (tz_2 (List.mem_of_getElem? (i := 66) rfl)) rfl
theorem q_46 : Cond.fieldLink RX0 39 (TX0 2).1 (TX0 2).2.1 (TX0 2).2.2.1 ∈ TBL := tb_z (tz_1 (List.mem_of_getElem? (i := 57) rfl)) rfl
theorem q_47 : Cond.methodLinkNest RX0 91 yX7_has "LakeLevels" ∈ NST := tb_n (tz_3 (List.mem_of_getElem? (i := 228) rfl)) rfl
theorem q_48 : Cond.fieldLink RX0 14 (TX0 4).1 (TX0 4).2.1 (TX0 4).2.2.1 ∈ TBL := tb_z (tz_1 (List.mem_of_getElem? (i := 66) rfl)) rfl
theorem q_49 : Cond.methodLink RX0 64 yX3_at ∈ TBL := tb_z (tz_2 (List.mem_of_getElem? (i := 42) rfl)) rfl
theorem q_50 : Cond.fieldLink RX7 12 (TX7 0).1 (TX7 0).2.1 (TX7 0).2.2.1 ∈ TBL := tb_z (tz_2 (List.mem_of_getElem? (i := 135) rfl)) rfl
theorem q_51 : Cond.fieldLinkNest RX7 143 (TX6 2).1 (TX6 2).2.1 (TX6 2).2.2.1 "LakeLevels" ∈ NST := tb_n (tz_1 (List.mem_of_getElem? (i := 199) rfl)) rfl
theorem q_52 : Cond.fieldLinkNest RX7 339 (TX1 8).1 (TX1 8).2.1 (TX1 8).2.2.1 "LakeLevels" ∈ NST := tb_n (tz_1 (List.mem_of_getElem? (i := 166) rfl)) rfl
theorem q_53 : Cond.methodLink RX7 62 yX3_at ∈ TBL := tb_z (tz_3 (List.mem_of_getElem? (i := 13) rfl)) rfl
theorem q_54 : Cond.fieldLinkNest RX7 30 (TX6 0).1 (TX6 0).2.1 (TX6 0).2.2.1 "LakeLevels" ∈ NST := tb_n (tz_1 (List.mem_of_getElem? (i := 195) rfl)) rfl
theorem q_55 : Cond.methodLink RX7 313 yX1_wetCells ∈ TBL := tb_z (tz_3 (List.mem_of_getElem? (i := 223) rfl)) rfl
theorem q_56 : Cond.code yX1_wetCells cX1_wetCells 12 (some .long) ∈ TBL := tb_z (tz_3 (List.mem_of_getElem? (i := 126) rfl)) rfl
theorem q_57 : Cond.initialized yX1_wetCells.cls ∈ TBL := tb_z (tz_1 (List.mem_of_getElem? (i := 8) rfl)) rfl
theorem q_58 : Cond.instanceMethod yX1_wetCells ∈ TBL := tb_z (tz_3 (List.mem_of_getElem? (i := 124) rfl)) rfl
theorem q_59 : Cond.selects yX1_wetCells.cls yX1_wetCells yX1_wetCells ∈ TBL := tb_z (tz_3 (List.mem_of_getElem? (i := 125) rfl)) rfl
theorem q_60 : Cond.methodLink RX7 81 yX7_has ∈ TBL := tb_z (tz_3 (List.mem_of_getElem? (i := 114) rfl)) rfl
theorem q_61 : Cond.methodLink RX7 308 yJ13_bitCount_95d88 ∈ TBL := tb_z (tz_2 (List.mem_of_getElem? (i := 71) rfl)) rfl
theorem q_62 : Cond.code yJ13_bitCount_95d88 cJ13_bitCount_95d88 2 (some .int) ∈ TBL := tb_z (tz_2 (List.mem_of_getElem? (i := 73) rfl)) rfl
theorem q_63 : Cond.initialized yJ13_bitCount_95d88.cls ∈ TBL := tb_z (tz_1 (List.mem_of_getElem? (i := 11) rfl)) rfl
theorem q_64 : Cond.static yJ13_bitCount_95d88 ∈ TBL := tb_z (tz_2 (List.mem_of_getElem? (i := 72) rfl)) rfl
theorem q_65 : Cond.fieldLinkNest RX7 147 (TX1 1).1 (TX1 1).2.1 (TX1 1).2.2.1 "LakeLevels" ∈ NST := tb_n (tz_1 (List.mem_of_getElem? (i := 153) rfl)) rfl
theorem q_66 : Cond.methodLink RX7 330 yX0_heightSum ∈ TBL := tb_z (tz_3 (List.mem_of_getElem? (i := 224) rfl)) rfl
theorem q_67 : Cond.code yX0_heightSum cX0_heightSum 5 (some .int) ∈ TBL := tb_z (tz_3 (List.mem_of_getElem? (i := 227) rfl)) rfl
theorem q_68 : Cond.initialized yX0_heightSum.cls ∈ TBL := tb_z (tz_1 (List.mem_of_getElem? (i := 3) rfl)) rfl
theorem q_69 : Cond.instanceMethod yX0_heightSum ∈ TBL := tb_z (tz_3 (List.mem_of_getElem? (i := 225) rfl)) rfl
theorem q_70 : Cond.selects yX0_heightSum.cls yX0_heightSum yX0_heightSum ∈ TBL := tb_z (tz_3 (List.mem_of_getElem? (i := 226) rfl)) rfl
theorem q_71 : Cond.fieldLinkNest RX7 58 (TX0 4).1 (TX0 4).2.1 (TX0 4).2.2.1 "LakeLevels" ∈ NST := tb_n (tz_1 (List.mem_of_getElem? (i := 67) rfl)) rfl
theorem q_72 : Cond.methodLink RX7 333 yX7_commonDivisor ∈ TBL := tb_z (tz_3 (List.mem_of_getElem? (i := 229) rfl)) rfl
theorem q_73 : Cond.code yX7_commonDivisor cX7_commonDivisor 3 (some .int) ∈ TBL := tb_z (tz_3 (List.mem_of_getElem? (i := 231) rfl)) rfl
theorem q_74 : Cond.initialized yX7_commonDivisor.cls ∈ TBL := tb_z (tz_1 (List.mem_of_getElem? (i := 1) rfl)) rfl
theorem q_75 : Cond.static yX7_commonDivisor ∈ TBL := tb_z (tz_3 (List.mem_of_getElem? (i := 230) rfl)) rfl
theorem q_76 : Cond.methodLink RX7 336 yX7_reduced ∈ TBL := tb_z (tz_3 (List.mem_of_getElem? (i := 232) rfl)) rfl
theorem q_77 : Cond.code yX7_reduced cX7_reduced 2 (some .int) ∈ TBL := tb_z (tz_3 (List.mem_of_getElem? (i := 234) rfl)) rfl
theorem q_78 : Cond.initialized yX7_reduced.cls ∈ TBL := tb_z (tz_1 (List.mem_of_getElem? (i := 1) rfl)) rfl
theorem q_79 : Cond.static yX7_reduced ∈ TBL := tb_z (tz_3 (List.mem_of_getElem? (i := 233) rfl)) rfl
theorem q_80 : Cond.fieldLinkNest RX7 50 (TX0 2).1 (TX0 2).2.1 (TX0 2).2.2.1 "LakeLevels" ∈ NST := tb_n (tz_1 (List.mem_of_getElem? (i := 58) rfl)) rfl
theorem q_81 : Cond.methodLink RX7 179 yX7_depthValue ∈ TBL := tb_z (tz_3 (List.mem_of_getElem? (i := 219) rfl)) rfl
theorem q_82 : Cond.code yX7_depthValue cX7_depthValue 9 (some .double) ∈ TBL := tb_z (tz_3 (List.mem_of_getElem? (i := 222) rfl)) rfl
theorem q_83 : Cond.initialized yX7_depthValue.cls ∈ TBL := tb_z (tz_1 (List.mem_of_getElem? (i := 1) rfl)) rfl
theorem q_84 : Cond.instanceMethod yX7_depthValue ∈ TBL := tb_z (tz_3 (List.mem_of_getElem? (i := 221) rfl)) rfl
theorem q_85 : Cond.selects yX7_depthValue.cls yX7_depthValue yX7_depthValue ∈ TBL := tb_s 23 rfl rfl
theorem q_86 : Cond.fieldLink RX7 26 (TX7 3).1 (TX7 3).2.1 (TX7 3).2.2.1 ∈ TBL := tb_z (tz_2 (List.mem_of_getElem? (i := 138) rfl)) rfl
theorem q_87 : Cond.fieldLinkNest RX7 197 (TX2 1).1 (TX2 1).2.1 (TX2 1).2.2.1 "LakeLevels" ∈ NST := tb_n (tz_1 (List.mem_of_getElem? (i := 239) rfl)) rfl
theorem q_88 : Cond.fieldLink RX2 28 (TX2 2).1 (TX2 2).2.1 (TX2 2).2.2.1 ∈ TBL := tb_z (tz_2 (List.mem_of_getElem? (i := 0) rfl)) rfl
theorem q_89 : Cond.fieldLink RX2 20 (TX2 1).1 (TX2 1).2.1 (TX2 1).2.2.1 ∈ TBL := tb_z (tz_1 (List.mem_of_getElem? (i := 238) rfl)) rfl
theorem q_90 : Cond.fieldLink RX2 14 (TX2 0).1 (TX2 0).2.1 (TX2 0).2.2.1 ∈ TBL := tb_z (tz_1 (List.mem_of_getElem? (i := 237) rfl)) rfl
theorem q_91 : Cond.methodLink RX2 60 yX3_at ∈ TBL := tb_z (tz_4 (List.mem_of_getElem? (i := 19) rfl)) rfl
theorem q_92 : Cond.fieldLink RX2 31 (TX2 3).1 (TX2 3).2.1 (TX2 3).2.2.1 ∈ TBL := tb_z (tz_2 (List.mem_of_getElem? (i := 1) rfl)) rfl
theorem q_93 : Cond.methodLink RX2 50 yX2_next ∈ TBL := tb_z (tz_4 (List.mem_of_getElem? (i := 15) rfl)) rfl
theorem q_94 : Cond.code yX2_next cX2_next 1 (some .int) ∈ TBL := tb_z (tz_4 (List.mem_of_getElem? (i := 18) rfl)) rfl
theorem q_95 : Cond.initialized yX2_next.cls ∈ TBL := tb_z (tz_1 (List.mem_of_getElem? (i := 9) rfl)) rfl
theorem q_96 : Cond.instanceMethod yX2_next ∈ TBL := tb_z (tz_4 (List.mem_of_getElem? (i := 17) rfl)) rfl
theorem q_97 : Cond.selects yX2_next.cls yX2_next yX2_next ∈ TBL := tb_s 26 rfl rfl
theorem q_98 : Cond.methodLink RX2 63 yX2_fail ∈ TBL := tb_z (tz_4 (List.mem_of_getElem? (i := 20) rfl)) rfl
theorem q_99 : Cond.code yX2_fail cX2_fail 2 none ∈ TBL := tb_z (tz_4 (List.mem_of_getElem? (i := 23) rfl)) rfl
theorem q_100 : Cond.initialized yX2_fail.cls ∈ TBL := tb_z (tz_1 (List.mem_of_getElem? (i := 9) rfl)) rfl
theorem q_101 : Cond.instanceMethod yX2_fail ∈ TBL := tb_z (tz_4 (List.mem_of_getElem? (i := 22) rfl)) rfl
theorem q_102 : Cond.selects yX2_fail.cls yX2_fail yX2_fail ∈ TBL := tb_s 27 rfl rfl
theorem q_103 : Cond.fieldLink RX0 32 (TX0 0).1 (TX0 0).2.1 (TX0 0).2.2.1 ∈ TBL := tb_z (tz_1 (List.mem_of_getElem? (i := 53) rfl)) rfl
theorem q_104 : Cond.fieldLink RX0 20 (TX0 5).1 (TX0 5).2.1 (TX0 5).2.2.1 ∈ TBL := tb_z (tz_1 (List.mem_of_getElem? (i := 71) rfl)) rfl
theorem q_105 : Cond.methodLink RX0 57 yX3_put ∈ TBL := tb_z (tz_2 (List.mem_of_getElem? (i := 26) rfl)) rfl
theorem q_106 : Cond.code yX3_put cX3_put 3 none ∈ TBL := tb_z (tz_2 (List.mem_of_getElem? (i := 29) rfl)) rfl
theorem q_107 : Cond.initialized yX3_put.cls ∈ TBL := tb_z (tz_1 (List.mem_of_getElem? (i := 4) rfl)) rfl
theorem q_108 : Cond.instanceMethod yX3_put ∈ TBL := tb_z (tz_2 (List.mem_of_getElem? (i := 27) rfl)) rfl
theorem q_109 : Cond.selects yX3_put.cls yX3_put yX3_put ∈ TBL := tb_z (tz_2 (List.mem_of_getElem? (i := 28) rfl)) rfl
theorem q_110 : Cond.fieldLink RX0 36 (TX0 1).1 (TX0 1).2.1 (TX0 1).2.2.1 ∈ TBL := tb_z (tz_1 (List.mem_of_getElem? (i := 55) rfl)) rfl
theorem q_111 : Cond.fieldLink RX0 42 (TX0 3).1 (TX0 3).2.1 (TX0 3).2.2.1 ∈ TBL := tb_z (tz_1 (List.mem_of_getElem? (i := 63) rfl)) rfl
theorem q_112 : Cond.methodLink RX0 50 yX3_fill ∈ TBL := tb_z (tz_2 (List.mem_of_getElem? (i := 15) rfl)) rfl
theorem q_113 : Cond.code yX3_fill cX3_fill 2 none ∈ TBL := tb_z (tz_2 (List.mem_of_getElem? (i := 18) rfl)) rfl
theorem q_114 : Cond.initialized yX3_fill.cls ∈ TBL := tb_z (tz_1 (List.mem_of_getElem? (i := 4) rfl)) rfl
theorem q_115 : Cond.instanceMethod yX3_fill ∈ TBL := tb_z (tz_2 (List.mem_of_getElem? (i := 16) rfl)) rfl
theorem q_116 : Cond.selects yX3_fill.cls yX3_fill yX3_fill ∈ TBL := tb_z (tz_2 (List.mem_of_getElem? (i := 17) rfl)) rfl
theorem q_117 : Cond.fieldLink RX0 23 (TX0 6).1 (TX0 6).2.1 (TX0 6).2.2.1 ∈ TBL := tb_z (tz_1 (List.mem_of_getElem? (i := 75) rfl)) rfl
theorem q_118 : Cond.methodLink RX0 53 yX0_laySides ∈ TBL := tb_z (tz_2 (List.mem_of_getElem? (i := 22) rfl)) rfl
theorem q_119 : Cond.code yX0_laySides cX0_laySides 5 none ∈ TBL := tb_z (tz_2 (List.mem_of_getElem? (i := 25) rfl)) rfl
theorem q_120 : Cond.initialized yX0_laySides.cls ∈ TBL := tb_z (tz_1 (List.mem_of_getElem? (i := 3) rfl)) rfl
theorem q_121 : Cond.instanceMethod yX0_laySides ∈ TBL := tb_z (tz_2 (List.mem_of_getElem? (i := 24) rfl)) rfl
theorem q_122 : Cond.selects yX0_laySides.cls yX0_laySides yX0_laySides ∈ TBL := tb_s 0 rfl rfl
theorem q_123 : Cond.methodLink RX2 66 yX2_isAtDigit ∈ TBL := tb_z (tz_4 (List.mem_of_getElem? (i := 37) rfl)) rfl
theorem q_124 : Cond.code yX2_isAtDigit cX2_isAtDigit 1 (some .boolean) ∈ TBL := tb_z (tz_4 (List.mem_of_getElem? (i := 40) rfl)) rfl
theorem q_125 : Cond.initialized yX2_isAtDigit.cls ∈ TBL := tb_z (tz_1 (List.mem_of_getElem? (i := 9) rfl)) rfl
theorem q_126 : Cond.instanceMethod yX2_isAtDigit ∈ TBL := tb_z (tz_4 (List.mem_of_getElem? (i := 39) rfl)) rfl
theorem q_127 : Cond.selects yX2_isAtDigit.cls yX2_isAtDigit yX2_isAtDigit ∈ TBL := tb_s 31 rfl rfl
theorem q_128 : Cond.fieldLinkNest RX2 70 (TX0 2).1 (TX0 2).2.1 (TX0 2).2.2.1 "LakeLevels" ∈ NST := tb_n (tz_1 (List.mem_of_getElem? (i := 61) rfl)) rfl
theorem q_129 : Cond.methodLink RX2 38 yX2_readSign ∈ TBL := tb_z (tz_4 (List.mem_of_getElem? (i := 24) rfl)) rfl
theorem q_130 : Cond.code yX2_readSign cX2_readSign 2 none ∈ TBL := tb_z (tz_4 (List.mem_of_getElem? (i := 27) rfl)) rfl
theorem q_131 : Cond.initialized yX2_readSign.cls ∈ TBL := tb_z (tz_1 (List.mem_of_getElem? (i := 9) rfl)) rfl
theorem q_132 : Cond.instanceMethod yX2_readSign ∈ TBL := tb_z (tz_4 (List.mem_of_getElem? (i := 26) rfl)) rfl
theorem q_133 : Cond.selects yX2_readSign.cls yX2_readSign yX2_readSign ∈ TBL := tb_s 28 rfl rfl
theorem q_134 : Cond.fieldLinkNest RX2 73 (TX0 4).1 (TX0 4).2.1 (TX0 4).2.2.1 "LakeLevels" ∈ NST := tb_n (tz_1 (List.mem_of_getElem? (i := 70) rfl)) rfl
theorem q_135 : Cond.methodLink RX2 76 yX2_readNumber ∈ TBL := tb_z (tz_4 (List.mem_of_getElem? (i := 33) rfl)) rfl
theorem q_136 : Cond.code yX2_readNumber cX2_readNumber 3 (some .int) ∈ TBL := tb_z (tz_4 (List.mem_of_getElem? (i := 36) rfl)) rfl
theorem q_137 : Cond.initialized yX2_readNumber.cls ∈ TBL := tb_z (tz_1 (List.mem_of_getElem? (i := 9) rfl)) rfl
theorem q_138 : Cond.instanceMethod yX2_readNumber ∈ TBL := tb_z (tz_4 (List.mem_of_getElem? (i := 35) rfl)) rfl
theorem q_139 : Cond.selects yX2_readNumber.cls yX2_readNumber yX2_readNumber ∈ TBL := tb_s 30 rfl rfl
theorem q_140 : Cond.methodLink RX2 24 yX3_put ∈ TBL := tb_z (tz_4 (List.mem_of_getElem? (i := 41) rfl)) rfl
theorem q_141 : Cond.methodLinkNest RX0 68 yX7_bit "LakeLevels" ∈ NST := tb_n (tz_4 (List.mem_of_getElem? (i := 51) rfl)) rfl
theorem q_142 : Cond.constantLong RX0 72 (-1 : Int64) ∈ TBL := tb_z (tz_4 (List.mem_of_getElem? (i := 52) rfl)) rfl
theorem q_143 : Cond.methodLink RX2 79 yX0_exists ∈ TBL := tb_z (tz_4 (List.mem_of_getElem? (i := 46) rfl)) rfl
theorem q_144 : Cond.code yX0_exists cX0_exists 2 (some .boolean) ∈ TBL := tb_z (tz_2 (List.mem_of_getElem? (i := 165) rfl)) rfl
theorem q_145 : Cond.initialized yX0_exists.cls ∈ TBL := tb_z (tz_1 (List.mem_of_getElem? (i := 3) rfl)) rfl
theorem q_146 : Cond.instanceMethod yX0_exists ∈ TBL := tb_z (tz_2 (List.mem_of_getElem? (i := 163) rfl)) rfl
theorem q_147 : Cond.selects yX0_exists.cls yX0_exists yX0_exists ∈ TBL := tb_z (tz_2 (List.mem_of_getElem? (i := 164) rfl)) rfl
theorem q_148 : Cond.methodLink RX2 83 yX0_putDrain ∈ TBL := tb_z (tz_4 (List.mem_of_getElem? (i := 47) rfl)) rfl
theorem q_149 : Cond.code yX0_putDrain cX0_putDrain 3 none ∈ TBL := tb_z (tz_4 (List.mem_of_getElem? (i := 50) rfl)) rfl
theorem q_150 : Cond.initialized yX0_putDrain.cls ∈ TBL := tb_z (tz_1 (List.mem_of_getElem? (i := 3) rfl)) rfl
theorem q_151 : Cond.instanceMethod yX0_putDrain ∈ TBL := tb_z (tz_4 (List.mem_of_getElem? (i := 48) rfl)) rfl
theorem q_152 : Cond.selects yX0_putDrain.cls yX0_putDrain yX0_putDrain ∈ TBL := tb_z (tz_4 (List.mem_of_getElem? (i := 49) rfl)) rfl
theorem q_153 : Cond.methodLink RX0 60 yX0_exists ∈ TBL := tb_z (tz_4 (List.mem_of_getElem? (i := 61) rfl)) rfl
theorem q_154 : Cond.methodLink RX0 74 yX0_sideTo ∈ TBL := tb_z (tz_4 (List.mem_of_getElem? (i := 66) rfl)) rfl
theorem q_155 : Cond.code yX0_sideTo cX0_sideTo 4 (some .int) ∈ TBL := tb_z (tz_4 (List.mem_of_getElem? (i := 60) rfl)) rfl
theorem q_156 : Cond.initialized yX0_sideTo.cls ∈ TBL := tb_z (tz_1 (List.mem_of_getElem? (i := 3) rfl)) rfl
theorem q_157 : Cond.instanceMethod yX0_sideTo ∈ TBL := tb_z (tz_4 (List.mem_of_getElem? (i := 58) rfl)) rfl
theorem q_158 : Cond.selects yX0_sideTo.cls yX0_sideTo yX0_sideTo ∈ TBL := tb_z (tz_4 (List.mem_of_getElem? (i := 59) rfl)) rfl
theorem q_159 : Cond.methodLink RX2 87 yX0_sideTo ∈ TBL := tb_z (tz_4 (List.mem_of_getElem? (i := 57) rfl)) rfl
theorem q_160 : Cond.methodLink RX2 91 yX0_putGate ∈ TBL := tb_z (tz_4 (List.mem_of_getElem? (i := 62) rfl)) rfl
theorem q_161 : Cond.code yX0_putGate cX0_putGate 4 none ∈ TBL := tb_z (tz_4 (List.mem_of_getElem? (i := 65) rfl)) rfl
theorem q_162 : Cond.initialized yX0_putGate.cls ∈ TBL := tb_z (tz_1 (List.mem_of_getElem? (i := 3) rfl)) rfl
theorem q_163 : Cond.instanceMethod yX0_putGate ∈ TBL := tb_z (tz_4 (List.mem_of_getElem? (i := 63) rfl)) rfl
theorem q_164 : Cond.selects yX0_putGate.cls yX0_putGate yX0_putGate ∈ TBL := tb_z (tz_4 (List.mem_of_getElem? (i := 64) rfl)) rfl
theorem q_165 : Cond.methodLink RX2 34 yX2_readSize ∈ TBL := tb_z (tz_4 (List.mem_of_getElem? (i := 11) rfl)) rfl
theorem q_166 : Cond.code yX2_readSize cX2_readSize 3 (some .int) ∈ TBL := tb_z (tz_4 (List.mem_of_getElem? (i := 14) rfl)) rfl
theorem q_167 : Cond.initialized yX2_readSize.cls ∈ TBL := tb_z (tz_1 (List.mem_of_getElem? (i := 9) rfl)) rfl
theorem q_168 : Cond.instanceMethod yX2_readSize ∈ TBL := tb_z (tz_4 (List.mem_of_getElem? (i := 13) rfl)) rfl
theorem q_169 : Cond.selects yX2_readSize.cls yX2_readSize yX2_readSize ∈ TBL := tb_s 25 rfl rfl
theorem q_170 : Cond.methodLink RX2 41 yX0_lay ∈ TBL := tb_z (tz_4 (List.mem_of_getElem? (i := 28) rfl)) rfl
theorem q_171 : Cond.code yX0_lay cX0_lay 5 none ∈ TBL := tb_z (tz_2 (List.mem_of_getElem? (i := 14) rfl)) rfl
theorem q_172 : Cond.initialized yX0_lay.cls ∈ TBL := tb_z (tz_1 (List.mem_of_getElem? (i := 3) rfl)) rfl
theorem q_173 : Cond.instanceMethod yX0_lay ∈ TBL := tb_z (tz_2 (List.mem_of_getElem? (i := 12) rfl)) rfl
theorem q_174 : Cond.selects yX0_lay.cls yX0_lay yX0_lay ∈ TBL := tb_z (tz_2 (List.mem_of_getElem? (i := 13) rfl)) rfl
theorem q_175 : Cond.methodLink RX2 46 yX2_readHeights ∈ TBL := tb_z (tz_4 (List.mem_of_getElem? (i := 29) rfl)) rfl
theorem q_176 : Cond.code yX2_readHeights cX2_readHeights 3 none ∈ TBL := tb_z (tz_4 (List.mem_of_getElem? (i := 32) rfl)) rfl
theorem q_177 : Cond.initialized yX2_readHeights.cls ∈ TBL := tb_z (tz_1 (List.mem_of_getElem? (i := 9) rfl)) rfl
theorem q_178 : Cond.instanceMethod yX2_readHeights ∈ TBL := tb_z (tz_4 (List.mem_of_getElem? (i := 31) rfl)) rfl
theorem q_179 : Cond.selects yX2_readHeights.cls yX2_readHeights yX2_readHeights ∈ TBL := tb_s 29 rfl rfl
theorem q_180 : Cond.methodLink RX2 54 yX2_readDrain ∈ TBL := tb_z (tz_4 (List.mem_of_getElem? (i := 42) rfl)) rfl
theorem q_181 : Cond.code yX2_readDrain cX2_readDrain 4 none ∈ TBL := tb_z (tz_4 (List.mem_of_getElem? (i := 45) rfl)) rfl
theorem q_182 : Cond.initialized yX2_readDrain.cls ∈ TBL := tb_z (tz_1 (List.mem_of_getElem? (i := 9) rfl)) rfl
theorem q_183 : Cond.instanceMethod yX2_readDrain ∈ TBL := tb_z (tz_4 (List.mem_of_getElem? (i := 44) rfl)) rfl
theorem q_184 : Cond.selects yX2_readDrain.cls yX2_readDrain yX2_readDrain ∈ TBL := tb_s 32 rfl rfl
theorem q_185 : Cond.methodLink RX2 57 yX2_readGate ∈ TBL := tb_z (tz_4 (List.mem_of_getElem? (i := 53) rfl)) rfl
theorem q_186 : Cond.code yX2_readGate cX2_readGate 7 none ∈ TBL := tb_z (tz_4 (List.mem_of_getElem? (i := 56) rfl)) rfl
theorem q_187 : Cond.initialized yX2_readGate.cls ∈ TBL := tb_z (tz_1 (List.mem_of_getElem? (i := 9) rfl)) rfl
theorem q_188 : Cond.instanceMethod yX2_readGate ∈ TBL := tb_z (tz_4 (List.mem_of_getElem? (i := 55) rfl)) rfl
theorem q_189 : Cond.selects yX2_readGate.cls yX2_readGate yX2_readGate ∈ TBL := tb_s 33 rfl rfl
theorem q_190 : Cond.methodLink RX0 46 yX3_copyFrom ∈ TBL := tb_z (tz_3 (List.mem_of_getElem? (i := 30) rfl)) rfl
theorem q_191 : Cond.code yX3_copyFrom cX3_copyFrom 2 none ∈ TBL := tb_z (tz_2 (List.mem_of_getElem? (i := 114) rfl)) rfl
theorem q_192 : Cond.initialized yX3_copyFrom.cls ∈ TBL := tb_z (tz_1 (List.mem_of_getElem? (i := 4) rfl)) rfl
theorem q_193 : Cond.instanceMethod yX3_copyFrom ∈ TBL := tb_z (tz_2 (List.mem_of_getElem? (i := 112) rfl)) rfl
theorem q_194 : Cond.selects yX3_copyFrom.cls yX3_copyFrom yX3_copyFrom ∈ TBL := tb_z (tz_2 (List.mem_of_getElem? (i := 113) rfl)) rfl
theorem q_195 : Cond.fieldLink RX0 26 (TX0 7).1 (TX0 7).2.1 (TX0 7).2.2.1 ∈ TBL := tb_z (tz_1 (List.mem_of_getElem? (i := 76) rfl)) rfl
theorem q_196 : Cond.fieldLink RX0 29 (TX0 8).1 (TX0 8).2.1 (TX0 8).2.2.1 ∈ TBL := tb_z (tz_1 (List.mem_of_getElem? (i := 80) rfl)) rfl
theorem q_197 : Cond.fieldLink RX5 30 (TX5 0).1 (TX5 0).2.1 (TX5 0).2.2.1 ∈ TBL := tb_z (tz_1 (List.mem_of_getElem? (i := 121) rfl)) rfl
theorem q_198 : Cond.fieldLink RX5 14 (TX5 1).1 (TX5 1).2.1 (TX5 1).2.2.1 ∈ TBL := tb_z (tz_1 (List.mem_of_getElem? (i := 124) rfl)) rfl
theorem q_199 : Cond.methodLink RX5 34 yX4_copyFrom ∈ TBL := tb_z (tz_3 (List.mem_of_getElem? (i := 35) rfl)) rfl
theorem q_200 : Cond.code yX4_copyFrom cX4_copyFrom 2 none ∈ TBL := tb_z (tz_3 (List.mem_of_getElem? (i := 38) rfl)) rfl
theorem q_201 : Cond.initialized yX4_copyFrom.cls ∈ TBL := tb_z (tz_1 (List.mem_of_getElem? (i := 7) rfl)) rfl
theorem q_202 : Cond.instanceMethod yX4_copyFrom ∈ TBL := tb_z (tz_3 (List.mem_of_getElem? (i := 36) rfl)) rfl
theorem q_203 : Cond.selects yX4_copyFrom.cls yX4_copyFrom yX4_copyFrom ∈ TBL := tb_z (tz_3 (List.mem_of_getElem? (i := 37) rfl)) rfl
theorem q_204 : Cond.fieldLink RX5 23 (TX5 2).1 (TX5 2).2.1 (TX5 2).2.2.1 ∈ TBL := tb_z (tz_1 (List.mem_of_getElem? (i := 125) rfl)) rfl
theorem q_205 : Cond.methodLink RX5 38 yX3_copyFrom ∈ TBL := tb_z (tz_3 (List.mem_of_getElem? (i := 41) rfl)) rfl
theorem q_206 : Cond.fieldLink RX5 27 (TX5 3).1 (TX5 3).2.1 (TX5 3).2.2.1 ∈ TBL := tb_z (tz_1 (List.mem_of_getElem? (i := 126) rfl)) rfl
theorem q_207 : Cond.methodLink RX1 54 yX4_copyFrom ∈ TBL := tb_z (tz_3 (List.mem_of_getElem? (i := 46) rfl)) rfl
theorem q_208 : Cond.methodLink RX1 58 yX3_copyFrom ∈ TBL := tb_z (tz_2 (List.mem_of_getElem? (i := 111) rfl)) rfl
theorem q_209 : Cond.fieldLink RX1 27 (TX1 2).1 (TX1 2).2.1 (TX1 2).2.2.1 ∈ TBL := tb_z (tz_1 (List.mem_of_getElem? (i := 154) rfl)) rfl
theorem q_210 : Cond.fieldLink RX1 30 (TX1 3).1 (TX1 3).2.1 (TX1 3).2.2.1 ∈ TBL := tb_z (tz_1 (List.mem_of_getElem? (i := 156) rfl)) rfl
theorem q_211 : Cond.fieldLink RX1 33 (TX1 4).1 (TX1 4).2.1 (TX1 4).2.2.1 ∈ TBL := tb_z (tz_1 (List.mem_of_getElem? (i := 158) rfl)) rfl
theorem q_212 : Cond.fieldLink RX1 36 (TX1 5).1 (TX1 5).2.1 (TX1 5).2.2.1 ∈ TBL := tb_z (tz_1 (List.mem_of_getElem? (i := 160) rfl)) rfl
theorem q_213 : Cond.fieldLink RX1 39 (TX1 6).1 (TX1 6).2.1 (TX1 6).2.2.1 ∈ TBL := tb_z (tz_1 (List.mem_of_getElem? (i := 162) rfl)) rfl
theorem q_214 : Cond.fieldLink RX1 42 (TX1 7).1 (TX1 7).2.1 (TX1 7).2.2.1 ∈ TBL := tb_z (tz_1 (List.mem_of_getElem? (i := 163) rfl)) rfl
theorem q_215 : Cond.fieldLink RX1 45 (TX1 8).1 (TX1 8).2.1 (TX1 8).2.2.1 ∈ TBL := tb_z (tz_1 (List.mem_of_getElem? (i := 164) rfl)) rfl
theorem q_216 : Cond.fieldLink RX6 12 (TX6 0).1 (TX6 0).2.1 (TX6 0).2.2.1 ∈ TBL := tb_z (tz_1 (List.mem_of_getElem? (i := 194) rfl)) rfl
theorem q_217 : Cond.methodLink RX6 44 yX0_copyFrom ∈ TBL := tb_z (tz_3 (List.mem_of_getElem? (i := 26) rfl)) rfl
theorem q_218 : Cond.code yX0_copyFrom cX0_copyFrom 2 none ∈ TBL := tb_z (tz_3 (List.mem_of_getElem? (i := 29) rfl)) rfl
theorem q_219 : Cond.initialized yX0_copyFrom.cls ∈ TBL := tb_z (tz_1 (List.mem_of_getElem? (i := 3) rfl)) rfl
theorem q_220 : Cond.instanceMethod yX0_copyFrom ∈ TBL := tb_z (tz_3 (List.mem_of_getElem? (i := 27) rfl)) rfl
theorem q_221 : Cond.selects yX0_copyFrom.cls yX0_copyFrom yX0_copyFrom ∈ TBL := tb_z (tz_3 (List.mem_of_getElem? (i := 28) rfl)) rfl
theorem q_222 : Cond.fieldLink RX6 21 (TX6 1).1 (TX6 1).2.1 (TX6 1).2.2.1 ∈ TBL := tb_z (tz_1 (List.mem_of_getElem? (i := 196) rfl)) rfl
theorem q_223 : Cond.methodLink RX6 48 yX5_copyFrom ∈ TBL := tb_z (tz_3 (List.mem_of_getElem? (i := 31) rfl)) rfl
theorem q_224 : Cond.code yX5_copyFrom cX5_copyFrom 2 none ∈ TBL := tb_z (tz_3 (List.mem_of_getElem? (i := 34) rfl)) rfl
theorem q_225 : Cond.initialized yX5_copyFrom.cls ∈ TBL := tb_z (tz_1 (List.mem_of_getElem? (i := 6) rfl)) rfl
theorem q_226 : Cond.instanceMethod yX5_copyFrom ∈ TBL := tb_z (tz_3 (List.mem_of_getElem? (i := 32) rfl)) rfl
theorem q_227 : Cond.selects yX5_copyFrom.cls yX5_copyFrom yX5_copyFrom ∈ TBL := tb_z (tz_3 (List.mem_of_getElem? (i := 33) rfl)) rfl
theorem q_228 : Cond.fieldLink RX6 28 (TX6 2).1 (TX6 2).2.1 (TX6 2).2.2.1 ∈ TBL := tb_z (tz_1 (List.mem_of_getElem? (i := 198) rfl)) rfl
theorem q_229 : Cond.methodLink RX6 51 yX1_copyFrom ∈ TBL := tb_z (tz_3 (List.mem_of_getElem? (i := 42) rfl)) rfl
theorem q_230 : Cond.code yX1_copyFrom cX1_copyFrom 2 none ∈ TBL := tb_z (tz_3 (List.mem_of_getElem? (i := 45) rfl)) rfl
theorem q_231 : Cond.initialized yX1_copyFrom.cls ∈ TBL := tb_z (tz_1 (List.mem_of_getElem? (i := 8) rfl)) rfl
theorem q_232 : Cond.instanceMethod yX1_copyFrom ∈ TBL := tb_z (tz_3 (List.mem_of_getElem? (i := 43) rfl)) rfl
theorem q_233 : Cond.selects yX1_copyFrom.cls yX1_copyFrom yX1_copyFrom ∈ TBL := tb_z (tz_3 (List.mem_of_getElem? (i := 44) rfl)) rfl
theorem q_234 : Cond.fieldLink RX6 54 (TX6 3).1 (TX6 3).2.1 (TX6 3).2.2.1 ∈ TBL := tb_z (tz_1 (List.mem_of_getElem? (i := 200) rfl)) rfl
theorem q_235 : Cond.fieldLink RX6 58 (TX6 4).1 (TX6 4).2.1 (TX6 4).2.2.1 ∈ TBL := tb_z (tz_1 (List.mem_of_getElem? (i := 202) rfl)) rfl
theorem q_236 : Cond.fieldLink RX6 61 (TX6 5).1 (TX6 5).2.1 (TX6 5).2.2.1 ∈ TBL := tb_z (tz_1 (List.mem_of_getElem? (i := 204) rfl)) rfl
theorem q_237 : Cond.fieldLink RX7 222 (TX7 5).1 (TX7 5).2.1 (TX7 5).2.2.1 ∈ TBL := tb_z (tz_2 (List.mem_of_getElem? (i := 140) rfl)) rfl
theorem q_238 : Cond.methodLink RX7 225 yX7_savedAt ∈ TBL := tb_z (tz_3 (List.mem_of_getElem? (i := 18) rfl)) rfl
theorem q_239 : Cond.code yX7_savedAt cX7_savedAt 3 (some (.object "LakeLevels$World")) ∈ TBL := tb_z (tz_3 (List.mem_of_getElem? (i := 21) rfl)) rfl
theorem q_240 : Cond.initialized yX7_savedAt.cls ∈ TBL := tb_z (tz_1 (List.mem_of_getElem? (i := 1) rfl)) rfl
theorem q_241 : Cond.instanceMethod yX7_savedAt ∈ TBL := tb_z (tz_3 (List.mem_of_getElem? (i := 20) rfl)) rfl
theorem q_242 : Cond.selects yX7_savedAt.cls yX7_savedAt yX7_savedAt ∈ TBL := tb_s 10 rfl rfl
theorem q_243 : Cond.methodLink RX7 190 yX6_copyFrom ∈ TBL := tb_z (tz_3 (List.mem_of_getElem? (i := 22) rfl)) rfl
theorem q_244 : Cond.code yX6_copyFrom cX6_copyFrom 2 none ∈ TBL := tb_z (tz_3 (List.mem_of_getElem? (i := 25) rfl)) rfl
theorem q_245 : Cond.initialized yX6_copyFrom.cls ∈ TBL := tb_z (tz_1 (List.mem_of_getElem? (i := 2) rfl)) rfl
theorem q_246 : Cond.instanceMethod yX6_copyFrom ∈ TBL := tb_z (tz_3 (List.mem_of_getElem? (i := 23) rfl)) rfl
theorem q_247 : Cond.selects yX6_copyFrom.cls yX6_copyFrom yX6_copyFrom ∈ TBL := tb_z (tz_3 (List.mem_of_getElem? (i := 24) rfl)) rfl
theorem q_248 : Cond.fieldLink RX7 217 (TX7 4).1 (TX7 4).2.1 (TX7 4).2.2.1 ∈ TBL := tb_z (tz_2 (List.mem_of_getElem? (i := 139) rfl)) rfl
theorem q_249 : Cond.methodLink RX7 266 Lib.Math.min.name ∈ TBL := tb_z (tz_3 (List.mem_of_getElem? (i := 47) rfl)) rfl
