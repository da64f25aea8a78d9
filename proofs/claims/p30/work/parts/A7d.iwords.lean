/-! 99d.iwords: words for the constructors -/
theorem zi_25 : Cond.instanceMethod Lib.objectInit ∈ TBL := tb_z (tz_1 (List.mem_of_getElem? (i := 25) rfl)) rfl
theorem zi_26 : Cond.code Lib.objectInit ⟨#[0xb1]⟩ 1 none ∈ TBL := tb_z (tz_1 (List.mem_of_getElem? (i := 26) rfl)) rfl
theorem zi_46 : Cond.static Lib.Math.max.name ∈ TBL := tb_z (tz_1 (List.mem_of_getElem? (i := 46) rfl)) rfl
theorem zi_5 : Cond.initialized "java/lang/Math" ∈ TBL := tb_z (tz_1 (List.mem_of_getElem? (i := 5) rfl)) rfl
theorem zi_47 : Cond.code Lib.Math.max.name Lib.Math.max.code 2 (some .int) ∈ TBL := tb_z (tz_1 (List.mem_of_getElem? (i := 47) rfl)) rfl
theorem zi_44 : Cond.methodLink RX3 3 Lib.objectInit ∈ TBL := tb_z (tz_1 (List.mem_of_getElem? (i := 44) rfl)) rfl
theorem zi_45 : Cond.methodLink RX3 9 Lib.Math.max.name ∈ TBL := tb_z (tz_1 (List.mem_of_getElem? (i := 45) rfl)) rfl
theorem zi_48 : Cond.fieldLink RX3 15 (TX3 0).1 (TX3 0).2.1 (TX3 0).2.2.1 ∈ TBL := tb_z (tz_1 (List.mem_of_getElem? (i := 48) rfl)) rfl
theorem zi_52 : Cond.arrayClass .int ∈ TBL := tb_z (tz_1 (List.mem_of_getElem? (i := 52) rfl)) rfl
theorem zi_112 : Cond.methodLink RX4 1 Lib.objectInit ∈ TBL := tb_z (tz_1 (List.mem_of_getElem? (i := 112) rfl)) rfl
theorem zi_113 : Cond.methodLink RX4 7 Lib.Math.max.name ∈ TBL := tb_z (tz_1 (List.mem_of_getElem? (i := 113) rfl)) rfl
theorem zi_114 : Cond.fieldLink RX4 13 (TX4 0).1 (TX4 0).2.1 (TX4 0).2.2.1 ∈ TBL := tb_z (tz_1 (List.mem_of_getElem? (i := 114) rfl)) rfl
theorem zi_118 : Cond.arrayClass .long ∈ TBL := tb_z (tz_1 (List.mem_of_getElem? (i := 118) rfl)) rfl
theorem zi_38 : Cond.methodLink RX0 3 Lib.objectInit ∈ TBL := tb_z (tz_1 (List.mem_of_getElem? (i := 38) rfl)) rfl
theorem zi_43 : Cond.code yX3_init cX3_init 2 none ∈ TBL := tb_z (tz_1 (List.mem_of_getElem? (i := 43) rfl)) rfl
theorem zi_42 : Cond.instanceMethod yX3_init ∈ TBL := tb_z (tz_1 (List.mem_of_getElem? (i := 42) rfl)) rfl
theorem zi_4 : Cond.initialized RX3 ∈ TBL := tb_z (tz_1 (List.mem_of_getElem? (i := 4) rfl)) rfl
theorem zi_41 : Cond.methodLink RX0 11 yX3_init ∈ TBL := tb_z (tz_1 (List.mem_of_getElem? (i := 41) rfl)) rfl
theorem zi_39 : Cond.classLink RX0 9 RX3 ∈ TBL := tb_z (tz_1 (List.mem_of_getElem? (i := 39) rfl)) rfl
theorem zi_40 : Cond.instantiable RX3 1 ∈ TBL := tb_z (tz_1 (List.mem_of_getElem? (i := 40) rfl)) rfl
theorem zi_66 : Cond.fieldLink RX0 14 (TX0 4).1 (TX0 4).2.1 (TX0 4).2.2.1 ∈ TBL := tb_z (tz_1 (List.mem_of_getElem? (i := 66) rfl)) rfl
theorem zi_71 : Cond.fieldLink RX0 20 (TX0 5).1 (TX0 5).2.1 (TX0 5).2.2.1 ∈ TBL := tb_z (tz_1 (List.mem_of_getElem? (i := 71) rfl)) rfl
theorem zi_75 : Cond.fieldLink RX0 23 (TX0 6).1 (TX0 6).2.1 (TX0 6).2.2.1 ∈ TBL := tb_z (tz_1 (List.mem_of_getElem? (i := 75) rfl)) rfl
theorem zi_76 : Cond.fieldLink RX0 26 (TX0 7).1 (TX0 7).2.1 (TX0 7).2.2.1 ∈ TBL := tb_z (tz_1 (List.mem_of_getElem? (i := 76) rfl)) rfl
theorem zi_80 : Cond.fieldLink RX0 29 (TX0 8).1 (TX0 8).2.1 (TX0 8).2.2.1 ∈ TBL := tb_z (tz_1 (List.mem_of_getElem? (i := 80) rfl)) rfl
theorem zi_106 : Cond.methodLink RX5 3 Lib.objectInit ∈ TBL := tb_z (tz_1 (List.mem_of_getElem? (i := 106) rfl)) rfl
theorem zi_111 : Cond.code yX4_init cX4_init 2 none ∈ TBL := tb_z (tz_1 (List.mem_of_getElem? (i := 111) rfl)) rfl
theorem zi_110 : Cond.instanceMethod yX4_init ∈ TBL := tb_z (tz_1 (List.mem_of_getElem? (i := 110) rfl)) rfl
theorem zi_7 : Cond.initialized RX4 ∈ TBL := tb_z (tz_1 (List.mem_of_getElem? (i := 7) rfl)) rfl
theorem zi_109 : Cond.methodLink RX5 11 yX4_init ∈ TBL := tb_z (tz_1 (List.mem_of_getElem? (i := 109) rfl)) rfl
theorem zi_107 : Cond.classLink RX5 9 RX4 ∈ TBL := tb_z (tz_1 (List.mem_of_getElem? (i := 107) rfl)) rfl
theorem zi_108 : Cond.instantiable RX4 1 ∈ TBL := tb_z (tz_1 (List.mem_of_getElem? (i := 108) rfl)) rfl
theorem zi_124 : Cond.fieldLink RX5 14 (TX5 1).1 (TX5 1).2.1 (TX5 1).2.2.1 ∈ TBL := tb_z (tz_1 (List.mem_of_getElem? (i := 124) rfl)) rfl
theorem zi_120 : Cond.methodLink RX5 22 yX3_init ∈ TBL := tb_z (tz_1 (List.mem_of_getElem? (i := 120) rfl)) rfl
theorem zi_119 : Cond.classLink RX5 20 RX3 ∈ TBL := tb_z (tz_1 (List.mem_of_getElem? (i := 119) rfl)) rfl
theorem zi_125 : Cond.fieldLink RX5 23 (TX5 2).1 (TX5 2).2.1 (TX5 2).2.2.1 ∈ TBL := tb_z (tz_1 (List.mem_of_getElem? (i := 125) rfl)) rfl
theorem zi_126 : Cond.fieldLink RX5 27 (TX5 3).1 (TX5 3).2.1 (TX5 3).2.2.1 ∈ TBL := tb_z (tz_1 (List.mem_of_getElem? (i := 126) rfl)) rfl
theorem zi_144 : Cond.methodLink RX1 3 Lib.objectInit ∈ TBL := tb_z (tz_1 (List.mem_of_getElem? (i := 144) rfl)) rfl
theorem zi_146 : Cond.methodLink RX1 11 yX4_init ∈ TBL := tb_z (tz_1 (List.mem_of_getElem? (i := 146) rfl)) rfl
theorem zi_145 : Cond.classLink RX1 9 RX4 ∈ TBL := tb_z (tz_1 (List.mem_of_getElem? (i := 145) rfl)) rfl
theorem zi_149 : Cond.fieldLink RX1 14 (TX1 0).1 (TX1 0).2.1 (TX1 0).2.2.1 ∈ TBL := tb_z (tz_1 (List.mem_of_getElem? (i := 149) rfl)) rfl
theorem zi_148 : Cond.methodLink RX1 22 yX3_init ∈ TBL := tb_z (tz_1 (List.mem_of_getElem? (i := 148) rfl)) rfl
theorem zi_147 : Cond.classLink RX1 20 RX3 ∈ TBL := tb_z (tz_1 (List.mem_of_getElem? (i := 147) rfl)) rfl
theorem zi_151 : Cond.fieldLink RX1 23 (TX1 1).1 (TX1 1).2.1 (TX1 1).2.2.1 ∈ TBL := tb_z (tz_1 (List.mem_of_getElem? (i := 151) rfl)) rfl
theorem zi_154 : Cond.fieldLink RX1 27 (TX1 2).1 (TX1 2).2.1 (TX1 2).2.2.1 ∈ TBL := tb_z (tz_1 (List.mem_of_getElem? (i := 154) rfl)) rfl
theorem zi_156 : Cond.fieldLink RX1 30 (TX1 3).1 (TX1 3).2.1 (TX1 3).2.2.1 ∈ TBL := tb_z (tz_1 (List.mem_of_getElem? (i := 156) rfl)) rfl
theorem zi_158 : Cond.fieldLink RX1 33 (TX1 4).1 (TX1 4).2.1 (TX1 4).2.2.1 ∈ TBL := tb_z (tz_1 (List.mem_of_getElem? (i := 158) rfl)) rfl
theorem zi_160 : Cond.fieldLink RX1 36 (TX1 5).1 (TX1 5).2.1 (TX1 5).2.2.1 ∈ TBL := tb_z (tz_1 (List.mem_of_getElem? (i := 160) rfl)) rfl
theorem zi_162 : Cond.fieldLink RX1 39 (TX1 6).1 (TX1 6).2.1 (TX1 6).2.2.1 ∈ TBL := tb_z (tz_1 (List.mem_of_getElem? (i := 162) rfl)) rfl
theorem zi_163 : Cond.fieldLink RX1 42 (TX1 7).1 (TX1 7).2.1 (TX1 7).2.2.1 ∈ TBL := tb_z (tz_1 (List.mem_of_getElem? (i := 163) rfl)) rfl
theorem zi_164 : Cond.fieldLink RX1 45 (TX1 8).1 (TX1 8).2.1 (TX1 8).2.2.1 ∈ TBL := tb_z (tz_1 (List.mem_of_getElem? (i := 164) rfl)) rfl
theorem zi_167 : Cond.fieldLink RX1 48 (TX1 9).1 (TX1 9).2.1 (TX1 9).2.2.1 ∈ TBL := tb_z (tz_1 (List.mem_of_getElem? (i := 167) rfl)) rfl
theorem zi_168 : Cond.fieldLink RX1 51 (TX1 10).1 (TX1 10).2.1 (TX1 10).2.2.1 ∈ TBL := tb_z (tz_1 (List.mem_of_getElem? (i := 168) rfl)) rfl
theorem zi_234 : Cond.methodLink RX2 3 Lib.objectInit ∈ TBL := tb_z (tz_1 (List.mem_of_getElem? (i := 234) rfl)) rfl
theorem zi_236 : Cond.methodLink RX2 11 yX3_init ∈ TBL := tb_z (tz_1 (List.mem_of_getElem? (i := 236) rfl)) rfl
theorem zi_235 : Cond.classLink RX2 9 RX3 ∈ TBL := tb_z (tz_1 (List.mem_of_getElem? (i := 235) rfl)) rfl
theorem zi_237 : Cond.fieldLink RX2 14 (TX2 0).1 (TX2 0).2.1 (TX2 0).2.2.1 ∈ TBL := tb_z (tz_1 (List.mem_of_getElem? (i := 237) rfl)) rfl
theorem zi_32 : Cond.methodLink RX6 3 Lib.objectInit ∈ TBL := tb_z (tz_1 (List.mem_of_getElem? (i := 32) rfl)) rfl
theorem zi_37 : Cond.code yX0_init cX0_init 1 none ∈ TBL := tb_z (tz_1 (List.mem_of_getElem? (i := 37) rfl)) rfl
theorem zi_36 : Cond.instanceMethod yX0_init ∈ TBL := tb_z (tz_1 (List.mem_of_getElem? (i := 36) rfl)) rfl
theorem zi_3 : Cond.initialized RX0 ∈ TBL := tb_z (tz_1 (List.mem_of_getElem? (i := 3) rfl)) rfl
theorem zi_105 : Cond.code yX5_init cX5_init 1 none ∈ TBL := tb_z (tz_1 (List.mem_of_getElem? (i := 105) rfl)) rfl
theorem zi_104 : Cond.instanceMethod yX5_init ∈ TBL := tb_z (tz_1 (List.mem_of_getElem? (i := 104) rfl)) rfl
theorem zi_6 : Cond.initialized RX5 ∈ TBL := tb_z (tz_1 (List.mem_of_getElem? (i := 6) rfl)) rfl
theorem zi_143 : Cond.code yX1_init cX1_init 1 none ∈ TBL := tb_z (tz_1 (List.mem_of_getElem? (i := 143) rfl)) rfl
theorem zi_142 : Cond.instanceMethod yX1_init ∈ TBL := tb_z (tz_1 (List.mem_of_getElem? (i := 142) rfl)) rfl
theorem zi_8 : Cond.initialized RX1 ∈ TBL := tb_z (tz_1 (List.mem_of_getElem? (i := 8) rfl)) rfl
theorem zi_35 : Cond.methodLinkNest RX6 11 yX0_init RX7 ∈ NST := tb_n (tz_1 (List.mem_of_getElem? (i := 35) rfl)) rfl
theorem zi_33 : Cond.classLink RX6 9 RX0 ∈ TBL := tb_z (tz_1 (List.mem_of_getElem? (i := 33) rfl)) rfl
theorem zi_34 : Cond.instantiable RX0 9 ∈ TBL := tb_z (tz_1 (List.mem_of_getElem? (i := 34) rfl)) rfl
theorem zi_194 : Cond.fieldLink RX6 12 (TX6 0).1 (TX6 0).2.1 (TX6 0).2.2.1 ∈ TBL := tb_z (tz_1 (List.mem_of_getElem? (i := 194) rfl)) rfl
theorem zi_103 : Cond.methodLinkNest RX6 20 yX5_init RX7 ∈ NST := tb_n (tz_1 (List.mem_of_getElem? (i := 103) rfl)) rfl
theorem zi_101 : Cond.classLink RX6 18 RX5 ∈ TBL := tb_z (tz_1 (List.mem_of_getElem? (i := 101) rfl)) rfl
theorem zi_102 : Cond.instantiable RX5 4 ∈ TBL := tb_z (tz_1 (List.mem_of_getElem? (i := 102) rfl)) rfl
theorem zi_196 : Cond.fieldLink RX6 21 (TX6 1).1 (TX6 1).2.1 (TX6 1).2.2.1 ∈ TBL := tb_z (tz_1 (List.mem_of_getElem? (i := 196) rfl)) rfl
theorem zi_141 : Cond.methodLinkNest RX6 27 yX1_init RX7 ∈ NST := tb_n (tz_1 (List.mem_of_getElem? (i := 141) rfl)) rfl
theorem zi_139 : Cond.classLink RX6 25 RX1 ∈ TBL := tb_z (tz_1 (List.mem_of_getElem? (i := 139) rfl)) rfl
theorem zi_140 : Cond.instantiable RX1 11 ∈ TBL := tb_z (tz_1 (List.mem_of_getElem? (i := 140) rfl)) rfl
theorem zi_198 : Cond.fieldLink RX6 28 (TX6 2).1 (TX6 2).2.1 (TX6 2).2.2.1 ∈ TBL := tb_z (tz_1 (List.mem_of_getElem? (i := 198) rfl)) rfl
theorem zi_193 : Cond.methodLink RX6 34 yX3_init ∈ TBL := tb_z (tz_1 (List.mem_of_getElem? (i := 193) rfl)) rfl
theorem zi_192 : Cond.classLink RX6 32 RX3 ∈ TBL := tb_z (tz_1 (List.mem_of_getElem? (i := 192) rfl)) rfl
theorem zi_206 : Cond.fieldLink RX6 37 (TX6 6).1 (TX6 6).2.1 (TX6 6).2.2.1 ∈ TBL := tb_z (tz_1 (List.mem_of_getElem? (i := 206) rfl)) rfl
theorem zi_207 : Cond.fieldLink RX6 41 (TX6 7).1 (TX6 7).2.1 (TX6 7).2.2.1 ∈ TBL := tb_z (tz_1 (List.mem_of_getElem? (i := 207) rfl)) rfl
theorem zi_31 : Cond.code yX6_init cX6_init 1 none ∈ TBL := tb_z (tz_1 (List.mem_of_getElem? (i := 31) rfl)) rfl
theorem zi_30 : Cond.instanceMethod yX6_init ∈ TBL := tb_z (tz_1 (List.mem_of_getElem? (i := 30) rfl)) rfl
theorem zi_2 : Cond.initialized RX6 ∈ TBL := tb_z (tz_1 (List.mem_of_getElem? (i := 2) rfl)) rfl
theorem zi_233 : Cond.code yX2_init cX2_init 1 none ∈ TBL := tb_z (tz_1 (List.mem_of_getElem? (i := 233) rfl)) rfl
theorem zi_232 : Cond.instanceMethod yX2_init ∈ TBL := tb_z (tz_1 (List.mem_of_getElem? (i := 232) rfl)) rfl
theorem zi_9 : Cond.initialized RX2 ∈ TBL := tb_z (tz_1 (List.mem_of_getElem? (i := 9) rfl)) rfl
