/-! more words -/
theorem q_1048 : Cond.methodLink RL 7 yX7_begin ∈ TBL := tb_z (tz_3 (List.mem_of_getElem? (i := 173) rfl)) rfl
theorem q_1049 : Cond.code yX7_begin cX7_begin 3 (some .int) ∈ TBL := tb_z (tz_3 (List.mem_of_getElem? (i := 176) rfl)) rfl
theorem q_1050 : Cond.initialized yX7_begin.cls ∈ TBL := tb_z (tz_1 (List.mem_of_getElem? (i := 1) rfl)) rfl
theorem q_1051 : Cond.instanceMethod yX7_begin ∈ TBL := tb_z (tz_3 (List.mem_of_getElem? (i := 174) rfl)) rfl
theorem q_1052 : Cond.selects yX7_begin.cls yX7_begin yX7_begin ∈ TBL := tb_z (tz_3 (List.mem_of_getElem? (i := 175) rfl)) rfl
theorem q_1053 : Cond.classLink RL 13 (exn 2) ∈ TBL := tb_z (tz_3 (List.mem_of_getElem? (i := 172) rfl)) rfl
theorem q_1054 : Cond.methodLink RL 15 yX7_setHeight ∈ TBL := tb_z (tz_4 (List.mem_of_getElem? (i := 12) rfl)) rfl
theorem q_1055 : Cond.code yX7_setHeight cX7_setHeight 4 (some .int) ∈ TBL := tb_z (tz_4 (List.mem_of_getElem? (i := 15) rfl)) rfl
theorem q_1056 : Cond.initialized yX7_setHeight.cls ∈ TBL := tb_z (tz_1 (List.mem_of_getElem? (i := 1) rfl)) rfl
theorem q_1057 : Cond.instanceMethod yX7_setHeight ∈ TBL := tb_z (tz_4 (List.mem_of_getElem? (i := 13) rfl)) rfl
theorem q_1058 : Cond.selects yX7_setHeight.cls yX7_setHeight yX7_setHeight ∈ TBL := tb_z (tz_4 (List.mem_of_getElem? (i := 14) rfl)) rfl
theorem q_1059 : Cond.classLink RL 18 (exn 1) ∈ TBL := tb_z (tz_4 (List.mem_of_getElem? (i := 11) rfl)) rfl
theorem q_1060 : Cond.methodLink RL 20 yX7_setDrain ∈ TBL := tb_z (tz_4 (List.mem_of_getElem? (i := 53) rfl)) rfl
theorem q_1061 : Cond.code yX7_setDrain cX7_setDrain 4 (some .boolean) ∈ TBL := tb_z (tz_4 (List.mem_of_getElem? (i := 56) rfl)) rfl
theorem q_1062 : Cond.initialized yX7_setDrain.cls ∈ TBL := tb_z (tz_1 (List.mem_of_getElem? (i := 1) rfl)) rfl
theorem q_1063 : Cond.instanceMethod yX7_setDrain ∈ TBL := tb_z (tz_4 (List.mem_of_getElem? (i := 54) rfl)) rfl
theorem q_1064 : Cond.selects yX7_setDrain.cls yX7_setDrain yX7_setDrain ∈ TBL := tb_z (tz_4 (List.mem_of_getElem? (i := 55) rfl)) rfl
theorem q_1065 : Cond.methodLink RL 24 yX7_setGate ∈ TBL := tb_z (tz_4 (List.mem_of_getElem? (i := 61) rfl)) rfl
theorem q_1066 : Cond.code yX7_setGate cX7_setGate 5 (some .int) ∈ TBL := tb_z (tz_4 (List.mem_of_getElem? (i := 64) rfl)) rfl
theorem q_1067 : Cond.initialized yX7_setGate.cls ∈ TBL := tb_z (tz_1 (List.mem_of_getElem? (i := 1) rfl)) rfl
theorem q_1068 : Cond.instanceMethod yX7_setGate ∈ TBL := tb_z (tz_4 (List.mem_of_getElem? (i := 62) rfl)) rfl
theorem q_1069 : Cond.selects yX7_setGate.cls yX7_setGate yX7_setGate ∈ TBL := tb_z (tz_4 (List.mem_of_getElem? (i := 63) rfl)) rfl
theorem q_1070 : Cond.methodLink RL 28 yX7_random ∈ TBL := tb_z (tz_4 (List.mem_of_getElem? (i := 75) rfl)) rfl
theorem q_1071 : Cond.code yX7_random cX7_random 3 (some .int) ∈ TBL := tb_z (tz_4 (List.mem_of_getElem? (i := 78) rfl)) rfl
theorem q_1072 : Cond.initialized yX7_random.cls ∈ TBL := tb_z (tz_1 (List.mem_of_getElem? (i := 1) rfl)) rfl
theorem q_1073 : Cond.instanceMethod yX7_random ∈ TBL := tb_z (tz_4 (List.mem_of_getElem? (i := 76) rfl)) rfl
theorem q_1074 : Cond.selects yX7_random.cls yX7_random yX7_random ∈ TBL := tb_z (tz_4 (List.mem_of_getElem? (i := 77) rfl)) rfl
theorem q_1075 : Cond.methodLink RL 31 yX7_cell ∈ TBL := tb_z (tz_4 (List.mem_of_getElem? (i := 91) rfl)) rfl
theorem q_1076 : Cond.code yX7_cell cX7_cell 3 (some .int) ∈ TBL := tb_z (tz_4 (List.mem_of_getElem? (i := 94) rfl)) rfl
theorem q_1077 : Cond.initialized yX7_cell.cls ∈ TBL := tb_z (tz_1 (List.mem_of_getElem? (i := 1) rfl)) rfl
theorem q_1078 : Cond.instanceMethod yX7_cell ∈ TBL := tb_z (tz_4 (List.mem_of_getElem? (i := 92) rfl)) rfl
theorem q_1079 : Cond.selects yX7_cell.cls yX7_cell yX7_cell ∈ TBL := tb_z (tz_4 (List.mem_of_getElem? (i := 93) rfl)) rfl
theorem q_1080 : Cond.methodLink RL 34 yX7_between ∈ TBL := tb_z (tz_4 (List.mem_of_getElem? (i := 98) rfl)) rfl
theorem q_1081 : Cond.code yX7_between cX7_between 5 (some .int) ∈ TBL := tb_z (tz_4 (List.mem_of_getElem? (i := 101) rfl)) rfl
theorem q_1082 : Cond.initialized yX7_between.cls ∈ TBL := tb_z (tz_1 (List.mem_of_getElem? (i := 1) rfl)) rfl
theorem q_1083 : Cond.instanceMethod yX7_between ∈ TBL := tb_z (tz_4 (List.mem_of_getElem? (i := 99) rfl)) rfl
theorem q_1084 : Cond.selects yX7_between.cls yX7_between yX7_between ∈ TBL := tb_z (tz_4 (List.mem_of_getElem? (i := 100) rfl)) rfl
theorem q_1085 : Cond.methodLink RL 38 yX7_count ∈ TBL := tb_z (tz_4 (List.mem_of_getElem? (i := 105) rfl)) rfl
theorem q_1086 : Cond.code yX7_count cX7_count 2 (some .int) ∈ TBL := tb_z (tz_4 (List.mem_of_getElem? (i := 108) rfl)) rfl
theorem q_1087 : Cond.initialized yX7_count.cls ∈ TBL := tb_z (tz_1 (List.mem_of_getElem? (i := 1) rfl)) rfl
theorem q_1088 : Cond.instanceMethod yX7_count ∈ TBL := tb_z (tz_4 (List.mem_of_getElem? (i := 106) rfl)) rfl
theorem q_1089 : Cond.selects yX7_count.cls yX7_count yX7_count ∈ TBL := tb_z (tz_4 (List.mem_of_getElem? (i := 107) rfl)) rfl
theorem q_1090 : Cond.methodLink RL 42 yX7_pour ∈ TBL := tb_z (tz_4 (List.mem_of_getElem? (i := 113) rfl)) rfl
theorem q_1091 : Cond.code yX7_pour cX7_pour 3 (some .int) ∈ TBL := tb_z (tz_4 (List.mem_of_getElem? (i := 116) rfl)) rfl
theorem q_1092 : Cond.initialized yX7_pour.cls ∈ TBL := tb_z (tz_1 (List.mem_of_getElem? (i := 1) rfl)) rfl
theorem q_1093 : Cond.instanceMethod yX7_pour ∈ TBL := tb_z (tz_4 (List.mem_of_getElem? (i := 114) rfl)) rfl
theorem q_1094 : Cond.selects yX7_pour.cls yX7_pour yX7_pour ∈ TBL := tb_z (tz_4 (List.mem_of_getElem? (i := 115) rfl)) rfl
theorem q_1095 : Cond.classLink RL 45 (exn 3) ∈ TBL := tb_z (tz_4 (List.mem_of_getElem? (i := 112) rfl)) rfl
theorem q_1096 : Cond.methodLink RL 47 yX7_rain ∈ TBL := tb_z (tz_4 (List.mem_of_getElem? (i := 143) rfl)) rfl
theorem q_1097 : Cond.code yX7_rain cX7_rain 2 (some .int) ∈ TBL := tb_z (tz_4 (List.mem_of_getElem? (i := 146) rfl)) rfl
theorem q_1098 : Cond.initialized yX7_rain.cls ∈ TBL := tb_z (tz_1 (List.mem_of_getElem? (i := 1) rfl)) rfl
theorem q_1099 : Cond.instanceMethod yX7_rain ∈ TBL := tb_z (tz_4 (List.mem_of_getElem? (i := 144) rfl)) rfl
theorem q_1100 : Cond.selects yX7_rain.cls yX7_rain yX7_rain ∈ TBL := tb_z (tz_4 (List.mem_of_getElem? (i := 145) rfl)) rfl
theorem q_1101 : Cond.methodLink RL 50 yX7_evaporate ∈ TBL := tb_z (tz_4 (List.mem_of_getElem? (i := 150) rfl)) rfl
theorem q_1102 : Cond.code yX7_evaporate cX7_evaporate 2 (some .int) ∈ TBL := tb_z (tz_4 (List.mem_of_getElem? (i := 153) rfl)) rfl
theorem q_1103 : Cond.initialized yX7_evaporate.cls ∈ TBL := tb_z (tz_1 (List.mem_of_getElem? (i := 1) rfl)) rfl
theorem q_1104 : Cond.instanceMethod yX7_evaporate ∈ TBL := tb_z (tz_4 (List.mem_of_getElem? (i := 151) rfl)) rfl
theorem q_1105 : Cond.selects yX7_evaporate.cls yX7_evaporate yX7_evaporate ∈ TBL := tb_z (tz_4 (List.mem_of_getElem? (i := 152) rfl)) rfl
theorem q_1106 : Cond.methodLink RL 53 yX7_take ∈ TBL := tb_z (tz_4 (List.mem_of_getElem? (i := 175) rfl)) rfl
theorem q_1107 : Cond.code yX7_take cX7_take 4 (some .int) ∈ TBL := tb_z (tz_4 (List.mem_of_getElem? (i := 178) rfl)) rfl
theorem q_1108 : Cond.initialized yX7_take.cls ∈ TBL := tb_z (tz_1 (List.mem_of_getElem? (i := 1) rfl)) rfl
theorem q_1109 : Cond.instanceMethod yX7_take ∈ TBL := tb_z (tz_4 (List.mem_of_getElem? (i := 176) rfl)) rfl
theorem q_1110 : Cond.selects yX7_take.cls yX7_take yX7_take ∈ TBL := tb_z (tz_4 (List.mem_of_getElem? (i := 177) rfl)) rfl
theorem q_1111 : Cond.methodLink RL 56 yX7_balance ∈ TBL := tb_z (tz_4 (List.mem_of_getElem? (i := 188) rfl)) rfl
theorem q_1112 : Cond.code yX7_balance cX7_balance 2 (some .long) ∈ TBL := tb_z (tz_4 (List.mem_of_getElem? (i := 191) rfl)) rfl
theorem q_1113 : Cond.initialized yX7_balance.cls ∈ TBL := tb_z (tz_1 (List.mem_of_getElem? (i := 1) rfl)) rfl
theorem q_1114 : Cond.instanceMethod yX7_balance ∈ TBL := tb_z (tz_4 (List.mem_of_getElem? (i := 189) rfl)) rfl
theorem q_1115 : Cond.selects yX7_balance.cls yX7_balance yX7_balance ∈ TBL := tb_z (tz_4 (List.mem_of_getElem? (i := 190) rfl)) rfl
theorem q_1116 : Cond.methodLink RL 60 yX7_lake ∈ TBL := tb_z (tz_4 (List.mem_of_getElem? (i := 195) rfl)) rfl
theorem q_1117 : Cond.code yX7_lake cX7_lake 4 (some .int) ∈ TBL := tb_z (tz_4 (List.mem_of_getElem? (i := 198) rfl)) rfl
theorem q_1118 : Cond.initialized yX7_lake.cls ∈ TBL := tb_z (tz_1 (List.mem_of_getElem? (i := 1) rfl)) rfl
theorem q_1119 : Cond.instanceMethod yX7_lake ∈ TBL := tb_z (tz_4 (List.mem_of_getElem? (i := 196) rfl)) rfl
theorem q_1120 : Cond.selects yX7_lake.cls yX7_lake yX7_lake ∈ TBL := tb_z (tz_4 (List.mem_of_getElem? (i := 197) rfl)) rfl
theorem q_1121 : Cond.methodLink RL 63 yX7_lakeCells ∈ TBL := tb_z (tz_4 (List.mem_of_getElem? (i := 202) rfl)) rfl
theorem q_1122 : Cond.code yX7_lakeCells cX7_lakeCells 2 (some .long) ∈ TBL := tb_z (tz_4 (List.mem_of_getElem? (i := 205) rfl)) rfl
theorem q_1123 : Cond.initialized yX7_lakeCells.cls ∈ TBL := tb_z (tz_1 (List.mem_of_getElem? (i := 1) rfl)) rfl
theorem q_1124 : Cond.instanceMethod yX7_lakeCells ∈ TBL := tb_z (tz_4 (List.mem_of_getElem? (i := 203) rfl)) rfl
theorem q_1125 : Cond.selects yX7_lakeCells.cls yX7_lakeCells yX7_lakeCells ∈ TBL := tb_z (tz_4 (List.mem_of_getElem? (i := 204) rfl)) rfl
theorem q_1126 : Cond.methodLink RL 66 yX7_level ∈ TBL := tb_z (tz_4 (List.mem_of_getElem? (i := 209) rfl)) rfl
theorem q_1127 : Cond.code yX7_level cX7_level 4 (some .int) ∈ TBL := tb_z (tz_4 (List.mem_of_getElem? (i := 212) rfl)) rfl
theorem q_1128 : Cond.initialized yX7_level.cls ∈ TBL := tb_z (tz_1 (List.mem_of_getElem? (i := 1) rfl)) rfl
theorem q_1129 : Cond.instanceMethod yX7_level ∈ TBL := tb_z (tz_4 (List.mem_of_getElem? (i := 210) rfl)) rfl
theorem q_1130 : Cond.selects yX7_level.cls yX7_level yX7_level ∈ TBL := tb_z (tz_4 (List.mem_of_getElem? (i := 211) rfl)) rfl
theorem q_1131 : Cond.methodLink RL 69 yX7_depth ∈ TBL := tb_z (tz_4 (List.mem_of_getElem? (i := 216) rfl)) rfl
theorem q_1132 : Cond.code yX7_depth cX7_depth 2 (some .double) ∈ TBL := tb_z (tz_4 (List.mem_of_getElem? (i := 219) rfl)) rfl
theorem q_1133 : Cond.initialized yX7_depth.cls ∈ TBL := tb_z (tz_1 (List.mem_of_getElem? (i := 1) rfl)) rfl
theorem q_1134 : Cond.instanceMethod yX7_depth ∈ TBL := tb_z (tz_4 (List.mem_of_getElem? (i := 217) rfl)) rfl
theorem q_1135 : Cond.selects yX7_depth.cls yX7_depth yX7_depth ∈ TBL := tb_z (tz_4 (List.mem_of_getElem? (i := 218) rfl)) rfl
theorem q_1136 : Cond.methodLink RL 73 yX7_course ∈ TBL := tb_z (tz_4 (List.mem_of_getElem? (i := 223) rfl)) rfl
theorem q_1137 : Cond.code yX7_course cX7_course 2 (some .long) ∈ TBL := tb_z (tz_4 (List.mem_of_getElem? (i := 226) rfl)) rfl
theorem q_1138 : Cond.initialized yX7_course.cls ∈ TBL := tb_z (tz_1 (List.mem_of_getElem? (i := 1) rfl)) rfl
theorem q_1139 : Cond.instanceMethod yX7_course ∈ TBL := tb_z (tz_4 (List.mem_of_getElem? (i := 224) rfl)) rfl
theorem q_1140 : Cond.selects yX7_course.cls yX7_course yX7_course ∈ TBL := tb_z (tz_4 (List.mem_of_getElem? (i := 225) rfl)) rfl
theorem q_1141 : Cond.methodLink RL 76 yX7_amountFor ∈ TBL := tb_z (tz_4 (List.mem_of_getElem? (i := 234) rfl)) rfl
theorem q_1142 : Cond.code yX7_amountFor cX7_amountFor 7 (some .int) ∈ TBL := tb_z (tz_4 (List.mem_of_getElem? (i := 237) rfl)) rfl
theorem q_1143 : Cond.initialized yX7_amountFor.cls ∈ TBL := tb_z (tz_1 (List.mem_of_getElem? (i := 1) rfl)) rfl
theorem q_1144 : Cond.instanceMethod yX7_amountFor ∈ TBL := tb_z (tz_4 (List.mem_of_getElem? (i := 235) rfl)) rfl
theorem q_1145 : Cond.selects yX7_amountFor.cls yX7_amountFor yX7_amountFor ∈ TBL := tb_z (tz_4 (List.mem_of_getElem? (i := 236) rfl)) rfl
theorem q_1146 : Cond.methodLink RL 79 yX7_withoutGate ∈ TBL := tb_z (tz_5 (List.mem_of_getElem? (i := 5) rfl)) rfl
theorem q_1147 : Cond.code yX7_withoutGate cX7_withoutGate 3 (some .int) ∈ TBL := tb_z (tz_5 (List.mem_of_getElem? (i := 8) rfl)) rfl
theorem q_1148 : Cond.initialized yX7_withoutGate.cls ∈ TBL := tb_z (tz_1 (List.mem_of_getElem? (i := 1) rfl)) rfl
theorem q_1149 : Cond.instanceMethod yX7_withoutGate ∈ TBL := tb_z (tz_5 (List.mem_of_getElem? (i := 6) rfl)) rfl
theorem q_1150 : Cond.selects yX7_withoutGate.cls yX7_withoutGate yX7_withoutGate ∈ TBL := tb_z (tz_5 (List.mem_of_getElem? (i := 7) rfl)) rfl
theorem q_1151 : Cond.methodLink RL 82 yX7_append ∈ TBL := tb_z (tz_5 (List.mem_of_getElem? (i := 12) rfl)) rfl
theorem q_1152 : Cond.code yX7_append cX7_append 2 (some .int) ∈ TBL := tb_z (tz_5 (List.mem_of_getElem? (i := 15) rfl)) rfl
theorem q_1153 : Cond.initialized yX7_append.cls ∈ TBL := tb_z (tz_1 (List.mem_of_getElem? (i := 1) rfl)) rfl
theorem q_1154 : Cond.instanceMethod yX7_append ∈ TBL := tb_z (tz_5 (List.mem_of_getElem? (i := 13) rfl)) rfl
theorem q_1155 : Cond.selects yX7_append.cls yX7_append yX7_append ∈ TBL := tb_z (tz_5 (List.mem_of_getElem? (i := 14) rfl)) rfl
theorem q_1156 : Cond.methodLink RL 85 yX7_undo ∈ TBL := tb_z (tz_5 (List.mem_of_getElem? (i := 24) rfl)) rfl
theorem q_1157 : Cond.code yX7_undo cX7_undo 1 (some .int) ∈ TBL := tb_z (tz_5 (List.mem_of_getElem? (i := 27) rfl)) rfl
theorem q_1158 : Cond.initialized yX7_undo.cls ∈ TBL := tb_z (tz_1 (List.mem_of_getElem? (i := 1) rfl)) rfl
theorem q_1159 : Cond.instanceMethod yX7_undo ∈ TBL := tb_z (tz_5 (List.mem_of_getElem? (i := 25) rfl)) rfl
theorem q_1160 : Cond.selects yX7_undo.cls yX7_undo yX7_undo ∈ TBL := tb_z (tz_5 (List.mem_of_getElem? (i := 26) rfl)) rfl
theorem wdX7_begin : WdV yX7_begin cX7_begin 3 (some .int) 2 := ⟨q_1049, q_1051, q_1052, q_1050, by decide +kernel, by decide +kernel⟩
theorem wdX7_setHeight : WdV yX7_setHeight cX7_setHeight 4 (some .int) 2 := ⟨q_1055, q_1057, q_1058, q_1056, by decide +kernel, by decide +kernel⟩
theorem wdX7_setDrain : WdV yX7_setDrain cX7_setDrain 4 (some .boolean) 2 := ⟨q_1061, q_1063, q_1064, q_1062, by decide +kernel, by decide +kernel⟩
theorem wdX7_setGate : WdV yX7_setGate cX7_setGate 5 (some .int) 3 := ⟨q_1066, q_1068, q_1069, q_1067, by decide +kernel, by decide +kernel⟩
theorem wdX7_random : WdV yX7_random cX7_random 3 (some .int) 2 := ⟨q_1071, q_1073, q_1074, q_1072, by decide +kernel, by decide +kernel⟩
theorem wdX7_cell : WdV yX7_cell cX7_cell 3 (some .int) 2 := ⟨q_1076, q_1078, q_1079, q_1077, by decide +kernel, by decide +kernel⟩
theorem wdX7_between : WdV yX7_between cX7_between 5 (some .int) 3 := ⟨q_1081, q_1083, q_1084, q_1082, by decide +kernel, by decide +kernel⟩
theorem wdX7_count : WdV yX7_count cX7_count 2 (some .int) 1 := ⟨q_1086, q_1088, q_1089, q_1087, by decide +kernel, by decide +kernel⟩
theorem wdX7_pour : WdV yX7_pour cX7_pour 3 (some .int) 2 := ⟨q_1091, q_1093, q_1094, q_1092, by decide +kernel, by decide +kernel⟩
theorem wdX7_rain : WdV yX7_rain cX7_rain 2 (some .int) 1 := ⟨q_1097, q_1099, q_1100, q_1098, by decide +kernel, by decide +kernel⟩
theorem wdX7_evaporate : WdV yX7_evaporate cX7_evaporate 2 (some .int) 1 := ⟨q_1102, q_1104, q_1105, q_1103, by decide +kernel, by decide +kernel⟩
theorem wdX7_take : WdV yX7_take cX7_take 4 (some .int) 2 := ⟨q_1107, q_1109, q_1110, q_1108, by decide +kernel, by decide +kernel⟩
theorem wdX7_balance : WdV yX7_balance cX7_balance 2 (some .long) 1 := ⟨q_1112, q_1114, q_1115, q_1113, by decide +kernel, by decide +kernel⟩
theorem wdX7_lake : WdV yX7_lake cX7_lake 4 (some .int) 2 := ⟨q_1117, q_1119, q_1120, q_1118, by decide +kernel, by decide +kernel⟩
theorem wdX7_lakeCells : WdV yX7_lakeCells cX7_lakeCells 2 (some .long) 1 := ⟨q_1122, q_1124, q_1125, q_1123, by decide +kernel, by decide +kernel⟩
theorem wdX7_level : WdV yX7_level cX7_level 4 (some .int) 2 := ⟨q_1127, q_1129, q_1130, q_1128, by decide +kernel, by decide +kernel⟩
theorem wdX7_depth : WdV yX7_depth cX7_depth 2 (some .double) 1 := ⟨q_1132, q_1134, q_1135, q_1133, by decide +kernel, by decide +kernel⟩
theorem wdX7_course : WdV yX7_course cX7_course 2 (some .long) 1 := ⟨q_1137, q_1139, q_1140, q_1138, by decide +kernel, by decide +kernel⟩
theorem wdX7_amountFor : WdV yX7_amountFor cX7_amountFor 7 (some .int) 2 := ⟨q_1142, q_1144, q_1145, q_1143, by decide +kernel, by decide +kernel⟩
theorem wdX7_withoutGate : WdV yX7_withoutGate cX7_withoutGate 3 (some .int) 2 := ⟨q_1147, q_1149, q_1150, q_1148, by decide +kernel, by decide +kernel⟩
theorem wdX7_append : WdV yX7_append cX7_append 2 (some .int) 1 := ⟨q_1152, q_1154, q_1155, q_1153, by decide +kernel, by decide +kernel⟩
theorem wdX7_undo : WdV yX7_undo cX7_undo 1 (some .int) 0 := ⟨q_1157, q_1159, q_1160, q_1158, by decide +kernel, by decide +kernel⟩
