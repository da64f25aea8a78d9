/-! more words -/
theorem q_1161 : Cond.codeWith yL_begin cL_begin 5 (some .int) [(0, 10, 13, 13)] ∈ TBL := tb_z (tz_3 (List.mem_of_getElem? (i := 171) rfl)) rfl
theorem q_1162 : Cond.static yL_begin ∈ TBL := tb_z (tz_3 (List.mem_of_getElem? (i := 170) rfl)) rfl
theorem q_1163 : Cond.initialized yL_begin.cls ∈ TBL := tb_z (tz_1 (List.mem_of_getElem? (i := 0) rfl)) rfl
theorem q_1164 : Cond.codeWith yL_setHeight cL_setHeight 5 (some .int) [(0, 10, 13, 18), (0, 10, 17, 13)] ∈ TBL := tb_z (tz_4 (List.mem_of_getElem? (i := 10) rfl)) rfl
theorem q_1165 : Cond.static yL_setHeight ∈ TBL := tb_z (tz_4 (List.mem_of_getElem? (i := 9) rfl)) rfl
theorem q_1166 : Cond.initialized yL_setHeight.cls ∈ TBL := tb_z (tz_1 (List.mem_of_getElem? (i := 0) rfl)) rfl
theorem q_1167 : Cond.codeWith yL_setDrain cL_setDrain 5 (some .int) [(0, 17, 20, 18)] ∈ TBL := tb_z (tz_4 (List.mem_of_getElem? (i := 52) rfl)) rfl
theorem q_1168 : Cond.static yL_setDrain ∈ TBL := tb_z (tz_4 (List.mem_of_getElem? (i := 51) rfl)) rfl
theorem q_1169 : Cond.initialized yL_setDrain.cls ∈ TBL := tb_z (tz_1 (List.mem_of_getElem? (i := 0) rfl)) rfl
theorem q_1170 : Cond.codeWith yL_setGate cL_setGate 6 (some .int) [(0, 12, 15, 18), (0, 12, 19, 13)] ∈ TBL := tb_z (tz_4 (List.mem_of_getElem? (i := 60) rfl)) rfl
theorem q_1171 : Cond.static yL_setGate ∈ TBL := tb_z (tz_4 (List.mem_of_getElem? (i := 59) rfl)) rfl
theorem q_1172 : Cond.initialized yL_setGate.cls ∈ TBL := tb_z (tz_1 (List.mem_of_getElem? (i := 0) rfl)) rfl
theorem q_1173 : Cond.codeWith yL_random cL_random 5 (some .int) [(0, 10, 13, 13)] ∈ TBL := tb_z (tz_4 (List.mem_of_getElem? (i := 74) rfl)) rfl
theorem q_1174 : Cond.static yL_random ∈ TBL := tb_z (tz_4 (List.mem_of_getElem? (i := 73) rfl)) rfl
theorem q_1175 : Cond.initialized yL_random.cls ∈ TBL := tb_z (tz_1 (List.mem_of_getElem? (i := 0) rfl)) rfl
theorem q_1176 : Cond.codeWith yL_cell cL_cell 5 (some .int) [(0, 10, 13, 18), (0, 10, 17, 13)] ∈ TBL := tb_z (tz_4 (List.mem_of_getElem? (i := 90) rfl)) rfl
theorem q_1177 : Cond.static yL_cell ∈ TBL := tb_z (tz_4 (List.mem_of_getElem? (i := 89) rfl)) rfl
theorem q_1178 : Cond.initialized yL_cell.cls ∈ TBL := tb_z (tz_1 (List.mem_of_getElem? (i := 0) rfl)) rfl
theorem q_1179 : Cond.codeWith yL_between cL_between 6 (some .int) [(0, 12, 15, 18)] ∈ TBL := tb_z (tz_4 (List.mem_of_getElem? (i := 97) rfl)) rfl
theorem q_1180 : Cond.static yL_between ∈ TBL := tb_z (tz_4 (List.mem_of_getElem? (i := 96) rfl)) rfl
theorem q_1181 : Cond.initialized yL_between.cls ∈ TBL := tb_z (tz_1 (List.mem_of_getElem? (i := 0) rfl)) rfl
theorem q_1182 : Cond.codeWith yL_count cL_count 4 (some .int) [(0, 9, 12, 13)] ∈ TBL := tb_z (tz_4 (List.mem_of_getElem? (i := 104) rfl)) rfl
theorem q_1183 : Cond.static yL_count ∈ TBL := tb_z (tz_4 (List.mem_of_getElem? (i := 103) rfl)) rfl
theorem q_1184 : Cond.initialized yL_count.cls ∈ TBL := tb_z (tz_1 (List.mem_of_getElem? (i := 0) rfl)) rfl
theorem q_1185 : Cond.codeWith yL_pour cL_pour 5 (some .int) [(0, 10, 13, 18), (0, 10, 17, 13), (0, 10, 21, 45)] ∈ TBL := tb_z (tz_4 (List.mem_of_getElem? (i := 111) rfl)) rfl
theorem q_1186 : Cond.static yL_pour ∈ TBL := tb_z (tz_4 (List.mem_of_getElem? (i := 110) rfl)) rfl
theorem q_1187 : Cond.initialized yL_pour.cls ∈ TBL := tb_z (tz_1 (List.mem_of_getElem? (i := 0) rfl)) rfl
theorem q_1188 : Cond.codeWith yL_rain cL_rain 4 (some .int) [(0, 9, 12, 13), (0, 9, 15, 45)] ∈ TBL := tb_z (tz_4 (List.mem_of_getElem? (i := 142) rfl)) rfl
theorem q_1189 : Cond.static yL_rain ∈ TBL := tb_z (tz_4 (List.mem_of_getElem? (i := 141) rfl)) rfl
theorem q_1190 : Cond.initialized yL_rain.cls ∈ TBL := tb_z (tz_1 (List.mem_of_getElem? (i := 0) rfl)) rfl
theorem q_1191 : Cond.codeWith yL_evaporate cL_evaporate 4 (some .int) [(0, 9, 12, 13)] ∈ TBL := tb_z (tz_4 (List.mem_of_getElem? (i := 149) rfl)) rfl
theorem q_1192 : Cond.static yL_evaporate ∈ TBL := tb_z (tz_4 (List.mem_of_getElem? (i := 148) rfl)) rfl
theorem q_1193 : Cond.initialized yL_evaporate.cls ∈ TBL := tb_z (tz_1 (List.mem_of_getElem? (i := 0) rfl)) rfl
theorem q_1194 : Cond.codeWith yL_take cL_take 5 (some .int) [(0, 10, 13, 18), (0, 10, 17, 13)] ∈ TBL := tb_z (tz_4 (List.mem_of_getElem? (i := 174) rfl)) rfl
theorem q_1195 : Cond.static yL_take ∈ TBL := tb_z (tz_4 (List.mem_of_getElem? (i := 173) rfl)) rfl
theorem q_1196 : Cond.initialized yL_take.cls ∈ TBL := tb_z (tz_1 (List.mem_of_getElem? (i := 0) rfl)) rfl
theorem q_1197 : Cond.codeWith yL_balance cL_balance 4 (some .int) [(0, 8, 11, 13)] ∈ TBL := tb_z (tz_4 (List.mem_of_getElem? (i := 187) rfl)) rfl
theorem q_1198 : Cond.static yL_balance ∈ TBL := tb_z (tz_4 (List.mem_of_getElem? (i := 186) rfl)) rfl
theorem q_1199 : Cond.initialized yL_balance.cls ∈ TBL := tb_z (tz_1 (List.mem_of_getElem? (i := 0) rfl)) rfl
theorem q_1200 : Cond.codeWith yL_lake cL_lake 5 (some .int) [(0, 10, 13, 18), (0, 10, 17, 13)] ∈ TBL := tb_z (tz_4 (List.mem_of_getElem? (i := 194) rfl)) rfl
theorem q_1201 : Cond.static yL_lake ∈ TBL := tb_z (tz_4 (List.mem_of_getElem? (i := 193) rfl)) rfl
theorem q_1202 : Cond.initialized yL_lake.cls ∈ TBL := tb_z (tz_1 (List.mem_of_getElem? (i := 0) rfl)) rfl
theorem q_1203 : Cond.codeWith yL_lakeCells cL_lakeCells 4 (some .int) [(0, 8, 11, 18)] ∈ TBL := tb_z (tz_4 (List.mem_of_getElem? (i := 201) rfl)) rfl
theorem q_1204 : Cond.static yL_lakeCells ∈ TBL := tb_z (tz_4 (List.mem_of_getElem? (i := 200) rfl)) rfl
theorem q_1205 : Cond.initialized yL_lakeCells.cls ∈ TBL := tb_z (tz_1 (List.mem_of_getElem? (i := 0) rfl)) rfl
theorem q_1206 : Cond.codeWith yL_level cL_level 5 (some .int) [(0, 10, 13, 18), (0, 10, 17, 13)] ∈ TBL := tb_z (tz_4 (List.mem_of_getElem? (i := 208) rfl)) rfl
theorem q_1207 : Cond.static yL_level ∈ TBL := tb_z (tz_4 (List.mem_of_getElem? (i := 207) rfl)) rfl
theorem q_1208 : Cond.initialized yL_level.cls ∈ TBL := tb_z (tz_1 (List.mem_of_getElem? (i := 0) rfl)) rfl
theorem q_1209 : Cond.codeWith yL_depth cL_depth 4 (some .int) [(0, 8, 11, 18)] ∈ TBL := tb_z (tz_4 (List.mem_of_getElem? (i := 215) rfl)) rfl
theorem q_1210 : Cond.static yL_depth ∈ TBL := tb_z (tz_4 (List.mem_of_getElem? (i := 214) rfl)) rfl
theorem q_1211 : Cond.initialized yL_depth.cls ∈ TBL := tb_z (tz_1 (List.mem_of_getElem? (i := 0) rfl)) rfl
theorem q_1212 : Cond.codeWith yL_course cL_course 4 (some .int) [(0, 8, 11, 18)] ∈ TBL := tb_z (tz_4 (List.mem_of_getElem? (i := 222) rfl)) rfl
theorem q_1213 : Cond.static yL_course ∈ TBL := tb_z (tz_4 (List.mem_of_getElem? (i := 221) rfl)) rfl
theorem q_1214 : Cond.initialized yL_course.cls ∈ TBL := tb_z (tz_1 (List.mem_of_getElem? (i := 0) rfl)) rfl
theorem q_1215 : Cond.codeWith yL_amountFor cL_amountFor 5 (some .int) [(0, 10, 13, 18)] ∈ TBL := tb_z (tz_4 (List.mem_of_getElem? (i := 233) rfl)) rfl
theorem q_1216 : Cond.static yL_amountFor ∈ TBL := tb_z (tz_4 (List.mem_of_getElem? (i := 232) rfl)) rfl
theorem q_1217 : Cond.initialized yL_amountFor.cls ∈ TBL := tb_z (tz_1 (List.mem_of_getElem? (i := 0) rfl)) rfl
theorem q_1218 : Cond.codeWith yL_withoutGate cL_withoutGate 5 (some .int) [(0, 10, 13, 18)] ∈ TBL := tb_z (tz_5 (List.mem_of_getElem? (i := 4) rfl)) rfl
theorem q_1219 : Cond.static yL_withoutGate ∈ TBL := tb_z (tz_5 (List.mem_of_getElem? (i := 3) rfl)) rfl
theorem q_1220 : Cond.initialized yL_withoutGate.cls ∈ TBL := tb_z (tz_1 (List.mem_of_getElem? (i := 0) rfl)) rfl
theorem q_1221 : Cond.codeWith yL_append cL_append 4 (some .int) [(0, 9, 12, 13), (0, 9, 15, 45)] ∈ TBL := tb_z (tz_5 (List.mem_of_getElem? (i := 11) rfl)) rfl
theorem q_1222 : Cond.static yL_append ∈ TBL := tb_z (tz_5 (List.mem_of_getElem? (i := 10) rfl)) rfl
theorem q_1223 : Cond.initialized yL_append.cls ∈ TBL := tb_z (tz_1 (List.mem_of_getElem? (i := 0) rfl)) rfl
theorem q_1224 : Cond.codeWith yL_undo cL_undo 3 (some .int) [(0, 8, 11, 45)] ∈ TBL := tb_z (tz_5 (List.mem_of_getElem? (i := 23) rfl)) rfl
theorem q_1225 : Cond.static yL_undo ∈ TBL := tb_z (tz_5 (List.mem_of_getElem? (i := 22) rfl)) rfl
theorem q_1226 : Cond.initialized yL_undo.cls ∈ TBL := tb_z (tz_1 (List.mem_of_getElem? (i := 0) rfl)) rfl
theorem q_1227 : Cond.methodLink RL 93 yL_begin ∈ TBL := tb_z (tz_3 (List.mem_of_getElem? (i := 169) rfl)) rfl
theorem q_1228 : Cond.methodLink RL 98 yX8_begin ∈ TBL := tb_z (tz_5 (List.mem_of_getElem? (i := 166) rfl)) rfl
theorem q_1229 : Cond.code yX8_begin cX8_begin 3 (some .int) ∈ TBL := tb_z (tz_5 (List.mem_of_getElem? (i := 169) rfl)) rfl
theorem q_1230 : Cond.initialized yX8_begin.cls ∈ TBL := tb_z (tz_1 (List.mem_of_getElem? (i := 13) rfl)) rfl
theorem q_1231 : Cond.instanceMethod yX8_begin ∈ TBL := tb_z (tz_5 (List.mem_of_getElem? (i := 167) rfl)) rfl
theorem q_1232 : Cond.selects yX8_begin.cls yX8_begin yX8_begin ∈ TBL := tb_z (tz_5 (List.mem_of_getElem? (i := 168) rfl)) rfl
theorem q_1233 : Cond.methodLink RL 99 yX8_thrown ∈ TBL := tb_z (tz_5 (List.mem_of_getElem? (i := 162) rfl)) rfl
theorem q_1234 : Cond.code yX8_thrown cX8_thrown 1 (some .int) ∈ TBL := tb_z (tz_5 (List.mem_of_getElem? (i := 165) rfl)) rfl
theorem q_1235 : Cond.initialized yX8_thrown.cls ∈ TBL := tb_z (tz_1 (List.mem_of_getElem? (i := 13) rfl)) rfl
theorem q_1236 : Cond.instanceMethod yX8_thrown ∈ TBL := tb_z (tz_5 (List.mem_of_getElem? (i := 163) rfl)) rfl
theorem q_1237 : Cond.selects yX8_thrown.cls yX8_thrown yX8_thrown ∈ TBL := tb_z (tz_5 (List.mem_of_getElem? (i := 164) rfl)) rfl
theorem q_1238 : Cond.methodLink RL 102 yL_setHeight ∈ TBL := tb_z (tz_4 (List.mem_of_getElem? (i := 8) rfl)) rfl
theorem q_1239 : Cond.methodLink RL 104 yX8_setHeight ∈ TBL := tb_z (tz_5 (List.mem_of_getElem? (i := 182) rfl)) rfl
theorem q_1240 : Cond.code yX8_setHeight cX8_setHeight 4 (some .int) ∈ TBL := tb_z (tz_5 (List.mem_of_getElem? (i := 185) rfl)) rfl
theorem q_1241 : Cond.initialized yX8_setHeight.cls ∈ TBL := tb_z (tz_1 (List.mem_of_getElem? (i := 13) rfl)) rfl
theorem q_1242 : Cond.instanceMethod yX8_setHeight ∈ TBL := tb_z (tz_5 (List.mem_of_getElem? (i := 183) rfl)) rfl
theorem q_1243 : Cond.selects yX8_setHeight.cls yX8_setHeight yX8_setHeight ∈ TBL := tb_z (tz_5 (List.mem_of_getElem? (i := 184) rfl)) rfl
theorem q_1244 : Cond.methodLink RL 105 yL_setDrain ∈ TBL := tb_z (tz_4 (List.mem_of_getElem? (i := 50) rfl)) rfl
theorem q_1245 : Cond.methodLink RL 108 yX8_setDrain ∈ TBL := tb_z (tz_5 (List.mem_of_getElem? (i := 227) rfl)) rfl
theorem q_1246 : Cond.code yX8_setDrain cX8_setDrain 4 (some .boolean) ∈ TBL := tb_z (tz_5 (List.mem_of_getElem? (i := 230) rfl)) rfl
theorem q_1247 : Cond.initialized yX8_setDrain.cls ∈ TBL := tb_z (tz_1 (List.mem_of_getElem? (i := 13) rfl)) rfl
theorem q_1248 : Cond.instanceMethod yX8_setDrain ∈ TBL := tb_z (tz_5 (List.mem_of_getElem? (i := 228) rfl)) rfl
theorem q_1249 : Cond.selects yX8_setDrain.cls yX8_setDrain yX8_setDrain ∈ TBL := tb_z (tz_5 (List.mem_of_getElem? (i := 229) rfl)) rfl
theorem q_1250 : Cond.methodLink RL 109 yL_setGate ∈ TBL := tb_z (tz_4 (List.mem_of_getElem? (i := 58) rfl)) rfl
theorem q_1251 : Cond.methodLink RL 112 yX8_setGate ∈ TBL := tb_z (tz_5 (List.mem_of_getElem? (i := 231) rfl)) rfl
theorem q_1252 : Cond.code yX8_setGate cX8_setGate 5 (some .int) ∈ TBL := tb_z (tz_5 (List.mem_of_getElem? (i := 234) rfl)) rfl
theorem q_1253 : Cond.initialized yX8_setGate.cls ∈ TBL := tb_z (tz_1 (List.mem_of_getElem? (i := 13) rfl)) rfl
theorem q_1254 : Cond.instanceMethod yX8_setGate ∈ TBL := tb_z (tz_5 (List.mem_of_getElem? (i := 232) rfl)) rfl
theorem q_1255 : Cond.selects yX8_setGate.cls yX8_setGate yX8_setGate ∈ TBL := tb_z (tz_5 (List.mem_of_getElem? (i := 233) rfl)) rfl
theorem q_1256 : Cond.methodLink RL 113 yL_random ∈ TBL := tb_z (tz_4 (List.mem_of_getElem? (i := 72) rfl)) rfl
theorem q_1257 : Cond.methodLink RL 115 yX8_random ∈ TBL := tb_z (tz_6 (List.mem_of_getElem? (i := 3) rfl)) rfl
theorem q_1258 : Cond.code yX8_random cX8_random 6 (some .int) ∈ TBL := tb_z (tz_6 (List.mem_of_getElem? (i := 6) rfl)) rfl
theorem q_1259 : Cond.initialized yX8_random.cls ∈ TBL := tb_z (tz_1 (List.mem_of_getElem? (i := 13) rfl)) rfl
theorem q_1260 : Cond.instanceMethod yX8_random ∈ TBL := tb_z (tz_6 (List.mem_of_getElem? (i := 4) rfl)) rfl
theorem q_1261 : Cond.selects yX8_random.cls yX8_random yX8_random ∈ TBL := tb_z (tz_6 (List.mem_of_getElem? (i := 5) rfl)) rfl
theorem q_1262 : Cond.methodLink RL 116 yL_cell ∈ TBL := tb_z (tz_4 (List.mem_of_getElem? (i := 88) rfl)) rfl
theorem q_1263 : Cond.methodLink RL 118 yX8_cell ∈ TBL := tb_z (tz_6 (List.mem_of_getElem? (i := 12) rfl)) rfl
theorem q_1264 : Cond.code yX8_cell cX8_cell 3 (some .int) ∈ TBL := tb_z (tz_6 (List.mem_of_getElem? (i := 15) rfl)) rfl
theorem q_1265 : Cond.initialized yX8_cell.cls ∈ TBL := tb_z (tz_1 (List.mem_of_getElem? (i := 13) rfl)) rfl
theorem q_1266 : Cond.instanceMethod yX8_cell ∈ TBL := tb_z (tz_6 (List.mem_of_getElem? (i := 13) rfl)) rfl
theorem q_1267 : Cond.selects yX8_cell.cls yX8_cell yX8_cell ∈ TBL := tb_z (tz_6 (List.mem_of_getElem? (i := 14) rfl)) rfl
theorem q_1268 : Cond.methodLink RL 119 yL_between ∈ TBL := tb_z (tz_4 (List.mem_of_getElem? (i := 95) rfl)) rfl
theorem q_1269 : Cond.methodLink RL 122 yX8_between ∈ TBL := tb_z (tz_6 (List.mem_of_getElem? (i := 33) rfl)) rfl
theorem q_1270 : Cond.code yX8_between cX8_between 4 (some .int) ∈ TBL := tb_z (tz_6 (List.mem_of_getElem? (i := 36) rfl)) rfl
theorem q_1271 : Cond.initialized yX8_between.cls ∈ TBL := tb_z (tz_1 (List.mem_of_getElem? (i := 13) rfl)) rfl
theorem q_1272 : Cond.instanceMethod yX8_between ∈ TBL := tb_z (tz_6 (List.mem_of_getElem? (i := 34) rfl)) rfl
theorem q_1273 : Cond.selects yX8_between.cls yX8_between yX8_between ∈ TBL := tb_z (tz_6 (List.mem_of_getElem? (i := 35) rfl)) rfl
theorem q_1274 : Cond.methodLink RL 123 yL_count ∈ TBL := tb_z (tz_4 (List.mem_of_getElem? (i := 102) rfl)) rfl
theorem q_1275 : Cond.methodLink RL 126 yX8_count ∈ TBL := tb_z (tz_6 (List.mem_of_getElem? (i := 37) rfl)) rfl
theorem q_1276 : Cond.code yX8_count cX8_count 2 (some .int) ∈ TBL := tb_z (tz_6 (List.mem_of_getElem? (i := 40) rfl)) rfl
theorem q_1277 : Cond.initialized yX8_count.cls ∈ TBL := tb_z (tz_1 (List.mem_of_getElem? (i := 13) rfl)) rfl
theorem q_1278 : Cond.instanceMethod yX8_count ∈ TBL := tb_z (tz_6 (List.mem_of_getElem? (i := 38) rfl)) rfl
theorem q_1279 : Cond.selects yX8_count.cls yX8_count yX8_count ∈ TBL := tb_z (tz_6 (List.mem_of_getElem? (i := 39) rfl)) rfl
theorem q_1280 : Cond.methodLink RL 127 yL_pour ∈ TBL := tb_z (tz_4 (List.mem_of_getElem? (i := 109) rfl)) rfl
theorem q_1281 : Cond.methodLink RL 129 yX8_pour ∈ TBL := tb_z (tz_6 (List.mem_of_getElem? (i := 57) rfl)) rfl
theorem q_1282 : Cond.code yX8_pour cX8_pour 5 (some .int) ∈ TBL := tb_z (tz_6 (List.mem_of_getElem? (i := 60) rfl)) rfl
theorem q_1283 : Cond.initialized yX8_pour.cls ∈ TBL := tb_z (tz_1 (List.mem_of_getElem? (i := 13) rfl)) rfl
theorem q_1284 : Cond.instanceMethod yX8_pour ∈ TBL := tb_z (tz_6 (List.mem_of_getElem? (i := 58) rfl)) rfl
theorem q_1285 : Cond.selects yX8_pour.cls yX8_pour yX8_pour ∈ TBL := tb_z (tz_6 (List.mem_of_getElem? (i := 59) rfl)) rfl
theorem q_1286 : Cond.methodLink RL 130 yL_rain ∈ TBL := tb_z (tz_4 (List.mem_of_getElem? (i := 140) rfl)) rfl
theorem q_1287 : Cond.methodLink RL 132 yX8_rain ∈ TBL := tb_z (tz_6 (List.mem_of_getElem? (i := 67) rfl)) rfl
theorem q_1288 : Cond.code yX8_rain cX8_rain 5 (some .int) ∈ TBL := tb_z (tz_6 (List.mem_of_getElem? (i := 70) rfl)) rfl
theorem q_1289 : Cond.initialized yX8_rain.cls ∈ TBL := tb_z (tz_1 (List.mem_of_getElem? (i := 13) rfl)) rfl
theorem q_1290 : Cond.instanceMethod yX8_rain ∈ TBL := tb_z (tz_6 (List.mem_of_getElem? (i := 68) rfl)) rfl
theorem q_1291 : Cond.selects yX8_rain.cls yX8_rain yX8_rain ∈ TBL := tb_z (tz_6 (List.mem_of_getElem? (i := 69) rfl)) rfl
theorem q_1292 : Cond.methodLink RL 133 yL_evaporate ∈ TBL := tb_z (tz_4 (List.mem_of_getElem? (i := 147) rfl)) rfl
theorem q_1293 : Cond.methodLink RL 135 yX8_evaporate ∈ TBL := tb_z (tz_6 (List.mem_of_getElem? (i := 72) rfl)) rfl
theorem q_1294 : Cond.code yX8_evaporate cX8_evaporate 5 (some .int) ∈ TBL := tb_z (tz_6 (List.mem_of_getElem? (i := 75) rfl)) rfl
theorem q_1295 : Cond.initialized yX8_evaporate.cls ∈ TBL := tb_z (tz_1 (List.mem_of_getElem? (i := 13) rfl)) rfl
theorem q_1296 : Cond.instanceMethod yX8_evaporate ∈ TBL := tb_z (tz_6 (List.mem_of_getElem? (i := 73) rfl)) rfl
theorem q_1297 : Cond.selects yX8_evaporate.cls yX8_evaporate yX8_evaporate ∈ TBL := tb_z (tz_6 (List.mem_of_getElem? (i := 74) rfl)) rfl
theorem q_1298 : Cond.methodLink RL 136 yL_take ∈ TBL := tb_z (tz_4 (List.mem_of_getElem? (i := 172) rfl)) rfl
theorem q_1299 : Cond.methodLink RL 138 yX8_take ∈ TBL := tb_z (tz_6 (List.mem_of_getElem? (i := 97) rfl)) rfl
theorem q_1300 : Cond.code yX8_take cX8_take 4 (some .int) ∈ TBL := tb_z (tz_6 (List.mem_of_getElem? (i := 100) rfl)) rfl
theorem q_1301 : Cond.initialized yX8_take.cls ∈ TBL := tb_z (tz_1 (List.mem_of_getElem? (i := 13) rfl)) rfl
theorem q_1302 : Cond.instanceMethod yX8_take ∈ TBL := tb_z (tz_6 (List.mem_of_getElem? (i := 98) rfl)) rfl
theorem q_1303 : Cond.selects yX8_take.cls yX8_take yX8_take ∈ TBL := tb_z (tz_6 (List.mem_of_getElem? (i := 99) rfl)) rfl
theorem q_1304 : Cond.methodLink RL 139 yL_balance ∈ TBL := tb_z (tz_4 (List.mem_of_getElem? (i := 185) rfl)) rfl
theorem q_1305 : Cond.methodLink RL 141 yX8_balance ∈ TBL := tb_z (tz_6 (List.mem_of_getElem? (i := 105) rfl)) rfl
theorem q_1306 : Cond.code yX8_balance cX8_balance 2 (some .long) ∈ TBL := tb_z (tz_6 (List.mem_of_getElem? (i := 108) rfl)) rfl
theorem q_1307 : Cond.initialized yX8_balance.cls ∈ TBL := tb_z (tz_1 (List.mem_of_getElem? (i := 13) rfl)) rfl
theorem q_1308 : Cond.instanceMethod yX8_balance ∈ TBL := tb_z (tz_6 (List.mem_of_getElem? (i := 106) rfl)) rfl
theorem q_1309 : Cond.selects yX8_balance.cls yX8_balance yX8_balance ∈ TBL := tb_z (tz_6 (List.mem_of_getElem? (i := 107) rfl)) rfl
theorem q_1310 : Cond.methodLink RL 142 yL_lake ∈ TBL := tb_z (tz_4 (List.mem_of_getElem? (i := 192) rfl)) rfl
theorem q_1311 : Cond.methodLink RL 144 yX8_lake ∈ TBL := tb_z (tz_6 (List.mem_of_getElem? (i := 114) rfl)) rfl
theorem q_1312 : Cond.code yX8_lake cX8_lake 3 (some .int) ∈ TBL := tb_z (tz_6 (List.mem_of_getElem? (i := 117) rfl)) rfl
theorem q_1313 : Cond.initialized yX8_lake.cls ∈ TBL := tb_z (tz_1 (List.mem_of_getElem? (i := 13) rfl)) rfl
theorem q_1314 : Cond.instanceMethod yX8_lake ∈ TBL := tb_z (tz_6 (List.mem_of_getElem? (i := 115) rfl)) rfl
theorem q_1315 : Cond.selects yX8_lake.cls yX8_lake yX8_lake ∈ TBL := tb_z (tz_6 (List.mem_of_getElem? (i := 116) rfl)) rfl
theorem q_1316 : Cond.methodLink RL 145 yL_lakeCells ∈ TBL := tb_z (tz_4 (List.mem_of_getElem? (i := 199) rfl)) rfl
theorem q_1317 : Cond.methodLink RL 147 yX8_lakeCells ∈ TBL := tb_z (tz_6 (List.mem_of_getElem? (i := 130) rfl)) rfl
theorem q_1318 : Cond.code yX8_lakeCells cX8_lakeCells 2 (some .long) ∈ TBL := tb_z (tz_6 (List.mem_of_getElem? (i := 133) rfl)) rfl
theorem q_1319 : Cond.initialized yX8_lakeCells.cls ∈ TBL := tb_z (tz_1 (List.mem_of_getElem? (i := 13) rfl)) rfl
theorem q_1320 : Cond.instanceMethod yX8_lakeCells ∈ TBL := tb_z (tz_6 (List.mem_of_getElem? (i := 131) rfl)) rfl
theorem q_1321 : Cond.selects yX8_lakeCells.cls yX8_lakeCells yX8_lakeCells ∈ TBL := tb_z (tz_6 (List.mem_of_getElem? (i := 132) rfl)) rfl
theorem q_1322 : Cond.methodLink RL 148 yL_level ∈ TBL := tb_z (tz_4 (List.mem_of_getElem? (i := 206) rfl)) rfl
theorem q_1323 : Cond.methodLink RL 150 yX8_level ∈ TBL := tb_z (tz_6 (List.mem_of_getElem? (i := 134) rfl)) rfl
theorem q_1324 : Cond.code yX8_level cX8_level 3 (some .int) ∈ TBL := tb_z (tz_6 (List.mem_of_getElem? (i := 137) rfl)) rfl
theorem q_1325 : Cond.initialized yX8_level.cls ∈ TBL := tb_z (tz_1 (List.mem_of_getElem? (i := 13) rfl)) rfl
theorem q_1326 : Cond.instanceMethod yX8_level ∈ TBL := tb_z (tz_6 (List.mem_of_getElem? (i := 135) rfl)) rfl
theorem q_1327 : Cond.selects yX8_level.cls yX8_level yX8_level ∈ TBL := tb_z (tz_6 (List.mem_of_getElem? (i := 136) rfl)) rfl
theorem q_1328 : Cond.methodLink RL 151 yL_depth ∈ TBL := tb_z (tz_4 (List.mem_of_getElem? (i := 213) rfl)) rfl
theorem q_1329 : Cond.methodLink RL 154 yX8_depth ∈ TBL := tb_z (tz_6 (List.mem_of_getElem? (i := 145) rfl)) rfl
theorem q_1330 : Cond.code yX8_depth cX8_depth 6 (some .double) ∈ TBL := tb_z (tz_6 (List.mem_of_getElem? (i := 148) rfl)) rfl
theorem q_1331 : Cond.initialized yX8_depth.cls ∈ TBL := tb_z (tz_1 (List.mem_of_getElem? (i := 13) rfl)) rfl
theorem q_1332 : Cond.instanceMethod yX8_depth ∈ TBL := tb_z (tz_6 (List.mem_of_getElem? (i := 146) rfl)) rfl
theorem q_1333 : Cond.selects yX8_depth.cls yX8_depth yX8_depth ∈ TBL := tb_z (tz_6 (List.mem_of_getElem? (i := 147) rfl)) rfl
theorem q_1334 : Cond.methodLink RL 155 yX7_deepest ∈ TBL := tb_z (tz_2 (List.mem_of_getElem? (i := 156) rfl)) rfl
theorem q_1335 : Cond.code yX7_deepest cX7_deepest 7 (some .int) ∈ TBL := tb_z (tz_2 (List.mem_of_getElem? (i := 159) rfl)) rfl
theorem q_1336 : Cond.initialized yX7_deepest.cls ∈ TBL := tb_z (tz_1 (List.mem_of_getElem? (i := 1) rfl)) rfl
theorem q_1337 : Cond.instanceMethod yX7_deepest ∈ TBL := tb_z (tz_2 (List.mem_of_getElem? (i := 157) rfl)) rfl
theorem q_1338 : Cond.selects yX7_deepest.cls yX7_deepest yX7_deepest ∈ TBL := tb_z (tz_2 (List.mem_of_getElem? (i := 158) rfl)) rfl
theorem q_1339 : Cond.methodLink RL 158 yX8_deepest ∈ TBL := tb_z (tz_6 (List.mem_of_getElem? (i := 149) rfl)) rfl
theorem q_1340 : Cond.code yX8_deepest cX8_deepest 9 (some .int) ∈ TBL := tb_z (tz_6 (List.mem_of_getElem? (i := 152) rfl)) rfl
theorem q_1341 : Cond.initialized yX8_deepest.cls ∈ TBL := tb_z (tz_1 (List.mem_of_getElem? (i := 13) rfl)) rfl
theorem q_1342 : Cond.instanceMethod yX8_deepest ∈ TBL := tb_z (tz_6 (List.mem_of_getElem? (i := 150) rfl)) rfl
theorem q_1343 : Cond.selects yX8_deepest.cls yX8_deepest yX8_deepest ∈ TBL := tb_z (tz_6 (List.mem_of_getElem? (i := 151) rfl)) rfl
theorem q_1344 : Cond.methodLink RL 159 yL_course ∈ TBL := tb_z (tz_4 (List.mem_of_getElem? (i := 220) rfl)) rfl
theorem q_1345 : Cond.methodLink RL 161 yX8_course ∈ TBL := tb_z (tz_6 (List.mem_of_getElem? (i := 153) rfl)) rfl
theorem q_1346 : Cond.code yX8_course cX8_course 7 (some .long) ∈ TBL := tb_z (tz_6 (List.mem_of_getElem? (i := 156) rfl)) rfl
theorem q_1347 : Cond.initialized yX8_course.cls ∈ TBL := tb_z (tz_1 (List.mem_of_getElem? (i := 13) rfl)) rfl
theorem q_1348 : Cond.instanceMethod yX8_course ∈ TBL := tb_z (tz_6 (List.mem_of_getElem? (i := 154) rfl)) rfl
theorem q_1349 : Cond.selects yX8_course.cls yX8_course yX8_course ∈ TBL := tb_z (tz_6 (List.mem_of_getElem? (i := 155) rfl)) rfl
theorem q_1350 : Cond.methodLink RL 162 yL_amountFor ∈ TBL := tb_z (tz_4 (List.mem_of_getElem? (i := 231) rfl)) rfl
theorem q_1351 : Cond.methodLink RL 164 yX8_amountFor ∈ TBL := tb_z (tz_6 (List.mem_of_getElem? (i := 157) rfl)) rfl
theorem q_1352 : Cond.code yX8_amountFor cX8_amountFor 7 (some .int) ∈ TBL := tb_z (tz_6 (List.mem_of_getElem? (i := 160) rfl)) rfl
theorem q_1353 : Cond.initialized yX8_amountFor.cls ∈ TBL := tb_z (tz_1 (List.mem_of_getElem? (i := 13) rfl)) rfl
theorem q_1354 : Cond.instanceMethod yX8_amountFor ∈ TBL := tb_z (tz_6 (List.mem_of_getElem? (i := 158) rfl)) rfl
theorem q_1355 : Cond.selects yX8_amountFor.cls yX8_amountFor yX8_amountFor ∈ TBL := tb_z (tz_6 (List.mem_of_getElem? (i := 159) rfl)) rfl
theorem q_1356 : Cond.methodLink RL 165 yX7_rainToJoin ∈ TBL := tb_z (tz_2 (List.mem_of_getElem? (i := 181) rfl)) rfl
theorem q_1357 : Cond.code yX7_rainToJoin cX7_rainToJoin 3 (some .int) ∈ TBL := tb_z (tz_2 (List.mem_of_getElem? (i := 184) rfl)) rfl
theorem q_1358 : Cond.initialized yX7_rainToJoin.cls ∈ TBL := tb_z (tz_1 (List.mem_of_getElem? (i := 1) rfl)) rfl
theorem q_1359 : Cond.instanceMethod yX7_rainToJoin ∈ TBL := tb_z (tz_2 (List.mem_of_getElem? (i := 182) rfl)) rfl
theorem q_1360 : Cond.selects yX7_rainToJoin.cls yX7_rainToJoin yX7_rainToJoin ∈ TBL := tb_z (tz_2 (List.mem_of_getElem? (i := 183) rfl)) rfl
theorem q_1361 : Cond.methodLink RL 168 yX8_rainToJoin ∈ TBL := tb_z (tz_6 (List.mem_of_getElem? (i := 174) rfl)) rfl
theorem q_1362 : Cond.code yX8_rainToJoin cX8_rainToJoin 3 (some .int) ∈ TBL := tb_z (tz_6 (List.mem_of_getElem? (i := 177) rfl)) rfl
theorem q_1363 : Cond.initialized yX8_rainToJoin.cls ∈ TBL := tb_z (tz_1 (List.mem_of_getElem? (i := 13) rfl)) rfl
theorem q_1364 : Cond.instanceMethod yX8_rainToJoin ∈ TBL := tb_z (tz_6 (List.mem_of_getElem? (i := 175) rfl)) rfl
theorem q_1365 : Cond.selects yX8_rainToJoin.cls yX8_rainToJoin yX8_rainToJoin ∈ TBL := tb_z (tz_6 (List.mem_of_getElem? (i := 176) rfl)) rfl
theorem q_1366 : Cond.methodLink RL 169 yL_withoutGate ∈ TBL := tb_z (tz_5 (List.mem_of_getElem? (i := 2) rfl)) rfl
theorem q_1367 : Cond.methodLink RL 171 yX8_withoutGate ∈ TBL := tb_z (tz_6 (List.mem_of_getElem? (i := 182) rfl)) rfl
theorem q_1368 : Cond.code yX8_withoutGate cX8_withoutGate 5 (some .int) ∈ TBL := tb_z (tz_6 (List.mem_of_getElem? (i := 185) rfl)) rfl
theorem q_1369 : Cond.initialized yX8_withoutGate.cls ∈ TBL := tb_z (tz_1 (List.mem_of_getElem? (i := 13) rfl)) rfl
theorem q_1370 : Cond.instanceMethod yX8_withoutGate ∈ TBL := tb_z (tz_6 (List.mem_of_getElem? (i := 183) rfl)) rfl
theorem q_1371 : Cond.selects yX8_withoutGate.cls yX8_withoutGate yX8_withoutGate ∈ TBL := tb_z (tz_6 (List.mem_of_getElem? (i := 184) rfl)) rfl
theorem q_1372 : Cond.methodLink RL 172 yL_append ∈ TBL := tb_z (tz_5 (List.mem_of_getElem? (i := 9) rfl)) rfl
theorem q_1373 : Cond.methodLink RL 174 yX8_append ∈ TBL := tb_z (tz_6 (List.mem_of_getElem? (i := 186) rfl)) rfl
theorem q_1374 : Cond.code yX8_append cX8_append 2 (some .int) ∈ TBL := tb_z (tz_6 (List.mem_of_getElem? (i := 189) rfl)) rfl
theorem q_1375 : Cond.initialized yX8_append.cls ∈ TBL := tb_z (tz_1 (List.mem_of_getElem? (i := 13) rfl)) rfl
theorem q_1376 : Cond.instanceMethod yX8_append ∈ TBL := tb_z (tz_6 (List.mem_of_getElem? (i := 187) rfl)) rfl
theorem q_1377 : Cond.selects yX8_append.cls yX8_append yX8_append ∈ TBL := tb_z (tz_6 (List.mem_of_getElem? (i := 188) rfl)) rfl
theorem q_1378 : Cond.methodLink RL 175 yX7_clearText ∈ TBL := tb_z (tz_3 (List.mem_of_getElem? (i := 14) rfl)) rfl
theorem q_1379 : Cond.code yX7_clearText cX7_clearText 2 (some .int) ∈ TBL := tb_z (tz_3 (List.mem_of_getElem? (i := 17) rfl)) rfl
theorem q_1380 : Cond.initialized yX7_clearText.cls ∈ TBL := tb_z (tz_1 (List.mem_of_getElem? (i := 1) rfl)) rfl
theorem q_1381 : Cond.instanceMethod yX7_clearText ∈ TBL := tb_z (tz_3 (List.mem_of_getElem? (i := 15) rfl)) rfl
theorem q_1382 : Cond.selects yX7_clearText.cls yX7_clearText yX7_clearText ∈ TBL := tb_z (tz_3 (List.mem_of_getElem? (i := 16) rfl)) rfl
theorem q_1383 : Cond.methodLink RL 178 yX8_clearText ∈ TBL := tb_z (tz_6 (List.mem_of_getElem? (i := 191) rfl)) rfl
theorem q_1384 : Cond.code yX8_clearText cX8_clearText 2 (some .int) ∈ TBL := tb_z (tz_6 (List.mem_of_getElem? (i := 194) rfl)) rfl
theorem q_1385 : Cond.initialized yX8_clearText.cls ∈ TBL := tb_z (tz_1 (List.mem_of_getElem? (i := 13) rfl)) rfl
theorem q_1386 : Cond.instanceMethod yX8_clearText ∈ TBL := tb_z (tz_6 (List.mem_of_getElem? (i := 192) rfl)) rfl
theorem q_1387 : Cond.selects yX8_clearText.cls yX8_clearText yX8_clearText ∈ TBL := tb_z (tz_6 (List.mem_of_getElem? (i := 193) rfl)) rfl
theorem q_1388 : Cond.methodLink RL 179 yX7_parse ∈ TBL := tb_z (tz_3 (List.mem_of_getElem? (i := 18) rfl)) rfl
theorem q_1389 : Cond.code yX7_parse cX7_parse 2 (some .int) ∈ TBL := tb_z (tz_3 (List.mem_of_getElem? (i := 21) rfl)) rfl
theorem q_1390 : Cond.initialized yX7_parse.cls ∈ TBL := tb_z (tz_1 (List.mem_of_getElem? (i := 1) rfl)) rfl
theorem q_1391 : Cond.instanceMethod yX7_parse ∈ TBL := tb_z (tz_3 (List.mem_of_getElem? (i := 19) rfl)) rfl
theorem q_1392 : Cond.selects yX7_parse.cls yX7_parse yX7_parse ∈ TBL := tb_z (tz_3 (List.mem_of_getElem? (i := 20) rfl)) rfl
theorem q_1393 : Cond.methodLink RL 182 yX8_parse ∈ TBL := tb_z (tz_6 (List.mem_of_getElem? (i := 195) rfl)) rfl
theorem q_1394 : Cond.code yX8_parse cX8_parse 5 (some .int) ∈ TBL := tb_z (tz_6 (List.mem_of_getElem? (i := 198) rfl)) rfl
theorem q_1395 : Cond.initialized yX8_parse.cls ∈ TBL := tb_z (tz_1 (List.mem_of_getElem? (i := 13) rfl)) rfl
theorem q_1396 : Cond.instanceMethod yX8_parse ∈ TBL := tb_z (tz_6 (List.mem_of_getElem? (i := 196) rfl)) rfl
theorem q_1397 : Cond.selects yX8_parse.cls yX8_parse yX8_parse ∈ TBL := tb_z (tz_6 (List.mem_of_getElem? (i := 197) rfl)) rfl
theorem q_1398 : Cond.methodLink RL 183 yL_undo ∈ TBL := tb_z (tz_5 (List.mem_of_getElem? (i := 21) rfl)) rfl
theorem q_1399 : Cond.methodLink RL 186 yX8_undo ∈ TBL := tb_z (tz_6 (List.mem_of_getElem? (i := 239) rfl)) rfl
theorem q_1400 : Cond.code yX8_undo cX8_undo 2 (some .int) ∈ TBL := tb_z (tz_7 (List.mem_of_getElem? (i := 2) rfl)) rfl
theorem q_1401 : Cond.initialized yX8_undo.cls ∈ TBL := tb_z (tz_1 (List.mem_of_getElem? (i := 13) rfl)) rfl
theorem q_1402 : Cond.instanceMethod yX8_undo ∈ TBL := tb_z (tz_7 (List.mem_of_getElem? (i := 0) rfl)) rfl
theorem q_1403 : Cond.selects yX8_undo.cls yX8_undo yX8_undo ∈ TBL := tb_z (tz_7 (List.mem_of_getElem? (i := 1) rfl)) rfl
theorem q_1404 : Cond.methodLink RL 187 yX7_digest ∈ TBL := tb_z (tz_3 (List.mem_of_getElem? (i := 95) rfl)) rfl
theorem q_1405 : Cond.code yX7_digest cX7_digest 5 (some .long) ∈ TBL := tb_z (tz_3 (List.mem_of_getElem? (i := 98) rfl)) rfl
theorem q_1406 : Cond.initialized yX7_digest.cls ∈ TBL := tb_z (tz_1 (List.mem_of_getElem? (i := 1) rfl)) rfl
theorem q_1407 : Cond.instanceMethod yX7_digest ∈ TBL := tb_z (tz_3 (List.mem_of_getElem? (i := 96) rfl)) rfl
theorem q_1408 : Cond.selects yX7_digest.cls yX7_digest yX7_digest ∈ TBL := tb_z (tz_3 (List.mem_of_getElem? (i := 97) rfl)) rfl
theorem q_1409 : Cond.methodLink RL 191 yX8_digest ∈ TBL := tb_z (tz_7 (List.mem_of_getElem? (i := 3) rfl)) rfl
theorem q_1410 : Cond.code yX8_digest cX8_digest 6 (some .long) ∈ TBL := tb_z (tz_7 (List.mem_of_getElem? (i := 6) rfl)) rfl
theorem q_1411 : Cond.initialized yX8_digest.cls ∈ TBL := tb_z (tz_1 (List.mem_of_getElem? (i := 13) rfl)) rfl
theorem q_1412 : Cond.instanceMethod yX8_digest ∈ TBL := tb_z (tz_7 (List.mem_of_getElem? (i := 4) rfl)) rfl
theorem q_1413 : Cond.selects yX8_digest.cls yX8_digest yX8_digest ∈ TBL := tb_z (tz_7 (List.mem_of_getElem? (i := 5) rfl)) rfl
theorem wdX8_begin : WdV yX8_begin cX8_begin 3 (some .int) 2 := ⟨q_1229, q_1231, q_1232, q_1230, by decide +kernel, by decide +kernel⟩
theorem wdX8_thrown : WdV yX8_thrown cX8_thrown 1 (some .int) 0 := ⟨q_1234, q_1236, q_1237, q_1235, by decide +kernel, by decide +kernel⟩
theorem wdX8_setHeight : WdV yX8_setHeight cX8_setHeight 4 (some .int) 2 := ⟨q_1240, q_1242, q_1243, q_1241, by decide +kernel, by decide +kernel⟩
theorem wdX8_setDrain : WdV yX8_setDrain cX8_setDrain 4 (some .boolean) 2 := ⟨q_1246, q_1248, q_1249, q_1247, by decide +kernel, by decide +kernel⟩
theorem wdX8_setGate : WdV yX8_setGate cX8_setGate 5 (some .int) 3 := ⟨q_1252, q_1254, q_1255, q_1253, by decide +kernel, by decide +kernel⟩
theorem wdX8_random : WdV yX8_random cX8_random 6 (some .int) 2 := ⟨q_1258, q_1260, q_1261, q_1259, by decide +kernel, by decide +kernel⟩
theorem wdX8_cell : WdV yX8_cell cX8_cell 3 (some .int) 2 := ⟨q_1264, q_1266, q_1267, q_1265, by decide +kernel, by decide +kernel⟩
theorem wdX8_between : WdV yX8_between cX8_between 4 (some .int) 3 := ⟨q_1270, q_1272, q_1273, q_1271, by decide +kernel, by decide +kernel⟩
theorem wdX8_count : WdV yX8_count cX8_count 2 (some .int) 1 := ⟨q_1276, q_1278, q_1279, q_1277, by decide +kernel, by decide +kernel⟩
theorem wdX8_pour : WdV yX8_pour cX8_pour 5 (some .int) 2 := ⟨q_1282, q_1284, q_1285, q_1283, by decide +kernel, by decide +kernel⟩
theorem wdX8_rain : WdV yX8_rain cX8_rain 5 (some .int) 1 := ⟨q_1288, q_1290, q_1291, q_1289, by decide +kernel, by decide +kernel⟩
theorem wdX8_evaporate : WdV yX8_evaporate cX8_evaporate 5 (some .int) 1 := ⟨q_1294, q_1296, q_1297, q_1295, by decide +kernel, by decide +kernel⟩
theorem wdX8_take : WdV yX8_take cX8_take 4 (some .int) 2 := ⟨q_1300, q_1302, q_1303, q_1301, by decide +kernel, by decide +kernel⟩
theorem wdX8_balance : WdV yX8_balance cX8_balance 2 (some .long) 1 := ⟨q_1306, q_1308, q_1309, q_1307, by decide +kernel, by decide +kernel⟩
theorem wdX8_lake : WdV yX8_lake cX8_lake 3 (some .int) 2 := ⟨q_1312, q_1314, q_1315, q_1313, by decide +kernel, by decide +kernel⟩
theorem wdX8_lakeCells : WdV yX8_lakeCells cX8_lakeCells 2 (some .long) 1 := ⟨q_1318, q_1320, q_1321, q_1319, by decide +kernel, by decide +kernel⟩
theorem wdX8_level : WdV yX8_level cX8_level 3 (some .int) 2 := ⟨q_1324, q_1326, q_1327, q_1325, by decide +kernel, by decide +kernel⟩
theorem wdX8_depth : WdV yX8_depth cX8_depth 6 (some .double) 1 := ⟨q_1330, q_1332, q_1333, q_1331, by decide +kernel, by decide +kernel⟩
theorem wdX7_deepest : WdV yX7_deepest cX7_deepest 7 (some .int) 0 := ⟨q_1335, q_1337, q_1338, q_1336, by decide +kernel, by decide +kernel⟩
theorem wdX8_deepest : WdV yX8_deepest cX8_deepest 9 (some .int) 0 := ⟨q_1340, q_1342, q_1343, q_1341, by decide +kernel, by decide +kernel⟩
theorem wdX8_course : WdV yX8_course cX8_course 7 (some .long) 1 := ⟨q_1346, q_1348, q_1349, q_1347, by decide +kernel, by decide +kernel⟩
theorem wdX8_amountFor : WdV yX8_amountFor cX8_amountFor 7 (some .int) 2 := ⟨q_1352, q_1354, q_1355, q_1353, by decide +kernel, by decide +kernel⟩
theorem wdX7_rainToJoin : WdV yX7_rainToJoin cX7_rainToJoin 3 (some .int) 0 := ⟨q_1357, q_1359, q_1360, q_1358, by decide +kernel, by decide +kernel⟩
theorem wdX8_rainToJoin : WdV yX8_rainToJoin cX8_rainToJoin 3 (some .int) 0 := ⟨q_1362, q_1364, q_1365, q_1363, by decide +kernel, by decide +kernel⟩
theorem wdX8_withoutGate : WdV yX8_withoutGate cX8_withoutGate 5 (some .int) 2 := ⟨q_1368, q_1370, q_1371, q_1369, by decide +kernel, by decide +kernel⟩
theorem wdX8_append : WdV yX8_append cX8_append 2 (some .int) 1 := ⟨q_1374, q_1376, q_1377, q_1375, by decide +kernel, by decide +kernel⟩
theorem wdX7_clearText : WdV yX7_clearText cX7_clearText 2 (some .int) 0 := ⟨q_1379, q_1381, q_1382, q_1380, by decide +kernel, by decide +kernel⟩
theorem wdX8_clearText : WdV yX8_clearText cX8_clearText 2 (some .int) 0 := ⟨q_1384, q_1386, q_1387, q_1385, by decide +kernel, by decide +kernel⟩
theorem wdX7_parse : WdV yX7_parse cX7_parse 2 (some .int) 0 := ⟨q_1389, q_1391, q_1392, q_1390, by decide +kernel, by decide +kernel⟩
theorem wdX8_parse : WdV yX8_parse cX8_parse 5 (some .int) 0 := ⟨q_1394, q_1396, q_1397, q_1395, by decide +kernel, by decide +kernel⟩
theorem wdX8_undo : WdV yX8_undo cX8_undo 2 (some .int) 0 := ⟨q_1400, q_1402, q_1403, q_1401, by decide +kernel, by decide +kernel⟩
theorem wdX7_digest : WdV yX7_digest cX7_digest 5 (some .long) 0 := ⟨q_1405, q_1407, q_1408, q_1406, by decide +kernel, by decide +kernel⟩
theorem wdX8_digest : WdV yX8_digest cX8_digest 6 (some .long) 0 := ⟨q_1410, q_1412, q_1413, q_1411, by decide +kernel, by decide +kernel⟩
