/-! 99f0: words for the two objects and the law -/
theorem zi_25 : Cond.methodLink RX7 3 Lib.objectInit ∈ TBL := tb_z (tz_1 (List.mem_of_getElem? (i := 25) rfl)) rfl
theorem zi_28 : Cond.classLink RX7 9 RX6 ∈ TBL := tb_z (tz_1 (List.mem_of_getElem? (i := 28) rfl)) rfl
theorem zi_231 : Cond.classLink RX7 23 RX2 ∈ TBL := tb_z (tz_1 (List.mem_of_getElem? (i := 231) rfl)) rfl
theorem zi_29 : Cond.instantiable RX6 9 ∈ TBL := tb_z (tz_1 (List.mem_of_getElem? (i := 29) rfl)) rfl
theorem zi_232 : Cond.instantiable RX2 4 ∈ TBL := tb_z (tz_1 (List.mem_of_getElem? (i := 232) rfl)) rfl
theorem zi_30 : Cond.methodLinkNest RX7 11 yX6_init RX7 ∈ NST := tb_n (tz_1 (List.mem_of_getElem? (i := 30) rfl)) rfl
theorem zi_233 : Cond.methodLinkNest RX7 25 yX2_init RX7 ∈ NST := tb_n (tz_1 (List.mem_of_getElem? (i := 233) rfl)) rfl
theorem zi_377 : Cond.fieldLink RX7 12 (TX7 0).1 (TX7 0).2.1 (TX7 0).2.2.1 ∈ TBL := tb_z (tz_2 (List.mem_of_getElem? (i := 137) rfl)) rfl
theorem zi_378 : Cond.fieldLink RX7 16 (TX7 1).1 (TX7 1).2.1 (TX7 1).2.2.1 ∈ TBL := tb_z (tz_2 (List.mem_of_getElem? (i := 138) rfl)) rfl
theorem zi_379 : Cond.fieldLink RX7 19 (TX7 2).1 (TX7 2).2.1 (TX7 2).2.2.1 ∈ TBL := tb_z (tz_2 (List.mem_of_getElem? (i := 139) rfl)) rfl
theorem zi_380 : Cond.fieldLink RX7 26 (TX7 3).1 (TX7 3).2.1 (TX7 3).2.2.1 ∈ TBL := tb_z (tz_2 (List.mem_of_getElem? (i := 140) rfl)) rfl
theorem zi_24 : Cond.code yX7_init cX7_init 2 none ∈ TBL := tb_z (tz_1 (List.mem_of_getElem? (i := 24) rfl)) rfl
theorem zi_23 : Cond.instanceMethod yX7_init ∈ TBL := tb_z (tz_1 (List.mem_of_getElem? (i := 23) rfl)) rfl
theorem zi_1 : Cond.initialized RX7 ∈ TBL := tb_z (tz_1 (List.mem_of_getElem? (i := 1) rfl)) rfl
theorem zi_993 : Cond.code yX8_init cX8_init 1 none ∈ TBL := tb_z (tz_5 (List.mem_of_getElem? (i := 33) rfl)) rfl
theorem zi_992 : Cond.instanceMethod yX8_init ∈ TBL := tb_z (tz_5 (List.mem_of_getElem? (i := 32) rfl)) rfl
theorem zi_13 : Cond.initialized RX8 ∈ TBL := tb_z (tz_1 (List.mem_of_getElem? (i := 13) rfl)) rfl
theorem zi_994 : Cond.methodLink RX8 1 Lib.objectInit ∈ TBL := tb_z (tz_5 (List.mem_of_getElem? (i := 34) rfl)) rfl
theorem zi_20 : Cond.classLink RL 8 RX7 ∈ TBL := tb_z (tz_1 (List.mem_of_getElem? (i := 20) rfl)) rfl
theorem zi_21 : Cond.instantiable RX7 6 ∈ TBL := tb_z (tz_1 (List.mem_of_getElem? (i := 21) rfl)) rfl
theorem zi_22 : Cond.methodLink RL 89 yX7_init ∈ TBL := tb_z (tz_1 (List.mem_of_getElem? (i := 22) rfl)) rfl
theorem zi_989 : Cond.classLink RL 90 RX8 ∈ TBL := tb_z (tz_5 (List.mem_of_getElem? (i := 29) rfl)) rfl
theorem zi_990 : Cond.instantiable RX8 25 ∈ TBL := tb_z (tz_5 (List.mem_of_getElem? (i := 30) rfl)) rfl
theorem zi_991 : Cond.methodLink RL 92 yX8_init ∈ TBL := tb_z (tz_5 (List.mem_of_getElem? (i := 31) rfl)) rfl
theorem zi_1452 : Cond.arrayClass .double ∈ TBL := tb_z (tz_7 (List.mem_of_getElem? (i := 12) rfl)) rfl
theorem wdi_X7 : WdI yX7_init cX7_init 2 0 := ⟨zi_24, zi_23, zi_1, by decide +kernel, by decide +kernel, rfl⟩
theorem wdi_X8 : WdI yX8_init cX8_init 1 0 := ⟨zi_993, zi_992, zi_13, by decide +kernel, by decide +kernel, rfl⟩
