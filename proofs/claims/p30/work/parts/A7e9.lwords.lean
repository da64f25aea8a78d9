/-! 99f0: words for the two objects and the law -/
theorem zi_24 : Cond.methodLink RX7 3 Lib.objectInit ∈ TBL := tb_z (tz_1 (List.mem_of_getElem? (i := 24) rfl)) rfl
theorem zi_27 : Cond.classLink RX7 9 RX6 ∈ TBL := tb_z (tz_1 (List.mem_of_getElem? (i := 27) rfl)) rfl
theorem zi_229 : Cond.classLink RX7 23 RX2 ∈ TBL := tb_z (tz_1 (List.mem_of_getElem? (i := 229) rfl)) rfl
theorem zi_28 : Cond.instantiable RX6 9 ∈ TBL := tb_z (tz_1 (List.mem_of_getElem? (i := 28) rfl)) rfl
theorem zi_230 : Cond.instantiable RX2 4 ∈ TBL := tb_z (tz_1 (List.mem_of_getElem? (i := 230) rfl)) rfl
theorem zi_29 : Cond.methodLinkNest RX7 11 yX6_init RX7 ∈ NST := tb_n (tz_1 (List.mem_of_getElem? (i := 29) rfl)) rfl
theorem zi_231 : Cond.methodLinkNest RX7 25 yX2_init RX7 ∈ NST := tb_n (tz_1 (List.mem_of_getElem? (i := 231) rfl)) rfl
theorem zi_375 : Cond.fieldLink RX7 12 (TX7 0).1 (TX7 0).2.1 (TX7 0).2.2.1 ∈ TBL := tb_z (tz_2 (List.mem_of_getElem? (i := 135) rfl)) rfl
theorem zi_376 : Cond.fieldLink RX7 16 (TX7 1).1 (TX7 1).2.1 (TX7 1).2.2.1 ∈ TBL := tb_z (tz_2 (List.mem_of_getElem? (i := 136) rfl)) rfl
theorem zi_377 : Cond.fieldLink RX7 19 (TX7 2).1 (TX7 2).2.1 (TX7 2).2.2.1 ∈ TBL := tb_z (tz_2 (List.mem_of_getElem? (i := 137) rfl)) rfl
theorem zi_378 : Cond.fieldLink RX7 26 (TX7 3).1 (TX7 3).2.1 (TX7 3).2.2.1 ∈ TBL := tb_z (tz_2 (List.mem_of_getElem? (i := 138) rfl)) rfl
theorem zi_23 : Cond.code yX7_init cX7_init 2 none ∈ TBL := tb_z (tz_1 (List.mem_of_getElem? (i := 23) rfl)) rfl
theorem zi_22 : Cond.instanceMethod yX7_init ∈ TBL := tb_z (tz_1 (List.mem_of_getElem? (i := 22) rfl)) rfl
theorem zi_1 : Cond.initialized RX7 ∈ TBL := tb_z (tz_1 (List.mem_of_getElem? (i := 1) rfl)) rfl
theorem zi_19 : Cond.classLink RL 10 RX7 ∈ TBL := tb_z (tz_1 (List.mem_of_getElem? (i := 19) rfl)) rfl
theorem zi_20 : Cond.instantiable RX7 6 ∈ TBL := tb_z (tz_1 (List.mem_of_getElem? (i := 20) rfl)) rfl
theorem zi_21 : Cond.methodLink RL 66 yX7_init ∈ TBL := tb_z (tz_1 (List.mem_of_getElem? (i := 21) rfl)) rfl
theorem wdi_X7 : WdI yX7_init cX7_init 2 0 := ⟨zi_23, zi_22, zi_1, by decide +kernel, by decide +kernel, rfl⟩
