/-! 99g9: words for the model -/
theorem zi_1046 : Cond.fieldLink RX8 7 (TX8 0).1 (TX8 0).2.1 (TX8 0).2.2.1 ∈ TBL := tb_z (tz_5 (List.mem_of_getElem? (i := 86) rfl)) rfl
theorem zi_1047 : Cond.fieldLink RX8 13 (TX8 1).1 (TX8 1).2.1 (TX8 1).2.2.1 ∈ TBL := tb_z (tz_5 (List.mem_of_getElem? (i := 87) rfl)) rfl
theorem zi_1048 : Cond.fieldLink RX8 16 (TX8 2).1 (TX8 2).2.1 (TX8 2).2.2.1 ∈ TBL := tb_z (tz_5 (List.mem_of_getElem? (i := 88) rfl)) rfl
theorem zi_1051 : Cond.fieldLink RX8 19 (TX8 5).1 (TX8 5).2.1 (TX8 5).2.2.1 ∈ TBL := tb_z (tz_5 (List.mem_of_getElem? (i := 91) rfl)) rfl
theorem zi_1055 : Cond.fieldLink RX8 22 (TX8 9).1 (TX8 9).2.1 (TX8 9).2.2.1 ∈ TBL := tb_z (tz_5 (List.mem_of_getElem? (i := 95) rfl)) rfl
theorem zi_1056 : Cond.fieldLink RX8 26 (TX8 10).1 (TX8 10).2.1 (TX8 10).2.2.1 ∈ TBL := tb_z (tz_5 (List.mem_of_getElem? (i := 96) rfl)) rfl
theorem zi_1057 : Cond.fieldLink RX8 29 (TX8 11).1 (TX8 11).2.1 (TX8 11).2.2.1 ∈ TBL := tb_z (tz_5 (List.mem_of_getElem? (i := 97) rfl)) rfl
theorem zi_1061 : Cond.fieldLink RX8 32 (TX8 15).1 (TX8 15).2.1 (TX8 15).2.2.1 ∈ TBL := tb_z (tz_5 (List.mem_of_getElem? (i := 101) rfl)) rfl
theorem zi_1062 : Cond.fieldLink RX8 35 (TX8 16).1 (TX8 16).2.1 (TX8 16).2.2.1 ∈ TBL := tb_z (tz_5 (List.mem_of_getElem? (i := 102) rfl)) rfl
theorem zi_1064 : Cond.fieldLink RX8 38 (TX8 18).1 (TX8 18).2.1 (TX8 18).2.2.1 ∈ TBL := tb_z (tz_5 (List.mem_of_getElem? (i := 104) rfl)) rfl
theorem zi_1065 : Cond.fieldLink RX8 41 (TX8 19).1 (TX8 19).2.1 (TX8 19).2.2.1 ∈ TBL := tb_z (tz_5 (List.mem_of_getElem? (i := 105) rfl)) rfl
theorem zi_1066 : Cond.fieldLink RX8 44 (TX8 20).1 (TX8 20).2.1 (TX8 20).2.2.1 ∈ TBL := tb_z (tz_5 (List.mem_of_getElem? (i := 106) rfl)) rfl
theorem zi_1070 : Cond.fieldLink RX8 47 (TX8 24).1 (TX8 24).2.1 (TX8 24).2.2.1 ∈ TBL := tb_z (tz_5 (List.mem_of_getElem? (i := 110) rfl)) rfl
