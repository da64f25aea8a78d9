/-! more words -/
theorem q_978 : Cond.methodLink RX7 242 yX0_exists ∈ TBL := tb_z (tz_4 (List.mem_of_getElem? (i := 20) rfl)) rfl
theorem q_979 : Cond.methodLink RX7 95 yX0_sideTo ∈ TBL := tb_z (tz_4 (List.mem_of_getElem? (i := 69) rfl)) rfl
theorem q_980 : Cond.constant RX7 258 (1000000 : Int32) ∈ TBL := tb_z (tz_4 (List.mem_of_getElem? (i := 122) rfl)) rfl
theorem q_981 : Cond.methodLink RX7 43 yX7_needWithin ∈ TBL := tb_z (tz_3 (List.mem_of_getElem? (i := 177) rfl)) rfl
theorem q_982 : Cond.code yX7_needWithin cX7_needWithin 3 none ∈ TBL := tb_z (tz_3 (List.mem_of_getElem? (i := 179) rfl)) rfl
theorem q_983 : Cond.initialized yX7_needWithin.cls ∈ TBL := tb_z (tz_1 (List.mem_of_getElem? (i := 1) rfl)) rfl
theorem q_984 : Cond.static yX7_needWithin ∈ TBL := tb_z (tz_3 (List.mem_of_getElem? (i := 178) rfl)) rfl
theorem q_985 : Cond.methodLink RX7 34 yX0_lay ∈ TBL := tb_z (tz_2 (List.mem_of_getElem? (i := 13) rfl)) rfl
theorem q_986 : Cond.methodLink RX7 54 yX7_needCell ∈ TBL := tb_z (tz_4 (List.mem_of_getElem? (i := 16) rfl)) rfl
theorem q_987 : Cond.code yX7_needCell cX7_needCell 2 none ∈ TBL := tb_z (tz_4 (List.mem_of_getElem? (i := 19) rfl)) rfl
theorem q_988 : Cond.initialized yX7_needCell.cls ∈ TBL := tb_z (tz_1 (List.mem_of_getElem? (i := 1) rfl)) rfl
theorem q_989 : Cond.instanceMethod yX7_needCell ∈ TBL := tb_z (tz_4 (List.mem_of_getElem? (i := 18) rfl)) rfl
theorem q_990 : Cond.selects yX7_needCell.cls yX7_needCell yX7_needCell ∈ TBL := tb_s 32 rfl rfl
theorem q_991 : Cond.methodLink RX7 68 yX6_noteLakes ∈ TBL := tb_z (tz_4 (List.mem_of_getElem? (i := 37) rfl)) rfl
theorem q_992 : Cond.code yX6_noteLakes cX6_noteLakes 3 none ∈ TBL := tb_z (tz_4 (List.mem_of_getElem? (i := 40) rfl)) rfl
theorem q_993 : Cond.initialized yX6_noteLakes.cls ∈ TBL := tb_z (tz_1 (List.mem_of_getElem? (i := 2) rfl)) rfl
theorem q_994 : Cond.instanceMethod yX6_noteLakes ∈ TBL := tb_z (tz_4 (List.mem_of_getElem? (i := 38) rfl)) rfl
theorem q_995 : Cond.selects yX6_noteLakes.cls yX6_noteLakes yX6_noteLakes ∈ TBL := tb_z (tz_4 (List.mem_of_getElem? (i := 39) rfl)) rfl
theorem q_996 : Cond.methodLink RX7 71 yX3_put ∈ TBL := tb_z (tz_4 (List.mem_of_getElem? (i := 45) rfl)) rfl
theorem q_997 : Cond.methodLink RX7 74 yX6_renew ∈ TBL := tb_z (tz_4 (List.mem_of_getElem? (i := 46) rfl)) rfl
theorem q_998 : Cond.code yX6_renew cX6_renew 2 none ∈ TBL := tb_z (tz_4 (List.mem_of_getElem? (i := 49) rfl)) rfl
theorem q_999 : Cond.initialized yX6_renew.cls ∈ TBL := tb_z (tz_1 (List.mem_of_getElem? (i := 2) rfl)) rfl
theorem q_1000 : Cond.instanceMethod yX6_renew ∈ TBL := tb_z (tz_4 (List.mem_of_getElem? (i := 47) rfl)) rfl
theorem q_1001 : Cond.selects yX6_renew.cls yX6_renew yX6_renew ∈ TBL := tb_z (tz_4 (List.mem_of_getElem? (i := 48) rfl)) rfl
theorem q_1002 : Cond.methodLink RX7 85 yX0_putDrain ∈ TBL := tb_z (tz_4 (List.mem_of_getElem? (i := 57) rfl)) rfl
theorem q_1003 : Cond.methodLink RX7 89 yX7_needNeighbors ∈ TBL := tb_z (tz_4 (List.mem_of_getElem? (i := 65) rfl)) rfl
theorem q_1004 : Cond.code yX7_needNeighbors cX7_needNeighbors 3 none ∈ TBL := tb_z (tz_4 (List.mem_of_getElem? (i := 68) rfl)) rfl
theorem q_1005 : Cond.initialized yX7_needNeighbors.cls ∈ TBL := tb_z (tz_1 (List.mem_of_getElem? (i := 1) rfl)) rfl
theorem q_1006 : Cond.instanceMethod yX7_needNeighbors ∈ TBL := tb_z (tz_4 (List.mem_of_getElem? (i := 67) rfl)) rfl
theorem q_1007 : Cond.selects yX7_needNeighbors.cls yX7_needNeighbors yX7_needNeighbors ∈ TBL := tb_s 33 rfl rfl
theorem q_1008 : Cond.fieldLinkNest RX7 92 (TX0 6).1 (TX0 6).2.1 (TX0 6).2.2.1 "LakeLevels" ∈ NST := tb_n (tz_1 (List.mem_of_getElem? (i := 77) rfl)) rfl
theorem q_1009 : Cond.methodLink RX7 99 yX0_putGate ∈ TBL := tb_z (tz_4 (List.mem_of_getElem? (i := 71) rfl)) rfl
theorem q_1010 : Cond.constant RX7 102 (999999 : Int32) ∈ TBL := tb_z (tz_4 (List.mem_of_getElem? (i := 79) rfl)) rfl
theorem q_1011 : Cond.methodLink RX7 103 yX0_scatter ∈ TBL := tb_z (tz_4 (List.mem_of_getElem? (i := 80) rfl)) rfl
theorem q_1012 : Cond.code yX0_scatter cX0_scatter 7 none ∈ TBL := tb_z (tz_4 (List.mem_of_getElem? (i := 83) rfl)) rfl
theorem q_1013 : Cond.initialized yX0_scatter.cls ∈ TBL := tb_z (tz_1 (List.mem_of_getElem? (i := 3) rfl)) rfl
theorem q_1014 : Cond.instanceMethod yX0_scatter ∈ TBL := tb_z (tz_4 (List.mem_of_getElem? (i := 81) rfl)) rfl
theorem q_1015 : Cond.selects yX0_scatter.cls yX0_scatter yX0_scatter ∈ TBL := tb_z (tz_4 (List.mem_of_getElem? (i := 82) rfl)) rfl
theorem q_1016 : Cond.constant RX7 124 (100000 : Int32) ∈ TBL := tb_z (tz_4 (List.mem_of_getElem? (i := 117) rfl)) rfl
theorem q_1017 : Cond.methodLink RX7 125 yX7_needRoom ∈ TBL := tb_z (tz_4 (List.mem_of_getElem? (i := 118) rfl)) rfl
theorem q_1018 : Cond.code yX7_needRoom cX7_needRoom 2 none ∈ TBL := tb_z (tz_4 (List.mem_of_getElem? (i := 121) rfl)) rfl
theorem q_1019 : Cond.initialized yX7_needRoom.cls ∈ TBL := tb_z (tz_1 (List.mem_of_getElem? (i := 1) rfl)) rfl
theorem q_1020 : Cond.instanceMethod yX7_needRoom ∈ TBL := tb_z (tz_4 (List.mem_of_getElem? (i := 120) rfl)) rfl
theorem q_1021 : Cond.selects yX7_needRoom.cls yX7_needRoom yX7_needRoom ∈ TBL := tb_s 34 rfl rfl
theorem q_1022 : Cond.methodLink RX7 137 yX6_dry ∈ TBL := tb_z (tz_4 (List.mem_of_getElem? (i := 154) rfl)) rfl
theorem q_1023 : Cond.code yX6_dry cX6_dry 4 (some .int) ∈ TBL := tb_z (tz_4 (List.mem_of_getElem? (i := 157) rfl)) rfl
theorem q_1024 : Cond.initialized yX6_dry.cls ∈ TBL := tb_z (tz_1 (List.mem_of_getElem? (i := 2) rfl)) rfl
theorem q_1025 : Cond.instanceMethod yX6_dry ∈ TBL := tb_z (tz_4 (List.mem_of_getElem? (i := 155) rfl)) rfl
theorem q_1026 : Cond.selects yX6_dry.cls yX6_dry yX6_dry ∈ TBL := tb_z (tz_4 (List.mem_of_getElem? (i := 156) rfl)) rfl
theorem q_1027 : Cond.methodLink RX7 140 yX7_needLake ∈ TBL := tb_z (tz_4 (List.mem_of_getElem? (i := 179) rfl)) rfl
theorem q_1028 : Cond.code yX7_needLake cX7_needLake 3 (some .int) ∈ TBL := tb_z (tz_4 (List.mem_of_getElem? (i := 182) rfl)) rfl
theorem q_1029 : Cond.initialized yX7_needLake.cls ∈ TBL := tb_z (tz_1 (List.mem_of_getElem? (i := 1) rfl)) rfl
theorem q_1030 : Cond.instanceMethod yX7_needLake ∈ TBL := tb_z (tz_4 (List.mem_of_getElem? (i := 181) rfl)) rfl
theorem q_1031 : Cond.selects yX7_needLake.cls yX7_needLake yX7_needLake ∈ TBL := tb_s 37 rfl rfl
theorem q_1032 : Cond.methodLink RX7 152 yX1_draw ∈ TBL := tb_z (tz_4 (List.mem_of_getElem? (i := 184) rfl)) rfl
theorem q_1033 : Cond.methodLink RX7 183 yX5_courseFrom ∈ TBL := tb_z (tz_4 (List.mem_of_getElem? (i := 227) rfl)) rfl
theorem q_1034 : Cond.code yX5_courseFrom cX5_courseFrom 6 (some .long) ∈ TBL := tb_z (tz_4 (List.mem_of_getElem? (i := 230) rfl)) rfl
theorem q_1035 : Cond.initialized yX5_courseFrom.cls ∈ TBL := tb_z (tz_1 (List.mem_of_getElem? (i := 6) rfl)) rfl
theorem q_1036 : Cond.instanceMethod yX5_courseFrom ∈ TBL := tb_z (tz_4 (List.mem_of_getElem? (i := 228) rfl)) rfl
theorem q_1037 : Cond.selects yX5_courseFrom.cls yX5_courseFrom yX5_courseFrom ∈ TBL := tb_z (tz_4 (List.mem_of_getElem? (i := 229) rfl)) rfl
theorem q_1038 : Cond.methodLink RX7 186 yX7_wouldBeWet ∈ TBL := tb_z (tz_4 (List.mem_of_getElem? (i := 238) rfl)) rfl
theorem q_1039 : Cond.code yX7_wouldBeWet cX7_wouldBeWet 4 (some .boolean) ∈ TBL := tb_z (tz_5 (List.mem_of_getElem? (i := 1) rfl)) rfl
theorem q_1040 : Cond.initialized yX7_wouldBeWet.cls ∈ TBL := tb_z (tz_1 (List.mem_of_getElem? (i := 1) rfl)) rfl
theorem q_1041 : Cond.instanceMethod yX7_wouldBeWet ∈ TBL := tb_z (tz_5 (List.mem_of_getElem? (i := 0) rfl)) rfl
theorem q_1042 : Cond.selects yX7_wouldBeWet.cls yX7_wouldBeWet yX7_wouldBeWet ∈ TBL := tb_s 38 rfl rfl
theorem q_1043 : Cond.methodLink RX7 207 yX2_add ∈ TBL := tb_z (tz_5 (List.mem_of_getElem? (i := 17) rfl)) rfl
theorem q_1044 : Cond.code yX2_add cX2_add 2 none ∈ TBL := tb_z (tz_5 (List.mem_of_getElem? (i := 20) rfl)) rfl
theorem q_1045 : Cond.initialized yX2_add.cls ∈ TBL := tb_z (tz_1 (List.mem_of_getElem? (i := 9) rfl)) rfl
theorem q_1046 : Cond.instanceMethod yX2_add ∈ TBL := tb_z (tz_5 (List.mem_of_getElem? (i := 18) rfl)) rfl
theorem q_1047 : Cond.selects yX2_add.cls yX2_add yX2_add ∈ TBL := tb_z (tz_5 (List.mem_of_getElem? (i := 19) rfl)) rfl
theorem wdX7_needWithin : WdS yX7_needWithin cX7_needWithin 3 none 3 := ⟨q_982, q_984, q_983, by decide +kernel, by decide +kernel⟩
theorem wdX7_needCell : WdV yX7_needCell cX7_needCell 2 none 1 := ⟨q_987, q_989, q_990, q_988, by decide +kernel, by decide +kernel⟩
theorem wdX6_noteLakes : WdV yX6_noteLakes cX6_noteLakes 3 none 0 := ⟨q_992, q_994, q_995, q_993, by decide +kernel, by decide +kernel⟩
theorem wdX6_renew : WdV yX6_renew cX6_renew 2 none 0 := ⟨q_998, q_1000, q_1001, q_999, by decide +kernel, by decide +kernel⟩
theorem wdX7_needNeighbors : WdV yX7_needNeighbors cX7_needNeighbors 3 none 2 := ⟨q_1004, q_1006, q_1007, q_1005, by decide +kernel, by decide +kernel⟩
theorem wdX0_scatter : WdV yX0_scatter cX0_scatter 7 none 2 := ⟨q_1012, q_1014, q_1015, q_1013, by decide +kernel, by decide +kernel⟩
theorem wdX7_needRoom : WdV yX7_needRoom cX7_needRoom 2 none 1 := ⟨q_1018, q_1020, q_1021, q_1019, by decide +kernel, by decide +kernel⟩
theorem wdX6_dry : WdV yX6_dry cX6_dry 4 (some .int) 1 := ⟨q_1023, q_1025, q_1026, q_1024, by decide +kernel, by decide +kernel⟩
theorem wdX7_needLake : WdV yX7_needLake cX7_needLake 3 (some .int) 1 := ⟨q_1028, q_1030, q_1031, q_1029, by decide +kernel, by decide +kernel⟩
theorem wdX5_courseFrom : WdV yX5_courseFrom cX5_courseFrom 6 (some .long) 1 := ⟨q_1034, q_1036, q_1037, q_1035, by decide +kernel, by decide +kernel⟩
theorem wdX7_wouldBeWet : WdV yX7_wouldBeWet cX7_wouldBeWet 4 (some .boolean) 3 := ⟨q_1039, q_1041, q_1042, q_1040, by decide +kernel, by decide +kernel⟩
theorem wdX2_add : WdV yX2_add cX2_add 2 none 1 := ⟨q_1044, q_1046, q_1047, q_1045, by decide +kernel, by decide +kernel⟩
