/-! more words -/
theorem q_592 : Cond.methodLink RX7 242 yX0_exists ∈ TBL := tb_z (tz_2 (List.mem_of_getElem? (i := 162) rfl)) rfl
theorem q_593 : Cond.constant RX7 258 (1000000 : Int32) ∈ TBL := tb_z (tz_3 (List.mem_of_getElem? (i := 167) rfl)) rfl
theorem q_594 : Cond.methodLink RX7 43 yX7_needWithin ∈ TBL := tb_z (tz_2 (List.mem_of_getElem? (i := 234) rfl)) rfl
theorem q_595 : Cond.code yX7_needWithin cX7_needWithin 3 none ∈ TBL := tb_z (tz_2 (List.mem_of_getElem? (i := 236) rfl)) rfl
theorem q_596 : Cond.initialized yX7_needWithin.cls ∈ TBL := tb_z (tz_1 (List.mem_of_getElem? (i := 1) rfl)) rfl
theorem q_597 : Cond.static yX7_needWithin ∈ TBL := tb_z (tz_2 (List.mem_of_getElem? (i := 235) rfl)) rfl
theorem q_598 : Cond.methodLink RX7 34 yX0_lay ∈ TBL := tb_z (tz_2 (List.mem_of_getElem? (i := 11) rfl)) rfl
theorem q_599 : Cond.methodLink RX7 54 yX7_needCell ∈ TBL := tb_z (tz_2 (List.mem_of_getElem? (i := 158) rfl)) rfl
theorem q_600 : Cond.code yX7_needCell cX7_needCell 2 none ∈ TBL := tb_z (tz_2 (List.mem_of_getElem? (i := 161) rfl)) rfl
theorem q_601 : Cond.initialized yX7_needCell.cls ∈ TBL := tb_z (tz_1 (List.mem_of_getElem? (i := 1) rfl)) rfl
theorem q_602 : Cond.instanceMethod yX7_needCell ∈ TBL := tb_z (tz_2 (List.mem_of_getElem? (i := 160) rfl)) rfl
theorem q_603 : Cond.selects yX7_needCell.cls yX7_needCell yX7_needCell ∈ TBL := tb_s 7 rfl rfl
theorem q_604 : Cond.methodLink RX7 68 yX6_noteLakes ∈ TBL := tb_z (tz_3 (List.mem_of_getElem? (i := 48) rfl)) rfl
theorem q_605 : Cond.code yX6_noteLakes cX6_noteLakes 3 none ∈ TBL := tb_z (tz_3 (List.mem_of_getElem? (i := 51) rfl)) rfl
theorem q_606 : Cond.initialized yX6_noteLakes.cls ∈ TBL := tb_z (tz_1 (List.mem_of_getElem? (i := 2) rfl)) rfl
theorem q_607 : Cond.instanceMethod yX6_noteLakes ∈ TBL := tb_z (tz_3 (List.mem_of_getElem? (i := 49) rfl)) rfl
theorem q_608 : Cond.selects yX6_noteLakes.cls yX6_noteLakes yX6_noteLakes ∈ TBL := tb_z (tz_3 (List.mem_of_getElem? (i := 50) rfl)) rfl
theorem q_609 : Cond.methodLink RX7 71 yX3_put ∈ TBL := tb_z (tz_3 (List.mem_of_getElem? (i := 71) rfl)) rfl
theorem q_610 : Cond.methodLink RX7 74 yX6_renew ∈ TBL := tb_z (tz_3 (List.mem_of_getElem? (i := 72) rfl)) rfl
theorem q_611 : Cond.code yX6_renew cX6_renew 2 none ∈ TBL := tb_z (tz_3 (List.mem_of_getElem? (i := 75) rfl)) rfl
theorem q_612 : Cond.initialized yX6_renew.cls ∈ TBL := tb_z (tz_1 (List.mem_of_getElem? (i := 2) rfl)) rfl
theorem q_613 : Cond.instanceMethod yX6_renew ∈ TBL := tb_z (tz_3 (List.mem_of_getElem? (i := 73) rfl)) rfl
theorem q_614 : Cond.selects yX6_renew.cls yX6_renew yX6_renew ∈ TBL := tb_z (tz_3 (List.mem_of_getElem? (i := 74) rfl)) rfl
theorem q_615 : Cond.methodLink RX7 85 yX0_putDrain ∈ TBL := tb_z (tz_4 (List.mem_of_getElem? (i := 164) rfl)) rfl
theorem q_616 : Cond.constant RX7 102 (999999 : Int32) ∈ TBL := tb_z (tz_4 (List.mem_of_getElem? (i := 151) rfl)) rfl
theorem q_617 : Cond.methodLink RX7 103 yX0_scatter ∈ TBL := tb_z (tz_4 (List.mem_of_getElem? (i := 152) rfl)) rfl
theorem q_618 : Cond.code yX0_scatter cX0_scatter 7 none ∈ TBL := tb_z (tz_4 (List.mem_of_getElem? (i := 155) rfl)) rfl
theorem q_619 : Cond.initialized yX0_scatter.cls ∈ TBL := tb_z (tz_1 (List.mem_of_getElem? (i := 3) rfl)) rfl
theorem q_620 : Cond.instanceMethod yX0_scatter ∈ TBL := tb_z (tz_4 (List.mem_of_getElem? (i := 153) rfl)) rfl
theorem q_621 : Cond.selects yX0_scatter.cls yX0_scatter yX0_scatter ∈ TBL := tb_z (tz_4 (List.mem_of_getElem? (i := 154) rfl)) rfl
theorem q_622 : Cond.constant RX7 124 (100000 : Int32) ∈ TBL := tb_z (tz_3 (List.mem_of_getElem? (i := 158) rfl)) rfl
theorem q_623 : Cond.methodLink RX7 125 yX7_needRoom ∈ TBL := tb_z (tz_3 (List.mem_of_getElem? (i := 159) rfl)) rfl
theorem q_624 : Cond.code yX7_needRoom cX7_needRoom 2 none ∈ TBL := tb_z (tz_3 (List.mem_of_getElem? (i := 162) rfl)) rfl
theorem q_625 : Cond.initialized yX7_needRoom.cls ∈ TBL := tb_z (tz_1 (List.mem_of_getElem? (i := 1) rfl)) rfl
theorem q_626 : Cond.instanceMethod yX7_needRoom ∈ TBL := tb_z (tz_3 (List.mem_of_getElem? (i := 161) rfl)) rfl
theorem q_627 : Cond.selects yX7_needRoom.cls yX7_needRoom yX7_needRoom ∈ TBL := tb_s 19 rfl rfl
theorem q_628 : Cond.methodLink RX7 137 yX6_dry ∈ TBL := tb_z (tz_3 (List.mem_of_getElem? (i := 189) rfl)) rfl
theorem q_629 : Cond.code yX6_dry cX6_dry 4 (some .int) ∈ TBL := tb_z (tz_3 (List.mem_of_getElem? (i := 192) rfl)) rfl
theorem q_630 : Cond.initialized yX6_dry.cls ∈ TBL := tb_z (tz_1 (List.mem_of_getElem? (i := 2) rfl)) rfl
theorem q_631 : Cond.instanceMethod yX6_dry ∈ TBL := tb_z (tz_3 (List.mem_of_getElem? (i := 190) rfl)) rfl
theorem q_632 : Cond.selects yX6_dry.cls yX6_dry yX6_dry ∈ TBL := tb_z (tz_3 (List.mem_of_getElem? (i := 191) rfl)) rfl
theorem q_633 : Cond.methodLink RX7 183 yX5_courseFrom ∈ TBL := tb_z (tz_4 (List.mem_of_getElem? (i := 132) rfl)) rfl
theorem q_634 : Cond.code yX5_courseFrom cX5_courseFrom 6 (some .long) ∈ TBL := tb_z (tz_4 (List.mem_of_getElem? (i := 135) rfl)) rfl
theorem q_635 : Cond.initialized yX5_courseFrom.cls ∈ TBL := tb_z (tz_1 (List.mem_of_getElem? (i := 6) rfl)) rfl
theorem q_636 : Cond.instanceMethod yX5_courseFrom ∈ TBL := tb_z (tz_4 (List.mem_of_getElem? (i := 133) rfl)) rfl
theorem q_637 : Cond.selects yX5_courseFrom.cls yX5_courseFrom yX5_courseFrom ∈ TBL := tb_z (tz_4 (List.mem_of_getElem? (i := 134) rfl)) rfl
theorem q_638 : Cond.methodLink RX7 186 yX7_wouldBeWet ∈ TBL := tb_z (tz_3 (List.mem_of_getElem? (i := 239) rfl)) rfl
theorem q_639 : Cond.code yX7_wouldBeWet cX7_wouldBeWet 4 (some .boolean) ∈ TBL := tb_z (tz_4 (List.mem_of_getElem? (i := 2) rfl)) rfl
theorem q_640 : Cond.initialized yX7_wouldBeWet.cls ∈ TBL := tb_z (tz_1 (List.mem_of_getElem? (i := 1) rfl)) rfl
theorem q_641 : Cond.instanceMethod yX7_wouldBeWet ∈ TBL := tb_z (tz_4 (List.mem_of_getElem? (i := 1) rfl)) rfl
theorem q_642 : Cond.selects yX7_wouldBeWet.cls yX7_wouldBeWet yX7_wouldBeWet ∈ TBL := tb_s 24 rfl rfl
theorem q_643 : Cond.methodLink RX7 207 yX2_add ∈ TBL := tb_z (tz_4 (List.mem_of_getElem? (i := 118) rfl)) rfl
theorem q_644 : Cond.code yX2_add cX2_add 2 none ∈ TBL := tb_z (tz_4 (List.mem_of_getElem? (i := 121) rfl)) rfl
theorem q_645 : Cond.initialized yX2_add.cls ∈ TBL := tb_z (tz_1 (List.mem_of_getElem? (i := 9) rfl)) rfl
theorem q_646 : Cond.instanceMethod yX2_add ∈ TBL := tb_z (tz_4 (List.mem_of_getElem? (i := 119) rfl)) rfl
theorem q_647 : Cond.selects yX2_add.cls yX2_add yX2_add ∈ TBL := tb_z (tz_4 (List.mem_of_getElem? (i := 120) rfl)) rfl
theorem wdX7_needWithin : WdS yX7_needWithin cX7_needWithin 3 none 3 := ⟨q_595, q_597, q_596, by decide +kernel, by decide +kernel⟩
theorem wdX7_needCell : WdV yX7_needCell cX7_needCell 2 none 1 := ⟨q_600, q_602, q_603, q_601, by decide +kernel, by decide +kernel⟩
theorem wdX6_noteLakes : WdV yX6_noteLakes cX6_noteLakes 3 none 0 := ⟨q_605, q_607, q_608, q_606, by decide +kernel, by decide +kernel⟩
theorem wdX6_renew : WdV yX6_renew cX6_renew 2 none 0 := ⟨q_611, q_613, q_614, q_612, by decide +kernel, by decide +kernel⟩
theorem wdX0_scatter : WdV yX0_scatter cX0_scatter 7 none 2 := ⟨q_618, q_620, q_621, q_619, by decide +kernel, by decide +kernel⟩
theorem wdX7_needRoom : WdV yX7_needRoom cX7_needRoom 2 none 1 := ⟨q_624, q_626, q_627, q_625, by decide +kernel, by decide +kernel⟩
theorem wdX6_dry : WdV yX6_dry cX6_dry 4 (some .int) 1 := ⟨q_629, q_631, q_632, q_630, by decide +kernel, by decide +kernel⟩
theorem wdX5_courseFrom : WdV yX5_courseFrom cX5_courseFrom 6 (some .long) 1 := ⟨q_634, q_636, q_637, q_635, by decide +kernel, by decide +kernel⟩
theorem wdX7_wouldBeWet : WdV yX7_wouldBeWet cX7_wouldBeWet 4 (some .boolean) 3 := ⟨q_639, q_641, q_642, q_640, by decide +kernel, by decide +kernel⟩
theorem wdX2_add : WdV yX2_add cX2_add 2 none 1 := ⟨q_644, q_646, q_647, q_645, by decide +kernel, by decide +kernel⟩
