/-! words of the law -/
theorem q_648 : Cond.constant RL 7 (1779033703 : Int32) ∈ TBL := tb_z (tz_4 (List.mem_of_getElem? (i := 101) rfl)) rfl
theorem q_649 : Cond.constant RL 8 (2147483647 : Int32) ∈ TBL := tb_z (tz_4 (List.mem_of_getElem? (i := 105) rfl)) rfl
theorem q_650 : Cond.methodLink RL 9 yX7_append ∈ TBL := tb_z (tz_4 (List.mem_of_getElem? (i := 113) rfl)) rfl
theorem q_651 : Cond.code yX7_append cX7_append 2 (some .int) ∈ TBL := tb_z (tz_4 (List.mem_of_getElem? (i := 116) rfl)) rfl
theorem q_652 : Cond.initialized yX7_append.cls ∈ TBL := tb_z (tz_1 (List.mem_of_getElem? (i := 1) rfl)) rfl
theorem q_653 : Cond.instanceMethod yX7_append ∈ TBL := tb_z (tz_4 (List.mem_of_getElem? (i := 114) rfl)) rfl
theorem q_654 : Cond.selects yX7_append.cls yX7_append yX7_append ∈ TBL := tb_z (tz_4 (List.mem_of_getElem? (i := 115) rfl)) rfl
theorem q_655 : Cond.methodLink RL 15 yX7_count ∈ TBL := tb_z (tz_3 (List.mem_of_getElem? (i := 132) rfl)) rfl
theorem q_656 : Cond.code yX7_count cX7_count 2 (some .int) ∈ TBL := tb_z (tz_3 (List.mem_of_getElem? (i := 135) rfl)) rfl
theorem q_657 : Cond.initialized yX7_count.cls ∈ TBL := tb_z (tz_1 (List.mem_of_getElem? (i := 1) rfl)) rfl
theorem q_658 : Cond.instanceMethod yX7_count ∈ TBL := tb_z (tz_3 (List.mem_of_getElem? (i := 133) rfl)) rfl
theorem q_659 : Cond.selects yX7_count.cls yX7_count yX7_count ∈ TBL := tb_z (tz_3 (List.mem_of_getElem? (i := 134) rfl)) rfl
theorem q_660 : Cond.methodLink RL 18 yX7_clearText ∈ TBL := tb_z (tz_4 (List.mem_of_getElem? (i := 109) rfl)) rfl
theorem q_661 : Cond.code yX7_clearText cX7_clearText 2 (some .int) ∈ TBL := tb_z (tz_4 (List.mem_of_getElem? (i := 112) rfl)) rfl
theorem q_662 : Cond.initialized yX7_clearText.cls ∈ TBL := tb_z (tz_1 (List.mem_of_getElem? (i := 1) rfl)) rfl
theorem q_663 : Cond.instanceMethod yX7_clearText ∈ TBL := tb_z (tz_4 (List.mem_of_getElem? (i := 110) rfl)) rfl
theorem q_664 : Cond.selects yX7_clearText.cls yX7_clearText yX7_clearText ∈ TBL := tb_z (tz_4 (List.mem_of_getElem? (i := 111) rfl)) rfl
theorem q_665 : Cond.methodLink RL 22 yX7_cell ∈ TBL := tb_z (tz_3 (List.mem_of_getElem? (i := 106) rfl)) rfl
theorem q_666 : Cond.code yX7_cell cX7_cell 3 (some .int) ∈ TBL := tb_z (tz_3 (List.mem_of_getElem? (i := 109) rfl)) rfl
theorem q_667 : Cond.initialized yX7_cell.cls ∈ TBL := tb_z (tz_1 (List.mem_of_getElem? (i := 1) rfl)) rfl
theorem q_668 : Cond.instanceMethod yX7_cell ∈ TBL := tb_z (tz_3 (List.mem_of_getElem? (i := 107) rfl)) rfl
theorem q_669 : Cond.selects yX7_cell.cls yX7_cell yX7_cell ∈ TBL := tb_z (tz_3 (List.mem_of_getElem? (i := 108) rfl)) rfl
theorem q_670 : Cond.methodLink RL 26 yL_number ∈ TBL := tb_z (tz_4 (List.mem_of_getElem? (i := 122) rfl)) rfl
theorem q_671 : Cond.code yL_number cL_number 2 (some .boolean) ∈ TBL := tb_z (tz_4 (List.mem_of_getElem? (i := 124) rfl)) rfl
theorem q_672 : Cond.initialized yL_number.cls ∈ TBL := tb_z (tz_1 (List.mem_of_getElem? (i := 0) rfl)) rfl
theorem q_673 : Cond.static yL_number ∈ TBL := tb_z (tz_4 (List.mem_of_getElem? (i := 123) rfl)) rfl
theorem q_674 : Cond.methodLink RL 32 yX7_course ∈ TBL := tb_z (tz_4 (List.mem_of_getElem? (i := 128) rfl)) rfl
theorem q_675 : Cond.code yX7_course cX7_course 2 (some .long) ∈ TBL := tb_z (tz_4 (List.mem_of_getElem? (i := 131) rfl)) rfl
theorem q_676 : Cond.initialized yX7_course.cls ∈ TBL := tb_z (tz_1 (List.mem_of_getElem? (i := 1) rfl)) rfl
theorem q_677 : Cond.instanceMethod yX7_course ∈ TBL := tb_z (tz_4 (List.mem_of_getElem? (i := 129) rfl)) rfl
theorem q_678 : Cond.selects yX7_course.cls yX7_course yX7_course ∈ TBL := tb_z (tz_4 (List.mem_of_getElem? (i := 130) rfl)) rfl
theorem q_679 : Cond.methodLink RL 36 yX7_balance ∈ TBL := tb_z (tz_3 (List.mem_of_getElem? (i := 207) rfl)) rfl
theorem q_680 : Cond.code yX7_balance cX7_balance 2 (some .long) ∈ TBL := tb_z (tz_3 (List.mem_of_getElem? (i := 210) rfl)) rfl
theorem q_681 : Cond.initialized yX7_balance.cls ∈ TBL := tb_z (tz_1 (List.mem_of_getElem? (i := 1) rfl)) rfl
theorem q_682 : Cond.instanceMethod yX7_balance ∈ TBL := tb_z (tz_3 (List.mem_of_getElem? (i := 208) rfl)) rfl
theorem q_683 : Cond.selects yX7_balance.cls yX7_balance yX7_balance ∈ TBL := tb_z (tz_3 (List.mem_of_getElem? (i := 209) rfl)) rfl
theorem q_684 : Cond.methodLink RL 39 yX7_deepest ∈ TBL := tb_z (tz_3 (List.mem_of_getElem? (i := 215) rfl)) rfl
theorem q_685 : Cond.code yX7_deepest cX7_deepest 7 (some .int) ∈ TBL := tb_z (tz_3 (List.mem_of_getElem? (i := 218) rfl)) rfl
theorem q_686 : Cond.initialized yX7_deepest.cls ∈ TBL := tb_z (tz_1 (List.mem_of_getElem? (i := 1) rfl)) rfl
theorem q_687 : Cond.instanceMethod yX7_deepest ∈ TBL := tb_z (tz_3 (List.mem_of_getElem? (i := 216) rfl)) rfl
theorem q_688 : Cond.selects yX7_deepest.cls yX7_deepest yX7_deepest ∈ TBL := tb_z (tz_3 (List.mem_of_getElem? (i := 217) rfl)) rfl
theorem q_689 : Cond.methodLink RL 42 yL_cell ∈ TBL := tb_z (tz_4 (List.mem_of_getElem? (i := 98) rfl)) rfl
theorem q_690 : Cond.code yL_cell cL_cell 2 (some .int) ∈ TBL := tb_z (tz_4 (List.mem_of_getElem? (i := 100) rfl)) rfl
theorem q_691 : Cond.initialized yL_cell.cls ∈ TBL := tb_z (tz_1 (List.mem_of_getElem? (i := 0) rfl)) rfl
theorem q_692 : Cond.static yL_cell ∈ TBL := tb_z (tz_4 (List.mem_of_getElem? (i := 99) rfl)) rfl
theorem q_693 : Cond.methodLink RL 45 yL_up ∈ TBL := tb_z (tz_4 (List.mem_of_getElem? (i := 102) rfl)) rfl
theorem q_694 : Cond.code yL_up cL_up 2 (some .int) ∈ TBL := tb_z (tz_4 (List.mem_of_getElem? (i := 104) rfl)) rfl
theorem q_695 : Cond.initialized yL_up.cls ∈ TBL := tb_z (tz_1 (List.mem_of_getElem? (i := 0) rfl)) rfl
theorem q_696 : Cond.static yL_up ∈ TBL := tb_z (tz_4 (List.mem_of_getElem? (i := 103) rfl)) rfl
theorem q_697 : Cond.methodLink RL 48 yX7_begin ∈ TBL := tb_z (tz_4 (List.mem_of_getElem? (i := 142) rfl)) rfl
theorem q_698 : Cond.code yX7_begin cX7_begin 3 (some .int) ∈ TBL := tb_z (tz_4 (List.mem_of_getElem? (i := 145) rfl)) rfl
theorem q_699 : Cond.initialized yX7_begin.cls ∈ TBL := tb_z (tz_1 (List.mem_of_getElem? (i := 1) rfl)) rfl
theorem q_700 : Cond.instanceMethod yX7_begin ∈ TBL := tb_z (tz_4 (List.mem_of_getElem? (i := 143) rfl)) rfl
theorem q_701 : Cond.selects yX7_begin.cls yX7_begin yX7_begin ∈ TBL := tb_z (tz_4 (List.mem_of_getElem? (i := 144) rfl)) rfl
theorem q_702 : Cond.constant RL 51 (1000000 : Int32) ∈ TBL := tb_z (tz_4 (List.mem_of_getElem? (i := 146) rfl)) rfl
theorem q_703 : Cond.methodLink RL 52 yX7_random ∈ TBL := tb_z (tz_4 (List.mem_of_getElem? (i := 147) rfl)) rfl
theorem q_704 : Cond.code yX7_random cX7_random 3 (some .int) ∈ TBL := tb_z (tz_4 (List.mem_of_getElem? (i := 150) rfl)) rfl
theorem q_705 : Cond.initialized yX7_random.cls ∈ TBL := tb_z (tz_1 (List.mem_of_getElem? (i := 1) rfl)) rfl
theorem q_706 : Cond.instanceMethod yX7_random ∈ TBL := tb_z (tz_4 (List.mem_of_getElem? (i := 148) rfl)) rfl
theorem q_707 : Cond.selects yX7_random.cls yX7_random yX7_random ∈ TBL := tb_z (tz_4 (List.mem_of_getElem? (i := 149) rfl)) rfl
theorem q_708 : Cond.methodLink RL 55 yX7_setDrain ∈ TBL := tb_z (tz_4 (List.mem_of_getElem? (i := 160) rfl)) rfl
theorem q_709 : Cond.code yX7_setDrain cX7_setDrain 4 (some .boolean) ∈ TBL := tb_z (tz_4 (List.mem_of_getElem? (i := 163) rfl)) rfl
theorem q_710 : Cond.initialized yX7_setDrain.cls ∈ TBL := tb_z (tz_1 (List.mem_of_getElem? (i := 1) rfl)) rfl
theorem q_711 : Cond.instanceMethod yX7_setDrain ∈ TBL := tb_z (tz_4 (List.mem_of_getElem? (i := 161) rfl)) rfl
theorem q_712 : Cond.selects yX7_setDrain.cls yX7_setDrain yX7_setDrain ∈ TBL := tb_z (tz_4 (List.mem_of_getElem? (i := 162) rfl)) rfl
theorem q_713 : Cond.methodLink RL 59 yX7_depth ∈ TBL := tb_z (tz_4 (List.mem_of_getElem? (i := 168) rfl)) rfl
theorem q_714 : Cond.code yX7_depth cX7_depth 2 (some .double) ∈ TBL := tb_z (tz_4 (List.mem_of_getElem? (i := 171) rfl)) rfl
theorem q_715 : Cond.initialized yX7_depth.cls ∈ TBL := tb_z (tz_1 (List.mem_of_getElem? (i := 1) rfl)) rfl
theorem q_716 : Cond.instanceMethod yX7_depth ∈ TBL := tb_z (tz_4 (List.mem_of_getElem? (i := 169) rfl)) rfl
theorem q_717 : Cond.selects yX7_depth.cls yX7_depth yX7_depth ∈ TBL := tb_z (tz_4 (List.mem_of_getElem? (i := 170) rfl)) rfl
theorem q_718 : Cond.methodLink RL 63 yX7_pour ∈ TBL := tb_z (tz_3 (List.mem_of_getElem? (i := 154) rfl)) rfl
theorem q_719 : Cond.code yX7_pour cX7_pour 3 (some .int) ∈ TBL := tb_z (tz_3 (List.mem_of_getElem? (i := 157) rfl)) rfl
theorem q_720 : Cond.initialized yX7_pour.cls ∈ TBL := tb_z (tz_1 (List.mem_of_getElem? (i := 1) rfl)) rfl
theorem q_721 : Cond.instanceMethod yX7_pour ∈ TBL := tb_z (tz_3 (List.mem_of_getElem? (i := 155) rfl)) rfl
theorem q_722 : Cond.selects yX7_pour.cls yX7_pour yX7_pour ∈ TBL := tb_z (tz_3 (List.mem_of_getElem? (i := 156) rfl)) rfl
theorem q_723 : Cond.methodLink RL 67 yL_lays ∈ TBL := tb_z (tz_4 (List.mem_of_getElem? (i := 139) rfl)) rfl
theorem q_724 : Cond.code yL_lays cL_lays 8 (some .boolean) ∈ TBL := tb_z (tz_4 (List.mem_of_getElem? (i := 141) rfl)) rfl
theorem q_725 : Cond.initialized yL_lays.cls ∈ TBL := tb_z (tz_1 (List.mem_of_getElem? (i := 0) rfl)) rfl
theorem q_726 : Cond.static yL_lays ∈ TBL := tb_z (tz_4 (List.mem_of_getElem? (i := 140) rfl)) rfl
theorem q_727 : Cond.methodLink RL 71 yL_tells ∈ TBL := tb_z (tz_4 (List.mem_of_getElem? (i := 106) rfl)) rfl
theorem q_728 : Cond.code yL_tells cL_tells 5 (some .boolean) ∈ TBL := tb_z (tz_4 (List.mem_of_getElem? (i := 108) rfl)) rfl
theorem q_729 : Cond.initialized yL_tells.cls ∈ TBL := tb_z (tz_1 (List.mem_of_getElem? (i := 0) rfl)) rfl
theorem q_730 : Cond.static yL_tells ∈ TBL := tb_z (tz_4 (List.mem_of_getElem? (i := 107) rfl)) rfl
theorem q_731 : Cond.methodLink RL 75 yX7_parse ∈ TBL := tb_z (tz_4 (List.mem_of_getElem? (i := 3) rfl)) rfl
theorem q_732 : Cond.code yX7_parse cX7_parse 2 (some .int) ∈ TBL := tb_z (tz_4 (List.mem_of_getElem? (i := 6) rfl)) rfl
theorem q_733 : Cond.initialized yX7_parse.cls ∈ TBL := tb_z (tz_1 (List.mem_of_getElem? (i := 1) rfl)) rfl
theorem q_734 : Cond.instanceMethod yX7_parse ∈ TBL := tb_z (tz_4 (List.mem_of_getElem? (i := 4) rfl)) rfl
theorem q_735 : Cond.selects yX7_parse.cls yX7_parse yX7_parse ∈ TBL := tb_z (tz_4 (List.mem_of_getElem? (i := 5) rfl)) rfl
theorem q_736 : Cond.methodLink RL 78 yL_areBasins ∈ TBL := tb_z (tz_4 (List.mem_of_getElem? (i := 125) rfl)) rfl
theorem q_737 : Cond.code yL_areBasins cL_areBasins 5 (some .boolean) ∈ TBL := tb_z (tz_4 (List.mem_of_getElem? (i := 127) rfl)) rfl
theorem q_738 : Cond.initialized yL_areBasins.cls ∈ TBL := tb_z (tz_1 (List.mem_of_getElem? (i := 0) rfl)) rfl
theorem q_739 : Cond.static yL_areBasins ∈ TBL := tb_z (tz_4 (List.mem_of_getElem? (i := 126) rfl)) rfl
theorem q_740 : Cond.methodLink RL 81 yL_isSound ∈ TBL := tb_z (tz_4 (List.mem_of_getElem? (i := 136) rfl)) rfl
theorem q_741 : Cond.code yL_isSound cL_isSound 10 (some .boolean) ∈ TBL := tb_z (tz_4 (List.mem_of_getElem? (i := 138) rfl)) rfl
theorem q_742 : Cond.initialized yL_isSound.cls ∈ TBL := tb_z (tz_1 (List.mem_of_getElem? (i := 0) rfl)) rfl
theorem q_743 : Cond.static yL_isSound ∈ TBL := tb_z (tz_4 (List.mem_of_getElem? (i := 137) rfl)) rfl
theorem q_744 : Cond.methodLink RL 85 yL_isRaised ∈ TBL := tb_z (tz_4 (List.mem_of_getElem? (i := 165) rfl)) rfl
theorem q_745 : Cond.code yL_isRaised cL_isRaised 14 (some .boolean) ∈ TBL := tb_z (tz_4 (List.mem_of_getElem? (i := 167) rfl)) rfl
theorem q_746 : Cond.initialized yL_isRaised.cls ∈ TBL := tb_z (tz_1 (List.mem_of_getElem? (i := 0) rfl)) rfl
theorem q_747 : Cond.static yL_isRaised ∈ TBL := tb_z (tz_4 (List.mem_of_getElem? (i := 166) rfl)) rfl
theorem q_748 : Cond.methodLink RL 89 yX7_evaporate ∈ TBL := tb_z (tz_3 (List.mem_of_getElem? (i := 185) rfl)) rfl
theorem q_749 : Cond.code yX7_evaporate cX7_evaporate 2 (some .int) ∈ TBL := tb_z (tz_3 (List.mem_of_getElem? (i := 188) rfl)) rfl
theorem q_750 : Cond.initialized yX7_evaporate.cls ∈ TBL := tb_z (tz_1 (List.mem_of_getElem? (i := 1) rfl)) rfl
theorem q_751 : Cond.instanceMethod yX7_evaporate ∈ TBL := tb_z (tz_3 (List.mem_of_getElem? (i := 186) rfl)) rfl
theorem q_752 : Cond.selects yX7_evaporate.cls yX7_evaporate yX7_evaporate ∈ TBL := tb_z (tz_3 (List.mem_of_getElem? (i := 187) rfl)) rfl
theorem q_753 : Cond.methodLink RL 92 yX7_setHeight ∈ TBL := tb_z (tz_2 (List.mem_of_getElem? (i := 154) rfl)) rfl
theorem q_754 : Cond.code yX7_setHeight cX7_setHeight 4 (some .int) ∈ TBL := tb_z (tz_2 (List.mem_of_getElem? (i := 157) rfl)) rfl
theorem q_755 : Cond.initialized yX7_setHeight.cls ∈ TBL := tb_z (tz_1 (List.mem_of_getElem? (i := 1) rfl)) rfl
theorem q_756 : Cond.instanceMethod yX7_setHeight ∈ TBL := tb_z (tz_2 (List.mem_of_getElem? (i := 155) rfl)) rfl
theorem q_757 : Cond.selects yX7_setHeight.cls yX7_setHeight yX7_setHeight ∈ TBL := tb_z (tz_2 (List.mem_of_getElem? (i := 156) rfl)) rfl
theorem q_758 : Cond.methodLink RL 95 yX7_digest ∈ TBL := tb_z (tz_4 (List.mem_of_getElem? (i := 73) rfl)) rfl
theorem q_759 : Cond.code yX7_digest cX7_digest 5 (some .long) ∈ TBL := tb_z (tz_4 (List.mem_of_getElem? (i := 76) rfl)) rfl
theorem q_760 : Cond.initialized yX7_digest.cls ∈ TBL := tb_z (tz_1 (List.mem_of_getElem? (i := 1) rfl)) rfl
theorem q_761 : Cond.instanceMethod yX7_digest ∈ TBL := tb_z (tz_4 (List.mem_of_getElem? (i := 74) rfl)) rfl
theorem q_762 : Cond.selects yX7_digest.cls yX7_digest yX7_digest ∈ TBL := tb_z (tz_4 (List.mem_of_getElem? (i := 75) rfl)) rfl
theorem q_763 : Cond.methodLink RL 99 yX7_undo ∈ TBL := tb_z (tz_4 (List.mem_of_getElem? (i := 68) rfl)) rfl
theorem q_764 : Cond.code yX7_undo cX7_undo 1 (some .int) ∈ TBL := tb_z (tz_4 (List.mem_of_getElem? (i := 71) rfl)) rfl
theorem q_765 : Cond.initialized yX7_undo.cls ∈ TBL := tb_z (tz_1 (List.mem_of_getElem? (i := 1) rfl)) rfl
theorem q_766 : Cond.instanceMethod yX7_undo ∈ TBL := tb_z (tz_4 (List.mem_of_getElem? (i := 69) rfl)) rfl
theorem q_767 : Cond.selects yX7_undo.cls yX7_undo yX7_undo ∈ TBL := tb_z (tz_4 (List.mem_of_getElem? (i := 70) rfl)) rfl
theorem q_768 : Cond.methodLink RL 102 yX7_amountFor ∈ TBL := tb_z (tz_3 (List.mem_of_getElem? (i := 235) rfl)) rfl
theorem q_769 : Cond.code yX7_amountFor cX7_amountFor 7 (some .int) ∈ TBL := tb_z (tz_3 (List.mem_of_getElem? (i := 238) rfl)) rfl
theorem q_770 : Cond.initialized yX7_amountFor.cls ∈ TBL := tb_z (tz_1 (List.mem_of_getElem? (i := 1) rfl)) rfl
theorem q_771 : Cond.instanceMethod yX7_amountFor ∈ TBL := tb_z (tz_3 (List.mem_of_getElem? (i := 236) rfl)) rfl
theorem q_772 : Cond.selects yX7_amountFor.cls yX7_amountFor yX7_amountFor ∈ TBL := tb_z (tz_3 (List.mem_of_getElem? (i := 237) rfl)) rfl
theorem q_773 : Cond.constant RL 105 (100000 : Int32) ∈ TBL := tb_z (tz_4 (List.mem_of_getElem? (i := 172) rfl)) rfl
theorem q_774 : Cond.constantLong RL 106 (1000000 : Int64) ∈ TBL := tb_z (tz_4 (List.mem_of_getElem? (i := 173) rfl)) rfl
theorem wdX7_append : WdV yX7_append cX7_append 2 (some .int) 1 := ⟨q_651, q_653, q_654, q_652, by decide +kernel, by decide +kernel⟩
theorem wdX7_count : WdV yX7_count cX7_count 2 (some .int) 1 := ⟨q_656, q_658, q_659, q_657, by decide +kernel, by decide +kernel⟩
theorem wdX7_clearText : WdV yX7_clearText cX7_clearText 2 (some .int) 0 := ⟨q_661, q_663, q_664, q_662, by decide +kernel, by decide +kernel⟩
theorem wdX7_cell : WdV yX7_cell cX7_cell 3 (some .int) 2 := ⟨q_666, q_668, q_669, q_667, by decide +kernel, by decide +kernel⟩
theorem wdL_number : WdS yL_number cL_number 2 (some .boolean) 2 := ⟨q_671, q_673, q_672, by decide +kernel, by decide +kernel⟩
theorem wdX7_course : WdV yX7_course cX7_course 2 (some .long) 1 := ⟨q_675, q_677, q_678, q_676, by decide +kernel, by decide +kernel⟩
theorem wdX7_balance : WdV yX7_balance cX7_balance 2 (some .long) 1 := ⟨q_680, q_682, q_683, q_681, by decide +kernel, by decide +kernel⟩
theorem wdX7_deepest : WdV yX7_deepest cX7_deepest 7 (some .int) 0 := ⟨q_685, q_687, q_688, q_686, by decide +kernel, by decide +kernel⟩
theorem wdL_cell : WdS yL_cell cL_cell 2 (some .int) 2 := ⟨q_690, q_692, q_691, by decide +kernel, by decide +kernel⟩
theorem wdL_up : WdS yL_up cL_up 2 (some .int) 2 := ⟨q_694, q_696, q_695, by decide +kernel, by decide +kernel⟩
theorem wdX7_begin : WdV yX7_begin cX7_begin 3 (some .int) 2 := ⟨q_698, q_700, q_701, q_699, by decide +kernel, by decide +kernel⟩
theorem wdX7_random : WdV yX7_random cX7_random 3 (some .int) 2 := ⟨q_704, q_706, q_707, q_705, by decide +kernel, by decide +kernel⟩
theorem wdX7_setDrain : WdV yX7_setDrain cX7_setDrain 4 (some .boolean) 2 := ⟨q_709, q_711, q_712, q_710, by decide +kernel, by decide +kernel⟩
theorem wdX7_depth : WdV yX7_depth cX7_depth 2 (some .double) 1 := ⟨q_714, q_716, q_717, q_715, by decide +kernel, by decide +kernel⟩
theorem wdX7_pour : WdV yX7_pour cX7_pour 3 (some .int) 2 := ⟨q_719, q_721, q_722, q_720, by decide +kernel, by decide +kernel⟩
theorem wdL_lays : WdS yL_lays cL_lays 8 (some .boolean) 2 := ⟨q_724, q_726, q_725, by decide +kernel, by decide +kernel⟩
theorem wdL_tells : WdS yL_tells cL_tells 5 (some .boolean) 2 := ⟨q_728, q_730, q_729, by decide +kernel, by decide +kernel⟩
theorem wdX7_parse : WdV yX7_parse cX7_parse 2 (some .int) 0 := ⟨q_732, q_734, q_735, q_733, by decide +kernel, by decide +kernel⟩
theorem wdL_areBasins : WdS yL_areBasins cL_areBasins 5 (some .boolean) 2 := ⟨q_737, q_739, q_738, by decide +kernel, by decide +kernel⟩
theorem wdL_isSound : WdS yL_isSound cL_isSound 10 (some .boolean) 1 := ⟨q_741, q_743, q_742, by decide +kernel, by decide +kernel⟩
theorem wdL_isRaised : WdS yL_isRaised cL_isRaised 14 (some .boolean) 3 := ⟨q_745, q_747, q_746, by decide +kernel, by decide +kernel⟩
theorem wdX7_evaporate : WdV yX7_evaporate cX7_evaporate 2 (some .int) 1 := ⟨q_749, q_751, q_752, q_750, by decide +kernel, by decide +kernel⟩
theorem wdX7_setHeight : WdV yX7_setHeight cX7_setHeight 4 (some .int) 2 := ⟨q_754, q_756, q_757, q_755, by decide +kernel, by decide +kernel⟩
theorem wdX7_digest : WdV yX7_digest cX7_digest 5 (some .long) 0 := ⟨q_759, q_761, q_762, q_760, by decide +kernel, by decide +kernel⟩
theorem wdX7_undo : WdV yX7_undo cX7_undo 1 (some .int) 0 := ⟨q_764, q_766, q_767, q_765, by decide +kernel, by decide +kernel⟩
theorem wdX7_amountFor : WdV yX7_amountFor cX7_amountFor 7 (some .int) 2 := ⟨q_769, q_771, q_772, q_770, by decide +kernel, by decide +kernel⟩
