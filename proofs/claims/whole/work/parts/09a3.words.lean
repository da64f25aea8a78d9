/-! words of the tables -/
theorem q_750 : Cond.code yX8_takes cX8_takes 17 none ∈ TBL := tb_z (tz_6 (List.mem_of_getElem? (i := 84) rfl)) rfl
theorem q_751 : Cond.initialized yX8_takes.cls ∈ TBL := tb_z (tz_1 (List.mem_of_getElem? (i := 13) rfl)) rfl
theorem q_752 : Cond.instanceMethod yX8_takes ∈ TBL := tb_z (tz_6 (List.mem_of_getElem? (i := 83) rfl)) rfl
theorem q_753 : Cond.selects yX8_takes.cls yX8_takes yX8_takes ∈ TBL := tb_s 74 rfl rfl
theorem q_754 : Cond.constantLong RX8 241 (100 : Int64) ∈ TBL := tb_z (tz_6 (List.mem_of_getElem? (i := 76) rfl)) rfl
theorem q_755 : Cond.methodLink RX8 243 yX8_evaporates ∈ TBL := tb_z (tz_6 (List.mem_of_getElem? (i := 77) rfl)) rfl
theorem q_756 : Cond.code yX8_evaporates cX8_evaporates 7 none ∈ TBL := tb_z (tz_6 (List.mem_of_getElem? (i := 80) rfl)) rfl
theorem q_757 : Cond.initialized yX8_evaporates.cls ∈ TBL := tb_z (tz_1 (List.mem_of_getElem? (i := 13) rfl)) rfl
theorem q_758 : Cond.instanceMethod yX8_evaporates ∈ TBL := tb_z (tz_6 (List.mem_of_getElem? (i := 79) rfl)) rfl
theorem q_759 : Cond.selects yX8_evaporates.cls yX8_evaporates yX8_evaporates ∈ TBL := tb_s 73 rfl rfl
theorem q_760 : Cond.methodLink RX8 246 yX8_isLake ∈ TBL := tb_z (tz_6 (List.mem_of_getElem? (i := 101) rfl)) rfl
theorem q_761 : Cond.code yX8_isLake cX8_isLake 2 (some .boolean) ∈ TBL := tb_z (tz_6 (List.mem_of_getElem? (i := 104) rfl)) rfl
theorem q_762 : Cond.initialized yX8_isLake.cls ∈ TBL := tb_z (tz_1 (List.mem_of_getElem? (i := 13) rfl)) rfl
theorem q_763 : Cond.instanceMethod yX8_isLake ∈ TBL := tb_z (tz_6 (List.mem_of_getElem? (i := 103) rfl)) rfl
theorem q_764 : Cond.selects yX8_isLake.cls yX8_isLake yX8_isLake ∈ TBL := tb_s 78 rfl rfl
theorem q_765 : Cond.constantLong RX8 249 (3 : Int64) ∈ TBL := tb_z (tz_6 (List.mem_of_getElem? (i := 109) rfl)) rfl
theorem q_766 : Cond.methodLink RX8 251 yX8_balanceOf ∈ TBL := tb_z (tz_6 (List.mem_of_getElem? (i := 110) rfl)) rfl
theorem q_767 : Cond.code yX8_balanceOf cX8_balanceOf 2 (some .long) ∈ TBL := tb_z (tz_6 (List.mem_of_getElem? (i := 113) rfl)) rfl
theorem q_768 : Cond.initialized yX8_balanceOf.cls ∈ TBL := tb_z (tz_1 (List.mem_of_getElem? (i := 13) rfl)) rfl
theorem q_769 : Cond.instanceMethod yX8_balanceOf ∈ TBL := tb_z (tz_6 (List.mem_of_getElem? (i := 112) rfl)) rfl
theorem q_770 : Cond.selects yX8_balanceOf.cls yX8_balanceOf yX8_balanceOf ∈ TBL := tb_s 79 rfl rfl
theorem q_771 : Cond.methodLink RX8 257 yX8_basinsOf ∈ TBL := tb_z (tz_6 (List.mem_of_getElem? (i := 126) rfl)) rfl
theorem q_772 : Cond.code yX8_basinsOf cX8_basinsOf 7 (some .int) ∈ TBL := tb_z (tz_6 (List.mem_of_getElem? (i := 129) rfl)) rfl
theorem q_773 : Cond.initialized yX8_basinsOf.cls ∈ TBL := tb_z (tz_1 (List.mem_of_getElem? (i := 13) rfl)) rfl
theorem q_774 : Cond.instanceMethod yX8_basinsOf ∈ TBL := tb_z (tz_6 (List.mem_of_getElem? (i := 128) rfl)) rfl
theorem q_775 : Cond.selects yX8_basinsOf.cls yX8_basinsOf yX8_basinsOf ∈ TBL := tb_s 81 rfl rfl
theorem q_776 : Cond.methodLink RX8 254 yX8_bits ∈ TBL := tb_z (tz_6 (List.mem_of_getElem? (i := 123) rfl)) rfl
theorem q_777 : Cond.code yX8_bits cX8_bits 5 (some .int) ∈ TBL := tb_z (tz_6 (List.mem_of_getElem? (i := 125) rfl)) rfl
theorem q_778 : Cond.initialized yX8_bits.cls ∈ TBL := tb_z (tz_1 (List.mem_of_getElem? (i := 13) rfl)) rfl
theorem q_779 : Cond.static yX8_bits ∈ TBL := tb_z (tz_6 (List.mem_of_getElem? (i := 124) rfl)) rfl
theorem q_780 : Cond.constantLong RX8 260 (9 : Int64) ∈ TBL := tb_z (tz_6 (List.mem_of_getElem? (i := 118) rfl)) rfl
theorem q_781 : Cond.methodLink RX8 262 yX8_lakeValue ∈ TBL := tb_z (tz_6 (List.mem_of_getElem? (i := 119) rfl)) rfl
theorem q_782 : Cond.code yX8_lakeValue cX8_lakeValue 6 (some .int) ∈ TBL := tb_z (tz_6 (List.mem_of_getElem? (i := 122) rfl)) rfl
theorem q_783 : Cond.initialized yX8_lakeValue.cls ∈ TBL := tb_z (tz_1 (List.mem_of_getElem? (i := 13) rfl)) rfl
theorem q_784 : Cond.instanceMethod yX8_lakeValue ∈ TBL := tb_z (tz_6 (List.mem_of_getElem? (i := 121) rfl)) rfl
theorem q_785 : Cond.selects yX8_lakeValue.cls yX8_lakeValue yX8_lakeValue ∈ TBL := tb_s 80 rfl rfl
theorem q_786 : Cond.methodLink RX8 265 yX8_divisor ∈ TBL := tb_z (tz_6 (List.mem_of_getElem? (i := 142) rfl)) rfl
theorem q_787 : Cond.code yX8_divisor cX8_divisor 10 (some .long) ∈ TBL := tb_z (tz_6 (List.mem_of_getElem? (i := 144) rfl)) rfl
theorem q_788 : Cond.initialized yX8_divisor.cls ∈ TBL := tb_z (tz_1 (List.mem_of_getElem? (i := 13) rfl)) rfl
theorem q_789 : Cond.static yX8_divisor ∈ TBL := tb_z (tz_6 (List.mem_of_getElem? (i := 143) rfl)) rfl
theorem q_790 : Cond.methodLink RX8 269 yX8_levelPart ∈ TBL := tb_z (tz_6 (List.mem_of_getElem? (i := 138) rfl)) rfl
theorem q_791 : Cond.code yX8_levelPart cX8_levelPart 5 (some .int) ∈ TBL := tb_z (tz_6 (List.mem_of_getElem? (i := 141) rfl)) rfl
theorem q_792 : Cond.initialized yX8_levelPart.cls ∈ TBL := tb_z (tz_1 (List.mem_of_getElem? (i := 13) rfl)) rfl
theorem q_793 : Cond.instanceMethod yX8_levelPart ∈ TBL := tb_z (tz_6 (List.mem_of_getElem? (i := 140) rfl)) rfl
theorem q_794 : Cond.selects yX8_levelPart.cls yX8_levelPart yX8_levelPart ∈ TBL := tb_s 82 rfl rfl
theorem q_795 : Cond.methodLink RX8 272 yX8_lays ∈ TBL := tb_z (tz_6 (List.mem_of_getElem? (i := 166) rfl)) rfl
theorem q_796 : Cond.code yX8_lays cX8_lays 2 none ∈ TBL := tb_z (tz_6 (List.mem_of_getElem? (i := 169) rfl)) rfl
theorem q_797 : Cond.initialized yX8_lays.cls ∈ TBL := tb_z (tz_1 (List.mem_of_getElem? (i := 13) rfl)) rfl
theorem q_798 : Cond.instanceMethod yX8_lays ∈ TBL := tb_z (tz_6 (List.mem_of_getElem? (i := 168) rfl)) rfl
theorem q_799 : Cond.selects yX8_lays.cls yX8_lays yX8_lays ∈ TBL := tb_s 84 rfl rfl
theorem q_800 : Cond.methodLink RX8 275 yX8_takesBack ∈ TBL := tb_z (tz_6 (List.mem_of_getElem? (i := 170) rfl)) rfl
theorem q_801 : Cond.code yX8_takesBack cX8_takesBack 2 none ∈ TBL := tb_z (tz_6 (List.mem_of_getElem? (i := 173) rfl)) rfl
theorem q_802 : Cond.initialized yX8_takesBack.cls ∈ TBL := tb_z (tz_1 (List.mem_of_getElem? (i := 13) rfl)) rfl
theorem q_803 : Cond.instanceMethod yX8_takesBack ∈ TBL := tb_z (tz_6 (List.mem_of_getElem? (i := 172) rfl)) rfl
theorem q_804 : Cond.selects yX8_takesBack.cls yX8_takesBack yX8_takesBack ∈ TBL := tb_s 85 rfl rfl
theorem q_805 : Cond.constant RX8 278 (100000 : Int32) ∈ TBL := tb_z (tz_6 (List.mem_of_getElem? (i := 161) rfl)) rfl
theorem q_806 : Cond.methodLink RX8 279 yX8_wets ∈ TBL := tb_z (tz_6 (List.mem_of_getElem? (i := 162) rfl)) rfl
theorem q_807 : Cond.code yX8_wets cX8_wets 5 (some .boolean) ∈ TBL := tb_z (tz_6 (List.mem_of_getElem? (i := 165) rfl)) rfl
theorem q_808 : Cond.initialized yX8_wets.cls ∈ TBL := tb_z (tz_1 (List.mem_of_getElem? (i := 13) rfl)) rfl
theorem q_809 : Cond.instanceMethod yX8_wets ∈ TBL := tb_z (tz_6 (List.mem_of_getElem? (i := 164) rfl)) rfl
theorem q_810 : Cond.selects yX8_wets.cls yX8_wets yX8_wets ∈ TBL := tb_s 83 rfl rfl
theorem q_811 : Cond.methodLink RX8 283 yX8_lakesAfter ∈ TBL := tb_z (tz_6 (List.mem_of_getElem? (i := 178) rfl)) rfl
theorem q_812 : Cond.code yX8_lakesAfter cX8_lakesAfter 3 (some .int) ∈ TBL := tb_z (tz_6 (List.mem_of_getElem? (i := 181) rfl)) rfl
theorem q_813 : Cond.initialized yX8_lakesAfter.cls ∈ TBL := tb_z (tz_1 (List.mem_of_getElem? (i := 13) rfl)) rfl
theorem q_814 : Cond.instanceMethod yX8_lakesAfter ∈ TBL := tb_z (tz_6 (List.mem_of_getElem? (i := 180) rfl)) rfl
theorem q_815 : Cond.selects yX8_lakesAfter.cls yX8_lakesAfter yX8_lakesAfter ∈ TBL := tb_s 86 rfl rfl
theorem q_816 : Cond.constantLong RX8 286 (127 : Int64) ∈ TBL := tb_z (tz_6 (List.mem_of_getElem? (i := 190) rfl)) rfl
theorem q_817 : Cond.fieldLink RX8 288 (TX8 21).1 (TX8 21).2.1 (TX8 21).2.2.1 ∈ TBL := tb_z (tz_5 (List.mem_of_getElem? (i := 107) rfl)) rfl
theorem q_818 : Cond.fieldLink RX8 44 (TX8 20).1 (TX8 20).2.1 (TX8 20).2.2.1 ∈ TBL := tb_z (tz_5 (List.mem_of_getElem? (i := 106) rfl)) rfl
theorem q_819 : Cond.fieldLink RX8 291 (TX8 22).1 (TX8 22).2.1 (TX8 22).2.2.1 ∈ TBL := tb_z (tz_5 (List.mem_of_getElem? (i := 108) rfl)) rfl
theorem q_820 : Cond.constantLong RX8 294 (48 : Int64) ∈ TBL := tb_z (tz_6 (List.mem_of_getElem? (i := 225) rfl)) rfl
theorem q_821 : Cond.constantLong RX8 296 (57 : Int64) ∈ TBL := tb_z (tz_6 (List.mem_of_getElem? (i := 226) rfl)) rfl
theorem q_822 : Cond.constantLong RX8 298 (49 : Int64) ∈ TBL := tb_z (tz_6 (List.mem_of_getElem? (i := 207) rfl)) rfl
theorem q_823 : Cond.constantLong RX8 300 (54 : Int64) ∈ TBL := tb_z (tz_6 (List.mem_of_getElem? (i := 208) rfl)) rfl
theorem q_824 : Cond.fieldLink RX8 302 (TX8 23).1 (TX8 23).2.1 (TX8 23).2.2.1 ∈ TBL := tb_z (tz_5 (List.mem_of_getElem? (i := 109) rfl)) rfl
theorem q_825 : Cond.methodLink RX8 305 yX8_isFigure ∈ TBL := tb_z (tz_6 (List.mem_of_getElem? (i := 221) rfl)) rfl
theorem q_826 : Cond.code yX8_isFigure cX8_isFigure 1 (some .boolean) ∈ TBL := tb_z (tz_6 (List.mem_of_getElem? (i := 224) rfl)) rfl
theorem q_827 : Cond.initialized yX8_isFigure.cls ∈ TBL := tb_z (tz_1 (List.mem_of_getElem? (i := 13) rfl)) rfl
theorem q_828 : Cond.instanceMethod yX8_isFigure ∈ TBL := tb_z (tz_6 (List.mem_of_getElem? (i := 223) rfl)) rfl
theorem q_829 : Cond.selects yX8_isFigure.cls yX8_isFigure yX8_isFigure ∈ TBL := tb_s 92 rfl rfl
theorem q_830 : Cond.methodLink RX8 309 yX8_readsNumber ∈ TBL := tb_z (tz_6 (List.mem_of_getElem? (i := 217) rfl)) rfl
theorem q_831 : Cond.code yX8_readsNumber cX8_readsNumber 2 (some .boolean) ∈ TBL := tb_z (tz_6 (List.mem_of_getElem? (i := 220) rfl)) rfl
theorem q_832 : Cond.initialized yX8_readsNumber.cls ∈ TBL := tb_z (tz_1 (List.mem_of_getElem? (i := 13) rfl)) rfl
theorem q_833 : Cond.instanceMethod yX8_readsNumber ∈ TBL := tb_z (tz_6 (List.mem_of_getElem? (i := 219) rfl)) rfl
theorem q_834 : Cond.selects yX8_readsNumber.cls yX8_readsNumber yX8_readsNumber ∈ TBL := tb_s 91 rfl rfl
theorem q_835 : Cond.methodLink RX8 312 yX8_readsCell ∈ TBL := tb_z (tz_6 (List.mem_of_getElem? (i := 231) rfl)) rfl
theorem q_836 : Cond.code yX8_readsCell cX8_readsCell 4 (some .boolean) ∈ TBL := tb_z (tz_6 (List.mem_of_getElem? (i := 234) rfl)) rfl
theorem q_837 : Cond.initialized yX8_readsCell.cls ∈ TBL := tb_z (tz_1 (List.mem_of_getElem? (i := 13) rfl)) rfl
theorem q_838 : Cond.instanceMethod yX8_readsCell ∈ TBL := tb_z (tz_6 (List.mem_of_getElem? (i := 233) rfl)) rfl
theorem q_839 : Cond.selects yX8_readsCell.cls yX8_readsCell yX8_readsCell ∈ TBL := tb_s 94 rfl rfl
theorem q_840 : Cond.methodLink RX8 315 yX8_passes ∈ TBL := tb_z (tz_6 (List.mem_of_getElem? (i := 209) rfl)) rfl
theorem q_841 : Cond.code yX8_passes cX8_passes 3 (some .boolean) ∈ TBL := tb_z (tz_6 (List.mem_of_getElem? (i := 212) rfl)) rfl
theorem q_842 : Cond.initialized yX8_passes.cls ∈ TBL := tb_z (tz_1 (List.mem_of_getElem? (i := 13) rfl)) rfl
theorem q_843 : Cond.instanceMethod yX8_passes ∈ TBL := tb_z (tz_6 (List.mem_of_getElem? (i := 211) rfl)) rfl
theorem q_844 : Cond.selects yX8_passes.cls yX8_passes yX8_passes ∈ TBL := tb_s 89 rfl rfl
theorem q_845 : Cond.methodLink RX8 318 yX8_readsSize ∈ TBL := tb_z (tz_6 (List.mem_of_getElem? (i := 203) rfl)) rfl
theorem q_846 : Cond.code yX8_readsSize cX8_readsSize 2 (some .boolean) ∈ TBL := tb_z (tz_6 (List.mem_of_getElem? (i := 206) rfl)) rfl
theorem q_847 : Cond.initialized yX8_readsSize.cls ∈ TBL := tb_z (tz_1 (List.mem_of_getElem? (i := 13) rfl)) rfl
theorem q_848 : Cond.instanceMethod yX8_readsSize ∈ TBL := tb_z (tz_6 (List.mem_of_getElem? (i := 205) rfl)) rfl
theorem q_849 : Cond.selects yX8_readsSize.cls yX8_readsSize yX8_readsSize ∈ TBL := tb_s 88 rfl rfl
theorem q_850 : Cond.methodLink RX8 321 yX8_readsHeights ∈ TBL := tb_z (tz_6 (List.mem_of_getElem? (i := 213) rfl)) rfl
theorem q_851 : Cond.code yX8_readsHeights cX8_readsHeights 2 (some .boolean) ∈ TBL := tb_z (tz_6 (List.mem_of_getElem? (i := 216) rfl)) rfl
theorem q_852 : Cond.initialized yX8_readsHeights.cls ∈ TBL := tb_z (tz_1 (List.mem_of_getElem? (i := 13) rfl)) rfl
theorem q_853 : Cond.instanceMethod yX8_readsHeights ∈ TBL := tb_z (tz_6 (List.mem_of_getElem? (i := 215) rfl)) rfl
theorem q_854 : Cond.selects yX8_readsHeights.cls yX8_readsHeights yX8_readsHeights ∈ TBL := tb_s 90 rfl rfl
theorem q_855 : Cond.methodLink RX8 324 yX8_readsDrain ∈ TBL := tb_z (tz_6 (List.mem_of_getElem? (i := 227) rfl)) rfl
theorem q_856 : Cond.code yX8_readsDrain cX8_readsDrain 2 (some .boolean) ∈ TBL := tb_z (tz_6 (List.mem_of_getElem? (i := 230) rfl)) rfl
theorem q_857 : Cond.initialized yX8_readsDrain.cls ∈ TBL := tb_z (tz_1 (List.mem_of_getElem? (i := 13) rfl)) rfl
theorem q_858 : Cond.instanceMethod yX8_readsDrain ∈ TBL := tb_z (tz_6 (List.mem_of_getElem? (i := 229) rfl)) rfl
theorem q_859 : Cond.selects yX8_readsDrain.cls yX8_readsDrain yX8_readsDrain ∈ TBL := tb_s 93 rfl rfl
theorem q_860 : Cond.methodLink RX8 327 yX8_readsGate ∈ TBL := tb_z (tz_6 (List.mem_of_getElem? (i := 235) rfl)) rfl
theorem q_861 : Cond.code yX8_readsGate cX8_readsGate 3 (some .boolean) ∈ TBL := tb_z (tz_6 (List.mem_of_getElem? (i := 238) rfl)) rfl
theorem q_862 : Cond.initialized yX8_readsGate.cls ∈ TBL := tb_z (tz_1 (List.mem_of_getElem? (i := 13) rfl)) rfl
theorem q_863 : Cond.instanceMethod yX8_readsGate ∈ TBL := tb_z (tz_6 (List.mem_of_getElem? (i := 237) rfl)) rfl
theorem q_864 : Cond.selects yX8_readsGate.cls yX8_readsGate yX8_readsGate ∈ TBL := tb_s 95 rfl rfl
theorem q_865 : Cond.methodLink RX8 330 yX8_reads ∈ TBL := tb_z (tz_6 (List.mem_of_getElem? (i := 199) rfl)) rfl
theorem q_866 : Cond.code yX8_reads cX8_reads 3 (some .boolean) ∈ TBL := tb_z (tz_6 (List.mem_of_getElem? (i := 202) rfl)) rfl
theorem q_867 : Cond.initialized yX8_reads.cls ∈ TBL := tb_z (tz_1 (List.mem_of_getElem? (i := 13) rfl)) rfl
theorem q_868 : Cond.instanceMethod yX8_reads ∈ TBL := tb_z (tz_6 (List.mem_of_getElem? (i := 201) rfl)) rfl
theorem q_869 : Cond.selects yX8_reads.cls yX8_reads yX8_reads ∈ TBL := tb_s 87 rfl rfl
theorem q_870 : Cond.constantLong RX8 333 (31 : Int64) ∈ TBL := tb_z (tz_7 (List.mem_of_getElem? (i := 11) rfl)) rfl
theorem q_871 : Cond.constantLong RX8 335 (3049 : Int64) ∈ TBL := tb_z (tz_7 (List.mem_of_getElem? (i := 7) rfl)) rfl
theorem q_872 : Cond.methodLink RX8 337 yX8_sums ∈ TBL := tb_z (tz_7 (List.mem_of_getElem? (i := 8) rfl)) rfl
theorem q_873 : Cond.code yX8_sums cX8_sums 4 (some .long) ∈ TBL := tb_z (tz_7 (List.mem_of_getElem? (i := 10) rfl)) rfl
theorem q_874 : Cond.initialized yX8_sums.cls ∈ TBL := tb_z (tz_1 (List.mem_of_getElem? (i := 13) rfl)) rfl
theorem q_875 : Cond.static yX8_sums ∈ TBL := tb_z (tz_7 (List.mem_of_getElem? (i := 9) rfl)) rfl
theorem q_876 : Cond.constantLong RX0 78 (1103515245 : Int64) ∈ TBL := tb_z (tz_4 (List.mem_of_getElem? (i := 84) rfl)) rfl
theorem q_877 : Cond.constantLong RX0 80 (12345 : Int64) ∈ TBL := tb_z (tz_4 (List.mem_of_getElem? (i := 85) rfl)) rfl
theorem q_878 : Cond.constantLong RX0 82 (2147483648 : Int64) ∈ TBL := tb_z (tz_4 (List.mem_of_getElem? (i := 86) rfl)) rfl
theorem q_879 : Cond.constantLong RX0 84 (65536 : Int64) ∈ TBL := tb_z (tz_4 (List.mem_of_getElem? (i := 87) rfl)) rfl
theorem q_880 : Cond.fieldLink RX1 48 (TX1 9).1 (TX1 9).2.1 (TX1 9).2.2.1 ∈ TBL := tb_z (tz_1 (List.mem_of_getElem? (i := 169) rfl)) rfl
theorem q_881 : Cond.fieldLink RX1 51 (TX1 10).1 (TX1 10).2.1 (TX1 10).2.2.1 ∈ TBL := tb_z (tz_1 (List.mem_of_getElem? (i := 170) rfl)) rfl
theorem q_882 : Cond.methodLink RX1 149 yX1_partLake ∈ TBL := tb_z (tz_4 (List.mem_of_getElem? (i := 168) rfl)) rfl
theorem q_883 : Cond.code yX1_partLake cX1_partLake 4 none ∈ TBL := tb_z (tz_4 (List.mem_of_getElem? (i := 171) rfl)) rfl
theorem q_884 : Cond.initialized yX1_partLake.cls ∈ TBL := tb_z (tz_1 (List.mem_of_getElem? (i := 8) rfl)) rfl
theorem q_885 : Cond.instanceMethod yX1_partLake ∈ TBL := tb_z (tz_4 (List.mem_of_getElem? (i := 170) rfl)) rfl
theorem q_886 : Cond.selects yX1_partLake.cls yX1_partLake yX1_partLake ∈ TBL := tb_s 36 rfl rfl
theorem q_887 : Cond.methodLink RX6 77 yX1_total ∈ TBL := tb_z (tz_4 (List.mem_of_getElem? (i := 41) rfl)) rfl
theorem q_888 : Cond.fieldLink RX6 81 (TX6 8).1 (TX6 8).2.1 (TX6 8).2.2.1 ∈ TBL := tb_z (tz_1 (List.mem_of_getElem? (i := 210) rfl)) rfl
theorem q_889 : Cond.methodLink RX6 85 yX1_placeOf ∈ TBL := tb_z (tz_4 (List.mem_of_getElem? (i := 42) rfl)) rfl
theorem q_890 : Cond.fieldLink RX6 37 (TX6 6).1 (TX6 6).2.1 (TX6 6).2.2.1 ∈ TBL := tb_z (tz_1 (List.mem_of_getElem? (i := 208) rfl)) rfl
theorem q_891 : Cond.methodLink RX6 89 yX1_lowestPlace ∈ TBL := tb_z (tz_4 (List.mem_of_getElem? (i := 43) rfl)) rfl
theorem q_892 : Cond.methodLink RX6 93 yX3_put ∈ TBL := tb_z (tz_4 (List.mem_of_getElem? (i := 44) rfl)) rfl
theorem q_893 : Cond.fieldLink RX6 41 (TX6 7).1 (TX6 7).2.1 (TX6 7).2.2.1 ∈ TBL := tb_z (tz_1 (List.mem_of_getElem? (i := 209) rfl)) rfl
theorem q_894 : Cond.fieldLinkNest RX6 97 (TX1 1).1 (TX1 1).2.1 (TX1 1).2.2.1 "LakeLevels" ∈ NST := tb_n (tz_1 (List.mem_of_getElem? (i := 154) rfl)) rfl
theorem q_895 : Cond.methodLink RX6 124 yJ13_bitCount_95d88 ∈ TBL := tb_z (tz_4 (List.mem_of_getElem? (i := 162) rfl)) rfl
theorem q_896 : Cond.methodLink RX6 130 Lib.Math.min.name ∈ TBL := tb_z (tz_4 (List.mem_of_getElem? (i := 163) rfl)) rfl
theorem q_897 : Cond.methodLink RX6 135 yX1_draw ∈ TBL := tb_z (tz_4 (List.mem_of_getElem? (i := 164) rfl)) rfl
theorem q_898 : Cond.code yX1_draw cX1_draw 9 none ∈ TBL := tb_z (tz_4 (List.mem_of_getElem? (i := 167) rfl)) rfl
theorem q_899 : Cond.initialized yX1_draw.cls ∈ TBL := tb_z (tz_1 (List.mem_of_getElem? (i := 8) rfl)) rfl
theorem q_900 : Cond.instanceMethod yX1_draw ∈ TBL := tb_z (tz_4 (List.mem_of_getElem? (i := 165) rfl)) rfl
theorem q_901 : Cond.selects yX1_draw.cls yX1_draw yX1_draw ∈ TBL := tb_z (tz_4 (List.mem_of_getElem? (i := 166) rfl)) rfl
theorem q_902 : Cond.methodLink RX6 117 yX6_dryOnce ∈ TBL := tb_z (tz_4 (List.mem_of_getElem? (i := 158) rfl)) rfl
theorem q_903 : Cond.code yX6_dryOnce cX6_dryOnce 5 (some .int) ∈ TBL := tb_z (tz_4 (List.mem_of_getElem? (i := 161) rfl)) rfl
theorem q_904 : Cond.initialized yX6_dryOnce.cls ∈ TBL := tb_z (tz_1 (List.mem_of_getElem? (i := 2) rfl)) rfl
theorem q_905 : Cond.instanceMethod yX6_dryOnce ∈ TBL := tb_z (tz_4 (List.mem_of_getElem? (i := 160) rfl)) rfl
theorem q_906 : Cond.selects yX6_dryOnce.cls yX6_dryOnce yX6_dryOnce ∈ TBL := tb_s 35 rfl rfl
theorem q_907 : Cond.fieldLink RX7 19 (TX7 2).1 (TX7 2).2.1 (TX7 2).2.2.1 ∈ TBL := tb_z (tz_2 (List.mem_of_getElem? (i := 139) rfl)) rfl
theorem q_908 : u_lay RX0 TX0 0 ∈ TBL := tb_z (tz_1 (List.mem_of_getElem? (i := 84) rfl)) rfl
theorem q_909 : u_lay RX0 TX0 1 ∈ TBL := tb_z (tz_1 (List.mem_of_getElem? (i := 86) rfl)) rfl
theorem q_910 : u_lay RX0 TX0 2 ∈ TBL := tb_z (tz_1 (List.mem_of_getElem? (i := 88) rfl)) rfl
theorem q_911 : u_lay RX0 TX0 3 ∈ TBL := tb_z (tz_1 (List.mem_of_getElem? (i := 90) rfl)) rfl
theorem q_912 : u_lay RX0 TX0 4 ∈ TBL := tb_z (tz_1 (List.mem_of_getElem? (i := 92) rfl)) rfl
theorem q_913 : u_lay RX0 TX0 5 ∈ TBL := tb_z (tz_1 (List.mem_of_getElem? (i := 94) rfl)) rfl
theorem q_914 : u_lay RX0 TX0 6 ∈ TBL := tb_z (tz_1 (List.mem_of_getElem? (i := 96) rfl)) rfl
theorem q_915 : u_lay RX0 TX0 7 ∈ TBL := tb_z (tz_1 (List.mem_of_getElem? (i := 98) rfl)) rfl
theorem q_916 : u_lay RX0 TX0 8 ∈ TBL := tb_z (tz_1 (List.mem_of_getElem? (i := 100) rfl)) rfl
theorem q_917 : u_lay RX1 TX1 0 ∈ TBL := tb_z (tz_1 (List.mem_of_getElem? (i := 171) rfl)) rfl
theorem q_918 : u_lay RX1 TX1 1 ∈ TBL := tb_z (tz_1 (List.mem_of_getElem? (i := 173) rfl)) rfl
theorem q_919 : u_lay RX1 TX1 2 ∈ TBL := tb_z (tz_1 (List.mem_of_getElem? (i := 175) rfl)) rfl
theorem q_920 : u_lay RX1 TX1 3 ∈ TBL := tb_z (tz_1 (List.mem_of_getElem? (i := 177) rfl)) rfl
theorem q_921 : u_lay RX1 TX1 4 ∈ TBL := tb_z (tz_1 (List.mem_of_getElem? (i := 179) rfl)) rfl
theorem q_922 : u_lay RX1 TX1 5 ∈ TBL := tb_z (tz_1 (List.mem_of_getElem? (i := 181) rfl)) rfl
theorem q_923 : u_lay RX1 TX1 6 ∈ TBL := tb_z (tz_1 (List.mem_of_getElem? (i := 183) rfl)) rfl
theorem q_924 : u_lay RX1 TX1 7 ∈ TBL := tb_z (tz_1 (List.mem_of_getElem? (i := 185) rfl)) rfl
theorem q_925 : u_lay RX1 TX1 8 ∈ TBL := tb_z (tz_1 (List.mem_of_getElem? (i := 187) rfl)) rfl
theorem q_926 : u_lay RX1 TX1 9 ∈ TBL := tb_z (tz_1 (List.mem_of_getElem? (i := 189) rfl)) rfl
theorem q_927 : u_lay RX1 TX1 10 ∈ TBL := tb_z (tz_1 (List.mem_of_getElem? (i := 191) rfl)) rfl
theorem q_928 : u_lay RX2 TX2 0 ∈ TBL := tb_z (tz_2 (List.mem_of_getElem? (i := 4) rfl)) rfl
theorem q_929 : u_lay RX2 TX2 1 ∈ TBL := tb_z (tz_2 (List.mem_of_getElem? (i := 6) rfl)) rfl
theorem q_930 : u_lay RX2 TX2 2 ∈ TBL := tb_z (tz_2 (List.mem_of_getElem? (i := 8) rfl)) rfl
theorem q_931 : u_lay RX2 TX2 3 ∈ TBL := tb_z (tz_2 (List.mem_of_getElem? (i := 10) rfl)) rfl
theorem q_932 : u_lay RX3 TX3 0 ∈ TBL := tb_z (tz_1 (List.mem_of_getElem? (i := 50) rfl)) rfl
theorem q_933 : u_lay RX4 TX4 0 ∈ TBL := tb_z (tz_1 (List.mem_of_getElem? (i := 117) rfl)) rfl
theorem q_934 : u_lay RX5 TX5 0 ∈ TBL := tb_z (tz_1 (List.mem_of_getElem? (i := 132) rfl)) rfl
theorem q_935 : u_lay RX5 TX5 1 ∈ TBL := tb_z (tz_1 (List.mem_of_getElem? (i := 134) rfl)) rfl
theorem q_936 : u_lay RX5 TX5 2 ∈ TBL := tb_z (tz_1 (List.mem_of_getElem? (i := 136) rfl)) rfl
theorem q_937 : u_lay RX5 TX5 3 ∈ TBL := tb_z (tz_1 (List.mem_of_getElem? (i := 138) rfl)) rfl
theorem q_938 : u_lay RX6 TX6 0 ∈ TBL := tb_z (tz_1 (List.mem_of_getElem? (i := 211) rfl)) rfl
theorem q_939 : u_lay RX6 TX6 1 ∈ TBL := tb_z (tz_1 (List.mem_of_getElem? (i := 213) rfl)) rfl
theorem q_940 : u_lay RX6 TX6 2 ∈ TBL := tb_z (tz_1 (List.mem_of_getElem? (i := 215) rfl)) rfl
theorem q_941 : u_lay RX6 TX6 3 ∈ TBL := tb_z (tz_1 (List.mem_of_getElem? (i := 217) rfl)) rfl
theorem q_942 : u_lay RX6 TX6 4 ∈ TBL := tb_z (tz_1 (List.mem_of_getElem? (i := 219) rfl)) rfl
theorem q_943 : u_lay RX6 TX6 5 ∈ TBL := tb_z (tz_1 (List.mem_of_getElem? (i := 221) rfl)) rfl
theorem q_944 : u_lay RX6 TX6 6 ∈ TBL := tb_z (tz_1 (List.mem_of_getElem? (i := 223) rfl)) rfl
theorem q_945 : u_lay RX6 TX6 7 ∈ TBL := tb_z (tz_1 (List.mem_of_getElem? (i := 225) rfl)) rfl
theorem q_946 : u_lay RX6 TX6 8 ∈ TBL := tb_z (tz_1 (List.mem_of_getElem? (i := 227) rfl)) rfl
theorem q_947 : u_lay RX7 TX7 0 ∈ TBL := tb_z (tz_2 (List.mem_of_getElem? (i := 143) rfl)) rfl
theorem q_948 : u_lay RX7 TX7 1 ∈ TBL := tb_z (tz_2 (List.mem_of_getElem? (i := 145) rfl)) rfl
theorem q_949 : u_lay RX7 TX7 2 ∈ TBL := tb_z (tz_2 (List.mem_of_getElem? (i := 147) rfl)) rfl
theorem q_950 : u_lay RX7 TX7 3 ∈ TBL := tb_z (tz_2 (List.mem_of_getElem? (i := 149) rfl)) rfl
theorem q_951 : u_lay RX7 TX7 4 ∈ TBL := tb_z (tz_2 (List.mem_of_getElem? (i := 151) rfl)) rfl
theorem q_952 : u_lay RX7 TX7 5 ∈ TBL := tb_z (tz_2 (List.mem_of_getElem? (i := 153) rfl)) rfl
theorem q_953 : u_lay RX8 TX8 0 ∈ TBL := tb_z (tz_5 (List.mem_of_getElem? (i := 111) rfl)) rfl
theorem q_954 : u_lay RX8 TX8 1 ∈ TBL := tb_z (tz_5 (List.mem_of_getElem? (i := 113) rfl)) rfl
theorem q_955 : u_lay RX8 TX8 2 ∈ TBL := tb_z (tz_5 (List.mem_of_getElem? (i := 115) rfl)) rfl
theorem q_956 : u_lay RX8 TX8 3 ∈ TBL := tb_z (tz_5 (List.mem_of_getElem? (i := 117) rfl)) rfl
theorem q_957 : u_lay RX8 TX8 4 ∈ TBL := tb_z (tz_5 (List.mem_of_getElem? (i := 119) rfl)) rfl
theorem q_958 : u_lay RX8 TX8 5 ∈ TBL := tb_z (tz_5 (List.mem_of_getElem? (i := 121) rfl)) rfl
theorem q_959 : u_lay RX8 TX8 6 ∈ TBL := tb_z (tz_5 (List.mem_of_getElem? (i := 123) rfl)) rfl
theorem q_960 : u_lay RX8 TX8 7 ∈ TBL := tb_z (tz_5 (List.mem_of_getElem? (i := 125) rfl)) rfl
theorem q_961 : u_lay RX8 TX8 8 ∈ TBL := tb_z (tz_5 (List.mem_of_getElem? (i := 127) rfl)) rfl
theorem q_962 : u_lay RX8 TX8 9 ∈ TBL := tb_z (tz_5 (List.mem_of_getElem? (i := 129) rfl)) rfl
theorem q_963 : u_lay RX8 TX8 10 ∈ TBL := tb_z (tz_5 (List.mem_of_getElem? (i := 131) rfl)) rfl
theorem q_964 : u_lay RX8 TX8 11 ∈ TBL := tb_z (tz_5 (List.mem_of_getElem? (i := 133) rfl)) rfl
theorem q_965 : u_lay RX8 TX8 12 ∈ TBL := tb_z (tz_5 (List.mem_of_getElem? (i := 135) rfl)) rfl
theorem q_966 : u_lay RX8 TX8 13 ∈ TBL := tb_z (tz_5 (List.mem_of_getElem? (i := 137) rfl)) rfl
theorem q_967 : u_lay RX8 TX8 14 ∈ TBL := tb_z (tz_5 (List.mem_of_getElem? (i := 139) rfl)) rfl
theorem q_968 : u_lay RX8 TX8 15 ∈ TBL := tb_z (tz_5 (List.mem_of_getElem? (i := 141) rfl)) rfl
theorem q_969 : u_lay RX8 TX8 16 ∈ TBL := tb_z (tz_5 (List.mem_of_getElem? (i := 143) rfl)) rfl
theorem q_970 : u_lay RX8 TX8 17 ∈ TBL := tb_z (tz_5 (List.mem_of_getElem? (i := 145) rfl)) rfl
theorem q_971 : u_lay RX8 TX8 18 ∈ TBL := tb_z (tz_5 (List.mem_of_getElem? (i := 147) rfl)) rfl
theorem q_972 : u_lay RX8 TX8 19 ∈ TBL := tb_z (tz_5 (List.mem_of_getElem? (i := 149) rfl)) rfl
theorem q_973 : u_lay RX8 TX8 20 ∈ TBL := tb_z (tz_5 (List.mem_of_getElem? (i := 151) rfl)) rfl
theorem q_974 : u_lay RX8 TX8 21 ∈ TBL := tb_z (tz_5 (List.mem_of_getElem? (i := 153) rfl)) rfl
theorem q_975 : u_lay RX8 TX8 22 ∈ TBL := tb_z (tz_5 (List.mem_of_getElem? (i := 155) rfl)) rfl
theorem q_976 : u_lay RX8 TX8 23 ∈ TBL := tb_z (tz_5 (List.mem_of_getElem? (i := 157) rfl)) rfl
theorem q_977 : u_lay RX8 TX8 24 ∈ TBL := tb_z (tz_5 (List.mem_of_getElem? (i := 159) rfl)) rfl
