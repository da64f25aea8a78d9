/-! words of the tables -/
theorem q_500 : Cond.code yX7_cellValue cX7_cellValue 3 (some .int) ∈ TBL := tb_z (tz_3 (List.mem_of_getElem? (i := 129) rfl)) rfl
theorem q_501 : Cond.initialized yX7_cellValue.cls ∈ TBL := tb_z (tz_1 (List.mem_of_getElem? (i := 1) rfl)) rfl
theorem q_502 : Cond.instanceMethod yX7_cellValue ∈ TBL := tb_z (tz_3 (List.mem_of_getElem? (i := 128) rfl)) rfl
theorem q_503 : Cond.selects yX7_cellValue.cls yX7_cellValue yX7_cellValue ∈ TBL := tb_s 26 rfl rfl
theorem q_504 : Cond.methodLink RX7 235 yX1_placeOf ∈ TBL := tb_z (tz_3 (List.mem_of_getElem? (i := 139) rfl)) rfl
theorem q_505 : Cond.code yX1_placeOf cX1_placeOf 4 (some .int) ∈ TBL := tb_z (tz_3 (List.mem_of_getElem? (i := 142) rfl)) rfl
theorem q_506 : Cond.initialized yX1_placeOf.cls ∈ TBL := tb_z (tz_1 (List.mem_of_getElem? (i := 8) rfl)) rfl
theorem q_507 : Cond.instanceMethod yX1_placeOf ∈ TBL := tb_z (tz_3 (List.mem_of_getElem? (i := 140) rfl)) rfl
theorem q_508 : Cond.selects yX1_placeOf.cls yX1_placeOf yX1_placeOf ∈ TBL := tb_z (tz_3 (List.mem_of_getElem? (i := 141) rfl)) rfl
theorem q_509 : Cond.methodLink RX7 238 yX7_mixLake ∈ TBL := tb_z (tz_3 (List.mem_of_getElem? (i := 143) rfl)) rfl
theorem q_510 : Cond.code yX7_mixLake cX7_mixLake 7 (some .long) ∈ TBL := tb_z (tz_3 (List.mem_of_getElem? (i := 146) rfl)) rfl
theorem q_511 : Cond.initialized yX7_mixLake.cls ∈ TBL := tb_z (tz_1 (List.mem_of_getElem? (i := 1) rfl)) rfl
theorem q_512 : Cond.instanceMethod yX7_mixLake ∈ TBL := tb_z (tz_3 (List.mem_of_getElem? (i := 145) rfl)) rfl
theorem q_513 : Cond.selects yX7_mixLake.cls yX7_mixLake yX7_mixLake ∈ TBL := tb_s 27 rfl rfl
theorem q_514 : Cond.methodLink RX7 162 yX7_balanceValue ∈ TBL := tb_z (tz_3 (List.mem_of_getElem? (i := 161) rfl)) rfl
theorem q_515 : Cond.code yX7_balanceValue cX7_balanceValue 2 (some .long) ∈ TBL := tb_z (tz_3 (List.mem_of_getElem? (i := 164) rfl)) rfl
theorem q_516 : Cond.initialized yX7_balanceValue.cls ∈ TBL := tb_z (tz_1 (List.mem_of_getElem? (i := 1) rfl)) rfl
theorem q_517 : Cond.instanceMethod yX7_balanceValue ∈ TBL := tb_z (tz_3 (List.mem_of_getElem? (i := 163) rfl)) rfl
theorem q_518 : Cond.selects yX7_balanceValue.cls yX7_balanceValue yX7_balanceValue ∈ TBL := tb_s 30 rfl rfl
theorem q_519 : Cond.methodLink RX7 131 yX6_pourAt ∈ TBL := tb_z (tz_4 (List.mem_of_getElem? (i := 139) rfl)) rfl
theorem q_520 : Cond.fieldLink RX8 54 (TX8 4).1 (TX8 4).2.1 (TX8 4).2.2.1 ∈ TBL := tb_z (tz_5 (List.mem_of_getElem? (i := 90) rfl)) rfl
theorem q_521 : Cond.fieldLink RX8 58 (TX8 3).1 (TX8 3).2.1 (TX8 3).2.2.1 ∈ TBL := tb_z (tz_5 (List.mem_of_getElem? (i := 89) rfl)) rfl
theorem q_522 : Cond.fieldLink RX8 13 (TX8 1).1 (TX8 1).2.1 (TX8 1).2.2.1 ∈ TBL := tb_z (tz_5 (List.mem_of_getElem? (i := 87) rfl)) rfl
theorem q_523 : Cond.fieldLink RX8 7 (TX8 0).1 (TX8 0).2.1 (TX8 0).2.2.1 ∈ TBL := tb_z (tz_5 (List.mem_of_getElem? (i := 86) rfl)) rfl
theorem q_524 : Cond.fieldLink RX8 16 (TX8 2).1 (TX8 2).2.1 (TX8 2).2.2.1 ∈ TBL := tb_z (tz_5 (List.mem_of_getElem? (i := 88) rfl)) rfl
theorem q_525 : Cond.methodLink RX8 61 yX8_many ∈ TBL := tb_z (tz_5 (List.mem_of_getElem? (i := 44) rfl)) rfl
theorem q_526 : Cond.code yX8_many cX8_many 1 (some .int) ∈ TBL := tb_z (tz_5 (List.mem_of_getElem? (i := 47) rfl)) rfl
theorem q_527 : Cond.initialized yX8_many.cls ∈ TBL := tb_z (tz_1 (List.mem_of_getElem? (i := 13) rfl)) rfl
theorem q_528 : Cond.instanceMethod yX8_many ∈ TBL := tb_z (tz_5 (List.mem_of_getElem? (i := 46) rfl)) rfl
theorem q_529 : Cond.selects yX8_many.cls yX8_many yX8_many ∈ TBL := tb_s 41 rfl rfl
theorem q_530 : Cond.methodLink RX8 65 yX8_in ∈ TBL := tb_z (tz_5 (List.mem_of_getElem? (i := 171) rfl)) rfl
theorem q_531 : Cond.code yX8_in cX8_in 6 (some .boolean) ∈ TBL := tb_z (tz_5 (List.mem_of_getElem? (i := 173) rfl)) rfl
theorem q_532 : Cond.initialized yX8_in.cls ∈ TBL := tb_z (tz_1 (List.mem_of_getElem? (i := 13) rfl)) rfl
theorem q_533 : Cond.static yX8_in ∈ TBL := tb_z (tz_5 (List.mem_of_getElem? (i := 172) rfl)) rfl
theorem q_534 : Cond.methodLink RX8 69 yX8_neighbor ∈ TBL := tb_z (tz_5 (List.mem_of_getElem? (i := 59) rfl)) rfl
theorem q_535 : Cond.code yX8_neighbor cX8_neighbor 4 (some .int) ∈ TBL := tb_z (tz_5 (List.mem_of_getElem? (i := 62) rfl)) rfl
theorem q_536 : Cond.initialized yX8_neighbor.cls ∈ TBL := tb_z (tz_1 (List.mem_of_getElem? (i := 13) rfl)) rfl
theorem q_537 : Cond.instanceMethod yX8_neighbor ∈ TBL := tb_z (tz_5 (List.mem_of_getElem? (i := 61) rfl)) rfl
theorem q_538 : Cond.selects yX8_neighbor.cls yX8_neighbor yX8_neighbor ∈ TBL := tb_s 44 rfl rfl
theorem q_539 : Cond.methodLink RX8 73 yX8_isCell ∈ TBL := tb_z (tz_5 (List.mem_of_getElem? (i := 186) rfl)) rfl
theorem q_540 : Cond.code yX8_isCell cX8_isCell 2 (some .boolean) ∈ TBL := tb_z (tz_5 (List.mem_of_getElem? (i := 189) rfl)) rfl
theorem q_541 : Cond.initialized yX8_isCell.cls ∈ TBL := tb_z (tz_1 (List.mem_of_getElem? (i := 13) rfl)) rfl
theorem q_542 : Cond.instanceMethod yX8_isCell ∈ TBL := tb_z (tz_5 (List.mem_of_getElem? (i := 188) rfl)) rfl
theorem q_543 : Cond.selects yX8_isCell.cls yX8_isCell yX8_isCell ∈ TBL := tb_s 52 rfl rfl
theorem q_544 : Cond.methodLink RX8 77 yX8_areNeighbors ∈ TBL := tb_z (tz_5 (List.mem_of_getElem? (i := 239) rfl)) rfl
theorem q_545 : Cond.code yX8_areNeighbors cX8_areNeighbors 5 (some .boolean) ∈ TBL := tb_z (tz_6 (List.mem_of_getElem? (i := 2) rfl)) rfl
theorem q_546 : Cond.initialized yX8_areNeighbors.cls ∈ TBL := tb_z (tz_1 (List.mem_of_getElem? (i := 13) rfl)) rfl
theorem q_547 : Cond.instanceMethod yX8_areNeighbors ∈ TBL := tb_z (tz_6 (List.mem_of_getElem? (i := 1) rfl)) rfl
theorem q_548 : Cond.selects yX8_areNeighbors.cls yX8_areNeighbors yX8_areNeighbors ∈ TBL := tb_s 63 rfl rfl
theorem q_549 : Cond.methodLink RX8 81 yX8_gateAt ∈ TBL := tb_z (tz_5 (List.mem_of_getElem? (i := 75) rfl)) rfl
theorem q_550 : Cond.code yX8_gateAt cX8_gateAt 5 (some .int) ∈ TBL := tb_z (tz_5 (List.mem_of_getElem? (i := 78) rfl)) rfl
theorem q_551 : Cond.initialized yX8_gateAt.cls ∈ TBL := tb_z (tz_1 (List.mem_of_getElem? (i := 13) rfl)) rfl
theorem q_552 : Cond.instanceMethod yX8_gateAt ∈ TBL := tb_z (tz_5 (List.mem_of_getElem? (i := 77) rfl)) rfl
theorem q_553 : Cond.selects yX8_gateAt.cls yX8_gateAt yX8_gateAt ∈ TBL := tb_s 48 rfl rfl
theorem q_554 : Cond.methodLink RX8 84 yX8_threshold ∈ TBL := tb_z (tz_5 (List.mem_of_getElem? (i := 71) rfl)) rfl
theorem q_555 : Cond.code yX8_threshold cX8_threshold 7 (some .int) ∈ TBL := tb_z (tz_5 (List.mem_of_getElem? (i := 74) rfl)) rfl
theorem q_556 : Cond.initialized yX8_threshold.cls ∈ TBL := tb_z (tz_1 (List.mem_of_getElem? (i := 13) rfl)) rfl
theorem q_557 : Cond.instanceMethod yX8_threshold ∈ TBL := tb_z (tz_5 (List.mem_of_getElem? (i := 73) rfl)) rfl
theorem q_558 : Cond.selects yX8_threshold.cls yX8_threshold yX8_threshold ∈ TBL := tb_s 47 rfl rfl
theorem q_559 : Cond.methodLink RX8 87 yX8_height ∈ TBL := tb_z (tz_5 (List.mem_of_getElem? (i := 63) rfl)) rfl
theorem q_560 : Cond.code yX8_height cX8_height 2 (some .int) ∈ TBL := tb_z (tz_5 (List.mem_of_getElem? (i := 66) rfl)) rfl
theorem q_561 : Cond.initialized yX8_height.cls ∈ TBL := tb_z (tz_1 (List.mem_of_getElem? (i := 13) rfl)) rfl
theorem q_562 : Cond.instanceMethod yX8_height ∈ TBL := tb_z (tz_5 (List.mem_of_getElem? (i := 65) rfl)) rfl
theorem q_563 : Cond.selects yX8_height.cls yX8_height yX8_height ∈ TBL := tb_s 45 rfl rfl
theorem q_564 : Cond.methodLink RX8 91 yX8_has ∈ TBL := tb_z (tz_5 (List.mem_of_getElem? (i := 56) rfl)) rfl
theorem q_565 : Cond.code yX8_has cX8_has 3 (some .boolean) ∈ TBL := tb_z (tz_5 (List.mem_of_getElem? (i := 58) rfl)) rfl
theorem q_566 : Cond.initialized yX8_has.cls ∈ TBL := tb_z (tz_1 (List.mem_of_getElem? (i := 13) rfl)) rfl
theorem q_567 : Cond.static yX8_has ∈ TBL := tb_z (tz_5 (List.mem_of_getElem? (i := 57) rfl)) rfl
theorem q_568 : Cond.methodLink RX8 95 yX8_runs ∈ TBL := tb_z (tz_5 (List.mem_of_getElem? (i := 67) rfl)) rfl
theorem q_569 : Cond.code yX8_runs cX8_runs 3 (some .boolean) ∈ TBL := tb_z (tz_5 (List.mem_of_getElem? (i := 70) rfl)) rfl
theorem q_570 : Cond.initialized yX8_runs.cls ∈ TBL := tb_z (tz_1 (List.mem_of_getElem? (i := 13) rfl)) rfl
theorem q_571 : Cond.instanceMethod yX8_runs ∈ TBL := tb_z (tz_5 (List.mem_of_getElem? (i := 69) rfl)) rfl
theorem q_572 : Cond.selects yX8_runs.cls yX8_runs yX8_runs ∈ TBL := tb_s 46 rfl rfl
theorem q_573 : Cond.methodLink RX8 98 yX8_plain ∈ TBL := tb_z (tz_5 (List.mem_of_getElem? (i := 52) rfl)) rfl
theorem q_574 : Cond.code yX8_plain cX8_plain 8 (some .long) ∈ TBL := tb_z (tz_5 (List.mem_of_getElem? (i := 55) rfl)) rfl
theorem q_575 : Cond.initialized yX8_plain.cls ∈ TBL := tb_z (tz_1 (List.mem_of_getElem? (i := 13) rfl)) rfl
theorem q_576 : Cond.instanceMethod yX8_plain ∈ TBL := tb_z (tz_5 (List.mem_of_getElem? (i := 54) rfl)) rfl
theorem q_577 : Cond.selects yX8_plain.cls yX8_plain yX8_plain ∈ TBL := tb_s 43 rfl rfl
theorem q_578 : Cond.methodLink RX8 102 yX8_way ∈ TBL := tb_z (tz_5 (List.mem_of_getElem? (i := 79) rfl)) rfl
theorem q_579 : Cond.code yX8_way cX8_way 7 (some .int) ∈ TBL := tb_z (tz_5 (List.mem_of_getElem? (i := 82) rfl)) rfl
theorem q_580 : Cond.initialized yX8_way.cls ∈ TBL := tb_z (tz_1 (List.mem_of_getElem? (i := 13) rfl)) rfl
theorem q_581 : Cond.instanceMethod yX8_way ∈ TBL := tb_z (tz_5 (List.mem_of_getElem? (i := 81) rfl)) rfl
theorem q_582 : Cond.selects yX8_way.cls yX8_way yX8_way ∈ TBL := tb_s 49 rfl rfl
theorem q_583 : Cond.fieldLink RX8 19 (TX8 5).1 (TX8 5).2.1 (TX8 5).2.2.1 ∈ TBL := tb_z (tz_5 (List.mem_of_getElem? (i := 91) rfl)) rfl
theorem q_584 : Cond.methodLink RX8 106 yX8_endOf ∈ TBL := tb_z (tz_5 (List.mem_of_getElem? (i := 48) rfl)) rfl
theorem q_585 : Cond.code yX8_endOf cX8_endOf 5 (some .long) ∈ TBL := tb_z (tz_5 (List.mem_of_getElem? (i := 51) rfl)) rfl
theorem q_586 : Cond.initialized yX8_endOf.cls ∈ TBL := tb_z (tz_1 (List.mem_of_getElem? (i := 13) rfl)) rfl
theorem q_587 : Cond.instanceMethod yX8_endOf ∈ TBL := tb_z (tz_5 (List.mem_of_getElem? (i := 50) rfl)) rfl
theorem q_588 : Cond.selects yX8_endOf.cls yX8_endOf yX8_endOf ∈ TBL := tb_s 42 rfl rfl
theorem q_589 : Cond.constantLong RX8 109 (-1 : Int64) ∈ TBL := tb_z (tz_5 (List.mem_of_getElem? (i := 39) rfl)) rfl
theorem q_590 : Cond.methodLink RX8 111 yX8_lowest ∈ TBL := tb_z (tz_5 (List.mem_of_getElem? (i := 83) rfl)) rfl
theorem q_591 : Cond.code yX8_lowest cX8_lowest 3 (some .int) ∈ TBL := tb_z (tz_5 (List.mem_of_getElem? (i := 85) rfl)) rfl
theorem q_592 : Cond.initialized yX8_lowest.cls ∈ TBL := tb_z (tz_1 (List.mem_of_getElem? (i := 13) rfl)) rfl
theorem q_593 : Cond.static yX8_lowest ∈ TBL := tb_z (tz_5 (List.mem_of_getElem? (i := 84) rfl)) rfl
theorem q_594 : Cond.fieldLink RX8 114 (TX8 8).1 (TX8 8).2.1 (TX8 8).2.2.1 ∈ TBL := tb_z (tz_5 (List.mem_of_getElem? (i := 94) rfl)) rfl
theorem q_595 : Cond.fieldLink RX8 117 (TX8 6).1 (TX8 6).2.1 (TX8 6).2.2.1 ∈ TBL := tb_z (tz_5 (List.mem_of_getElem? (i := 92) rfl)) rfl
theorem q_596 : Cond.fieldLink RX8 120 (TX8 7).1 (TX8 7).2.1 (TX8 7).2.2.1 ∈ TBL := tb_z (tz_5 (List.mem_of_getElem? (i := 93) rfl)) rfl
theorem q_597 : Cond.methodLink RX8 123 yX8_findsPass ∈ TBL := tb_z (tz_5 (List.mem_of_getElem? (i := 215) rfl)) rfl
theorem q_598 : Cond.code yX8_findsPass cX8_findsPass 7 none ∈ TBL := tb_z (tz_5 (List.mem_of_getElem? (i := 218) rfl)) rfl
theorem q_599 : Cond.initialized yX8_findsPass.cls ∈ TBL := tb_z (tz_1 (List.mem_of_getElem? (i := 13) rfl)) rfl
theorem q_600 : Cond.instanceMethod yX8_findsPass ∈ TBL := tb_z (tz_5 (List.mem_of_getElem? (i := 217) rfl)) rfl
theorem q_601 : Cond.selects yX8_findsPass.cls yX8_findsPass yX8_findsPass ∈ TBL := tb_s 59 rfl rfl
theorem q_602 : Cond.methodLink RX8 127 yX8_capacity ∈ TBL := tb_z (tz_5 (List.mem_of_getElem? (i := 211) rfl)) rfl
theorem q_603 : Cond.code yX8_capacity cX8_capacity 5 (some .long) ∈ TBL := tb_z (tz_5 (List.mem_of_getElem? (i := 214) rfl)) rfl
theorem q_604 : Cond.initialized yX8_capacity.cls ∈ TBL := tb_z (tz_1 (List.mem_of_getElem? (i := 13) rfl)) rfl
theorem q_605 : Cond.instanceMethod yX8_capacity ∈ TBL := tb_z (tz_5 (List.mem_of_getElem? (i := 213) rfl)) rfl
theorem q_606 : Cond.selects yX8_capacity.cls yX8_capacity yX8_capacity ∈ TBL := tb_s 58 rfl rfl
theorem q_607 : Cond.methodLink RX8 130 yX8_isJoined ∈ TBL := tb_z (tz_6 (List.mem_of_getElem? (i := 89) rfl)) rfl
theorem q_608 : Cond.code yX8_isJoined cX8_isJoined 2 (some .boolean) ∈ TBL := tb_z (tz_6 (List.mem_of_getElem? (i := 92) rfl)) rfl
theorem q_609 : Cond.initialized yX8_isJoined.cls ∈ TBL := tb_z (tz_1 (List.mem_of_getElem? (i := 13) rfl)) rfl
theorem q_610 : Cond.instanceMethod yX8_isJoined ∈ TBL := tb_z (tz_6 (List.mem_of_getElem? (i := 91) rfl)) rfl
theorem q_611 : Cond.selects yX8_isJoined.cls yX8_isJoined yX8_isJoined ∈ TBL := tb_s 76 rfl rfl
theorem q_612 : Cond.methodLink RX8 133 yX8_lakeOf ∈ TBL := tb_z (tz_5 (List.mem_of_getElem? (i := 199) rfl)) rfl
theorem q_613 : Cond.code yX8_lakeOf cX8_lakeOf 4 (some .int) ∈ TBL := tb_z (tz_5 (List.mem_of_getElem? (i := 202) rfl)) rfl
theorem q_614 : Cond.initialized yX8_lakeOf.cls ∈ TBL := tb_z (tz_1 (List.mem_of_getElem? (i := 13) rfl)) rfl
theorem q_615 : Cond.instanceMethod yX8_lakeOf ∈ TBL := tb_z (tz_5 (List.mem_of_getElem? (i := 201) rfl)) rfl
theorem q_616 : Cond.selects yX8_lakeOf.cls yX8_lakeOf yX8_lakeOf ∈ TBL := tb_s 55 rfl rfl
theorem q_617 : Cond.methodLink RX8 136 yX8_isFull ∈ TBL := tb_z (tz_5 (List.mem_of_getElem? (i := 219) rfl)) rfl
theorem q_618 : Cond.code yX8_isFull cX8_isFull 2 (some .boolean) ∈ TBL := tb_z (tz_5 (List.mem_of_getElem? (i := 222) rfl)) rfl
theorem q_619 : Cond.initialized yX8_isFull.cls ∈ TBL := tb_z (tz_1 (List.mem_of_getElem? (i := 13) rfl)) rfl
theorem q_620 : Cond.instanceMethod yX8_isFull ∈ TBL := tb_z (tz_5 (List.mem_of_getElem? (i := 221) rfl)) rfl
theorem q_621 : Cond.selects yX8_isFull.cls yX8_isFull yX8_isFull ∈ TBL := tb_s 60 rfl rfl
theorem q_622 : Cond.methodLink RX8 139 yX8_join ∈ TBL := tb_z (tz_5 (List.mem_of_getElem? (i := 223) rfl)) rfl
theorem q_623 : Cond.code yX8_join cX8_join 4 (some .int) ∈ TBL := tb_z (tz_5 (List.mem_of_getElem? (i := 226) rfl)) rfl
theorem q_624 : Cond.initialized yX8_join.cls ∈ TBL := tb_z (tz_1 (List.mem_of_getElem? (i := 13) rfl)) rfl
theorem q_625 : Cond.instanceMethod yX8_join ∈ TBL := tb_z (tz_5 (List.mem_of_getElem? (i := 225) rfl)) rfl
theorem q_626 : Cond.selects yX8_join.cls yX8_join yX8_join ∈ TBL := tb_s 61 rfl rfl
theorem q_627 : Cond.fieldLink RX8 22 (TX8 9).1 (TX8 9).2.1 (TX8 9).2.2.1 ∈ TBL := tb_z (tz_5 (List.mem_of_getElem? (i := 95) rfl)) rfl
theorem q_628 : Cond.fieldLink RX8 26 (TX8 10).1 (TX8 10).2.1 (TX8 10).2.2.1 ∈ TBL := tb_z (tz_5 (List.mem_of_getElem? (i := 96) rfl)) rfl
theorem q_629 : Cond.methodLink RX8 142 yX8_leastVolume ∈ TBL := tb_z (tz_6 (List.mem_of_getElem? (i := 85) rfl)) rfl
theorem q_630 : Cond.code yX8_leastVolume cX8_leastVolume 2 (some .long) ∈ TBL := tb_z (tz_6 (List.mem_of_getElem? (i := 88) rfl)) rfl
theorem q_631 : Cond.initialized yX8_leastVolume.cls ∈ TBL := tb_z (tz_1 (List.mem_of_getElem? (i := 13) rfl)) rfl
theorem q_632 : Cond.instanceMethod yX8_leastVolume ∈ TBL := tb_z (tz_6 (List.mem_of_getElem? (i := 87) rfl)) rfl
theorem q_633 : Cond.selects yX8_leastVolume.cls yX8_leastVolume yX8_leastVolume ∈ TBL := tb_s 75 rfl rfl
theorem q_634 : Cond.methodLink RX8 145 yX8_parts ∈ TBL := tb_z (tz_6 (List.mem_of_getElem? (i := 93) rfl)) rfl
theorem q_635 : Cond.code yX8_parts cX8_parts 4 none ∈ TBL := tb_z (tz_6 (List.mem_of_getElem? (i := 96) rfl)) rfl
theorem q_636 : Cond.initialized yX8_parts.cls ∈ TBL := tb_z (tz_1 (List.mem_of_getElem? (i := 13) rfl)) rfl
theorem q_637 : Cond.instanceMethod yX8_parts ∈ TBL := tb_z (tz_6 (List.mem_of_getElem? (i := 95) rfl)) rfl
theorem q_638 : Cond.selects yX8_parts.cls yX8_parts yX8_parts ∈ TBL := tb_s 77 rfl rfl
theorem q_639 : Cond.fieldLink RX8 149 (TX8 12).1 (TX8 12).2.1 (TX8 12).2.2.1 ∈ TBL := tb_z (tz_5 (List.mem_of_getElem? (i := 98) rfl)) rfl
theorem q_640 : Cond.fieldLink RX8 29 (TX8 11).1 (TX8 11).2.1 (TX8 11).2.2.1 ∈ TBL := tb_z (tz_5 (List.mem_of_getElem? (i := 97) rfl)) rfl
theorem q_641 : Cond.methodLink RX8 152 yX8_orders ∈ TBL := tb_z (tz_5 (List.mem_of_getElem? (i := 195) rfl)) rfl
theorem q_642 : Cond.code yX8_orders cX8_orders 3 none ∈ TBL := tb_z (tz_5 (List.mem_of_getElem? (i := 198) rfl)) rfl
theorem q_643 : Cond.initialized yX8_orders.cls ∈ TBL := tb_z (tz_1 (List.mem_of_getElem? (i := 13) rfl)) rfl
theorem q_644 : Cond.instanceMethod yX8_orders ∈ TBL := tb_z (tz_5 (List.mem_of_getElem? (i := 197) rfl)) rfl
theorem q_645 : Cond.selects yX8_orders.cls yX8_orders yX8_orders ∈ TBL := tb_s 54 rfl rfl
theorem q_646 : Cond.fieldLink RX8 155 (TX8 14).1 (TX8 14).2.1 (TX8 14).2.2.1 ∈ TBL := tb_z (tz_5 (List.mem_of_getElem? (i := 100) rfl)) rfl
theorem q_647 : Cond.fieldLink RX8 159 (TX8 13).1 (TX8 13).2.1 (TX8 13).2.2.1 ∈ TBL := tb_z (tz_5 (List.mem_of_getElem? (i := 99) rfl)) rfl
theorem q_648 : Cond.methodLink RX8 162 yX8_levels ∈ TBL := tb_z (tz_6 (List.mem_of_getElem? (i := 29) rfl)) rfl
theorem q_649 : Cond.code yX8_levels cX8_levels 11 none ∈ TBL := tb_z (tz_6 (List.mem_of_getElem? (i := 32) rfl)) rfl
theorem q_650 : Cond.initialized yX8_levels.cls ∈ TBL := tb_z (tz_1 (List.mem_of_getElem? (i := 13) rfl)) rfl
theorem q_651 : Cond.instanceMethod yX8_levels ∈ TBL := tb_z (tz_6 (List.mem_of_getElem? (i := 31) rfl)) rfl
theorem q_652 : Cond.selects yX8_levels.cls yX8_levels yX8_levels ∈ TBL := tb_s 67 rfl rfl
theorem q_653 : Cond.methodLink RX8 165 yX8_isWet ∈ TBL := tb_z (tz_6 (List.mem_of_getElem? (i := 25) rfl)) rfl
theorem q_654 : Cond.code yX8_isWet cX8_isWet 3 (some .boolean) ∈ TBL := tb_z (tz_6 (List.mem_of_getElem? (i := 28) rfl)) rfl
theorem q_655 : Cond.initialized yX8_isWet.cls ∈ TBL := tb_z (tz_1 (List.mem_of_getElem? (i := 13) rfl)) rfl
theorem q_656 : Cond.instanceMethod yX8_isWet ∈ TBL := tb_z (tz_6 (List.mem_of_getElem? (i := 27) rfl)) rfl
theorem q_657 : Cond.selects yX8_isWet.cls yX8_isWet yX8_isWet ∈ TBL := tb_s 66 rfl rfl
theorem q_658 : Cond.methodLink RX8 168 yX8_wetOf ∈ TBL := tb_z (tz_6 (List.mem_of_getElem? (i := 49) rfl)) rfl
theorem q_659 : Cond.code yX8_wetOf cX8_wetOf 5 (some .int) ∈ TBL := tb_z (tz_6 (List.mem_of_getElem? (i := 52) rfl)) rfl
theorem q_660 : Cond.initialized yX8_wetOf.cls ∈ TBL := tb_z (tz_1 (List.mem_of_getElem? (i := 13) rfl)) rfl
theorem q_661 : Cond.instanceMethod yX8_wetOf ∈ TBL := tb_z (tz_6 (List.mem_of_getElem? (i := 51) rfl)) rfl
theorem q_662 : Cond.selects yX8_wetOf.cls yX8_wetOf yX8_wetOf ∈ TBL := tb_s 70 rfl rfl
theorem q_663 : Cond.fieldLink RX8 171 (TX8 17).1 (TX8 17).2.1 (TX8 17).2.2.1 ∈ TBL := tb_z (tz_5 (List.mem_of_getElem? (i := 103) rfl)) rfl
theorem q_664 : Cond.fieldLink RX8 32 (TX8 15).1 (TX8 15).2.1 (TX8 15).2.2.1 ∈ TBL := tb_z (tz_5 (List.mem_of_getElem? (i := 101) rfl)) rfl
theorem q_665 : Cond.fieldLink RX8 35 (TX8 16).1 (TX8 16).2.1 (TX8 16).2.2.1 ∈ TBL := tb_z (tz_5 (List.mem_of_getElem? (i := 102) rfl)) rfl
theorem q_666 : Cond.methodLink RX8 174 yX8_finds ∈ TBL := tb_z (tz_5 (List.mem_of_getElem? (i := 40) rfl)) rfl
theorem q_667 : Cond.code yX8_finds cX8_finds 5 none ∈ TBL := tb_z (tz_5 (List.mem_of_getElem? (i := 43) rfl)) rfl
theorem q_668 : Cond.initialized yX8_finds.cls ∈ TBL := tb_z (tz_1 (List.mem_of_getElem? (i := 13) rfl)) rfl
theorem q_669 : Cond.instanceMethod yX8_finds ∈ TBL := tb_z (tz_5 (List.mem_of_getElem? (i := 42) rfl)) rfl
theorem q_670 : Cond.selects yX8_finds.cls yX8_finds yX8_finds ∈ TBL := tb_s 40 rfl rfl
theorem q_671 : Cond.methodLink RX8 177 yX8_pours ∈ TBL := tb_z (tz_5 (List.mem_of_getElem? (i := 207) rfl)) rfl
theorem q_672 : Cond.code yX8_pours cX8_pours 15 none ∈ TBL := tb_z (tz_5 (List.mem_of_getElem? (i := 210) rfl)) rfl
theorem q_673 : Cond.initialized yX8_pours.cls ∈ TBL := tb_z (tz_1 (List.mem_of_getElem? (i := 13) rfl)) rfl
theorem q_674 : Cond.instanceMethod yX8_pours ∈ TBL := tb_z (tz_5 (List.mem_of_getElem? (i := 209) rfl)) rfl
theorem q_675 : Cond.selects yX8_pours.cls yX8_pours yX8_pours ∈ TBL := tb_s 57 rfl rfl
theorem q_676 : Cond.constantLong RX8 181 (6 : Int64) ∈ TBL := tb_z (tz_5 (List.mem_of_getElem? (i := 170) rfl)) rfl
theorem q_677 : Cond.methodLink RX8 183 yX8_goes ∈ TBL := tb_z (tz_5 (List.mem_of_getElem? (i := 174) rfl)) rfl
theorem q_678 : Cond.code yX8_goes cX8_goes 4 (some .boolean) ∈ TBL := tb_z (tz_5 (List.mem_of_getElem? (i := 177) rfl)) rfl
theorem q_679 : Cond.initialized yX8_goes.cls ∈ TBL := tb_z (tz_1 (List.mem_of_getElem? (i := 13) rfl)) rfl
theorem q_680 : Cond.instanceMethod yX8_goes ∈ TBL := tb_z (tz_5 (List.mem_of_getElem? (i := 176) rfl)) rfl
theorem q_681 : Cond.selects yX8_goes.cls yX8_goes yX8_goes ∈ TBL := tb_s 50 rfl rfl
theorem q_682 : Cond.methodLink RX8 187 yX8_save ∈ TBL := tb_z (tz_5 (List.mem_of_getElem? (i := 178) rfl)) rfl
theorem q_683 : Cond.code yX8_save cX8_save 2 none ∈ TBL := tb_z (tz_5 (List.mem_of_getElem? (i := 181) rfl)) rfl
theorem q_684 : Cond.initialized yX8_save.cls ∈ TBL := tb_z (tz_1 (List.mem_of_getElem? (i := 13) rfl)) rfl
theorem q_685 : Cond.instanceMethod yX8_save ∈ TBL := tb_z (tz_5 (List.mem_of_getElem? (i := 180) rfl)) rfl
theorem q_686 : Cond.selects yX8_save.cls yX8_save yX8_save ∈ TBL := tb_s 51 rfl rfl
theorem q_687 : Cond.methodLink RX8 50 yX8_begins ∈ TBL := tb_z (tz_5 (List.mem_of_getElem? (i := 35) rfl)) rfl
theorem q_688 : Cond.code yX8_begins cX8_begins 4 none ∈ TBL := tb_z (tz_5 (List.mem_of_getElem? (i := 38) rfl)) rfl
theorem q_689 : Cond.initialized yX8_begins.cls ∈ TBL := tb_z (tz_1 (List.mem_of_getElem? (i := 13) rfl)) rfl
theorem q_690 : Cond.instanceMethod yX8_begins ∈ TBL := tb_z (tz_5 (List.mem_of_getElem? (i := 37) rfl)) rfl
theorem q_691 : Cond.selects yX8_begins.cls yX8_begins yX8_begins ∈ TBL := tb_s 39 rfl rfl
theorem q_692 : Cond.constantLong RX8 190 (99 : Int64) ∈ TBL := tb_z (tz_5 (List.mem_of_getElem? (i := 190) rfl)) rfl
theorem q_693 : Cond.methodLink RX8 192 yX8_remembers ∈ TBL := tb_z (tz_5 (List.mem_of_getElem? (i := 191) rfl)) rfl
theorem q_694 : Cond.code yX8_remembers cX8_remembers 5 none ∈ TBL := tb_z (tz_5 (List.mem_of_getElem? (i := 194) rfl)) rfl
theorem q_695 : Cond.initialized yX8_remembers.cls ∈ TBL := tb_z (tz_1 (List.mem_of_getElem? (i := 13) rfl)) rfl
theorem q_696 : Cond.instanceMethod yX8_remembers ∈ TBL := tb_z (tz_5 (List.mem_of_getElem? (i := 193) rfl)) rfl
theorem q_697 : Cond.selects yX8_remembers.cls yX8_remembers yX8_remembers ∈ TBL := tb_s 53 rfl rfl
theorem q_698 : Cond.methodLink RX8 195 yX8_changes ∈ TBL := tb_z (tz_5 (List.mem_of_getElem? (i := 203) rfl)) rfl
theorem q_699 : Cond.code yX8_changes cX8_changes 2 none ∈ TBL := tb_z (tz_5 (List.mem_of_getElem? (i := 206) rfl)) rfl
theorem q_700 : Cond.initialized yX8_changes.cls ∈ TBL := tb_z (tz_1 (List.mem_of_getElem? (i := 13) rfl)) rfl
theorem q_701 : Cond.instanceMethod yX8_changes ∈ TBL := tb_z (tz_5 (List.mem_of_getElem? (i := 205) rfl)) rfl
theorem q_702 : Cond.selects yX8_changes.cls yX8_changes yX8_changes ∈ TBL := tb_s 56 rfl rfl
theorem q_703 : Cond.methodLink RX8 198 yX8_isPair ∈ TBL := tb_z (tz_5 (List.mem_of_getElem? (i := 235) rfl)) rfl
theorem q_704 : Cond.code yX8_isPair cX8_isPair 3 (some .boolean) ∈ TBL := tb_z (tz_5 (List.mem_of_getElem? (i := 238) rfl)) rfl
theorem q_705 : Cond.initialized yX8_isPair.cls ∈ TBL := tb_z (tz_1 (List.mem_of_getElem? (i := 13) rfl)) rfl
theorem q_706 : Cond.instanceMethod yX8_isPair ∈ TBL := tb_z (tz_5 (List.mem_of_getElem? (i := 237) rfl)) rfl
theorem q_707 : Cond.selects yX8_isPair.cls yX8_isPair yX8_isPair ∈ TBL := tb_s 62 rfl rfl
theorem q_708 : Cond.constantLong RX8 201 (999999 : Int64) ∈ TBL := tb_z (tz_6 (List.mem_of_getElem? (i := 7) rfl)) rfl
theorem q_709 : Cond.constantLong RX8 203 (1103515245 : Int64) ∈ TBL := tb_z (tz_6 (List.mem_of_getElem? (i := 8) rfl)) rfl
theorem q_710 : Cond.constantLong RX8 205 (12345 : Int64) ∈ TBL := tb_z (tz_6 (List.mem_of_getElem? (i := 9) rfl)) rfl
theorem q_711 : Cond.constantLong RX8 207 (2147483648 : Int64) ∈ TBL := tb_z (tz_6 (List.mem_of_getElem? (i := 10) rfl)) rfl
theorem q_712 : Cond.constantLong RX8 209 (65536 : Int64) ∈ TBL := tb_z (tz_6 (List.mem_of_getElem? (i := 11) rfl)) rfl
theorem q_713 : Cond.methodLink RX8 211 yX8_numberOf ∈ TBL := tb_z (tz_6 (List.mem_of_getElem? (i := 21) rfl)) rfl
theorem q_714 : Cond.code yX8_numberOf cX8_numberOf 3 (some .int) ∈ TBL := tb_z (tz_6 (List.mem_of_getElem? (i := 24) rfl)) rfl
theorem q_715 : Cond.initialized yX8_numberOf.cls ∈ TBL := tb_z (tz_1 (List.mem_of_getElem? (i := 13) rfl)) rfl
theorem q_716 : Cond.instanceMethod yX8_numberOf ∈ TBL := tb_z (tz_6 (List.mem_of_getElem? (i := 23) rfl)) rfl
theorem q_717 : Cond.selects yX8_numberOf.cls yX8_numberOf yX8_numberOf ∈ TBL := tb_s 65 rfl rfl
theorem q_718 : Cond.constantLong RX8 214 (5 : Int64) ∈ TBL := tb_z (tz_6 (List.mem_of_getElem? (i := 16) rfl)) rfl
theorem q_719 : Cond.methodLink RX8 216 yX8_cellValue ∈ TBL := tb_z (tz_6 (List.mem_of_getElem? (i := 17) rfl)) rfl
theorem q_720 : Cond.code yX8_cellValue cX8_cellValue 4 (some .int) ∈ TBL := tb_z (tz_6 (List.mem_of_getElem? (i := 20) rfl)) rfl
theorem q_721 : Cond.initialized yX8_cellValue.cls ∈ TBL := tb_z (tz_1 (List.mem_of_getElem? (i := 13) rfl)) rfl
theorem q_722 : Cond.instanceMethod yX8_cellValue ∈ TBL := tb_z (tz_6 (List.mem_of_getElem? (i := 19) rfl)) rfl
theorem q_723 : Cond.selects yX8_cellValue.cls yX8_cellValue yX8_cellValue ∈ TBL := tb_s 64 rfl rfl
theorem q_724 : Cond.methodLink RX8 222 yX8_seaCells ∈ TBL := tb_z (tz_6 (List.mem_of_getElem? (i := 53) rfl)) rfl
theorem q_725 : Cond.code yX8_seaCells cX8_seaCells 3 (some .int) ∈ TBL := tb_z (tz_6 (List.mem_of_getElem? (i := 56) rfl)) rfl
theorem q_726 : Cond.initialized yX8_seaCells.cls ∈ TBL := tb_z (tz_1 (List.mem_of_getElem? (i := 13) rfl)) rfl
theorem q_727 : Cond.instanceMethod yX8_seaCells ∈ TBL := tb_z (tz_6 (List.mem_of_getElem? (i := 55) rfl)) rfl
theorem q_728 : Cond.selects yX8_seaCells.cls yX8_seaCells yX8_seaCells ∈ TBL := tb_s 71 rfl rfl
theorem q_729 : Cond.methodLink RX8 219 yX8_wet ∈ TBL := tb_z (tz_6 (List.mem_of_getElem? (i := 45) rfl)) rfl
theorem q_730 : Cond.code yX8_wet cX8_wet 1 (some .int) ∈ TBL := tb_z (tz_6 (List.mem_of_getElem? (i := 48) rfl)) rfl
theorem q_731 : Cond.initialized yX8_wet.cls ∈ TBL := tb_z (tz_1 (List.mem_of_getElem? (i := 13) rfl)) rfl
theorem q_732 : Cond.instanceMethod yX8_wet ∈ TBL := tb_z (tz_6 (List.mem_of_getElem? (i := 47) rfl)) rfl
theorem q_733 : Cond.selects yX8_wet.cls yX8_wet yX8_wet ∈ TBL := tb_s 69 rfl rfl
theorem q_734 : Cond.methodLink RX8 225 yX8_countOf ∈ TBL := tb_z (tz_6 (List.mem_of_getElem? (i := 41) rfl)) rfl
theorem q_735 : Cond.code yX8_countOf cX8_countOf 4 (some .int) ∈ TBL := tb_z (tz_6 (List.mem_of_getElem? (i := 44) rfl)) rfl
theorem q_736 : Cond.initialized yX8_countOf.cls ∈ TBL := tb_z (tz_1 (List.mem_of_getElem? (i := 13) rfl)) rfl
theorem q_737 : Cond.instanceMethod yX8_countOf ∈ TBL := tb_z (tz_6 (List.mem_of_getElem? (i := 43) rfl)) rfl
theorem q_738 : Cond.selects yX8_countOf.cls yX8_countOf yX8_countOf ∈ TBL := tb_s 68 rfl rfl
theorem q_739 : Cond.constantLong RX8 228 (100000 : Int64) ∈ TBL := tb_z (tz_6 (List.mem_of_getElem? (i := 61) rfl)) rfl
theorem q_740 : Cond.methodLink RX8 230 yX8_water ∈ TBL := tb_z (tz_6 (List.mem_of_getElem? (i := 62) rfl)) rfl
theorem q_741 : Cond.code yX8_water cX8_water 4 (some .long) ∈ TBL := tb_z (tz_6 (List.mem_of_getElem? (i := 65) rfl)) rfl
theorem q_742 : Cond.initialized yX8_water.cls ∈ TBL := tb_z (tz_1 (List.mem_of_getElem? (i := 13) rfl)) rfl
theorem q_743 : Cond.instanceMethod yX8_water ∈ TBL := tb_z (tz_6 (List.mem_of_getElem? (i := 64) rfl)) rfl
theorem q_744 : Cond.selects yX8_water.cls yX8_water yX8_water ∈ TBL := tb_s 72 rfl rfl
theorem q_745 : Cond.constantLong RX8 234 (1000000 : Int64) ∈ TBL := tb_z (tz_6 (List.mem_of_getElem? (i := 66) rfl)) rfl
theorem q_746 : Cond.constantLong RX8 236 (1000 : Int64) ∈ TBL := tb_z (tz_6 (List.mem_of_getElem? (i := 71) rfl)) rfl
theorem q_747 : Cond.fieldLink RX8 38 (TX8 18).1 (TX8 18).2.1 (TX8 18).2.2.1 ∈ TBL := tb_z (tz_5 (List.mem_of_getElem? (i := 104) rfl)) rfl
theorem q_748 : Cond.fieldLink RX8 41 (TX8 19).1 (TX8 19).2.1 (TX8 19).2.2.1 ∈ TBL := tb_z (tz_5 (List.mem_of_getElem? (i := 105) rfl)) rfl
theorem q_749 : Cond.methodLink RX8 238 yX8_takes ∈ TBL := tb_z (tz_6 (List.mem_of_getElem? (i := 81) rfl)) rfl
