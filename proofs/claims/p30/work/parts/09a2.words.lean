/-! words of the tables -/
theorem q_500 : Cond.code yX1_join cX1_join 6 (some .int) ∈ TBL := tb_z (tz_3 (List.mem_of_getElem? (i := 97) rfl)) rfl
theorem q_501 : Cond.initialized yX1_join.cls ∈ TBL := tb_z (tz_1 (List.mem_of_getElem? (i := 8) rfl)) rfl
theorem q_502 : Cond.instanceMethod yX1_join ∈ TBL := tb_z (tz_3 (List.mem_of_getElem? (i := 96) rfl)) rfl
theorem q_503 : Cond.selects yX1_join.cls yX1_join yX1_join ∈ TBL := tb_s 14 rfl rfl
theorem q_504 : Cond.methodLink RX6 110 yX1_pourInto ∈ TBL := tb_z (tz_3 (List.mem_of_getElem? (i := 80) rfl)) rfl
theorem q_505 : Cond.code yX1_pourInto cX1_pourInto 10 (some .int) ∈ TBL := tb_z (tz_3 (List.mem_of_getElem? (i := 83) rfl)) rfl
theorem q_506 : Cond.initialized yX1_pourInto.cls ∈ TBL := tb_z (tz_1 (List.mem_of_getElem? (i := 8) rfl)) rfl
theorem q_507 : Cond.instanceMethod yX1_pourInto ∈ TBL := tb_z (tz_3 (List.mem_of_getElem? (i := 81) rfl)) rfl
theorem q_508 : Cond.selects yX1_pourInto.cls yX1_pourInto yX1_pourInto ∈ TBL := tb_z (tz_3 (List.mem_of_getElem? (i := 82) rfl)) rfl
theorem q_509 : Cond.methodLink RX7 131 yX6_pourAt ∈ TBL := tb_z (tz_3 (List.mem_of_getElem? (i := 184) rfl)) rfl
theorem q_510 : Cond.code yX6_pourAt cX6_pourAt 5 (some .int) ∈ TBL := tb_z (tz_3 (List.mem_of_getElem? (i := 79) rfl)) rfl
theorem q_511 : Cond.initialized yX6_pourAt.cls ∈ TBL := tb_z (tz_1 (List.mem_of_getElem? (i := 2) rfl)) rfl
theorem q_512 : Cond.instanceMethod yX6_pourAt ∈ TBL := tb_z (tz_3 (List.mem_of_getElem? (i := 77) rfl)) rfl
theorem q_513 : Cond.selects yX6_pourAt.cls yX6_pourAt yX6_pourAt ∈ TBL := tb_z (tz_3 (List.mem_of_getElem? (i := 78) rfl)) rfl
theorem q_514 : Cond.constantLong RX0 78 (1103515245 : Int64) ∈ TBL := tb_z (tz_4 (List.mem_of_getElem? (i := 156) rfl)) rfl
theorem q_515 : Cond.constantLong RX0 80 (12345 : Int64) ∈ TBL := tb_z (tz_4 (List.mem_of_getElem? (i := 157) rfl)) rfl
theorem q_516 : Cond.constantLong RX0 82 (2147483648 : Int64) ∈ TBL := tb_z (tz_4 (List.mem_of_getElem? (i := 158) rfl)) rfl
theorem q_517 : Cond.constantLong RX0 84 (65536 : Int64) ∈ TBL := tb_z (tz_4 (List.mem_of_getElem? (i := 159) rfl)) rfl
theorem q_518 : Cond.fieldLink RX1 48 (TX1 9).1 (TX1 9).2.1 (TX1 9).2.2.1 ∈ TBL := tb_z (tz_1 (List.mem_of_getElem? (i := 167) rfl)) rfl
theorem q_519 : Cond.fieldLink RX1 51 (TX1 10).1 (TX1 10).2.1 (TX1 10).2.2.1 ∈ TBL := tb_z (tz_1 (List.mem_of_getElem? (i := 168) rfl)) rfl
theorem q_520 : Cond.methodLink RX1 149 yX1_partLake ∈ TBL := tb_z (tz_3 (List.mem_of_getElem? (i := 203) rfl)) rfl
theorem q_521 : Cond.code yX1_partLake cX1_partLake 4 none ∈ TBL := tb_z (tz_3 (List.mem_of_getElem? (i := 206) rfl)) rfl
theorem q_522 : Cond.initialized yX1_partLake.cls ∈ TBL := tb_z (tz_1 (List.mem_of_getElem? (i := 8) rfl)) rfl
theorem q_523 : Cond.instanceMethod yX1_partLake ∈ TBL := tb_z (tz_3 (List.mem_of_getElem? (i := 205) rfl)) rfl
theorem q_524 : Cond.selects yX1_partLake.cls yX1_partLake yX1_partLake ∈ TBL := tb_s 21 rfl rfl
theorem q_525 : Cond.methodLink RX6 77 yX1_total ∈ TBL := tb_z (tz_3 (List.mem_of_getElem? (i := 52) rfl)) rfl
theorem q_526 : Cond.fieldLink RX6 81 (TX6 8).1 (TX6 8).2.1 (TX6 8).2.2.1 ∈ TBL := tb_z (tz_1 (List.mem_of_getElem? (i := 208) rfl)) rfl
theorem q_527 : Cond.methodLink RX6 85 yX1_placeOf ∈ TBL := tb_z (tz_3 (List.mem_of_getElem? (i := 61) rfl)) rfl
theorem q_528 : Cond.fieldLink RX6 37 (TX6 6).1 (TX6 6).2.1 (TX6 6).2.2.1 ∈ TBL := tb_z (tz_1 (List.mem_of_getElem? (i := 206) rfl)) rfl
theorem q_529 : Cond.methodLink RX6 89 yX1_lowestPlace ∈ TBL := tb_z (tz_3 (List.mem_of_getElem? (i := 65) rfl)) rfl
theorem q_530 : Cond.methodLink RX6 93 yX3_put ∈ TBL := tb_z (tz_3 (List.mem_of_getElem? (i := 69) rfl)) rfl
theorem q_531 : Cond.fieldLink RX6 41 (TX6 7).1 (TX6 7).2.1 (TX6 7).2.2.1 ∈ TBL := tb_z (tz_1 (List.mem_of_getElem? (i := 207) rfl)) rfl
theorem q_532 : Cond.fieldLinkNest RX6 97 (TX1 1).1 (TX1 1).2.1 (TX1 1).2.2.1 "LakeLevels" ∈ NST := tb_n (tz_1 (List.mem_of_getElem? (i := 152) rfl)) rfl
theorem q_533 : Cond.methodLink RX6 103 yX6_pourAt ∈ TBL := tb_z (tz_3 (List.mem_of_getElem? (i := 76) rfl)) rfl
theorem q_534 : Cond.methodLink RX6 124 yJ13_bitCount_95d88 ∈ TBL := tb_z (tz_3 (List.mem_of_getElem? (i := 197) rfl)) rfl
theorem q_535 : Cond.methodLink RX6 130 Lib.Math.min.name ∈ TBL := tb_z (tz_3 (List.mem_of_getElem? (i := 198) rfl)) rfl
theorem q_536 : Cond.methodLink RX6 135 yX1_draw ∈ TBL := tb_z (tz_3 (List.mem_of_getElem? (i := 199) rfl)) rfl
theorem q_537 : Cond.code yX1_draw cX1_draw 9 none ∈ TBL := tb_z (tz_3 (List.mem_of_getElem? (i := 202) rfl)) rfl
theorem q_538 : Cond.initialized yX1_draw.cls ∈ TBL := tb_z (tz_1 (List.mem_of_getElem? (i := 8) rfl)) rfl
theorem q_539 : Cond.instanceMethod yX1_draw ∈ TBL := tb_z (tz_3 (List.mem_of_getElem? (i := 200) rfl)) rfl
theorem q_540 : Cond.selects yX1_draw.cls yX1_draw yX1_draw ∈ TBL := tb_z (tz_3 (List.mem_of_getElem? (i := 201) rfl)) rfl
theorem q_541 : Cond.methodLink RX6 117 yX6_dryOnce ∈ TBL := tb_z (tz_3 (List.mem_of_getElem? (i := 193) rfl)) rfl
theorem q_542 : Cond.code yX6_dryOnce cX6_dryOnce 5 (some .int) ∈ TBL := tb_z (tz_3 (List.mem_of_getElem? (i := 196) rfl)) rfl
theorem q_543 : Cond.initialized yX6_dryOnce.cls ∈ TBL := tb_z (tz_1 (List.mem_of_getElem? (i := 2) rfl)) rfl
theorem q_544 : Cond.instanceMethod yX6_dryOnce ∈ TBL := tb_z (tz_3 (List.mem_of_getElem? (i := 195) rfl)) rfl
theorem q_545 : Cond.selects yX6_dryOnce.cls yX6_dryOnce yX6_dryOnce ∈ TBL := tb_s 20 rfl rfl
theorem q_546 : Cond.fieldLink RX7 19 (TX7 2).1 (TX7 2).2.1 (TX7 2).2.2.1 ∈ TBL := tb_z (tz_2 (List.mem_of_getElem? (i := 137) rfl)) rfl
theorem q_547 : u_lay RX0 TX0 0 ∈ TBL := tb_z (tz_1 (List.mem_of_getElem? (i := 82) rfl)) rfl
theorem q_548 : u_lay RX0 TX0 1 ∈ TBL := tb_z (tz_1 (List.mem_of_getElem? (i := 84) rfl)) rfl
theorem q_549 : u_lay RX0 TX0 2 ∈ TBL := tb_z (tz_1 (List.mem_of_getElem? (i := 86) rfl)) rfl
theorem q_550 : u_lay RX0 TX0 3 ∈ TBL := tb_z (tz_1 (List.mem_of_getElem? (i := 88) rfl)) rfl
theorem q_551 : u_lay RX0 TX0 4 ∈ TBL := tb_z (tz_1 (List.mem_of_getElem? (i := 90) rfl)) rfl
theorem q_552 : u_lay RX0 TX0 5 ∈ TBL := tb_z (tz_1 (List.mem_of_getElem? (i := 92) rfl)) rfl
theorem q_553 : u_lay RX0 TX0 6 ∈ TBL := tb_z (tz_1 (List.mem_of_getElem? (i := 94) rfl)) rfl
theorem q_554 : u_lay RX0 TX0 7 ∈ TBL := tb_z (tz_1 (List.mem_of_getElem? (i := 96) rfl)) rfl
theorem q_555 : u_lay RX0 TX0 8 ∈ TBL := tb_z (tz_1 (List.mem_of_getElem? (i := 98) rfl)) rfl
theorem q_556 : u_lay RX1 TX1 0 ∈ TBL := tb_z (tz_1 (List.mem_of_getElem? (i := 169) rfl)) rfl
theorem q_557 : u_lay RX1 TX1 1 ∈ TBL := tb_z (tz_1 (List.mem_of_getElem? (i := 171) rfl)) rfl
theorem q_558 : u_lay RX1 TX1 2 ∈ TBL := tb_z (tz_1 (List.mem_of_getElem? (i := 173) rfl)) rfl
theorem q_559 : u_lay RX1 TX1 3 ∈ TBL := tb_z (tz_1 (List.mem_of_getElem? (i := 175) rfl)) rfl
theorem q_560 : u_lay RX1 TX1 4 ∈ TBL := tb_z (tz_1 (List.mem_of_getElem? (i := 177) rfl)) rfl
theorem q_561 : u_lay RX1 TX1 5 ∈ TBL := tb_z (tz_1 (List.mem_of_getElem? (i := 179) rfl)) rfl
theorem q_562 : u_lay RX1 TX1 6 ∈ TBL := tb_z (tz_1 (List.mem_of_getElem? (i := 181) rfl)) rfl
theorem q_563 : u_lay RX1 TX1 7 ∈ TBL := tb_z (tz_1 (List.mem_of_getElem? (i := 183) rfl)) rfl
theorem q_564 : u_lay RX1 TX1 8 ∈ TBL := tb_z (tz_1 (List.mem_of_getElem? (i := 185) rfl)) rfl
theorem q_565 : u_lay RX1 TX1 9 ∈ TBL := tb_z (tz_1 (List.mem_of_getElem? (i := 187) rfl)) rfl
theorem q_566 : u_lay RX1 TX1 10 ∈ TBL := tb_z (tz_1 (List.mem_of_getElem? (i := 189) rfl)) rfl
theorem q_567 : u_lay RX2 TX2 0 ∈ TBL := tb_z (tz_2 (List.mem_of_getElem? (i := 2) rfl)) rfl
theorem q_568 : u_lay RX2 TX2 1 ∈ TBL := tb_z (tz_2 (List.mem_of_getElem? (i := 4) rfl)) rfl
theorem q_569 : u_lay RX2 TX2 2 ∈ TBL := tb_z (tz_2 (List.mem_of_getElem? (i := 6) rfl)) rfl
theorem q_570 : u_lay RX2 TX2 3 ∈ TBL := tb_z (tz_2 (List.mem_of_getElem? (i := 8) rfl)) rfl
theorem q_571 : u_lay RX3 TX3 0 ∈ TBL := tb_z (tz_1 (List.mem_of_getElem? (i := 49) rfl)) rfl
theorem q_572 : u_lay RX4 TX4 0 ∈ TBL := tb_z (tz_1 (List.mem_of_getElem? (i := 115) rfl)) rfl
theorem q_573 : u_lay RX5 TX5 0 ∈ TBL := tb_z (tz_1 (List.mem_of_getElem? (i := 130) rfl)) rfl
theorem q_574 : u_lay RX5 TX5 1 ∈ TBL := tb_z (tz_1 (List.mem_of_getElem? (i := 132) rfl)) rfl
theorem q_575 : u_lay RX5 TX5 2 ∈ TBL := tb_z (tz_1 (List.mem_of_getElem? (i := 134) rfl)) rfl
theorem q_576 : u_lay RX5 TX5 3 ∈ TBL := tb_z (tz_1 (List.mem_of_getElem? (i := 136) rfl)) rfl
theorem q_577 : u_lay RX6 TX6 0 ∈ TBL := tb_z (tz_1 (List.mem_of_getElem? (i := 209) rfl)) rfl
theorem q_578 : u_lay RX6 TX6 1 ∈ TBL := tb_z (tz_1 (List.mem_of_getElem? (i := 211) rfl)) rfl
theorem q_579 : u_lay RX6 TX6 2 ∈ TBL := tb_z (tz_1 (List.mem_of_getElem? (i := 213) rfl)) rfl
theorem q_580 : u_lay RX6 TX6 3 ∈ TBL := tb_z (tz_1 (List.mem_of_getElem? (i := 215) rfl)) rfl
theorem q_581 : u_lay RX6 TX6 4 ∈ TBL := tb_z (tz_1 (List.mem_of_getElem? (i := 217) rfl)) rfl
theorem q_582 : u_lay RX6 TX6 5 ∈ TBL := tb_z (tz_1 (List.mem_of_getElem? (i := 219) rfl)) rfl
theorem q_583 : u_lay RX6 TX6 6 ∈ TBL := tb_z (tz_1 (List.mem_of_getElem? (i := 221) rfl)) rfl
theorem q_584 : u_lay RX6 TX6 7 ∈ TBL := tb_z (tz_1 (List.mem_of_getElem? (i := 223) rfl)) rfl
theorem q_585 : u_lay RX6 TX6 8 ∈ TBL := tb_z (tz_1 (List.mem_of_getElem? (i := 225) rfl)) rfl
theorem q_586 : u_lay RX7 TX7 0 ∈ TBL := tb_z (tz_2 (List.mem_of_getElem? (i := 141) rfl)) rfl
theorem q_587 : u_lay RX7 TX7 1 ∈ TBL := tb_z (tz_2 (List.mem_of_getElem? (i := 143) rfl)) rfl
theorem q_588 : u_lay RX7 TX7 2 ∈ TBL := tb_z (tz_2 (List.mem_of_getElem? (i := 145) rfl)) rfl
theorem q_589 : u_lay RX7 TX7 3 ∈ TBL := tb_z (tz_2 (List.mem_of_getElem? (i := 147) rfl)) rfl
theorem q_590 : u_lay RX7 TX7 4 ∈ TBL := tb_z (tz_2 (List.mem_of_getElem? (i := 149) rfl)) rfl
theorem q_591 : u_lay RX7 TX7 5 ∈ TBL := tb_z (tz_2 (List.mem_of_getElem? (i := 151) rfl)) rfl
