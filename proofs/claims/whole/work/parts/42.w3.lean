set_option maxRecDepth 100000 in
theorem wd_552 : Cond.selects RX5 yX5_holds yX5_holds ∈ lw_tbl := in_t3 160 rfl
set_option maxRecDepth 100000 in
theorem wd_553 : Cond.instanceMethod yX5_holds ∈ lw_tbl := in_t3 159 rfl
set_option maxRecDepth 100000 in
theorem wd_554 : Cond.methodLink RX8 208 yX5_holds ∈ lw_tbl := in_t3 158 rfl
set_option maxRecDepth 100000 in
theorem wd_555 : Cond.selects RX8 yX8_again yX8_again ∈ lw_tbl := in_t3 156 rfl
set_option maxRecDepth 100000 in
theorem wd_556 : Cond.instanceMethod yX8_again ∈ lw_tbl := in_t3 155 rfl
set_option maxRecDepth 100000 in
theorem wd_557 : Cond.methodLink RL 146 yX8_again ∈ lw_tbl := in_t3 154 rfl
set_option maxRecDepth 100000 in
theorem wd_558 : Cond.code yX8_count cX8_count 2 (some .int) ∈ lw_tbl := in_t3 171 rfl
set_option maxRecDepth 100000 in
theorem wd_559 : Cond.code yX2_crownings cX2_crownings 3 (some .int) ∈ lw_tbl := in_t3 176 rfl
set_option maxRecDepth 100000 in
theorem wd_560 : Cond.selects RX2 yX2_crownings yX2_crownings ∈ lw_tbl := in_t3 175 rfl
set_option maxRecDepth 100000 in
theorem wd_561 : Cond.instanceMethod yX2_crownings ∈ lw_tbl := in_t3 174 rfl
set_option maxRecDepth 100000 in
theorem wd_562 : Cond.methodLink RX8 217 yX2_crownings ∈ lw_tbl := in_t3 173 rfl
set_option maxRecDepth 100000 in
theorem wd_563 : Cond.methodLink RX8 214 yX2_illBits ∈ lw_tbl := in_t3 172 rfl
set_option maxRecDepth 100000 in
theorem wd_564 : Cond.selects RX8 yX8_count yX8_count ∈ lw_tbl := in_t3 170 rfl
set_option maxRecDepth 100000 in
theorem wd_565 : Cond.instanceMethod yX8_count ∈ lw_tbl := in_t3 169 rfl
set_option maxRecDepth 100000 in
theorem wd_566 : Cond.methodLink RL 150 yX8_count ∈ lw_tbl := in_t3 168 rfl
set_option maxRecDepth 100000 in
theorem wd_567 : Cond.code yX9_init cX9_init 1 none ∈ lw_tbl := in_t3 181 rfl
set_option maxRecDepth 100000 in
theorem wd_568 : Cond.fieldLink RX9 63 "LightestRulesModel" "rule" "I" ∈ lw_tbl := in_t3 190 rfl
set_option maxRecDepth 100000 in
theorem wd_569 : Cond.fieldLink RX9 60 "LightestRulesModel" "kept" "[I" ∈ lw_tbl := in_t3 216 rfl
set_option maxRecDepth 100000 in
theorem wd_570 : Cond.fieldLink RX9 56 "LightestRulesModel" "isKept" "[Z" ∈ lw_tbl := in_t3 215 rfl
set_option maxRecDepth 100000 in
theorem wd_571 : Cond.arrayClass .boolean ∈ lw_tbl := in_t4 46 rfl
set_option maxRecDepth 100000 in
theorem wd_572 : Cond.fieldLink RX9 53 "LightestRulesModel" "spare" "[I" ∈ lw_tbl := in_t3 214 rfl
set_option maxRecDepth 100000 in
theorem wd_573 : Cond.fieldLink RX9 50 "LightestRulesModel" "then" "[J" ∈ lw_tbl := in_t3 212 rfl
set_option maxRecDepth 100000 in
theorem wd_574 : Cond.fieldLink RX9 46 "LightestRulesModel" "ways" "[J" ∈ lw_tbl := in_t3 211 rfl
set_option maxRecDepth 100000 in
theorem wd_575 : Cond.fieldLink RX9 43 "LightestRulesModel" "rulers" "[I" ∈ lw_tbl := in_t3 210 rfl
set_option maxRecDepth 100000 in
theorem wd_576 : Cond.fieldLink RX9 40 "LightestRulesModel" "mostOf" "[I" ∈ lw_tbl := in_t3 208 rfl
set_option maxRecDepth 100000 in
theorem wd_577 : Cond.fieldLink RX9 37 "LightestRulesModel" "leastOf" "[I" ∈ lw_tbl := in_t3 207 rfl
set_option maxRecDepth 100000 in
theorem wd_578 : Cond.fieldLink RX9 34 "LightestRulesModel" "together" "[I" ∈ lw_tbl := in_t3 206 rfl
set_option maxRecDepth 100000 in
theorem wd_579 : Cond.fieldLink RX9 31 "LightestRulesModel" "searched" "[I" ∈ lw_tbl := in_t3 205 rfl
set_option maxRecDepth 100000 in
theorem wd_580 : Cond.fieldLink RX9 28 "LightestRulesModel" "comes" "[I" ∈ lw_tbl := in_t3 203 rfl
set_option maxRecDepth 100000 in
theorem wd_581 : Cond.fieldLink RX9 25 "LightestRulesModel" "rights" "[I" ∈ lw_tbl := in_t3 202 rfl
set_option maxRecDepth 100000 in
theorem wd_582 : Cond.fieldLink RX9 22 "LightestRulesModel" "lefts" "[I" ∈ lw_tbl := in_t3 201 rfl
set_option maxRecDepth 100000 in
theorem wd_583 : Cond.fieldLink RX9 19 "LightestRulesModel" "row" "[I" ∈ lw_tbl := in_t3 199 rfl
set_option maxRecDepth 100000 in
theorem wd_584 : Cond.fieldLink RX9 16 "LightestRulesModel" "text" "[I" ∈ lw_tbl := in_t3 193 rfl
set_option maxRecDepth 100000 in
theorem wd_585 : Cond.fieldLink RX9 13 "LightestRulesModel" "now" "[I" ∈ lw_tbl := in_t3 188 rfl
set_option maxRecDepth 100000 in
theorem wd_586 : Cond.fieldLink RX9 7 "LightestRulesModel" "read" "[I" ∈ lw_tbl := in_t3 183 rfl
set_option maxRecDepth 100000 in
theorem wd_587 : Cond.methodLink RX9 1 objectInit ∈ lw_tbl := in_t3 182 rfl
set_option maxRecDepth 100000 in
theorem wd_588 : Cond.code yX9_write cX9_write 5 (some .int) ∈ lw_tbl := in_t4 50 rfl
set_option maxRecDepth 100000 in
theorem wd_589 : Cond.code yX9_in cX9_in 6 (some .boolean) ∈ lw_tbl := in_t4 54 rfl
set_option maxRecDepth 100000 in
theorem wd_590 : Cond.initialized RX9 ∈ lw_tbl := in_t1 10 rfl
set_option maxRecDepth 100000 in
theorem wd_591 : Cond.static yX9_in ∈ lw_tbl := in_t4 53 rfl
set_option maxRecDepth 100000 in
theorem wd_592 : Cond.methodLink RX9 69 yX9_in ∈ lw_tbl := in_t4 52 rfl
set_option maxRecDepth 100000 in
theorem wd_593 : Cond.constantLong RX9 76 (255) ∈ lw_tbl := in_t4 55 rfl
set_option maxRecDepth 100000 in
theorem wd_594 : Cond.fieldLink RX9 73 "LightestRulesModel" "length" "I" ∈ lw_tbl := in_t3 194 rfl
set_option maxRecDepth 100000 in
theorem wd_595 : Cond.constantLong RX9 67 (8) ∈ lw_tbl := in_t4 51 rfl
set_option maxRecDepth 100000 in
theorem wd_596 : Cond.selects RX9 yX9_write yX9_write ∈ lw_tbl := in_t4 49 rfl
set_option maxRecDepth 100000 in
theorem wd_597 : Cond.instanceMethod yX9_write ∈ lw_tbl := in_t4 48 rfl
set_option maxRecDepth 100000 in
theorem wd_598 : Cond.methodLink RL 19 yX9_write ∈ lw_tbl := in_t4 47 rfl
set_option maxRecDepth 100000 in
theorem wd_599 : Cond.code yX9_wipe cX9_wipe 2 (some .int) ∈ lw_tbl := in_t4 59 rfl
set_option maxRecDepth 100000 in
theorem wd_600 : Cond.selects RX9 yX9_wipe yX9_wipe ∈ lw_tbl := in_t4 58 rfl
set_option maxRecDepth 100000 in
theorem wd_601 : Cond.instanceMethod yX9_wipe ∈ lw_tbl := in_t4 57 rfl
set_option maxRecDepth 100000 in
theorem wd_602 : Cond.methodLink RL 24 yX9_wipe ∈ lw_tbl := in_t4 56 rfl
set_option maxRecDepth 100000 in
theorem wd_603 : Cond.code yX9_fault cX9_fault 1 (some .int) ∈ lw_tbl := in_t4 63 rfl
set_option maxRecDepth 100000 in
theorem wd_604 : Cond.code yX9_figure cX9_figure 4 (some .int) ∈ lw_tbl := in_t4 71 rfl
set_option maxRecDepth 100000 in
theorem wd_605 : Cond.selects RX9 yX9_figure yX9_figure ∈ lw_tbl := in_tp 19 rfl
set_option maxRecDepth 100000 in
theorem wd_606 : Cond.instanceMethod yX9_figure ∈ lw_tbl := in_t4 70 rfl
set_option maxRecDepth 100000 in
theorem wd_607 : Cond.methodLink RX9 87 yX9_figure ∈ lw_tbl := in_t4 68 rfl
set_option maxRecDepth 100000 in
theorem wd_608 : Cond.fieldLink RX9 97 "LightestRulesModel" "readIll" "I" ∈ lw_tbl := in_t3 187 rfl
set_option maxRecDepth 100000 in
theorem wd_609 : Cond.fieldLink RX9 94 "LightestRulesModel" "readBurn" "I" ∈ lw_tbl := in_t3 186 rfl
set_option maxRecDepth 100000 in
theorem wd_610 : Cond.fieldLink RX9 91 "LightestRulesModel" "readRule" "I" ∈ lw_tbl := in_t3 185 rfl
set_option maxRecDepth 100000 in
theorem wd_611 : Cond.fieldLink RX9 84 "LightestRulesModel" "readMany" "I" ∈ lw_tbl := in_t3 184 rfl
set_option maxRecDepth 100000 in
theorem wd_612 : Cond.fieldLink RX9 78 "LightestRulesModel" "faultAt" "I" ∈ lw_tbl := in_t3 196 rfl
set_option maxRecDepth 100000 in
theorem wd_613 : Cond.fieldLink RX9 81 "LightestRulesModel" "at" "I" ∈ lw_tbl := in_t3 195 rfl
set_option maxRecDepth 100000 in
theorem wd_614 : Cond.code yX9_readText cX9_readText 4 (some .int) ∈ lw_tbl := in_t4 67 rfl
set_option maxRecDepth 100000 in
theorem wd_615 : Cond.selects RX9 yX9_readText yX9_readText ∈ lw_tbl := in_tp 18 rfl
set_option maxRecDepth 100000 in
theorem wd_616 : Cond.instanceMethod yX9_readText ∈ lw_tbl := in_t4 66 rfl
set_option maxRecDepth 100000 in
theorem wd_617 : Cond.methodLink RX9 100 yX9_readText ∈ lw_tbl := in_t4 64 rfl
set_option maxRecDepth 100000 in
theorem wd_618 : Cond.selects RX9 yX9_fault yX9_fault ∈ lw_tbl := in_t4 62 rfl
set_option maxRecDepth 100000 in
theorem wd_619 : Cond.instanceMethod yX9_fault ∈ lw_tbl := in_t4 61 rfl
set_option maxRecDepth 100000 in
theorem wd_620 : Cond.methodLink RL 28 yX9_fault ∈ lw_tbl := in_t4 60 rfl
set_option maxRecDepth 100000 in
theorem wd_621 : Cond.code yX9_land cX9_land 2 (some .int) ∈ lw_tbl := in_t4 75 rfl
set_option maxRecDepth 100000 in
theorem wd_622 : Cond.fieldLink RX9 113 "LightestRulesModel" "acts" "I" ∈ lw_tbl := in_t3 197 rfl
set_option maxRecDepth 100000 in
theorem wd_623 : Cond.fieldLink RX9 110 "LightestRulesModel" "ill" "I" ∈ lw_tbl := in_t3 192 rfl
set_option maxRecDepth 100000 in
theorem wd_624 : Cond.fieldLink RX9 107 "LightestRulesModel" "burn" "I" ∈ lw_tbl := in_t3 191 rfl
set_option maxRecDepth 100000 in
theorem wd_625 : Cond.fieldLink RX9 104 "LightestRulesModel" "many" "I" ∈ lw_tbl := in_t3 189 rfl
set_option maxRecDepth 100000 in
theorem wd_626 : Cond.selects RX9 yX9_land yX9_land ∈ lw_tbl := in_t4 74 rfl
set_option maxRecDepth 100000 in
theorem wd_627 : Cond.instanceMethod yX9_land ∈ lw_tbl := in_t4 73 rfl
set_option maxRecDepth 100000 in
theorem wd_628 : Cond.methodLink RL 32 yX9_land ∈ lw_tbl := in_t4 72 rfl
set_option maxRecDepth 100000 in
theorem wd_629 : Cond.code yX9_person cX9_person 3 (some .int) ∈ lw_tbl := in_t4 79 rfl
set_option maxRecDepth 100000 in
theorem wd_630 : Cond.code yX9_isIll cX9_isIll 2 (some .boolean) ∈ lw_tbl := in_t4 91 rfl
set_option maxRecDepth 100000 in
theorem wd_631 : Cond.selects RX9 yX9_isIll yX9_isIll ∈ lw_tbl := in_tp 22 rfl
set_option maxRecDepth 100000 in
theorem wd_632 : Cond.instanceMethod yX9_isIll ∈ lw_tbl := in_t4 90 rfl
set_option maxRecDepth 100000 in
theorem wd_633 : Cond.methodLink RX9 124 yX9_isIll ∈ lw_tbl := in_t4 88 rfl
set_option maxRecDepth 100000 in
theorem wd_634 : Cond.code yX9_noonOf cX9_noonOf 2 (some .int) ∈ lw_tbl := in_t4 87 rfl
set_option maxRecDepth 100000 in
theorem wd_635 : Cond.selects RX9 yX9_noonOf yX9_noonOf ∈ lw_tbl := in_tp 21 rfl
set_option maxRecDepth 100000 in
theorem wd_636 : Cond.instanceMethod yX9_noonOf ∈ lw_tbl := in_t4 86 rfl
set_option maxRecDepth 100000 in
theorem wd_637 : Cond.methodLink RX9 120 yX9_noonOf ∈ lw_tbl := in_t4 84 rfl
set_option maxRecDepth 100000 in
theorem wd_638 : Cond.code yX9_isPerson cX9_isPerson 2 (some .boolean) ∈ lw_tbl := in_t4 83 rfl
set_option maxRecDepth 100000 in
theorem wd_639 : Cond.selects RX9 yX9_isPerson yX9_isPerson ∈ lw_tbl := in_tp 20 rfl
set_option maxRecDepth 100000 in
theorem wd_640 : Cond.instanceMethod yX9_isPerson ∈ lw_tbl := in_t4 82 rfl
set_option maxRecDepth 100000 in
theorem wd_641 : Cond.methodLink RX9 116 yX9_isPerson ∈ lw_tbl := in_t4 80 rfl
set_option maxRecDepth 100000 in
theorem wd_642 : Cond.selects RX9 yX9_person yX9_person ∈ lw_tbl := in_t4 78 rfl
set_option maxRecDepth 100000 in
theorem wd_643 : Cond.instanceMethod yX9_person ∈ lw_tbl := in_t4 77 rfl
set_option maxRecDepth 100000 in
theorem wd_644 : Cond.methodLink RL 37 yX9_person ∈ lw_tbl := in_t4 76 rfl
set_option maxRecDepth 100000 in
theorem wd_645 : Cond.code yX9_law cX9_law 3 (some .int) ∈ lw_tbl := in_t4 95 rfl
set_option maxRecDepth 100000 in
theorem wd_646 : Cond.constantLong RX9 127 (2) ∈ lw_tbl := in_t4 96 rfl
set_option maxRecDepth 100000 in
theorem wd_647 : Cond.selects RX9 yX9_law yX9_law ∈ lw_tbl := in_t4 94 rfl
set_option maxRecDepth 100000 in
theorem wd_648 : Cond.instanceMethod yX9_law ∈ lw_tbl := in_t4 93 rfl
set_option maxRecDepth 100000 in
theorem wd_649 : Cond.methodLink RL 42 yX9_law ∈ lw_tbl := in_t4 92 rfl
set_option maxRecDepth 100000 in
theorem wd_650 : Cond.code yX9_eat cX9_eat 3 (some .int) ∈ lw_tbl := in_t4 100 rfl
set_option maxRecDepth 100000 in
theorem wd_651 : Cond.fieldLink RX9 129 "LightestRulesModel" "next" "I" ∈ lw_tbl := in_t3 198 rfl
set_option maxRecDepth 100000 in
theorem wd_652 : Cond.code yX9_keepAct cX9_keepAct 2 none ∈ lw_tbl := in_t4 105 rfl
set_option maxRecDepth 100000 in
theorem wd_653 : Cond.selects RX9 yX9_keepAct yX9_keepAct ∈ lw_tbl := in_tp 23 rfl
set_option maxRecDepth 100000 in
theorem wd_654 : Cond.instanceMethod yX9_keepAct ∈ lw_tbl := in_t4 104 rfl
set_option maxRecDepth 100000 in
theorem wd_655 : Cond.methodLink RX9 134 yX9_keepAct ∈ lw_tbl := in_t4 102 rfl
set_option maxRecDepth 100000 in
theorem wd_656 : Cond.constantLong RX9 132 (9) ∈ lw_tbl := in_t4 101 rfl
set_option maxRecDepth 100000 in
theorem wd_657 : Cond.selects RX9 yX9_eat yX9_eat ∈ lw_tbl := in_t4 99 rfl
set_option maxRecDepth 100000 in
theorem wd_658 : Cond.instanceMethod yX9_eat ∈ lw_tbl := in_t4 98 rfl
set_option maxRecDepth 100000 in
theorem wd_659 : Cond.methodLink RL 46 yX9_eat ∈ lw_tbl := in_t4 97 rfl
set_option maxRecDepth 100000 in
theorem wd_660 : Cond.code yX9_toil cX9_toil 3 (some .int) ∈ lw_tbl := in_t4 109 rfl
set_option maxRecDepth 100000 in
theorem wd_661 : Cond.code yX9_left cX9_left 1 (some .int) ∈ lw_tbl := in_t4 112 rfl
set_option maxRecDepth 100000 in
theorem wd_662 : Cond.static yX9_left ∈ lw_tbl := in_t4 111 rfl
set_option maxRecDepth 100000 in
theorem wd_663 : Cond.methodLink RX9 137 yX9_left ∈ lw_tbl := in_t4 110 rfl
set_option maxRecDepth 100000 in
theorem wd_664 : Cond.selects RX9 yX9_toil yX9_toil ∈ lw_tbl := in_t4 108 rfl
set_option maxRecDepth 100000 in
theorem wd_665 : Cond.instanceMethod yX9_toil ∈ lw_tbl := in_t4 107 rfl
set_option maxRecDepth 100000 in
theorem wd_666 : Cond.methodLink RL 50 yX9_toil ∈ lw_tbl := in_t4 106 rfl
set_option maxRecDepth 100000 in
theorem wd_667 : Cond.code yX9_drink cX9_drink 3 (some .int) ∈ lw_tbl := in_t4 116 rfl
set_option maxRecDepth 100000 in
theorem wd_668 : Cond.selects RX9 yX9_drink yX9_drink ∈ lw_tbl := in_t4 115 rfl
set_option maxRecDepth 100000 in
theorem wd_669 : Cond.instanceMethod yX9_drink ∈ lw_tbl := in_t4 114 rfl
set_option maxRecDepth 100000 in
theorem wd_670 : Cond.methodLink RL 54 yX9_drink ∈ lw_tbl := in_t4 113 rfl
set_option maxRecDepth 100000 in
theorem wd_671 : Cond.code yX9_hand cX9_hand 5 (some .int) ∈ lw_tbl := in_t4 120 rfl
set_option maxRecDepth 100000 in
theorem wd_672 : Cond.selects RX9 yX9_hand yX9_hand ∈ lw_tbl := in_t4 119 rfl
set_option maxRecDepth 100000 in
theorem wd_673 : Cond.instanceMethod yX9_hand ∈ lw_tbl := in_t4 118 rfl
set_option maxRecDepth 100000 in
theorem wd_674 : Cond.methodLink RL 59 yX9_hand ∈ lw_tbl := in_t4 117 rfl
set_option maxRecDepth 100000 in
theorem wd_675 : Cond.code yX9_day cX9_day 2 (some .int) ∈ lw_tbl := in_t4 124 rfl
set_option maxRecDepth 100000 in
theorem wd_676 : Cond.selects RX9 yX9_day yX9_day ∈ lw_tbl := in_t4 123 rfl
set_option maxRecDepth 100000 in
theorem wd_677 : Cond.instanceMethod yX9_day ∈ lw_tbl := in_t4 122 rfl
set_option maxRecDepth 100000 in
theorem wd_678 : Cond.methodLink RL 63 yX9_day ∈ lw_tbl := in_t4 121 rfl
set_option maxRecDepth 100000 in
theorem wd_679 : Cond.code yX9_crown cX9_crown 1 (some .int) ∈ lw_tbl := in_t4 128 rfl
set_option maxRecDepth 100000 in
theorem wd_680 : Cond.code yX9_isLighter cX9_isLighter 4 (some .boolean) ∈ lw_tbl := in_t4 135 rfl
set_option maxRecDepth 100000 in
theorem wd_681 : Cond.static yX9_isLighter ∈ lw_tbl := in_t4 134 rfl
set_option maxRecDepth 100000 in
theorem wd_682 : Cond.methodLink RX9 140 yX9_isLighter ∈ lw_tbl := in_t4 133 rfl
set_option maxRecDepth 100000 in
theorem wd_683 : Cond.code yX9_crownBy cX9_crownBy 6 (some .int) ∈ lw_tbl := in_t4 132 rfl
set_option maxRecDepth 100000 in
theorem wd_684 : Cond.selects RX9 yX9_crownBy yX9_crownBy ∈ lw_tbl := in_tp 24 rfl
set_option maxRecDepth 100000 in
theorem wd_685 : Cond.instanceMethod yX9_crownBy ∈ lw_tbl := in_t4 131 rfl
set_option maxRecDepth 100000 in
theorem wd_686 : Cond.methodLink RX9 144 yX9_crownBy ∈ lw_tbl := in_t4 129 rfl
set_option maxRecDepth 100000 in
theorem wd_687 : Cond.selects RX9 yX9_crown yX9_crown ∈ lw_tbl := in_t4 127 rfl
set_option maxRecDepth 100000 in
theorem wd_688 : Cond.instanceMethod yX9_crown ∈ lw_tbl := in_t4 126 rfl
set_option maxRecDepth 100000 in
theorem wd_689 : Cond.methodLink RL 67 yX9_crown ∈ lw_tbl := in_t4 125 rfl
set_option maxRecDepth 100000 in
theorem wd_690 : Cond.code yX9_noon cX9_noon 2 (some .int) ∈ lw_tbl := in_t4 139 rfl
set_option maxRecDepth 100000 in
theorem wd_691 : Cond.selects RX9 yX9_noon yX9_noon ∈ lw_tbl := in_t4 138 rfl
set_option maxRecDepth 100000 in
theorem wd_692 : Cond.instanceMethod yX9_noon ∈ lw_tbl := in_t4 137 rfl
set_option maxRecDepth 100000 in
theorem wd_693 : Cond.methodLink RL 71 yX9_noon ∈ lw_tbl := in_t4 136 rfl
set_option maxRecDepth 100000 in
theorem wd_694 : Cond.code yX9_undo cX9_undo 2 (some .int) ∈ lw_tbl := in_t4 143 rfl
set_option maxRecDepth 100000 in
theorem wd_695 : Cond.selects RX9 yX9_undo yX9_undo ∈ lw_tbl := in_t4 142 rfl
set_option maxRecDepth 100000 in
theorem wd_696 : Cond.instanceMethod yX9_undo ∈ lw_tbl := in_t4 141 rfl
set_option maxRecDepth 100000 in
theorem wd_697 : Cond.methodLink RL 75 yX9_undo ∈ lw_tbl := in_t4 140 rfl
set_option maxRecDepth 100000 in
theorem wd_698 : Cond.code yX9_sure cX9_sure 7 (some .int) ∈ lw_tbl := in_t4 147 rfl
set_option maxRecDepth 100000 in
theorem wd_699 : Cond.code yX9_later cX9_later 4 (some .int) ∈ lw_tbl := in_t4 156 rfl
set_option maxRecDepth 100000 in
theorem wd_700 : Cond.selects RX9 yX9_later yX9_later ∈ lw_tbl := in_tp 26 rfl
set_option maxRecDepth 100000 in
theorem wd_701 : Cond.instanceMethod yX9_later ∈ lw_tbl := in_t4 155 rfl
set_option maxRecDepth 100000 in
theorem wd_702 : Cond.methodLink RX9 147 yX9_later ∈ lw_tbl := in_t4 153 rfl
set_option maxRecDepth 100000 in
theorem wd_703 : Cond.code yX9_least cX9_least 7 (some .int) ∈ lw_tbl := in_t4 152 rfl
set_option maxRecDepth 100000 in
theorem wd_704 : Cond.selects RX9 yX9_least yX9_least ∈ lw_tbl := in_tp 25 rfl
set_option maxRecDepth 100000 in
theorem wd_705 : Cond.instanceMethod yX9_least ∈ lw_tbl := in_t4 151 rfl
set_option maxRecDepth 100000 in
theorem wd_706 : Cond.methodLink RX9 153 yX9_least ∈ lw_tbl := in_t4 149 rfl
set_option maxRecDepth 100000 in
theorem wd_707 : Cond.constantLong RX9 151 (5) ∈ lw_tbl := in_t4 148 rfl
set_option maxRecDepth 100000 in
theorem wd_708 : Cond.code yX9_share cX9_share 3 (some .int) ∈ lw_tbl := in_t4 159 rfl
set_option maxRecDepth 100000 in
theorem wd_709 : Cond.static yX9_share ∈ lw_tbl := in_t4 158 rfl
set_option maxRecDepth 100000 in
theorem wd_710 : Cond.methodLink RX9 156 yX9_share ∈ lw_tbl := in_t4 157 rfl
set_option maxRecDepth 100000 in
theorem wd_711 : Cond.selects RX9 yX9_sure yX9_sure ∈ lw_tbl := in_t4 146 rfl
set_option maxRecDepth 100000 in
theorem wd_712 : Cond.instanceMethod yX9_sure ∈ lw_tbl := in_t4 145 rfl
set_option maxRecDepth 100000 in
theorem wd_713 : Cond.methodLink RL 80 yX9_sure ∈ lw_tbl := in_t4 144 rfl
set_option maxRecDepth 100000 in
theorem wd_714 : Cond.code yX9_sureAt cX9_sureAt 6 (some .int) ∈ lw_tbl := in_t4 163 rfl
set_option maxRecDepth 100000 in
theorem wd_715 : Cond.selects RX9 yX9_sureAt yX9_sureAt ∈ lw_tbl := in_t4 162 rfl
set_option maxRecDepth 100000 in
theorem wd_716 : Cond.instanceMethod yX9_sureAt ∈ lw_tbl := in_t4 161 rfl
set_option maxRecDepth 100000 in
theorem wd_717 : Cond.methodLink RL 85 yX9_sureAt ∈ lw_tbl := in_t4 160 rfl
set_option maxRecDepth 100000 in
theorem wd_718 : Cond.code yX9_feed cX9_feed 5 (some .int) ∈ lw_tbl := in_t4 167 rfl
set_option maxRecDepth 100000 in
theorem wd_719 : Cond.selects RX9 yX9_feed yX9_feed ∈ lw_tbl := in_t4 166 rfl
set_option maxRecDepth 100000 in
theorem wd_720 : Cond.instanceMethod yX9_feed ∈ lw_tbl := in_t4 165 rfl
set_option maxRecDepth 100000 in
theorem wd_721 : Cond.methodLink RL 89 yX9_feed ∈ lw_tbl := in_t4 164 rfl
set_option maxRecDepth 100000 in
theorem wd_722 : Cond.code yX9_weigh cX9_weigh 4 (some .int) ∈ lw_tbl := in_t4 171 rfl
set_option maxRecDepth 100000 in
theorem wd_723 : Cond.code yX9_ones cX9_ones 3 (some .int) ∈ lw_tbl := in_t4 175 rfl
set_option maxRecDepth 100000 in
theorem wd_724 : Cond.static yX9_ones ∈ lw_tbl := in_t4 174 rfl
set_option maxRecDepth 100000 in
theorem wd_725 : Cond.methodLink RX9 161 yX9_ones ∈ lw_tbl := in_t4 173 rfl
set_option maxRecDepth 100000 in
theorem wd_726 : Cond.fieldLink RX9 164 "LightestRulesModel" "weighings" "I" ∈ lw_tbl := in_t3 200 rfl
set_option maxRecDepth 100000 in
theorem wd_727 : Cond.constantLong RX9 159 (511) ∈ lw_tbl := in_t4 172 rfl
set_option maxRecDepth 100000 in
theorem wd_728 : Cond.selects RX9 yX9_weigh yX9_weigh ∈ lw_tbl := in_t4 170 rfl
set_option maxRecDepth 100000 in
theorem wd_729 : Cond.instanceMethod yX9_weigh ∈ lw_tbl := in_t4 169 rfl
set_option maxRecDepth 100000 in
theorem wd_730 : Cond.methodLink RL 93 yX9_weigh ∈ lw_tbl := in_t4 168 rfl
set_option maxRecDepth 100000 in
theorem wd_731 : Cond.code yX9_unweigh cX9_unweigh 2 (some .int) ∈ lw_tbl := in_t4 179 rfl
set_option maxRecDepth 100000 in
theorem wd_732 : Cond.selects RX9 yX9_unweigh yX9_unweigh ∈ lw_tbl := in_t4 178 rfl
set_option maxRecDepth 100000 in
theorem wd_733 : Cond.instanceMethod yX9_unweigh ∈ lw_tbl := in_t4 177 rfl
set_option maxRecDepth 100000 in
theorem wd_734 : Cond.methodLink RL 97 yX9_unweigh ∈ lw_tbl := in_t4 176 rfl
set_option maxRecDepth 100000 in
theorem wd_735 : Cond.code yX9_mayBe cX9_mayBe 9 (some .int) ∈ lw_tbl := in_t4 183 rfl
set_option maxRecDepth 100000 in
theorem wd_736 : Cond.selects RX9 yX9_mayBe yX9_mayBe ∈ lw_tbl := in_t4 182 rfl
set_option maxRecDepth 100000 in
theorem wd_737 : Cond.instanceMethod yX9_mayBe ∈ lw_tbl := in_t4 181 rfl
set_option maxRecDepth 100000 in
theorem wd_738 : Cond.methodLink RL 102 yX9_mayBe ∈ lw_tbl := in_t4 180 rfl
set_option maxRecDepth 100000 in
theorem wd_739 : Cond.code yX9_search cX9_search 3 (some .int) ∈ lw_tbl := in_t4 187 rfl
set_option maxRecDepth 100000 in
theorem wd_740 : Cond.fieldLink RX9 171 "LightestRulesModel" "searches" "I" ∈ lw_tbl := in_t3 204 rfl
set_option maxRecDepth 100000 in
theorem wd_741 : Cond.constantLong RX9 169 (45) ∈ lw_tbl := in_t4 189 rfl
set_option maxRecDepth 100000 in
theorem wd_742 : Cond.constantLong RX9 167 (31) ∈ lw_tbl := in_t4 188 rfl
set_option maxRecDepth 100000 in
theorem wd_743 : Cond.selects RX9 yX9_search yX9_search ∈ lw_tbl := in_t4 186 rfl
set_option maxRecDepth 100000 in
theorem wd_744 : Cond.instanceMethod yX9_search ∈ lw_tbl := in_t4 185 rfl
set_option maxRecDepth 100000 in
theorem wd_745 : Cond.methodLink RL 106 yX9_search ∈ lw_tbl := in_t4 184 rfl
set_option maxRecDepth 100000 in
theorem wd_746 : Cond.code yX9_unsearch cX9_unsearch 2 (some .int) ∈ lw_tbl := in_t4 193 rfl
set_option maxRecDepth 100000 in
theorem wd_747 : Cond.selects RX9 yX9_unsearch yX9_unsearch ∈ lw_tbl := in_t4 192 rfl
set_option maxRecDepth 100000 in
theorem wd_748 : Cond.instanceMethod yX9_unsearch ∈ lw_tbl := in_t4 191 rfl
set_option maxRecDepth 100000 in
theorem wd_749 : Cond.methodLink RL 110 yX9_unsearch ∈ lw_tbl := in_t4 190 rfl
set_option maxRecDepth 100000 in
theorem wd_750 : Cond.code yX9_rows cX9_rows 1 (some .int) ∈ lw_tbl := in_t4 197 rfl
set_option maxRecDepth 100000 in
theorem wd_751 : Cond.code yX9_tenTo cX9_tenTo 3 (some .int) ∈ lw_tbl := in_t4 209 rfl
set_option maxRecDepth 100000 in
theorem wd_752 : Cond.static yX9_tenTo ∈ lw_tbl := in_t4 208 rfl
set_option maxRecDepth 100000 in
theorem wd_753 : Cond.methodLink RX9 178 yX9_tenTo ∈ lw_tbl := in_t4 207 rfl
set_option maxRecDepth 100000 in
theorem wd_754 : Cond.code yX9_fits cX9_fits 7 (some .boolean) ∈ lw_tbl := in_t4 206 rfl
set_option maxRecDepth 100000 in
theorem wd_755 : Cond.selects RX9 yX9_fits yX9_fits ∈ lw_tbl := in_tp 28 rfl
set_option maxRecDepth 100000 in
theorem wd_756 : Cond.instanceMethod yX9_fits ∈ lw_tbl := in_t4 205 rfl
set_option maxRecDepth 100000 in
theorem wd_757 : Cond.methodLink RX9 175 yX9_fits ∈ lw_tbl := in_t4 203 rfl
set_option maxRecDepth 100000 in
theorem wd_758 : Cond.constant RX9 174 (100000) ∈ lw_tbl := in_t4 202 rfl
set_option maxRecDepth 100000 in
theorem wd_759 : Cond.code yX9_layRows cX9_layRows 5 (some .int) ∈ lw_tbl := in_t4 201 rfl
set_option maxRecDepth 100000 in
theorem wd_760 : Cond.selects RX9 yX9_layRows yX9_layRows ∈ lw_tbl := in_tp 27 rfl
set_option maxRecDepth 100000 in
theorem wd_761 : Cond.instanceMethod yX9_layRows ∈ lw_tbl := in_t4 200 rfl
set_option maxRecDepth 100000 in
theorem wd_762 : Cond.methodLink RX9 181 yX9_layRows ∈ lw_tbl := in_t4 198 rfl
set_option maxRecDepth 100000 in
theorem wd_763 : Cond.selects RX9 yX9_rows yX9_rows ∈ lw_tbl := in_t4 196 rfl
set_option maxRecDepth 100000 in
theorem wd_764 : Cond.instanceMethod yX9_rows ∈ lw_tbl := in_t4 195 rfl
set_option maxRecDepth 100000 in
theorem wd_765 : Cond.methodLink RL 114 yX9_rows ∈ lw_tbl := in_t4 194 rfl
set_option maxRecDepth 100000 in
theorem wd_766 : Cond.code yX9_stones cX9_stones 3 (some .int) ∈ lw_tbl := in_t4 213 rfl
set_option maxRecDepth 100000 in
theorem wd_767 : Cond.constantLong RX9 184 (4) ∈ lw_tbl := in_t4 214 rfl
set_option maxRecDepth 100000 in
theorem wd_768 : Cond.selects RX9 yX9_stones yX9_stones ∈ lw_tbl := in_t4 212 rfl
set_option maxRecDepth 100000 in
theorem wd_769 : Cond.instanceMethod yX9_stones ∈ lw_tbl := in_t4 211 rfl
set_option maxRecDepth 100000 in
theorem wd_770 : Cond.methodLink RL 119 yX9_stones ∈ lw_tbl := in_t4 210 rfl
set_option maxRecDepth 100000 in
theorem wd_771 : Cond.code yX9_ruled cX9_ruled 2 (some .int) ∈ lw_tbl := in_t4 218 rfl
set_option maxRecDepth 100000 in
theorem wd_772 : Cond.fieldLink RX9 186 "LightestRulesModel" "months" "I" ∈ lw_tbl := in_t3 209 rfl
set_option maxRecDepth 100000 in
theorem wd_773 : Cond.selects RX9 yX9_ruled yX9_ruled ∈ lw_tbl := in_t4 217 rfl
set_option maxRecDepth 100000 in
theorem wd_774 : Cond.instanceMethod yX9_ruled ∈ lw_tbl := in_t4 216 rfl
set_option maxRecDepth 100000 in
theorem wd_775 : Cond.methodLink RL 123 yX9_ruled ∈ lw_tbl := in_t4 215 rfl
set_option maxRecDepth 100000 in
theorem wd_776 : Cond.code yX9_unrule cX9_unrule 2 (some .int) ∈ lw_tbl := in_t4 222 rfl
set_option maxRecDepth 100000 in
theorem wd_777 : Cond.selects RX9 yX9_unrule yX9_unrule ∈ lw_tbl := in_t4 221 rfl
set_option maxRecDepth 100000 in
theorem wd_778 : Cond.instanceMethod yX9_unrule ∈ lw_tbl := in_t4 220 rfl
set_option maxRecDepth 100000 in
theorem wd_779 : Cond.methodLink RL 127 yX9_unrule ∈ lw_tbl := in_t4 219 rfl
set_option maxRecDepth 100000 in
theorem wd_780 : Cond.code yX9_line cX9_line 4 (some .long) ∈ lw_tbl := in_t4 226 rfl
set_option maxRecDepth 100000 in
theorem wd_781 : Cond.code yX9_isRuler cX9_isRuler 5 (some .boolean) ∈ lw_tbl := in_t4 236 rfl
set_option maxRecDepth 100000 in
theorem wd_782 : Cond.selects RX9 yX9_isRuler yX9_isRuler ∈ lw_tbl := in_tp 30 rfl
set_option maxRecDepth 100000 in
theorem wd_783 : Cond.instanceMethod yX9_isRuler ∈ lw_tbl := in_t4 235 rfl
set_option maxRecDepth 100000 in
theorem wd_784 : Cond.methodLink RX9 192 yX9_isRuler ∈ lw_tbl := in_t4 233 rfl
set_option maxRecDepth 100000 in
theorem wd_785 : Cond.code yX9_goMonth cX9_goMonth 6 none ∈ lw_tbl := in_t4 232 rfl
set_option maxRecDepth 100000 in
theorem wd_786 : Cond.selects RX9 yX9_goMonth yX9_goMonth ∈ lw_tbl := in_tp 29 rfl
set_option maxRecDepth 100000 in
theorem wd_787 : Cond.instanceMethod yX9_goMonth ∈ lw_tbl := in_t4 231 rfl
set_option maxRecDepth 100000 in
theorem wd_788 : Cond.methodLink RX9 200 yX9_goMonth ∈ lw_tbl := in_t4 229 rfl
set_option maxRecDepth 100000 in
theorem wd_789 : Cond.constantLong RX9 198 (-3) ∈ lw_tbl := in_t4 228 rfl
set_option maxRecDepth 100000 in
theorem wd_790 : Cond.constantLong RX9 196 (3) ∈ lw_tbl := in_t4 227 rfl
set_option maxRecDepth 100000 in
theorem wd_791 : Cond.code yX9_ate cX9_ate 2 (some .int) ∈ lw_tbl := in_t4 239 rfl
set_option maxRecDepth 100000 in
theorem wd_792 : Cond.static yX9_ate ∈ lw_tbl := in_t4 238 rfl
set_option maxRecDepth 100000 in
theorem wd_793 : Cond.methodLink RX9 189 yX9_ate ∈ lw_tbl := in_t4 237 rfl
set_option maxRecDepth 100000 in
theorem wd_794 : Cond.selects RX9 yX9_line yX9_line ∈ lw_tbl := in_t4 225 rfl
set_option maxRecDepth 100000 in
theorem wd_795 : Cond.instanceMethod yX9_line ∈ lw_tbl := in_t4 224 rfl
set_option maxRecDepth 100000 in
theorem wd_796 : Cond.methodLink RL 132 yX9_line ∈ lw_tbl := in_t4 223 rfl
set_option maxRecDepth 100000 in
theorem wd_797 : Cond.code yX9_seed cX9_seed 5 (some .long) ∈ lw_tbl := in_t5 3 rfl
set_option maxRecDepth 100000 in
theorem wd_798 : Cond.fieldLink RX9 204 "LightestRulesModel" "seed" "J" ∈ lw_tbl := in_t3 213 rfl
set_option maxRecDepth 100000 in
theorem wd_799 : Cond.selects RX9 yX9_seed yX9_seed ∈ lw_tbl := in_t5 2 rfl
set_option maxRecDepth 100000 in
theorem wd_800 : Cond.instanceMethod yX9_seed ∈ lw_tbl := in_t5 1 rfl
set_option maxRecDepth 100000 in
theorem wd_801 : Cond.methodLink RL 137 yX9_seed ∈ lw_tbl := in_t5 0 rfl
set_option maxRecDepth 100000 in
theorem wd_802 : Cond.code yX9_reign cX9_reign 7 (some .int) ∈ lw_tbl := in_t5 7 rfl
set_option maxRecDepth 100000 in
theorem wd_803 : Cond.constantLong RX9 212 (7) ∈ lw_tbl := in_t5 10 rfl
set_option maxRecDepth 100000 in
theorem wd_804 : Cond.constantLong RX9 210 (1442695040888963407) ∈ lw_tbl := in_t5 9 rfl
set_option maxRecDepth 100000 in
theorem wd_805 : Cond.constantLong RX9 208 (6364136223846793005) ∈ lw_tbl := in_t5 8 rfl
set_option maxRecDepth 100000 in
theorem wd_806 : Cond.selects RX9 yX9_reign yX9_reign ∈ lw_tbl := in_t5 6 rfl
set_option maxRecDepth 100000 in
theorem wd_807 : Cond.instanceMethod yX9_reign ∈ lw_tbl := in_t5 5 rfl
set_option maxRecDepth 100000 in
theorem wd_808 : Cond.methodLink RL 141 yX9_reign ∈ lw_tbl := in_t5 4 rfl
set_option maxRecDepth 100000 in
theorem wd_809 : Cond.code yX9_keep cX9_keep 3 (some .int) ∈ lw_tbl := in_t5 14 rfl
set_option maxRecDepth 100000 in
theorem wd_810 : Cond.selects RX9 yX9_keep yX9_keep ∈ lw_tbl := in_t5 13 rfl
set_option maxRecDepth 100000 in
theorem wd_811 : Cond.instanceMethod yX9_keep ∈ lw_tbl := in_t5 12 rfl
set_option maxRecDepth 100000 in
theorem wd_812 : Cond.methodLink RL 145 yX9_keep ∈ lw_tbl := in_t5 11 rfl
set_option maxRecDepth 100000 in
theorem wd_813 : Cond.code yX9_again cX9_again 3 (some .int) ∈ lw_tbl := in_t5 18 rfl
set_option maxRecDepth 100000 in
theorem wd_814 : Cond.selects RX9 yX9_again yX9_again ∈ lw_tbl := in_t5 17 rfl
set_option maxRecDepth 100000 in
theorem wd_815 : Cond.instanceMethod yX9_again ∈ lw_tbl := in_t5 16 rfl
set_option maxRecDepth 100000 in
theorem wd_816 : Cond.methodLink RL 149 yX9_again ∈ lw_tbl := in_t5 15 rfl
set_option maxRecDepth 100000 in
theorem wd_817 : Cond.code yX9_count cX9_count 5 (some .int) ∈ lw_tbl := in_t5 22 rfl
set_option maxRecDepth 100000 in
theorem wd_818 : Cond.selects RX9 yX9_count yX9_count ∈ lw_tbl := in_t5 21 rfl
set_option maxRecDepth 100000 in
theorem wd_819 : Cond.instanceMethod yX9_count ∈ lw_tbl := in_t5 20 rfl
set_option maxRecDepth 100000 in
theorem wd_820 : Cond.methodLink RL 153 yX9_count ∈ lw_tbl := in_t5 19 rfl
set_option maxRecDepth 100000 in
theorem wd_821 : Cond.classLink RL 7 RX8 ∈ lw_tbl := in_t1 15 rfl
set_option maxRecDepth 100000 in
theorem wd_822 : Cond.instantiable RX8 9 ∈ lw_tbl := in_t1 16 rfl
set_option maxRecDepth 100000 in
theorem wd_823 : Cond.classLink RL 10 RX9 ∈ lw_tbl := in_t3 177 rfl
set_option maxRecDepth 100000 in
theorem wd_824 : Cond.instantiable RX9 34 ∈ lw_tbl := in_t3 178 rfl
set_option maxRecDepth 100000 in
theorem wd_825 : Cond.constantLong RL 13 (4294967295) ∈ lw_tbl := in_t5 23 rfl
set_option maxRecDepth 100000 in
theorem wd_826 : Cond.methodLink RL 9 yX8_init ∈ lw_tbl := in_t1 17 rfl
set_option maxRecDepth 100000 in
theorem wd_827 : Cond.instanceMethod yX8_init ∈ lw_tbl := in_t1 18 rfl
set_option maxRecDepth 100000 in
theorem wd_828 : Cond.methodLink RL 12 yX9_init ∈ lw_tbl := in_t3 179 rfl
set_option maxRecDepth 100000 in
theorem wd_829 : Cond.instanceMethod yX9_init ∈ lw_tbl := in_t3 180 rfl
