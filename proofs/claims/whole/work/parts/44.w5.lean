set_option maxRecDepth 100000 in
theorem hL_X8_init : GoodIn lw_tbl wsX8_init := goodIn_sub wsX8_init_tb (by decide +kernel)
set_option maxRecDepth 100000 in
theorem hL_X8_write : GoodIn lw_tbl (wsV RL 15 RX8 yX8_write wsX8_write) := goodIn_sub (List.forall_mem_append.mpr ⟨(List.forall_mem_cons.mpr ⟨wd_113, (List.forall_mem_cons.mpr ⟨wd_112, (List.forall_mem_cons.mpr ⟨wd_111, (List.forall_mem_cons.mpr ⟨wd_110, (fun _ h => absurd h List.not_mem_nil)⟩)⟩)⟩)⟩), wsX8_write_tb⟩) (by decide +kernel)
set_option maxRecDepth 100000 in
theorem hL_X8_wipe : GoodIn lw_tbl (wsV RL 20 RX8 yX8_wipe wsX8_wipe) := goodIn_sub (List.forall_mem_append.mpr ⟨(List.forall_mem_cons.mpr ⟨wd_121, (List.forall_mem_cons.mpr ⟨wd_120, (List.forall_mem_cons.mpr ⟨wd_119, (List.forall_mem_cons.mpr ⟨wd_110, (fun _ h => absurd h List.not_mem_nil)⟩)⟩)⟩)⟩), wsX8_wipe_tb⟩) (by decide +kernel)
set_option maxRecDepth 100000 in
theorem hL_X8_fault : GoodIn lw_tbl (wsV RL 25 RX8 yX8_fault wsX8_fault) := goodIn_sub (List.forall_mem_append.mpr ⟨(List.forall_mem_cons.mpr ⟨wd_132, (List.forall_mem_cons.mpr ⟨wd_131, (List.forall_mem_cons.mpr ⟨wd_130, (List.forall_mem_cons.mpr ⟨wd_110, (fun _ h => absurd h List.not_mem_nil)⟩)⟩)⟩)⟩), wsX8_fault_tb⟩) (by decide +kernel)
set_option maxRecDepth 100000 in
theorem hL_X8_land : GoodIn lw_tbl (wsV RL 29 RX8 yX8_land wsX8_land) := goodIn_sub (List.forall_mem_append.mpr ⟨(List.forall_mem_cons.mpr ⟨wd_178, (List.forall_mem_cons.mpr ⟨wd_177, (List.forall_mem_cons.mpr ⟨wd_176, (List.forall_mem_cons.mpr ⟨wd_110, (fun _ h => absurd h List.not_mem_nil)⟩)⟩)⟩)⟩), wsX8_land_tb⟩) (by decide +kernel)
set_option maxRecDepth 100000 in
theorem hL_X8_person : GoodIn lw_tbl (wsV RL 33 RX8 yX8_person wsX8_person) := goodIn_sub (List.forall_mem_append.mpr ⟨(List.forall_mem_cons.mpr ⟨wd_203, (List.forall_mem_cons.mpr ⟨wd_202, (List.forall_mem_cons.mpr ⟨wd_201, (List.forall_mem_cons.mpr ⟨wd_110, (fun _ h => absurd h List.not_mem_nil)⟩)⟩)⟩)⟩), wsX8_person_tb⟩) (by decide +kernel)
set_option maxRecDepth 100000 in
theorem hL_X8_law : GoodIn lw_tbl (wsV RL 38 RX8 yX8_law wsX8_law) := goodIn_sub (List.forall_mem_append.mpr ⟨(List.forall_mem_cons.mpr ⟨wd_210, (List.forall_mem_cons.mpr ⟨wd_209, (List.forall_mem_cons.mpr ⟨wd_208, (List.forall_mem_cons.mpr ⟨wd_110, (fun _ h => absurd h List.not_mem_nil)⟩)⟩)⟩)⟩), wsX8_law_tb⟩) (by decide +kernel)
set_option maxRecDepth 100000 in
theorem hL_X8_eat : GoodIn lw_tbl (wsV RL 43 RX8 yX8_eat wsX8_eat) := goodIn_sub (List.forall_mem_append.mpr ⟨(List.forall_mem_cons.mpr ⟨wd_238, (List.forall_mem_cons.mpr ⟨wd_237, (List.forall_mem_cons.mpr ⟨wd_236, (List.forall_mem_cons.mpr ⟨wd_110, (fun _ h => absurd h List.not_mem_nil)⟩)⟩)⟩)⟩), wsX8_eat_tb⟩) (by decide +kernel)
set_option maxRecDepth 100000 in
theorem hL_X8_toil : GoodIn lw_tbl (wsV RL 47 RX8 yX8_toil wsX8_toil) := goodIn_sub (List.forall_mem_append.mpr ⟨(List.forall_mem_cons.mpr ⟨wd_242, (List.forall_mem_cons.mpr ⟨wd_241, (List.forall_mem_cons.mpr ⟨wd_240, (List.forall_mem_cons.mpr ⟨wd_110, (fun _ h => absurd h List.not_mem_nil)⟩)⟩)⟩)⟩), wsX8_toil_tb⟩) (by decide +kernel)
set_option maxRecDepth 100000 in
theorem hL_X8_drink : GoodIn lw_tbl (wsV RL 51 RX8 yX8_drink wsX8_drink) := goodIn_sub (List.forall_mem_append.mpr ⟨(List.forall_mem_cons.mpr ⟨wd_246, (List.forall_mem_cons.mpr ⟨wd_245, (List.forall_mem_cons.mpr ⟨wd_244, (List.forall_mem_cons.mpr ⟨wd_110, (fun _ h => absurd h List.not_mem_nil)⟩)⟩)⟩)⟩), wsX8_drink_tb⟩) (by decide +kernel)
set_option maxRecDepth 100000 in
theorem hL_X8_hand : GoodIn lw_tbl (wsV RL 55 RX8 yX8_hand wsX8_hand) := goodIn_sub (List.forall_mem_append.mpr ⟨(List.forall_mem_cons.mpr ⟨wd_250, (List.forall_mem_cons.mpr ⟨wd_249, (List.forall_mem_cons.mpr ⟨wd_248, (List.forall_mem_cons.mpr ⟨wd_110, (fun _ h => absurd h List.not_mem_nil)⟩)⟩)⟩)⟩), wsX8_hand_tb⟩) (by decide +kernel)
set_option maxRecDepth 100000 in
theorem hL_X8_day : GoodIn lw_tbl (wsV RL 60 RX8 yX8_day wsX8_day) := goodIn_sub (List.forall_mem_append.mpr ⟨(List.forall_mem_cons.mpr ⟨wd_263, (List.forall_mem_cons.mpr ⟨wd_262, (List.forall_mem_cons.mpr ⟨wd_261, (List.forall_mem_cons.mpr ⟨wd_110, (fun _ h => absurd h List.not_mem_nil)⟩)⟩)⟩)⟩), wsX8_day_tb⟩) (by decide +kernel)
set_option maxRecDepth 100000 in
theorem hL_X8_crown : GoodIn lw_tbl (wsV RL 64 RX8 yX8_crown wsX8_crown) := goodIn_sub (List.forall_mem_append.mpr ⟨(List.forall_mem_cons.mpr ⟨wd_281, (List.forall_mem_cons.mpr ⟨wd_280, (List.forall_mem_cons.mpr ⟨wd_279, (List.forall_mem_cons.mpr ⟨wd_110, (fun _ h => absurd h List.not_mem_nil)⟩)⟩)⟩)⟩), wsX8_crown_tb⟩) (by decide +kernel)
set_option maxRecDepth 100000 in
theorem hL_X8_noon : GoodIn lw_tbl (wsV RL 68 RX8 yX8_noon wsX8_noon) := goodIn_sub (List.forall_mem_append.mpr ⟨(List.forall_mem_cons.mpr ⟨wd_285, (List.forall_mem_cons.mpr ⟨wd_284, (List.forall_mem_cons.mpr ⟨wd_283, (List.forall_mem_cons.mpr ⟨wd_110, (fun _ h => absurd h List.not_mem_nil)⟩)⟩)⟩)⟩), wsX8_noon_tb⟩) (by decide +kernel)
set_option maxRecDepth 100000 in
theorem hL_X8_undo : GoodIn lw_tbl (wsV RL 72 RX8 yX8_undo wsX8_undo) := goodIn_sub (List.forall_mem_append.mpr ⟨(List.forall_mem_cons.mpr ⟨wd_301, (List.forall_mem_cons.mpr ⟨wd_300, (List.forall_mem_cons.mpr ⟨wd_299, (List.forall_mem_cons.mpr ⟨wd_110, (fun _ h => absurd h List.not_mem_nil)⟩)⟩)⟩)⟩), wsX8_undo_tb⟩) (by decide +kernel)
set_option maxRecDepth 100000 in
theorem hL_X8_sure : GoodIn lw_tbl (wsV RL 76 RX8 yX8_sure wsX8_sure) := goodIn_sub (List.forall_mem_append.mpr ⟨(List.forall_mem_cons.mpr ⟨wd_324, (List.forall_mem_cons.mpr ⟨wd_323, (List.forall_mem_cons.mpr ⟨wd_322, (List.forall_mem_cons.mpr ⟨wd_110, (fun _ h => absurd h List.not_mem_nil)⟩)⟩)⟩)⟩), wsX8_sure_tb⟩) (by decide +kernel)
set_option maxRecDepth 100000 in
theorem hL_X8_sureAt : GoodIn lw_tbl (wsV RL 81 RX8 yX8_sureAt wsX8_sureAt) := goodIn_sub (List.forall_mem_append.mpr ⟨(List.forall_mem_cons.mpr ⟨wd_328, (List.forall_mem_cons.mpr ⟨wd_327, (List.forall_mem_cons.mpr ⟨wd_326, (List.forall_mem_cons.mpr ⟨wd_110, (fun _ h => absurd h List.not_mem_nil)⟩)⟩)⟩)⟩), wsX8_sureAt_tb⟩) (by decide +kernel)
set_option maxRecDepth 100000 in
theorem hL_X8_feed : GoodIn lw_tbl (wsV RL 86 RX8 yX8_feed wsX8_feed) := goodIn_sub (List.forall_mem_append.mpr ⟨(List.forall_mem_cons.mpr ⟨wd_336, (List.forall_mem_cons.mpr ⟨wd_335, (List.forall_mem_cons.mpr ⟨wd_334, (List.forall_mem_cons.mpr ⟨wd_110, (fun _ h => absurd h List.not_mem_nil)⟩)⟩)⟩)⟩), wsX8_feed_tb⟩) (by decide +kernel)
set_option maxRecDepth 100000 in
theorem hL_X8_weigh : GoodIn lw_tbl (wsV RL 90 RX8 yX8_weigh wsX8_weigh) := goodIn_sub (List.forall_mem_append.mpr ⟨(List.forall_mem_cons.mpr ⟨wd_358, (List.forall_mem_cons.mpr ⟨wd_357, (List.forall_mem_cons.mpr ⟨wd_356, (List.forall_mem_cons.mpr ⟨wd_110, (fun _ h => absurd h List.not_mem_nil)⟩)⟩)⟩)⟩), wsX8_weigh_tb⟩) (by decide +kernel)
set_option maxRecDepth 100000 in
theorem hL_X8_unweigh : GoodIn lw_tbl (wsV RL 94 RX8 yX8_unweigh wsX8_unweigh) := goodIn_sub (List.forall_mem_append.mpr ⟨(List.forall_mem_cons.mpr ⟨wd_366, (List.forall_mem_cons.mpr ⟨wd_365, (List.forall_mem_cons.mpr ⟨wd_364, (List.forall_mem_cons.mpr ⟨wd_110, (fun _ h => absurd h List.not_mem_nil)⟩)⟩)⟩)⟩), wsX8_unweigh_tb⟩) (by decide +kernel)
set_option maxRecDepth 100000 in
theorem hL_X8_mayBe : GoodIn lw_tbl (wsV RL 98 RX8 yX8_mayBe wsX8_mayBe) := goodIn_sub (List.forall_mem_append.mpr ⟨(List.forall_mem_cons.mpr ⟨wd_378, (List.forall_mem_cons.mpr ⟨wd_377, (List.forall_mem_cons.mpr ⟨wd_376, (List.forall_mem_cons.mpr ⟨wd_110, (fun _ h => absurd h List.not_mem_nil)⟩)⟩)⟩)⟩), wsX8_mayBe_tb⟩) (by decide +kernel)
set_option maxRecDepth 100000 in
theorem hL_X8_search : GoodIn lw_tbl (wsV RL 103 RX8 yX8_search wsX8_search) := goodIn_sub (List.forall_mem_append.mpr ⟨(List.forall_mem_cons.mpr ⟨wd_390, (List.forall_mem_cons.mpr ⟨wd_389, (List.forall_mem_cons.mpr ⟨wd_388, (List.forall_mem_cons.mpr ⟨wd_110, (fun _ h => absurd h List.not_mem_nil)⟩)⟩)⟩)⟩), wsX8_search_tb⟩) (by decide +kernel)
set_option maxRecDepth 100000 in
theorem hL_X8_unsearch : GoodIn lw_tbl (wsV RL 107 RX8 yX8_unsearch wsX8_unsearch) := goodIn_sub (List.forall_mem_append.mpr ⟨(List.forall_mem_cons.mpr ⟨wd_398, (List.forall_mem_cons.mpr ⟨wd_397, (List.forall_mem_cons.mpr ⟨wd_396, (List.forall_mem_cons.mpr ⟨wd_110, (fun _ h => absurd h List.not_mem_nil)⟩)⟩)⟩)⟩), wsX8_unsearch_tb⟩) (by decide +kernel)
set_option maxRecDepth 100000 in
theorem hL_X8_rows : GoodIn lw_tbl (wsV RL 111 RX8 yX8_rows wsX8_rows) := goodIn_sub (List.forall_mem_append.mpr ⟨(List.forall_mem_cons.mpr ⟨wd_437, (List.forall_mem_cons.mpr ⟨wd_436, (List.forall_mem_cons.mpr ⟨wd_435, (List.forall_mem_cons.mpr ⟨wd_110, (fun _ h => absurd h List.not_mem_nil)⟩)⟩)⟩)⟩), wsX8_rows_tb⟩) (by decide +kernel)
set_option maxRecDepth 100000 in
theorem hL_X8_stones : GoodIn lw_tbl (wsV RL 115 RX8 yX8_stones wsX8_stones) := goodIn_sub (List.forall_mem_append.mpr ⟨(List.forall_mem_cons.mpr ⟨wd_449, (List.forall_mem_cons.mpr ⟨wd_448, (List.forall_mem_cons.mpr ⟨wd_447, (List.forall_mem_cons.mpr ⟨wd_110, (fun _ h => absurd h List.not_mem_nil)⟩)⟩)⟩)⟩), wsX8_stones_tb⟩) (by decide +kernel)
set_option maxRecDepth 100000 in
theorem hL_X8_ruled : GoodIn lw_tbl (wsV RL 120 RX8 yX8_ruled wsX8_ruled) := goodIn_sub (List.forall_mem_append.mpr ⟨(List.forall_mem_cons.mpr ⟨wd_461, (List.forall_mem_cons.mpr ⟨wd_460, (List.forall_mem_cons.mpr ⟨wd_459, (List.forall_mem_cons.mpr ⟨wd_110, (fun _ h => absurd h List.not_mem_nil)⟩)⟩)⟩)⟩), wsX8_ruled_tb⟩) (by decide +kernel)
set_option maxRecDepth 100000 in
theorem hL_X8_unrule : GoodIn lw_tbl (wsV RL 124 RX8 yX8_unrule wsX8_unrule) := goodIn_sub (List.forall_mem_append.mpr ⟨(List.forall_mem_cons.mpr ⟨wd_469, (List.forall_mem_cons.mpr ⟨wd_468, (List.forall_mem_cons.mpr ⟨wd_467, (List.forall_mem_cons.mpr ⟨wd_110, (fun _ h => absurd h List.not_mem_nil)⟩)⟩)⟩)⟩), wsX8_unrule_tb⟩) (by decide +kernel)
set_option maxRecDepth 100000 in
theorem hL_X8_line : GoodIn lw_tbl (wsV RL 128 RX8 yX8_line wsX8_line) := goodIn_sub (List.forall_mem_append.mpr ⟨(List.forall_mem_cons.mpr ⟨wd_501, (List.forall_mem_cons.mpr ⟨wd_500, (List.forall_mem_cons.mpr ⟨wd_499, (List.forall_mem_cons.mpr ⟨wd_110, (fun _ h => absurd h List.not_mem_nil)⟩)⟩)⟩)⟩), wsX8_line_tb⟩) (by decide +kernel)
set_option maxRecDepth 100000 in
theorem hL_X8_seed : GoodIn lw_tbl (wsV RL 133 RX8 yX8_seed wsX8_seed) := goodIn_sub (List.forall_mem_append.mpr ⟨(List.forall_mem_cons.mpr ⟨wd_509, (List.forall_mem_cons.mpr ⟨wd_508, (List.forall_mem_cons.mpr ⟨wd_507, (List.forall_mem_cons.mpr ⟨wd_110, (fun _ h => absurd h List.not_mem_nil)⟩)⟩)⟩)⟩), wsX8_seed_tb⟩) (by decide +kernel)
set_option maxRecDepth 100000 in
theorem hL_X8_reign : GoodIn lw_tbl (wsV RL 138 RX8 yX8_reign wsX8_reign) := goodIn_sub (List.forall_mem_append.mpr ⟨(List.forall_mem_cons.mpr ⟨wd_530, (List.forall_mem_cons.mpr ⟨wd_529, (List.forall_mem_cons.mpr ⟨wd_528, (List.forall_mem_cons.mpr ⟨wd_110, (fun _ h => absurd h List.not_mem_nil)⟩)⟩)⟩)⟩), wsX8_reign_tb⟩) (by decide +kernel)
set_option maxRecDepth 100000 in
theorem hL_X8_keep : GoodIn lw_tbl (wsV RL 142 RX8 yX8_keep wsX8_keep) := goodIn_sub (List.forall_mem_append.mpr ⟨(List.forall_mem_cons.mpr ⟨wd_543, (List.forall_mem_cons.mpr ⟨wd_542, (List.forall_mem_cons.mpr ⟨wd_541, (List.forall_mem_cons.mpr ⟨wd_110, (fun _ h => absurd h List.not_mem_nil)⟩)⟩)⟩)⟩), wsX8_keep_tb⟩) (by decide +kernel)
set_option maxRecDepth 100000 in
theorem hL_X8_again : GoodIn lw_tbl (wsV RL 146 RX8 yX8_again wsX8_again) := goodIn_sub (List.forall_mem_append.mpr ⟨(List.forall_mem_cons.mpr ⟨wd_557, (List.forall_mem_cons.mpr ⟨wd_556, (List.forall_mem_cons.mpr ⟨wd_555, (List.forall_mem_cons.mpr ⟨wd_110, (fun _ h => absurd h List.not_mem_nil)⟩)⟩)⟩)⟩), wsX8_again_tb⟩) (by decide +kernel)
set_option maxRecDepth 100000 in
theorem hL_X8_count : GoodIn lw_tbl (wsV RL 150 RX8 yX8_count wsX8_count) := goodIn_sub (List.forall_mem_append.mpr ⟨(List.forall_mem_cons.mpr ⟨wd_566, (List.forall_mem_cons.mpr ⟨wd_565, (List.forall_mem_cons.mpr ⟨wd_564, (List.forall_mem_cons.mpr ⟨wd_110, (fun _ h => absurd h List.not_mem_nil)⟩)⟩)⟩)⟩), wsX8_count_tb⟩) (by decide +kernel)
set_option maxRecDepth 100000 in
theorem hL_X9_init : GoodIn lw_tbl wsX9_init := goodIn_sub wsX9_init_tb (by decide +kernel)
set_option maxRecDepth 100000 in
theorem hL_X9_write : GoodIn lw_tbl (wsV RL 19 RX9 yX9_write wsX9_write) := goodIn_sub (List.forall_mem_append.mpr ⟨(List.forall_mem_cons.mpr ⟨wd_598, (List.forall_mem_cons.mpr ⟨wd_597, (List.forall_mem_cons.mpr ⟨wd_596, (List.forall_mem_cons.mpr ⟨wd_590, (fun _ h => absurd h List.not_mem_nil)⟩)⟩)⟩)⟩), wsX9_write_tb⟩) (by decide +kernel)
set_option maxRecDepth 100000 in
theorem hL_X9_wipe : GoodIn lw_tbl (wsV RL 24 RX9 yX9_wipe wsX9_wipe) := goodIn_sub (List.forall_mem_append.mpr ⟨(List.forall_mem_cons.mpr ⟨wd_602, (List.forall_mem_cons.mpr ⟨wd_601, (List.forall_mem_cons.mpr ⟨wd_600, (List.forall_mem_cons.mpr ⟨wd_590, (fun _ h => absurd h List.not_mem_nil)⟩)⟩)⟩)⟩), wsX9_wipe_tb⟩) (by decide +kernel)
set_option maxRecDepth 100000 in
theorem hL_X9_fault : GoodIn lw_tbl (wsV RL 28 RX9 yX9_fault wsX9_fault) := goodIn_sub (List.forall_mem_append.mpr ⟨(List.forall_mem_cons.mpr ⟨wd_620, (List.forall_mem_cons.mpr ⟨wd_619, (List.forall_mem_cons.mpr ⟨wd_618, (List.forall_mem_cons.mpr ⟨wd_590, (fun _ h => absurd h List.not_mem_nil)⟩)⟩)⟩)⟩), wsX9_fault_tb⟩) (by decide +kernel)
set_option maxRecDepth 100000 in
theorem hL_X9_land : GoodIn lw_tbl (wsV RL 32 RX9 yX9_land wsX9_land) := goodIn_sub (List.forall_mem_append.mpr ⟨(List.forall_mem_cons.mpr ⟨wd_628, (List.forall_mem_cons.mpr ⟨wd_627, (List.forall_mem_cons.mpr ⟨wd_626, (List.forall_mem_cons.mpr ⟨wd_590, (fun _ h => absurd h List.not_mem_nil)⟩)⟩)⟩)⟩), wsX9_land_tb⟩) (by decide +kernel)
set_option maxRecDepth 100000 in
theorem hL_X9_person : GoodIn lw_tbl (wsV RL 37 RX9 yX9_person wsX9_person) := goodIn_sub (List.forall_mem_append.mpr ⟨(List.forall_mem_cons.mpr ⟨wd_644, (List.forall_mem_cons.mpr ⟨wd_643, (List.forall_mem_cons.mpr ⟨wd_642, (List.forall_mem_cons.mpr ⟨wd_590, (fun _ h => absurd h List.not_mem_nil)⟩)⟩)⟩)⟩), wsX9_person_tb⟩) (by decide +kernel)
set_option maxRecDepth 100000 in
theorem hL_X9_law : GoodIn lw_tbl (wsV RL 42 RX9 yX9_law wsX9_law) := goodIn_sub (List.forall_mem_append.mpr ⟨(List.forall_mem_cons.mpr ⟨wd_649, (List.forall_mem_cons.mpr ⟨wd_648, (List.forall_mem_cons.mpr ⟨wd_647, (List.forall_mem_cons.mpr ⟨wd_590, (fun _ h => absurd h List.not_mem_nil)⟩)⟩)⟩)⟩), wsX9_law_tb⟩) (by decide +kernel)
set_option maxRecDepth 100000 in
theorem hL_X9_eat : GoodIn lw_tbl (wsV RL 46 RX9 yX9_eat wsX9_eat) := goodIn_sub (List.forall_mem_append.mpr ⟨(List.forall_mem_cons.mpr ⟨wd_659, (List.forall_mem_cons.mpr ⟨wd_658, (List.forall_mem_cons.mpr ⟨wd_657, (List.forall_mem_cons.mpr ⟨wd_590, (fun _ h => absurd h List.not_mem_nil)⟩)⟩)⟩)⟩), wsX9_eat_tb⟩) (by decide +kernel)
set_option maxRecDepth 100000 in
theorem hL_X9_toil : GoodIn lw_tbl (wsV RL 50 RX9 yX9_toil wsX9_toil) := goodIn_sub (List.forall_mem_append.mpr ⟨(List.forall_mem_cons.mpr ⟨wd_666, (List.forall_mem_cons.mpr ⟨wd_665, (List.forall_mem_cons.mpr ⟨wd_664, (List.forall_mem_cons.mpr ⟨wd_590, (fun _ h => absurd h List.not_mem_nil)⟩)⟩)⟩)⟩), wsX9_toil_tb⟩) (by decide +kernel)
set_option maxRecDepth 100000 in
theorem hL_X9_drink : GoodIn lw_tbl (wsV RL 54 RX9 yX9_drink wsX9_drink) := goodIn_sub (List.forall_mem_append.mpr ⟨(List.forall_mem_cons.mpr ⟨wd_670, (List.forall_mem_cons.mpr ⟨wd_669, (List.forall_mem_cons.mpr ⟨wd_668, (List.forall_mem_cons.mpr ⟨wd_590, (fun _ h => absurd h List.not_mem_nil)⟩)⟩)⟩)⟩), wsX9_drink_tb⟩) (by decide +kernel)
set_option maxRecDepth 100000 in
theorem hL_X9_hand : GoodIn lw_tbl (wsV RL 59 RX9 yX9_hand wsX9_hand) := goodIn_sub (List.forall_mem_append.mpr ⟨(List.forall_mem_cons.mpr ⟨wd_674, (List.forall_mem_cons.mpr ⟨wd_673, (List.forall_mem_cons.mpr ⟨wd_672, (List.forall_mem_cons.mpr ⟨wd_590, (fun _ h => absurd h List.not_mem_nil)⟩)⟩)⟩)⟩), wsX9_hand_tb⟩) (by decide +kernel)
set_option maxRecDepth 100000 in
theorem hL_X9_day : GoodIn lw_tbl (wsV RL 63 RX9 yX9_day wsX9_day) := goodIn_sub (List.forall_mem_append.mpr ⟨(List.forall_mem_cons.mpr ⟨wd_678, (List.forall_mem_cons.mpr ⟨wd_677, (List.forall_mem_cons.mpr ⟨wd_676, (List.forall_mem_cons.mpr ⟨wd_590, (fun _ h => absurd h List.not_mem_nil)⟩)⟩)⟩)⟩), wsX9_day_tb⟩) (by decide +kernel)
set_option maxRecDepth 100000 in
theorem hL_X9_crown : GoodIn lw_tbl (wsV RL 67 RX9 yX9_crown wsX9_crown) := goodIn_sub (List.forall_mem_append.mpr ⟨(List.forall_mem_cons.mpr ⟨wd_689, (List.forall_mem_cons.mpr ⟨wd_688, (List.forall_mem_cons.mpr ⟨wd_687, (List.forall_mem_cons.mpr ⟨wd_590, (fun _ h => absurd h List.not_mem_nil)⟩)⟩)⟩)⟩), wsX9_crown_tb⟩) (by decide +kernel)
set_option maxRecDepth 100000 in
theorem hL_X9_noon : GoodIn lw_tbl (wsV RL 71 RX9 yX9_noon wsX9_noon) := goodIn_sub (List.forall_mem_append.mpr ⟨(List.forall_mem_cons.mpr ⟨wd_693, (List.forall_mem_cons.mpr ⟨wd_692, (List.forall_mem_cons.mpr ⟨wd_691, (List.forall_mem_cons.mpr ⟨wd_590, (fun _ h => absurd h List.not_mem_nil)⟩)⟩)⟩)⟩), wsX9_noon_tb⟩) (by decide +kernel)
set_option maxRecDepth 100000 in
theorem hL_X9_undo : GoodIn lw_tbl (wsV RL 75 RX9 yX9_undo wsX9_undo) := goodIn_sub (List.forall_mem_append.mpr ⟨(List.forall_mem_cons.mpr ⟨wd_697, (List.forall_mem_cons.mpr ⟨wd_696, (List.forall_mem_cons.mpr ⟨wd_695, (List.forall_mem_cons.mpr ⟨wd_590, (fun _ h => absurd h List.not_mem_nil)⟩)⟩)⟩)⟩), wsX9_undo_tb⟩) (by decide +kernel)
set_option maxRecDepth 100000 in
theorem hL_X9_sure : GoodIn lw_tbl (wsV RL 80 RX9 yX9_sure wsX9_sure) := goodIn_sub (List.forall_mem_append.mpr ⟨(List.forall_mem_cons.mpr ⟨wd_713, (List.forall_mem_cons.mpr ⟨wd_712, (List.forall_mem_cons.mpr ⟨wd_711, (List.forall_mem_cons.mpr ⟨wd_590, (fun _ h => absurd h List.not_mem_nil)⟩)⟩)⟩)⟩), wsX9_sure_tb⟩) (by decide +kernel)
set_option maxRecDepth 100000 in
theorem hL_X9_sureAt : GoodIn lw_tbl (wsV RL 85 RX9 yX9_sureAt wsX9_sureAt) := goodIn_sub (List.forall_mem_append.mpr ⟨(List.forall_mem_cons.mpr ⟨wd_717, (List.forall_mem_cons.mpr ⟨wd_716, (List.forall_mem_cons.mpr ⟨wd_715, (List.forall_mem_cons.mpr ⟨wd_590, (fun _ h => absurd h List.not_mem_nil)⟩)⟩)⟩)⟩), wsX9_sureAt_tb⟩) (by decide +kernel)
set_option maxRecDepth 100000 in
theorem hL_X9_feed : GoodIn lw_tbl (wsV RL 89 RX9 yX9_feed wsX9_feed) := goodIn_sub (List.forall_mem_append.mpr ⟨(List.forall_mem_cons.mpr ⟨wd_721, (List.forall_mem_cons.mpr ⟨wd_720, (List.forall_mem_cons.mpr ⟨wd_719, (List.forall_mem_cons.mpr ⟨wd_590, (fun _ h => absurd h List.not_mem_nil)⟩)⟩)⟩)⟩), wsX9_feed_tb⟩) (by decide +kernel)
set_option maxRecDepth 100000 in
theorem hL_X9_weigh : GoodIn lw_tbl (wsV RL 93 RX9 yX9_weigh wsX9_weigh) := goodIn_sub (List.forall_mem_append.mpr ⟨(List.forall_mem_cons.mpr ⟨wd_730, (List.forall_mem_cons.mpr ⟨wd_729, (List.forall_mem_cons.mpr ⟨wd_728, (List.forall_mem_cons.mpr ⟨wd_590, (fun _ h => absurd h List.not_mem_nil)⟩)⟩)⟩)⟩), wsX9_weigh_tb⟩) (by decide +kernel)
set_option maxRecDepth 100000 in
theorem hL_X9_unweigh : GoodIn lw_tbl (wsV RL 97 RX9 yX9_unweigh wsX9_unweigh) := goodIn_sub (List.forall_mem_append.mpr ⟨(List.forall_mem_cons.mpr ⟨wd_734, (List.forall_mem_cons.mpr ⟨wd_733, (List.forall_mem_cons.mpr ⟨wd_732, (List.forall_mem_cons.mpr ⟨wd_590, (fun _ h => absurd h List.not_mem_nil)⟩)⟩)⟩)⟩), wsX9_unweigh_tb⟩) (by decide +kernel)
set_option maxRecDepth 100000 in
theorem hL_X9_mayBe : GoodIn lw_tbl (wsV RL 102 RX9 yX9_mayBe wsX9_mayBe) := goodIn_sub (List.forall_mem_append.mpr ⟨(List.forall_mem_cons.mpr ⟨wd_738, (List.forall_mem_cons.mpr ⟨wd_737, (List.forall_mem_cons.mpr ⟨wd_736, (List.forall_mem_cons.mpr ⟨wd_590, (fun _ h => absurd h List.not_mem_nil)⟩)⟩)⟩)⟩), wsX9_mayBe_tb⟩) (by decide +kernel)
set_option maxRecDepth 100000 in
theorem hL_X9_search : GoodIn lw_tbl (wsV RL 106 RX9 yX9_search wsX9_search) := goodIn_sub (List.forall_mem_append.mpr ⟨(List.forall_mem_cons.mpr ⟨wd_745, (List.forall_mem_cons.mpr ⟨wd_744, (List.forall_mem_cons.mpr ⟨wd_743, (List.forall_mem_cons.mpr ⟨wd_590, (fun _ h => absurd h List.not_mem_nil)⟩)⟩)⟩)⟩), wsX9_search_tb⟩) (by decide +kernel)
set_option maxRecDepth 100000 in
theorem hL_X9_unsearch : GoodIn lw_tbl (wsV RL 110 RX9 yX9_unsearch wsX9_unsearch) := goodIn_sub (List.forall_mem_append.mpr ⟨(List.forall_mem_cons.mpr ⟨wd_749, (List.forall_mem_cons.mpr ⟨wd_748, (List.forall_mem_cons.mpr ⟨wd_747, (List.forall_mem_cons.mpr ⟨wd_590, (fun _ h => absurd h List.not_mem_nil)⟩)⟩)⟩)⟩), wsX9_unsearch_tb⟩) (by decide +kernel)
set_option maxRecDepth 100000 in
theorem hL_X9_rows : GoodIn lw_tbl (wsV RL 114 RX9 yX9_rows wsX9_rows) := goodIn_sub (List.forall_mem_append.mpr ⟨(List.forall_mem_cons.mpr ⟨wd_765, (List.forall_mem_cons.mpr ⟨wd_764, (List.forall_mem_cons.mpr ⟨wd_763, (List.forall_mem_cons.mpr ⟨wd_590, (fun _ h => absurd h List.not_mem_nil)⟩)⟩)⟩)⟩), wsX9_rows_tb⟩) (by decide +kernel)
set_option maxRecDepth 100000 in
theorem hL_X9_stones : GoodIn lw_tbl (wsV RL 119 RX9 yX9_stones wsX9_stones) := goodIn_sub (List.forall_mem_append.mpr ⟨(List.forall_mem_cons.mpr ⟨wd_770, (List.forall_mem_cons.mpr ⟨wd_769, (List.forall_mem_cons.mpr ⟨wd_768, (List.forall_mem_cons.mpr ⟨wd_590, (fun _ h => absurd h List.not_mem_nil)⟩)⟩)⟩)⟩), wsX9_stones_tb⟩) (by decide +kernel)
set_option maxRecDepth 100000 in
theorem hL_X9_ruled : GoodIn lw_tbl (wsV RL 123 RX9 yX9_ruled wsX9_ruled) := goodIn_sub (List.forall_mem_append.mpr ⟨(List.forall_mem_cons.mpr ⟨wd_775, (List.forall_mem_cons.mpr ⟨wd_774, (List.forall_mem_cons.mpr ⟨wd_773, (List.forall_mem_cons.mpr ⟨wd_590, (fun _ h => absurd h List.not_mem_nil)⟩)⟩)⟩)⟩), wsX9_ruled_tb⟩) (by decide +kernel)
set_option maxRecDepth 100000 in
theorem hL_X9_unrule : GoodIn lw_tbl (wsV RL 127 RX9 yX9_unrule wsX9_unrule) := goodIn_sub (List.forall_mem_append.mpr ⟨(List.forall_mem_cons.mpr ⟨wd_779, (List.forall_mem_cons.mpr ⟨wd_778, (List.forall_mem_cons.mpr ⟨wd_777, (List.forall_mem_cons.mpr ⟨wd_590, (fun _ h => absurd h List.not_mem_nil)⟩)⟩)⟩)⟩), wsX9_unrule_tb⟩) (by decide +kernel)
set_option maxRecDepth 100000 in
theorem hL_X9_line : GoodIn lw_tbl (wsV RL 132 RX9 yX9_line wsX9_line) := goodIn_sub (List.forall_mem_append.mpr ⟨(List.forall_mem_cons.mpr ⟨wd_796, (List.forall_mem_cons.mpr ⟨wd_795, (List.forall_mem_cons.mpr ⟨wd_794, (List.forall_mem_cons.mpr ⟨wd_590, (fun _ h => absurd h List.not_mem_nil)⟩)⟩)⟩)⟩), wsX9_line_tb⟩) (by decide +kernel)
set_option maxRecDepth 100000 in
theorem hL_X9_seed : GoodIn lw_tbl (wsV RL 137 RX9 yX9_seed wsX9_seed) := goodIn_sub (List.forall_mem_append.mpr ⟨(List.forall_mem_cons.mpr ⟨wd_801, (List.forall_mem_cons.mpr ⟨wd_800, (List.forall_mem_cons.mpr ⟨wd_799, (List.forall_mem_cons.mpr ⟨wd_590, (fun _ h => absurd h List.not_mem_nil)⟩)⟩)⟩)⟩), wsX9_seed_tb⟩) (by decide +kernel)
set_option maxRecDepth 100000 in
theorem hL_X9_reign : GoodIn lw_tbl (wsV RL 141 RX9 yX9_reign wsX9_reign) := goodIn_sub (List.forall_mem_append.mpr ⟨(List.forall_mem_cons.mpr ⟨wd_808, (List.forall_mem_cons.mpr ⟨wd_807, (List.forall_mem_cons.mpr ⟨wd_806, (List.forall_mem_cons.mpr ⟨wd_590, (fun _ h => absurd h List.not_mem_nil)⟩)⟩)⟩)⟩), wsX9_reign_tb⟩) (by decide +kernel)
set_option maxRecDepth 100000 in
theorem hL_X9_keep : GoodIn lw_tbl (wsV RL 145 RX9 yX9_keep wsX9_keep) := goodIn_sub (List.forall_mem_append.mpr ⟨(List.forall_mem_cons.mpr ⟨wd_812, (List.forall_mem_cons.mpr ⟨wd_811, (List.forall_mem_cons.mpr ⟨wd_810, (List.forall_mem_cons.mpr ⟨wd_590, (fun _ h => absurd h List.not_mem_nil)⟩)⟩)⟩)⟩), wsX9_keep_tb⟩) (by decide +kernel)
set_option maxRecDepth 100000 in
theorem hL_X9_again : GoodIn lw_tbl (wsV RL 149 RX9 yX9_again wsX9_again) := goodIn_sub (List.forall_mem_append.mpr ⟨(List.forall_mem_cons.mpr ⟨wd_816, (List.forall_mem_cons.mpr ⟨wd_815, (List.forall_mem_cons.mpr ⟨wd_814, (List.forall_mem_cons.mpr ⟨wd_590, (fun _ h => absurd h List.not_mem_nil)⟩)⟩)⟩)⟩), wsX9_again_tb⟩) (by decide +kernel)
set_option maxRecDepth 100000 in
theorem hL_X9_count : GoodIn lw_tbl (wsV RL 153 RX9 yX9_count wsX9_count) := goodIn_sub (List.forall_mem_append.mpr ⟨(List.forall_mem_cons.mpr ⟨wd_820, (List.forall_mem_cons.mpr ⟨wd_819, (List.forall_mem_cons.mpr ⟨wd_818, (List.forall_mem_cons.mpr ⟨wd_590, (fun _ h => absurd h List.not_mem_nil)⟩)⟩)⟩)⟩), wsX9_count_tb⟩) (by decide +kernel)
