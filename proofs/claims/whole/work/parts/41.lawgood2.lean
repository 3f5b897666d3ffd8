set_option maxRecDepth 40000 in
theorem gM_X9_house : GoodIn lw_tbl (wsV RL 13 RX9 yX9_house wsX9_house) := goodIn_app (goodIn_r _ [335, 336, 337, 33] (by decide +kernel) (by decide +kernel)) (goodIn_tr gT_law ggL_law_X9_house)
set_option maxRecDepth 40000 in
theorem gM_X10_house : GoodIn lw_tbl (wsV RL 17 RX10 yX10_house wsX10_house) := goodIn_app (goodIn_r _ [863, 864, 865, 44] (by decide +kernel) (by decide +kernel)) (goodIn_tr gT_law ggL_law_X10_house)
set_option maxRecDepth 40000 in
theorem gM_X9_isOf : GoodIn lw_tbl (wsV RL 18 RX9 yX9_isOf wsX9_isOf) := goodIn_app (goodIn_r _ [348, 349, 350, 33] (by decide +kernel) (by decide +kernel)) (goodIn_tr gT_law ggL_law_X9_isOf)
set_option maxRecDepth 40000 in
theorem gM_X10_isOf : GoodIn lw_tbl (wsV RL 21 RX10 yX10_isOf wsX10_isOf) := goodIn_app (goodIn_r _ [872, 873, 874, 44] (by decide +kernel) (by decide +kernel)) (goodIn_tr gT_law ggL_law_X10_isOf)
set_option maxRecDepth 40000 in
theorem gM_X9_way : GoodIn lw_tbl (wsV RL 22 RX9 yX9_way wsX9_way) := goodIn_app (goodIn_r _ [360, 361, 362, 33] (by decide +kernel) (by decide +kernel)) (goodIn_tr gT_law ggL_law_X9_way)
set_option maxRecDepth 40000 in
theorem gM_X10_way : GoodIn lw_tbl (wsV RL 26 RX10 yX10_way wsX10_way) := goodIn_app (goodIn_r _ [884, 885, 886, 44] (by decide +kernel) (by decide +kernel)) (goodIn_tr gT_law ggL_law_X10_way)
set_option maxRecDepth 40000 in
theorem gM_X9_slack : GoodIn lw_tbl (wsV RL 27 RX9 yX9_slack wsX9_slack) := goodIn_app (goodIn_r _ [377, 378, 379, 33] (by decide +kernel) (by decide +kernel)) (goodIn_tr gT_law ggL_law_X9_slack)
set_option maxRecDepth 40000 in
theorem gM_X10_slack : GoodIn lw_tbl (wsV RL 30 RX10 yX10_slack wsX10_slack) := goodIn_app (goodIn_r _ [888, 889, 890, 44] (by decide +kernel) (by decide +kernel)) (goodIn_tr gT_law ggL_law_X10_slack)
set_option maxRecDepth 40000 in
theorem gM_X9_reel : GoodIn lw_tbl (wsV RL 31 RX9 yX9_reel wsX9_reel) := goodIn_app (goodIn_r _ [381, 382, 383, 33] (by decide +kernel) (by decide +kernel)) (goodIn_tr gT_law ggL_law_X9_reel)
set_option maxRecDepth 40000 in
theorem gM_X10_reel : GoodIn lw_tbl (wsV RL 35 RX10 yX10_reel wsX10_reel) := goodIn_app (goodIn_r _ [892, 893, 894, 44] (by decide +kernel) (by decide +kernel)) (goodIn_tr gT_law ggL_law_X10_reel)
set_option maxRecDepth 40000 in
theorem gM_X9_mend : GoodIn lw_tbl (wsV RL 36 RX9 yX9_mend wsX9_mend) := goodIn_app (goodIn_r _ [393, 394, 395, 33] (by decide +kernel) (by decide +kernel)) (goodIn_tr gT_law ggL_law_X9_mend)
set_option maxRecDepth 40000 in
theorem gM_X10_mend : GoodIn lw_tbl (wsV RL 39 RX10 yX10_mend wsX10_mend) := goodIn_app (goodIn_r _ [896, 897, 898, 44] (by decide +kernel) (by decide +kernel)) (goodIn_tr gT_law ggL_law_X10_mend)
set_option maxRecDepth 40000 in
theorem gM_X9_told : GoodIn lw_tbl (wsV RL 40 RX9 yX9_told wsX9_told) := goodIn_app (goodIn_r _ [408, 409, 410, 33] (by decide +kernel) (by decide +kernel)) (goodIn_tr gT_law ggL_law_X9_told)
set_option maxRecDepth 40000 in
theorem gM_X10_told : GoodIn lw_tbl (wsV RL 43 RX10 yX10_told wsX10_told) := goodIn_app (goodIn_r _ [904, 905, 906, 44] (by decide +kernel) (by decide +kernel)) (goodIn_tr gT_law ggL_law_X10_told)
set_option maxRecDepth 40000 in
theorem gM_X9_order : GoodIn lw_tbl (wsV RL 44 RX9 yX9_order wsX9_order) := goodIn_app (goodIn_r _ [416, 417, 418, 33] (by decide +kernel) (by decide +kernel)) (goodIn_tr gT_law ggL_law_X9_order)
set_option maxRecDepth 40000 in
theorem gM_X10_order : GoodIn lw_tbl (wsV RL 47 RX10 yX10_order wsX10_order) := goodIn_app (goodIn_r _ [912, 913, 914, 44] (by decide +kernel) (by decide +kernel)) (goodIn_tr gT_law ggL_law_X10_order)
set_option maxRecDepth 40000 in
theorem gM_X9_start : GoodIn lw_tbl (wsV RL 48 RX9 yX9_start wsX9_start) := goodIn_app (goodIn_r _ [431, 432, 433, 33] (by decide +kernel) (by decide +kernel)) (goodIn_tr gT_law ggL_law_X9_start)
set_option maxRecDepth 40000 in
theorem gM_X10_start : GoodIn lw_tbl (wsV RL 51 RX10 yX10_start wsX10_start) := goodIn_app (goodIn_r _ [917, 918, 919, 44] (by decide +kernel) (by decide +kernel)) (goodIn_tr gT_law ggL_law_X10_start)
set_option maxRecDepth 40000 in
theorem gM_X9_ride : GoodIn lw_tbl (wsV RL 52 RX9 yX9_ride wsX9_ride) := goodIn_app (goodIn_r _ [453, 454, 455, 33] (by decide +kernel) (by decide +kernel)) (goodIn_tr gT_law ggL_law_X9_ride)
set_option maxRecDepth 40000 in
theorem gM_X10_ride : GoodIn lw_tbl (wsV RL 55 RX10 yX10_ride wsX10_ride) := goodIn_app (goodIn_r _ [937, 938, 939, 44] (by decide +kernel) (by decide +kernel)) (goodIn_tr gT_law ggL_law_X10_ride)
set_option maxRecDepth 40000 in
theorem gM_X9_riders : GoodIn lw_tbl (wsV RL 56 RX9 yX9_riders wsX9_riders) := goodIn_app (goodIn_r _ [480, 481, 482, 33] (by decide +kernel) (by decide +kernel)) (goodIn_tr gT_law ggL_law_X9_riders)
set_option maxRecDepth 40000 in
theorem gM_X10_riders : GoodIn lw_tbl (wsV RL 60 RX10 yX10_riders wsX10_riders) := goodIn_app (goodIn_r _ [961, 962, 963, 44] (by decide +kernel) (by decide +kernel)) (goodIn_tr gT_law ggL_law_X10_riders)
set_option maxRecDepth 40000 in
theorem gM_X9_late : GoodIn lw_tbl (wsV RL 61 RX9 yX9_late wsX9_late) := goodIn_app (goodIn_r _ [497, 498, 499, 33] (by decide +kernel) (by decide +kernel)) (goodIn_tr gT_law ggL_law_X9_late)
set_option maxRecDepth 40000 in
theorem gM_X10_late : GoodIn lw_tbl (wsV RL 64 RX10 yX10_late wsX10_late) := goodIn_app (goodIn_r _ [973, 974, 975, 44] (by decide +kernel) (by decide +kernel)) (goodIn_tr gT_law ggL_law_X10_late)
set_option maxRecDepth 40000 in
theorem gM_X9_begins : GoodIn lw_tbl (wsV RL 65 RX9 yX9_begins wsX9_begins) := goodIn_app (goodIn_r _ [501, 502, 503, 33] (by decide +kernel) (by decide +kernel)) (goodIn_tr gT_law ggL_law_X9_begins)
set_option maxRecDepth 40000 in
theorem gM_X10_begins : GoodIn lw_tbl (wsV RL 68 RX10 yX10_begins wsX10_begins) := goodIn_app (goodIn_r _ [977, 978, 979, 44] (by decide +kernel) (by decide +kernel)) (goodIn_tr gT_law ggL_law_X10_begins)
set_option maxRecDepth 40000 in
theorem gM_X9_waited : GoodIn lw_tbl (wsV RL 69 RX9 yX9_waited wsX9_waited) := goodIn_app (goodIn_r _ [535, 536, 537, 33] (by decide +kernel) (by decide +kernel)) (goodIn_tr gT_law ggL_law_X9_waited)
set_option maxRecDepth 40000 in
theorem gM_X10_waited : GoodIn lw_tbl (wsV RL 72 RX10 yX10_waited wsX10_waited) := goodIn_app (goodIn_r _ [985, 986, 987, 44] (by decide +kernel) (by decide +kernel)) (goodIn_tr gT_law ggL_law_X10_waited)
set_option maxRecDepth 40000 in
theorem gM_X9_cause : GoodIn lw_tbl (wsV RL 73 RX9 yX9_cause wsX9_cause) := goodIn_app (goodIn_r _ [543, 544, 545, 33] (by decide +kernel) (by decide +kernel)) (goodIn_tr gT_law ggL_law_X9_cause)
set_option maxRecDepth 40000 in
theorem gM_X10_cause : GoodIn lw_tbl (wsV RL 76 RX10 yX10_cause wsX10_cause) := goodIn_app (goodIn_r _ [989, 990, 991, 44] (by decide +kernel) (by decide +kernel)) (goodIn_tr gT_law ggL_law_X10_cause)
set_option maxRecDepth 40000 in
theorem gM_X9_where : GoodIn lw_tbl (wsV RL 77 RX9 yX9_where wsX9_where) := goodIn_app (goodIn_r _ [547, 548, 549, 33] (by decide +kernel) (by decide +kernel)) (goodIn_tr gT_law ggL_law_X9_where)
set_option maxRecDepth 40000 in
theorem gM_X10_where : GoodIn lw_tbl (wsV RL 80 RX10 yX10_where wsX10_where) := goodIn_app (goodIn_r _ [998, 999, 1000, 44] (by decide +kernel) (by decide +kernel)) (goodIn_tr gT_law ggL_law_X10_where)
set_option maxRecDepth 40000 in
theorem gM_X9_film : GoodIn lw_tbl (wsV RL 81 RX9 yX9_film wsX9_film) := goodIn_app (goodIn_r _ [556, 557, 558, 33] (by decide +kernel) (by decide +kernel)) (goodIn_tr gT_law ggL_law_X9_film)
set_option maxRecDepth 40000 in
theorem gM_X10_film : GoodIn lw_tbl (wsV RL 84 RX10 yX10_film wsX10_film) := goodIn_app (goodIn_r _ [1002, 1003, 1004, 44] (by decide +kernel) (by decide +kernel)) (goodIn_tr gT_law ggL_law_X10_film)
set_option maxRecDepth 40000 in
theorem gM_X9_worth : GoodIn lw_tbl (wsV RL 85 RX9 yX9_worth wsX9_worth) := goodIn_app (goodIn_r _ [564, 565, 566, 33] (by decide +kernel) (by decide +kernel)) (goodIn_tr gT_law ggL_law_X9_worth)
set_option maxRecDepth 40000 in
theorem gM_X10_worth : GoodIn lw_tbl (wsV RL 88 RX10 yX10_worth wsX10_worth) := goodIn_app (goodIn_r _ [1006, 1007, 1008, 44] (by decide +kernel) (by decide +kernel)) (goodIn_tr gT_law ggL_law_X10_worth)
set_option maxRecDepth 40000 in
theorem gM_X9_bar : GoodIn lw_tbl (wsV RL 89 RX9 yX9_bar wsX9_bar) := goodIn_app (goodIn_r _ [575, 576, 577, 33] (by decide +kernel) (by decide +kernel)) (goodIn_tr gT_law ggL_law_X9_bar)
set_option maxRecDepth 40000 in
theorem gM_X10_bar : GoodIn lw_tbl (wsV RL 92 RX10 yX10_bar wsX10_bar) := goodIn_app (goodIn_r _ [1014, 1015, 1016, 44] (by decide +kernel) (by decide +kernel)) (goodIn_tr gT_law ggL_law_X10_bar)
set_option maxRecDepth 40000 in
theorem gM_X9_pin : GoodIn lw_tbl (wsV RL 93 RX9 yX9_pin wsX9_pin) := goodIn_app (goodIn_r _ [579, 580, 581, 33] (by decide +kernel) (by decide +kernel)) (goodIn_tr gT_law ggL_law_X9_pin)
set_option maxRecDepth 40000 in
theorem gM_X10_pin : GoodIn lw_tbl (wsV RL 96 RX10 yX10_pin wsX10_pin) := goodIn_app (goodIn_r _ [1018, 1019, 1020, 44] (by decide +kernel) (by decide +kernel)) (goodIn_tr gT_law ggL_law_X10_pin)
set_option maxRecDepth 40000 in
theorem gM_X9_plan : GoodIn lw_tbl (wsV RL 97 RX9 yX9_plan wsX9_plan) := goodIn_app (goodIn_r _ [589, 590, 591, 33] (by decide +kernel) (by decide +kernel)) (goodIn_tr gT_law ggL_law_X9_plan)
set_option maxRecDepth 40000 in
theorem gM_X10_plan : GoodIn lw_tbl (wsV RL 100 RX10 yX10_plan wsX10_plan) := goodIn_app (goodIn_r _ [1025, 1026, 1027, 44] (by decide +kernel) (by decide +kernel)) (goodIn_tr gT_law ggL_law_X10_plan)
set_option maxRecDepth 40000 in
theorem gM_X9_planned : GoodIn lw_tbl (wsV RL 101 RX9 yX9_planned wsX9_planned) := goodIn_app (goodIn_r _ [634, 635, 636, 33] (by decide +kernel) (by decide +kernel)) (goodIn_tr gT_law ggL_law_X9_planned)
set_option maxRecDepth 40000 in
theorem gM_X10_planned : GoodIn lw_tbl (wsV RL 104 RX10 yX10_planned wsX10_planned) := goodIn_app (goodIn_r _ [1042, 1043, 1044, 44] (by decide +kernel) (by decide +kernel)) (goodIn_tr gT_law ggL_law_X10_planned)
set_option maxRecDepth 40000 in
theorem gM_X9_rule : GoodIn lw_tbl (wsV RL 105 RX9 yX9_rule wsX9_rule) := goodIn_app (goodIn_r _ [638, 639, 640, 33] (by decide +kernel) (by decide +kernel)) (goodIn_tr gT_law ggL_law_X9_rule)
set_option maxRecDepth 40000 in
theorem gM_X10_rule : GoodIn lw_tbl (wsV RL 108 RX10 yX10_rule wsX10_rule) := goodIn_app (goodIn_r _ [1046, 1047, 1048, 44] (by decide +kernel) (by decide +kernel)) (goodIn_tr gT_law ggL_law_X10_rule)
set_option maxRecDepth 40000 in
theorem gM_X9_least : GoodIn lw_tbl (wsV RL 109 RX9 yX9_least wsX9_least) := goodIn_app (goodIn_r _ [647, 648, 649, 33] (by decide +kernel) (by decide +kernel)) (goodIn_tr gT_law ggL_law_X9_least)
set_option maxRecDepth 40000 in
theorem gM_X10_least : GoodIn lw_tbl (wsV RL 112 RX10 yX10_least wsX10_least) := goodIn_app (goodIn_r _ [1050, 1051, 1052, 44] (by decide +kernel) (by decide +kernel)) (goodIn_tr gT_law ggL_law_X10_least)
set_option maxRecDepth 40000 in
theorem gM_X9_share : GoodIn lw_tbl (wsV RL 113 RX9 yX9_share wsX9_share) := goodIn_app (goodIn_r _ [651, 652, 653, 33] (by decide +kernel) (by decide +kernel)) (goodIn_tr gT_law ggL_law_X9_share)
set_option maxRecDepth 40000 in
theorem gM_X10_share : GoodIn lw_tbl (wsV RL 116 RX10 yX10_share wsX10_share) := goodIn_app (goodIn_r _ [1054, 1055, 1056, 44] (by decide +kernel) (by decide +kernel)) (goodIn_tr gT_law ggL_law_X10_share)
set_option maxRecDepth 40000 in
theorem gM_X9_shares : GoodIn lw_tbl (wsV RL 117 RX9 yX9_shares wsX9_shares) := goodIn_app (goodIn_r _ [662, 663, 664, 33] (by decide +kernel) (by decide +kernel)) (goodIn_tr gT_law ggL_law_X9_shares)
set_option maxRecDepth 40000 in
theorem gM_X10_shares : GoodIn lw_tbl (wsV RL 120 RX10 yX10_shares wsX10_shares) := goodIn_app (goodIn_r _ [1062, 1063, 1064, 44] (by decide +kernel) (by decide +kernel)) (goodIn_tr gT_law ggL_law_X10_shares)
set_option maxRecDepth 40000 in
theorem gM_X9_checked : GoodIn lw_tbl (wsV RL 121 RX9 yX9_checked wsX9_checked) := goodIn_app (goodIn_r _ [685, 686, 687, 33] (by decide +kernel) (by decide +kernel)) (goodIn_tr gT_law ggL_law_X9_checked)
set_option maxRecDepth 40000 in
theorem gM_X10_checked : GoodIn lw_tbl (wsV RL 124 RX10 yX10_checked wsX10_checked) := goodIn_app (goodIn_r _ [1067, 1068, 1069, 44] (by decide +kernel) (by decide +kernel)) (goodIn_tr gT_law ggL_law_X10_checked)
set_option maxRecDepth 40000 in
theorem gM_X9_sheet : GoodIn lw_tbl (wsV RL 125 RX9 yX9_sheet wsX9_sheet) := goodIn_app (goodIn_r _ [695, 696, 697, 33] (by decide +kernel) (by decide +kernel)) (goodIn_tr gT_law ggL_law_X9_sheet)
set_option maxRecDepth 40000 in
theorem gM_X10_sheet : GoodIn lw_tbl (wsV RL 128 RX10 yX10_sheet wsX10_sheet) := goodIn_app (goodIn_r _ [1073, 1074, 1075, 44] (by decide +kernel) (by decide +kernel)) (goodIn_tr gT_law ggL_law_X10_sheet)
set_option maxRecDepth 40000 in
theorem gM_X9_mark : GoodIn lw_tbl (wsV RL 129 RX9 yX9_mark wsX9_mark) := goodIn_app (goodIn_r _ [710, 711, 712, 33] (by decide +kernel) (by decide +kernel)) (goodIn_tr gT_law ggL_law_X9_mark)
set_option maxRecDepth 40000 in
theorem gM_X10_mark : GoodIn lw_tbl (wsV RL 132 RX10 yX10_mark wsX10_mark) := goodIn_app (goodIn_r _ [1081, 1082, 1083, 44] (by decide +kernel) (by decide +kernel)) (goodIn_tr gT_law ggL_law_X10_mark)
set_option maxRecDepth 40000 in
theorem gM_X9_copy : GoodIn lw_tbl (wsV RL 133 RX9 yX9_copy wsX9_copy) := goodIn_app (goodIn_r _ [720, 721, 722, 33] (by decide +kernel) (by decide +kernel)) (goodIn_tr gT_law ggL_law_X9_copy)
set_option maxRecDepth 40000 in
theorem gM_X10_copy : GoodIn lw_tbl (wsV RL 137 RX10 yX10_copy wsX10_copy) := goodIn_app (goodIn_r _ [1086, 1087, 1088, 44] (by decide +kernel) (by decide +kernel)) (goodIn_tr gT_law ggL_law_X10_copy)
set_option maxRecDepth 40000 in
theorem gM_X9_count : GoodIn lw_tbl (wsV RL 138 RX9 yX9_count wsX9_count) := goodIn_app (goodIn_r _ [730, 731, 732, 33] (by decide +kernel) (by decide +kernel)) (goodIn_tr gT_law ggL_law_X9_count)
set_option maxRecDepth 40000 in
theorem gM_X10_count : GoodIn lw_tbl (wsV RL 141 RX10 yX10_count wsX10_count) := goodIn_app (goodIn_r _ [1090, 1091, 1092, 44] (by decide +kernel) (by decide +kernel)) (goodIn_tr gT_law ggL_law_X10_count)
