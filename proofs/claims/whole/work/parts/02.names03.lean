set_option maxRecDepth 20000 in
theorem ggX9_worth_X9_within : GoodIn wsX9_worth wsX9_within := goodIn_r _ [19] (by decide +kernel) (by decide +kernel)
set_option maxRecDepth 20000 in
theorem gX9_worth_X9_within : GoodIn wsX9_worth (va_wsS RX9 48 yX9_within wsX9_within) := goodIn_app (goodIn_of _ (by decide +kernel)) ggX9_worth_X9_within
set_option maxRecDepth 20000 in
theorem ggX9_worth_X0_cell : GoodIn wsX9_worth wsX0_cell := goodIn_r _ [22] (by decide +kernel) (by decide +kernel)
set_option maxRecDepth 20000 in
theorem gX9_worth_X0_cell : GoodIn wsX9_worth (va_wsS RX9 178 yX0_cell wsX0_cell) := goodIn_app (goodIn_of _ (by decide +kernel)) ggX9_worth_X0_cell
theorem dX9_worth_0 : decode cX9_worth 0 = .ok (.aload_n 0, 1) := by decide +kernel
theorem dX9_worth_1 : decode cX9_worth 1 = .ok (.getfield 37, 3) := by decide +kernel
theorem dX9_worth_4 : decode cX9_worth 4 = .ok (.iload_n 1, 1) := by decide +kernel
theorem dX9_worth_5 : decode cX9_worth 5 = .ok (.invokevirtual 175, 3) := by decide +kernel
theorem dX9_worth_8 : decode cX9_worth 8 = .ok (.ifCond .eq 25, 3) := by decide +kernel
theorem dX9_worth_11 : decode cX9_worth 11 = .ok (.aload_n 0, 1) := by decide +kernel
theorem dX9_worth_12 : decode cX9_worth 12 = .ok (.getfield 12, 3) := by decide +kernel
theorem dX9_worth_15 : decode cX9_worth 15 = .ok (.iload_n 2, 1) := by decide +kernel
theorem dX9_worth_16 : decode cX9_worth 16 = .ok (.invokevirtual 62, 3) := by decide +kernel
theorem dX9_worth_19 : decode cX9_worth 19 = .ok (.ifCond .eq 14, 3) := by decide +kernel
theorem dX9_worth_22 : decode cX9_worth 22 = .ok (.iload_n 3, 1) := by decide +kernel
theorem dX9_worth_23 : decode cX9_worth 23 = .ok (.iconst 0, 1) := by decide +kernel
theorem dX9_worth_24 : decode cX9_worth 24 = .ok (.sipush 999, 3) := by decide +kernel
theorem dX9_worth_27 : decode cX9_worth 27 = .ok (.invokestatic 48, 3) := by decide +kernel
theorem dX9_worth_30 : decode cX9_worth 30 = .ok (.ifCond .ne 6, 3) := by decide +kernel
theorem dX9_worth_33 : decode cX9_worth 33 = .ok (.ldc 52, 2) := by decide +kernel
theorem dX9_worth_35 : decode cX9_worth 35 = .ok (.ireturn, 1) := by decide +kernel
theorem dX9_worth_36 : decode cX9_worth 36 = .ok (.iload_n 1, 1) := by decide +kernel
theorem dX9_worth_37 : decode cX9_worth 37 = .ok (.iload_n 2, 1) := by decide +kernel
theorem dX9_worth_38 : decode cX9_worth 38 = .ok (.invokestatic 178, 3) := by decide +kernel
theorem dX9_worth_41 : decode cX9_worth 41 = .ok (.istore 4, 2) := by decide +kernel
theorem dX9_worth_43 : decode cX9_worth 43 = .ok (.aload_n 0, 1) := by decide +kernel
theorem dX9_worth_44 : decode cX9_worth 44 = .ok (.getfield 37, 3) := by decide +kernel
theorem dX9_worth_47 : decode cX9_worth 47 = .ok (.getfield 179, 3) := by decide +kernel
theorem dX9_worth_50 : decode cX9_worth 50 = .ok (.iload 4, 2) := by decide +kernel
theorem dX9_worth_52 : decode cX9_worth 52 = .ok (.iaload, 1) := by decide +kernel
theorem dX9_worth_53 : decode cX9_worth 53 = .ok (.istore 5, 2) := by decide +kernel
theorem dX9_worth_55 : decode cX9_worth 55 = .ok (.aload_n 0, 1) := by decide +kernel
theorem dX9_worth_56 : decode cX9_worth 56 = .ok (.getfield 37, 3) := by decide +kernel
theorem dX9_worth_59 : decode cX9_worth 59 = .ok (.getfield 179, 3) := by decide +kernel
theorem dX9_worth_62 : decode cX9_worth 62 = .ok (.iload 4, 2) := by decide +kernel
theorem dX9_worth_64 : decode cX9_worth 64 = .ok (.iload_n 3, 1) := by decide +kernel
theorem dX9_worth_65 : decode cX9_worth 65 = .ok (.iastore, 1) := by decide +kernel
theorem dX9_worth_66 : decode cX9_worth 66 = .ok (.iload 5, 2) := by decide +kernel
theorem dX9_worth_68 : decode cX9_worth 68 = .ok (.ireturn, 1) := by decide +kernel
set_option maxRecDepth 20000 in
theorem ggX9_bar_X1_hasTwo : GoodIn wsX9_bar wsX1_hasTwo := goodIn_r _ [8, 9, 10, 11, 7, 12, 13, 40, 41, 42, 43, 44, 45] (by decide +kernel) (by decide +kernel)
set_option maxRecDepth 20000 in
theorem gX9_bar_X1_hasTwo : GoodIn wsX9_bar (wsV RX9 70 RX1 yX1_hasTwo wsX1_hasTwo) := goodIn_app (goodIn_of _ (by decide +kernel)) ggX9_bar_X1_hasTwo
set_option maxRecDepth 20000 in
theorem ggX9_bar_X9_within : GoodIn wsX9_bar wsX9_within := goodIn_r _ [17] (by decide +kernel) (by decide +kernel)
set_option maxRecDepth 20000 in
theorem gX9_bar_X9_within : GoodIn wsX9_bar (va_wsS RX9 48 yX9_within wsX9_within) := goodIn_app (goodIn_of _ (by decide +kernel)) ggX9_bar_X9_within
set_option maxRecDepth 20000 in
theorem ggX9_bar_X3_become : GoodIn wsX9_bar wsX3_become := goodIn_r _ [22, 23, 24, 25, 26, 21, 27, 46] (by decide +kernel) (by decide +kernel)
set_option maxRecDepth 20000 in
theorem gX9_bar_X3_become : GoodIn wsX9_bar (wsV RX9 77 RX3 yX3_become wsX3_become) := goodIn_app (goodIn_of _ (by decide +kernel)) ggX9_bar_X3_become
theorem dX9_bar_0 : decode cX9_bar 0 = .ok (.aload_n 0, 1) := by decide +kernel
theorem dX9_bar_1 : decode cX9_bar 1 = .ok (.getfield 12, 3) := by decide +kernel
theorem dX9_bar_4 : decode cX9_bar 4 = .ok (.iload_n 1, 1) := by decide +kernel
theorem dX9_bar_5 : decode cX9_bar 5 = .ok (.iload_n 2, 1) := by decide +kernel
theorem dX9_bar_6 : decode cX9_bar 6 = .ok (.invokevirtual 70, 3) := by decide +kernel
theorem dX9_bar_9 : decode cX9_bar 9 = .ok (.ifCond .eq 12, 3) := by decide +kernel
theorem dX9_bar_12 : decode cX9_bar 12 = .ok (.iload_n 3, 1) := by decide +kernel
theorem dX9_bar_13 : decode cX9_bar 13 = .ok (.iconst 0, 1) := by decide +kernel
theorem dX9_bar_14 : decode cX9_bar 14 = .ok (.iconst 3, 1) := by decide +kernel
theorem dX9_bar_15 : decode cX9_bar 15 = .ok (.invokestatic 48, 3) := by decide +kernel
theorem dX9_bar_18 : decode cX9_bar 18 = .ok (.ifCond .ne 6, 3) := by decide +kernel
theorem dX9_bar_21 : decode cX9_bar 21 = .ok (.ldc 52, 2) := by decide +kernel
theorem dX9_bar_23 : decode cX9_bar 23 = .ok (.ireturn, 1) := by decide +kernel
theorem dX9_bar_24 : decode cX9_bar 24 = .ok (.aload_n 0, 1) := by decide +kernel
theorem dX9_bar_25 : decode cX9_bar 25 = .ok (.getfield 37, 3) := by decide +kernel
theorem dX9_bar_28 : decode cX9_bar 28 = .ok (.getfield 182, 3) := by decide +kernel
theorem dX9_bar_31 : decode cX9_bar 31 = .ok (.iload_n 1, 1) := by decide +kernel
theorem dX9_bar_32 : decode cX9_bar 32 = .ok (.iload_n 2, 1) := by decide +kernel
theorem dX9_bar_33 : decode cX9_bar 33 = .ok (.iload_n 3, 1) := by decide +kernel
theorem dX9_bar_34 : decode cX9_bar 34 = .ok (.invokevirtual 77, 3) := by decide +kernel
theorem dX9_bar_37 : decode cX9_bar 37 = .ok (.ireturn, 1) := by decide +kernel
set_option maxRecDepth 20000 in
theorem ggX9_pin_X0_hasFilm : GoodIn wsX9_pin wsX0_hasFilm := goodIn_r _ [9, 10, 32, 33, 34, 35, 36, 37, 38] (by decide +kernel) (by decide +kernel)
set_option maxRecDepth 20000 in
theorem gX9_pin_X0_hasFilm : GoodIn wsX9_pin (wsV RX9 175 RX0 yX0_hasFilm wsX0_hasFilm) := goodIn_app (goodIn_of _ (by decide +kernel)) ggX9_pin_X0_hasFilm
set_option maxRecDepth 20000 in
theorem ggX9_pin_X1_has : GoodIn wsX9_pin wsX1_has := goodIn_r _ [15, 16, 39, 40, 41, 42, 43, 44] (by decide +kernel) (by decide +kernel)
set_option maxRecDepth 20000 in
theorem gX9_pin_X1_has : GoodIn wsX9_pin (wsV RX9 62 RX1 yX1_has wsX1_has) := goodIn_app (goodIn_of _ (by decide +kernel)) ggX9_pin_X1_has
set_option maxRecDepth 20000 in
theorem ggX9_pin_X9_isWeek : GoodIn wsX9_pin wsX9_isWeek := goodIn_r _ [20, 21, 22, 19, 23] (by decide +kernel) (by decide +kernel)
set_option maxRecDepth 20000 in
theorem gX9_pin_X9_isWeek : GoodIn wsX9_pin (va_wsS RX9 185 yX9_isWeek wsX9_isWeek) := goodIn_app (goodIn_of _ (by decide +kernel)) ggX9_pin_X9_isWeek
set_option maxRecDepth 20000 in
theorem ggX9_pin_X9_place : GoodIn wsX9_pin wsX9_place := goodIn_r _ [26] (by decide +kernel) (by decide +kernel)
set_option maxRecDepth 20000 in
theorem gX9_pin_X9_place : GoodIn wsX9_pin (va_wsS RX9 188 yX9_place wsX9_place) := goodIn_app (goodIn_of _ (by decide +kernel)) ggX9_pin_X9_place
theorem dX9_pin_0 : decode cX9_pin 0 = .ok (.iload_n 1, 1) := by decide +kernel
theorem dX9_pin_1 : decode cX9_pin 1 = .ok (.ldc 165, 2) := by decide +kernel
theorem dX9_pin_3 : decode cX9_pin 3 = .ok (.if_icmp .eq 14, 3) := by decide +kernel
theorem dX9_pin_6 : decode cX9_pin 6 = .ok (.aload_n 0, 1) := by decide +kernel
theorem dX9_pin_7 : decode cX9_pin 7 = .ok (.getfield 37, 3) := by decide +kernel
theorem dX9_pin_10 : decode cX9_pin 10 = .ok (.iload_n 1, 1) := by decide +kernel
theorem dX9_pin_11 : decode cX9_pin 11 = .ok (.invokevirtual 175, 3) := by decide +kernel
theorem dX9_pin_14 : decode cX9_pin 14 = .ok (.ifCond .eq 21, 3) := by decide +kernel
theorem dX9_pin_17 : decode cX9_pin 17 = .ok (.aload_n 0, 1) := by decide +kernel
theorem dX9_pin_18 : decode cX9_pin 18 = .ok (.getfield 12, 3) := by decide +kernel
theorem dX9_pin_21 : decode cX9_pin 21 = .ok (.iload_n 2, 1) := by decide +kernel
theorem dX9_pin_22 : decode cX9_pin 22 = .ok (.invokevirtual 62, 3) := by decide +kernel
theorem dX9_pin_25 : decode cX9_pin 25 = .ok (.ifCond .eq 10, 3) := by decide +kernel
theorem dX9_pin_28 : decode cX9_pin 28 = .ok (.iload_n 3, 1) := by decide +kernel
theorem dX9_pin_29 : decode cX9_pin 29 = .ok (.invokestatic 185, 3) := by decide +kernel
theorem dX9_pin_32 : decode cX9_pin 32 = .ok (.ifCond .ne 6, 3) := by decide +kernel
theorem dX9_pin_35 : decode cX9_pin 35 = .ok (.ldc 52, 2) := by decide +kernel
theorem dX9_pin_37 : decode cX9_pin 37 = .ok (.ireturn, 1) := by decide +kernel
theorem dX9_pin_38 : decode cX9_pin 38 = .ok (.iload_n 3, 1) := by decide +kernel
theorem dX9_pin_39 : decode cX9_pin 39 = .ok (.iload_n 2, 1) := by decide +kernel
theorem dX9_pin_40 : decode cX9_pin 40 = .ok (.invokestatic 188, 3) := by decide +kernel
theorem dX9_pin_43 : decode cX9_pin 43 = .ok (.istore 4, 2) := by decide +kernel
theorem dX9_pin_45 : decode cX9_pin 45 = .ok (.aload_n 0, 1) := by decide +kernel
theorem dX9_pin_46 : decode cX9_pin 46 = .ok (.getfield 37, 3) := by decide +kernel
theorem dX9_pin_49 : decode cX9_pin 49 = .ok (.getfield 191, 3) := by decide +kernel
theorem dX9_pin_52 : decode cX9_pin 52 = .ok (.iload 4, 2) := by decide +kernel
theorem dX9_pin_54 : decode cX9_pin 54 = .ok (.iaload, 1) := by decide +kernel
theorem dX9_pin_55 : decode cX9_pin 55 = .ok (.istore 5, 2) := by decide +kernel
theorem dX9_pin_57 : decode cX9_pin 57 = .ok (.aload_n 0, 1) := by decide +kernel
theorem dX9_pin_58 : decode cX9_pin 58 = .ok (.getfield 37, 3) := by decide +kernel
theorem dX9_pin_61 : decode cX9_pin 61 = .ok (.getfield 191, 3) := by decide +kernel
theorem dX9_pin_64 : decode cX9_pin 64 = .ok (.iload 4, 2) := by decide +kernel
theorem dX9_pin_66 : decode cX9_pin 66 = .ok (.iload_n 1, 1) := by decide +kernel
theorem dX9_pin_67 : decode cX9_pin 67 = .ok (.iastore, 1) := by decide +kernel
theorem dX9_pin_68 : decode cX9_pin 68 = .ok (.iload 5, 2) := by decide +kernel
theorem dX9_pin_70 : decode cX9_pin 70 = .ok (.ireturn, 1) := by decide +kernel
set_option maxRecDepth 20000 in
theorem ggX9_plan_X9_isWeek : GoodIn wsX9_plan wsX9_isWeek := goodIn_r _ [6, 7, 8, 5, 9] (by decide +kernel) (by decide +kernel)
set_option maxRecDepth 20000 in
theorem gX9_plan_X9_isWeek : GoodIn wsX9_plan (va_wsS RX9 185 yX9_isWeek wsX9_isWeek) := goodIn_app (goodIn_of _ (by decide +kernel)) ggX9_plan_X9_isWeek
set_option maxRecDepth 20000 in
theorem ggX9_plan_X9_within : GoodIn wsX9_plan wsX9_within := goodIn_r _ [9] (by decide +kernel) (by decide +kernel)
set_option maxRecDepth 20000 in
theorem gX9_plan_X9_within : GoodIn wsX9_plan (va_wsS RX9 48 yX9_within wsX9_within) := goodIn_app (goodIn_of _ (by decide +kernel)) ggX9_plan_X9_within
set_option maxRecDepth 20000 in
theorem ggX9_plan_X0_makePlan : GoodIn wsX9_plan wsX0_makePlan := goodIn_r _ [14, 15, 16, 17, 18, 19, 20, 21, 22, 23, 24, 25, 26, 27, 28, 29, 30, 31, 32, 33, 34, 35, 36, 37, 38, 39, 40, 41, 42, 43, 44, 45, 46, 5, 47, 48, 49, 50, 51, 52, 53, 54, 55, 56, 57, 58, 59, 60, 61, 62, 63, 64, 65, 66, 13, 67, 68, 69, 70, 71, 72, 73, 74, 75, 76, 77, 78, 79, 80, 81, 82, 83, 89, 90, 91, 92, 93, 94, 95, 96, 97, 98, 99, 100, 101, 102, 103, 104, 105, 106, 107, 108, 109, 110] (by decide +kernel) (by decide +kernel)
set_option maxRecDepth 20000 in
theorem gX9_plan_X0_makePlan : GoodIn wsX9_plan (wsV RX9 194 RX0 yX0_makePlan wsX0_makePlan) := goodIn_app (goodIn_of _ (by decide +kernel)) ggX9_plan_X0_makePlan
theorem dX9_plan_0 : decode cX9_plan 0 = .ok (.iload_n 1, 1) := by decide +kernel
theorem dX9_plan_1 : decode cX9_plan 1 = .ok (.invokestatic 185, 3) := by decide +kernel
theorem dX9_plan_4 : decode cX9_plan 4 = .ok (.ifCond .eq 14, 3) := by decide +kernel
theorem dX9_plan_7 : decode cX9_plan 7 = .ok (.iload_n 2, 1) := by decide +kernel
theorem dX9_plan_8 : decode cX9_plan 8 = .ok (.iconst 1, 1) := by decide +kernel
theorem dX9_plan_9 : decode cX9_plan 9 = .ok (.sipush 20000, 3) := by decide +kernel
theorem dX9_plan_12 : decode cX9_plan 12 = .ok (.invokestatic 48, 3) := by decide +kernel
theorem dX9_plan_15 : decode cX9_plan 15 = .ok (.ifCond .ne 6, 3) := by decide +kernel
theorem dX9_plan_18 : decode cX9_plan 18 = .ok (.ldc 52, 2) := by decide +kernel
theorem dX9_plan_20 : decode cX9_plan 20 = .ok (.ireturn, 1) := by decide +kernel
theorem dX9_plan_21 : decode cX9_plan 21 = .ok (.aload_n 0, 1) := by decide +kernel
theorem dX9_plan_22 : decode cX9_plan 22 = .ok (.getfield 37, 3) := by decide +kernel
theorem dX9_plan_25 : decode cX9_plan 25 = .ok (.iload_n 1, 1) := by decide +kernel
theorem dX9_plan_26 : decode cX9_plan 26 = .ok (.iload_n 2, 1) := by decide +kernel
theorem dX9_plan_27 : decode cX9_plan 27 = .ok (.invokevirtual 194, 3) := by decide +kernel
theorem dX9_plan_30 : decode cX9_plan 30 = .ok (.ireturn, 1) := by decide +kernel
set_option maxRecDepth 20000 in
theorem ggX9_planned_X1_has : GoodIn wsX9_planned wsX1_has := goodIn_r _ [8, 9, 32, 33, 34, 35, 36, 37] (by decide +kernel) (by decide +kernel)
set_option maxRecDepth 20000 in
theorem gX9_planned_X1_has : GoodIn wsX9_planned (wsV RX9 62 RX1 yX1_has wsX1_has) := goodIn_app (goodIn_of _ (by decide +kernel)) ggX9_planned_X1_has
set_option maxRecDepth 20000 in
theorem ggX9_planned_X9_isWeek : GoodIn wsX9_planned wsX9_isWeek := goodIn_r _ [13, 14, 15, 12, 16] (by decide +kernel) (by decide +kernel)
set_option maxRecDepth 20000 in
theorem gX9_planned_X9_isWeek : GoodIn wsX9_planned (va_wsS RX9 185 yX9_isWeek wsX9_isWeek) := goodIn_app (goodIn_of _ (by decide +kernel)) ggX9_planned_X9_isWeek
set_option maxRecDepth 20000 in
theorem ggX9_planned_X9_place : GoodIn wsX9_planned wsX9_place := goodIn_r _ [19] (by decide +kernel) (by decide +kernel)
set_option maxRecDepth 20000 in
theorem gX9_planned_X9_place : GoodIn wsX9_planned (va_wsS RX9 188 yX9_place wsX9_place) := goodIn_app (goodIn_of _ (by decide +kernel)) ggX9_planned_X9_place
theorem dX9_planned_0 : decode cX9_planned 0 = .ok (.aload_n 0, 1) := by decide +kernel
theorem dX9_planned_1 : decode cX9_planned 1 = .ok (.getfield 12, 3) := by decide +kernel
theorem dX9_planned_4 : decode cX9_planned 4 = .ok (.iload_n 1, 1) := by decide +kernel
theorem dX9_planned_5 : decode cX9_planned 5 = .ok (.invokevirtual 62, 3) := by decide +kernel
theorem dX9_planned_8 : decode cX9_planned 8 = .ok (.ifCond .eq 10, 3) := by decide +kernel
theorem dX9_planned_11 : decode cX9_planned 11 = .ok (.iload_n 2, 1) := by decide +kernel
theorem dX9_planned_12 : decode cX9_planned 12 = .ok (.invokestatic 185, 3) := by decide +kernel
theorem dX9_planned_15 : decode cX9_planned 15 = .ok (.ifCond .ne 6, 3) := by decide +kernel
theorem dX9_planned_18 : decode cX9_planned 18 = .ok (.ldc 52, 2) := by decide +kernel
theorem dX9_planned_20 : decode cX9_planned 20 = .ok (.ireturn, 1) := by decide +kernel
theorem dX9_planned_21 : decode cX9_planned 21 = .ok (.aload_n 0, 1) := by decide +kernel
theorem dX9_planned_22 : decode cX9_planned 22 = .ok (.getfield 37, 3) := by decide +kernel
theorem dX9_planned_25 : decode cX9_planned 25 = .ok (.getfield 197, 3) := by decide +kernel
theorem dX9_planned_28 : decode cX9_planned 28 = .ok (.iload_n 2, 1) := by decide +kernel
theorem dX9_planned_29 : decode cX9_planned 29 = .ok (.iload_n 1, 1) := by decide +kernel
theorem dX9_planned_30 : decode cX9_planned 30 = .ok (.invokestatic 188, 3) := by decide +kernel
theorem dX9_planned_33 : decode cX9_planned 33 = .ok (.iaload, 1) := by decide +kernel
theorem dX9_planned_34 : decode cX9_planned 34 = .ok (.ireturn, 1) := by decide +kernel
set_option maxRecDepth 20000 in
theorem ggX9_rule_X4_mayRule : GoodIn wsX9_rule wsX4_mayRule := goodIn_r _ [7, 8, 9, 10] (by decide +kernel) (by decide +kernel)
set_option maxRecDepth 20000 in
theorem gX9_rule_X4_mayRule : GoodIn wsX9_rule (wsV RX9 200 RX4 yX4_mayRule wsX4_mayRule) := goodIn_app (goodIn_of _ (by decide +kernel)) ggX9_rule_X4_mayRule
theorem dX9_rule_0 : decode cX9_rule 0 = .ok (.aload_n 0, 1) := by decide +kernel
theorem dX9_rule_1 : decode cX9_rule 1 = .ok (.getfield 44, 3) := by decide +kernel
theorem dX9_rule_4 : decode cX9_rule 4 = .ok (.iload_n 1, 1) := by decide +kernel
theorem dX9_rule_5 : decode cX9_rule 5 = .ok (.iload_n 2, 1) := by decide +kernel
theorem dX9_rule_6 : decode cX9_rule 6 = .ok (.invokevirtual 200, 3) := by decide +kernel
theorem dX9_rule_9 : decode cX9_rule 9 = .ok (.ifCond .ne 6, 3) := by decide +kernel
theorem dX9_rule_12 : decode cX9_rule 12 = .ok (.ldc 52, 2) := by decide +kernel
theorem dX9_rule_14 : decode cX9_rule 14 = .ok (.ireturn, 1) := by decide +kernel
theorem dX9_rule_15 : decode cX9_rule 15 = .ok (.aload_n 0, 1) := by decide +kernel
theorem dX9_rule_16 : decode cX9_rule 16 = .ok (.getfield 44, 3) := by decide +kernel
theorem dX9_rule_19 : decode cX9_rule 19 = .ok (.getfield 203, 3) := by decide +kernel
theorem dX9_rule_22 : decode cX9_rule 22 = .ok (.iload_n 1, 1) := by decide +kernel
theorem dX9_rule_23 : decode cX9_rule 23 = .ok (.iaload, 1) := by decide +kernel
theorem dX9_rule_24 : decode cX9_rule 24 = .ok (.istore_n 3, 1) := by decide +kernel
theorem dX9_rule_25 : decode cX9_rule 25 = .ok (.aload_n 0, 1) := by decide +kernel
theorem dX9_rule_26 : decode cX9_rule 26 = .ok (.getfield 44, 3) := by decide +kernel
theorem dX9_rule_29 : decode cX9_rule 29 = .ok (.getfield 203, 3) := by decide +kernel
theorem dX9_rule_32 : decode cX9_rule 32 = .ok (.iload_n 1, 1) := by decide +kernel
theorem dX9_rule_33 : decode cX9_rule 33 = .ok (.iload_n 2, 1) := by decide +kernel
theorem dX9_rule_34 : decode cX9_rule 34 = .ok (.iastore, 1) := by decide +kernel
theorem dX9_rule_35 : decode cX9_rule 35 = .ok (.iload_n 3, 1) := by decide +kernel
theorem dX9_rule_36 : decode cX9_rule 36 = .ok (.ireturn, 1) := by decide +kernel
set_option maxRecDepth 20000 in
theorem ggX9_least_X1_has : GoodIn wsX9_least wsX1_has := goodIn_r _ [8, 9, 24, 25, 26, 27, 28, 29] (by decide +kernel) (by decide +kernel)
set_option maxRecDepth 20000 in
theorem gX9_least_X1_has : GoodIn wsX9_least (wsV RX9 62 RX1 yX1_has wsX1_has) := goodIn_app (goodIn_of _ (by decide +kernel)) ggX9_least_X1_has
set_option maxRecDepth 20000 in
theorem ggX9_least_X9_within : GoodIn wsX9_least wsX9_within := goodIn_r _ [13] (by decide +kernel) (by decide +kernel)
set_option maxRecDepth 20000 in
theorem gX9_least_X9_within : GoodIn wsX9_least (va_wsS RX9 48 yX9_within wsX9_within) := goodIn_app (goodIn_of _ (by decide +kernel)) ggX9_least_X9_within
set_option maxRecDepth 20000 in
theorem ggX9_least_X1_areOf : GoodIn wsX9_least wsX1_areOf := goodIn_r _ [17, 18, 24, 25, 26, 27, 28, 29] (by decide +kernel) (by decide +kernel)
set_option maxRecDepth 20000 in
theorem gX9_least_X1_areOf : GoodIn wsX9_least (wsV RX9 66 RX1 yX1_areOf wsX1_areOf) := goodIn_app (goodIn_of _ (by decide +kernel)) ggX9_least_X1_areOf
theorem dX9_least_0 : decode cX9_least 0 = .ok (.aload_n 0, 1) := by decide +kernel
theorem dX9_least_1 : decode cX9_least 1 = .ok (.getfield 12, 3) := by decide +kernel
theorem dX9_least_4 : decode cX9_least 4 = .ok (.iload_n 1, 1) := by decide +kernel
theorem dX9_least_5 : decode cX9_least 5 = .ok (.invokevirtual 62, 3) := by decide +kernel
theorem dX9_least_8 : decode cX9_least 8 = .ok (.ifCond .eq 14, 3) := by decide +kernel
theorem dX9_least_11 : decode cX9_least 11 = .ok (.iload_n 2, 1) := by decide +kernel
theorem dX9_least_12 : decode cX9_least 12 = .ok (.iconst 0, 1) := by decide +kernel
theorem dX9_least_13 : decode cX9_least 13 = .ok (.sipush 9999, 3) := by decide +kernel
theorem dX9_least_16 : decode cX9_least 16 = .ok (.invokestatic 48, 3) := by decide +kernel
theorem dX9_least_19 : decode cX9_least 19 = .ok (.ifCond .ne 6, 3) := by decide +kernel
theorem dX9_least_22 : decode cX9_least 22 = .ok (.ldc 52, 2) := by decide +kernel
theorem dX9_least_24 : decode cX9_least 24 = .ok (.ireturn, 1) := by decide +kernel
theorem dX9_least_25 : decode cX9_least 25 = .ok (.aload_n 0, 1) := by decide +kernel
theorem dX9_least_26 : decode cX9_least 26 = .ok (.getfield 12, 3) := by decide +kernel
theorem dX9_least_29 : decode cX9_least 29 = .ok (.iload_n 1, 1) := by decide +kernel
theorem dX9_least_30 : decode cX9_least 30 = .ok (.iconst 1, 1) := by decide +kernel
theorem dX9_least_31 : decode cX9_least 31 = .ok (.invokevirtual 66, 3) := by decide +kernel
theorem dX9_least_34 : decode cX9_least 34 = .ok (.ifCond .ne 6, 3) := by decide +kernel
theorem dX9_least_37 : decode cX9_least 37 = .ok (.ldc 110, 2) := by decide +kernel
theorem dX9_least_39 : decode cX9_least 39 = .ok (.ireturn, 1) := by decide +kernel
theorem dX9_least_40 : decode cX9_least 40 = .ok (.aload_n 0, 1) := by decide +kernel
theorem dX9_least_41 : decode cX9_least 41 = .ok (.getfield 12, 3) := by decide +kernel
theorem dX9_least_44 : decode cX9_least 44 = .ok (.getfield 206, 3) := by decide +kernel
theorem dX9_least_47 : decode cX9_least 47 = .ok (.iload_n 1, 1) := by decide +kernel
theorem dX9_least_48 : decode cX9_least 48 = .ok (.iaload, 1) := by decide +kernel
theorem dX9_least_49 : decode cX9_least 49 = .ok (.istore_n 3, 1) := by decide +kernel
theorem dX9_least_50 : decode cX9_least 50 = .ok (.aload_n 0, 1) := by decide +kernel
theorem dX9_least_51 : decode cX9_least 51 = .ok (.getfield 12, 3) := by decide +kernel
theorem dX9_least_54 : decode cX9_least 54 = .ok (.getfield 206, 3) := by decide +kernel
theorem dX9_least_57 : decode cX9_least 57 = .ok (.iload_n 1, 1) := by decide +kernel
theorem dX9_least_58 : decode cX9_least 58 = .ok (.iload_n 2, 1) := by decide +kernel
theorem dX9_least_59 : decode cX9_least 59 = .ok (.iastore, 1) := by decide +kernel
theorem dX9_least_60 : decode cX9_least 60 = .ok (.iload_n 3, 1) := by decide +kernel
theorem dX9_least_61 : decode cX9_least 61 = .ok (.ireturn, 1) := by decide +kernel
set_option maxRecDepth 20000 in
theorem ggX9_share_X1_has : GoodIn wsX9_share wsX1_has := goodIn_r _ [8, 9, 30, 31, 32, 33, 34, 35] (by decide +kernel) (by decide +kernel)
set_option maxRecDepth 20000 in
theorem gX9_share_X1_has : GoodIn wsX9_share (wsV RX9 62 RX1 yX1_has wsX1_has) := goodIn_app (goodIn_of _ (by decide +kernel)) ggX9_share_X1_has
set_option maxRecDepth 20000 in
theorem ggX9_share_X9_within : GoodIn wsX9_share wsX9_within := goodIn_r _ [13] (by decide +kernel) (by decide +kernel)
set_option maxRecDepth 20000 in
theorem gX9_share_X9_within : GoodIn wsX9_share (va_wsS RX9 48 yX9_within wsX9_within) := goodIn_app (goodIn_of _ (by decide +kernel)) ggX9_share_X9_within
set_option maxRecDepth 20000 in
theorem ggX9_share_X4_shareOf : GoodIn wsX9_share wsX4_shareOf := goodIn_r _ [18, 19, 20, 21, 22, 23, 24, 36, 37, 38, 30, 31, 32, 33, 34, 35] (by decide +kernel) (by decide +kernel)
set_option maxRecDepth 20000 in
theorem gX9_share_X4_shareOf : GoodIn wsX9_share (wsV RX9 212 RX4 yX4_shareOf wsX4_shareOf) := goodIn_app (goodIn_of _ (by decide +kernel)) ggX9_share_X4_shareOf
theorem dX9_share_0 : decode cX9_share 0 = .ok (.aload_n 0, 1) := by decide +kernel
theorem dX9_share_1 : decode cX9_share 1 = .ok (.getfield 12, 3) := by decide +kernel
theorem dX9_share_4 : decode cX9_share 4 = .ok (.iload_n 1, 1) := by decide +kernel
theorem dX9_share_5 : decode cX9_share 5 = .ok (.invokevirtual 62, 3) := by decide +kernel
theorem dX9_share_8 : decode cX9_share 8 = .ok (.ifCond .eq 20, 3) := by decide +kernel
theorem dX9_share_11 : decode cX9_share 11 = .ok (.iload_n 2, 1) := by decide +kernel
theorem dX9_share_12 : decode cX9_share 12 = .ok (.iconst 0, 1) := by decide +kernel
theorem dX9_share_13 : decode cX9_share 13 = .ok (.aload_n 0, 1) := by decide +kernel
theorem dX9_share_14 : decode cX9_share 14 = .ok (.getfield 12, 3) := by decide +kernel
theorem dX9_share_17 : decode cX9_share 17 = .ok (.getfield 209, 3) := by decide +kernel
theorem dX9_share_20 : decode cX9_share 20 = .ok (.iload_n 1, 1) := by decide +kernel
theorem dX9_share_21 : decode cX9_share 21 = .ok (.iaload, 1) := by decide +kernel
theorem dX9_share_22 : decode cX9_share 22 = .ok (.invokestatic 48, 3) := by decide +kernel
theorem dX9_share_25 : decode cX9_share 25 = .ok (.ifCond .ne 6, 3) := by decide +kernel
theorem dX9_share_28 : decode cX9_share 28 = .ok (.ldc 52, 2) := by decide +kernel
theorem dX9_share_30 : decode cX9_share 30 = .ok (.ireturn, 1) := by decide +kernel
theorem dX9_share_31 : decode cX9_share 31 = .ok (.aload_n 0, 1) := by decide +kernel
theorem dX9_share_32 : decode cX9_share 32 = .ok (.getfield 44, 3) := by decide +kernel
theorem dX9_share_35 : decode cX9_share 35 = .ok (.iload_n 1, 1) := by decide +kernel
theorem dX9_share_36 : decode cX9_share 36 = .ok (.iload_n 2, 1) := by decide +kernel
theorem dX9_share_37 : decode cX9_share 37 = .ok (.invokevirtual 212, 3) := by decide +kernel
theorem dX9_share_40 : decode cX9_share 40 = .ok (.ireturn, 1) := by decide +kernel
set_option maxRecDepth 20000 in
theorem ggX9_shares_X9_isWeek : GoodIn wsX9_shares wsX9_isWeek := goodIn_r _ [7, 8, 9, 6, 10] (by decide +kernel) (by decide +kernel)
set_option maxRecDepth 20000 in
theorem gX9_shares_X9_isWeek : GoodIn wsX9_shares (va_wsS RX9 185 yX9_isWeek wsX9_isWeek) := goodIn_app (goodIn_of _ (by decide +kernel)) ggX9_shares_X9_isWeek
set_option maxRecDepth 20000 in
theorem ggX9_shares_X8_isMissing : GoodIn wsX9_shares wsX8_isMissing := goodIn_r _ [15, 16, 51, 52] (by decide +kernel) (by decide +kernel)
set_option maxRecDepth 20000 in
theorem gX9_shares_X8_isMissing : GoodIn wsX9_shares (wsV RX9 219 RX8 yX8_isMissing wsX8_isMissing) := goodIn_app (goodIn_of _ (by decide +kernel)) ggX9_shares_X8_isMissing
set_option maxRecDepth 20000 in
theorem ggX9_shares_X4_allShares : GoodIn wsX9_shares wsX4_allShares := goodIn_r _ [21, 22, 23, 24, 25, 20, 26, 27, 28, 6, 29, 30, 31, 32, 14, 33, 16, 9, 10, 34, 35, 36, 37, 38, 39, 40, 41, 42, 48, 49, 50, 53, 54, 55, 56, 57, 58, 51, 52] (by decide +kernel) (by decide +kernel)
set_option maxRecDepth 20000 in
theorem gX9_shares_X4_allShares : GoodIn wsX9_shares (wsV RX9 226 RX4 yX4_allShares wsX4_allShares) := goodIn_app (goodIn_of _ (by decide +kernel)) ggX9_shares_X4_allShares
theorem dX9_shares_0 : decode cX9_shares 0 = .ok (.iload_n 1, 1) := by decide +kernel
theorem dX9_shares_1 : decode cX9_shares 1 = .ok (.invokestatic 185, 3) := by decide +kernel
theorem dX9_shares_4 : decode cX9_shares 4 = .ok (.ifCond .ne 6, 3) := by decide +kernel
theorem dX9_shares_7 : decode cX9_shares 7 = .ok (.ldc 52, 2) := by decide +kernel
theorem dX9_shares_9 : decode cX9_shares 9 = .ok (.ireturn, 1) := by decide +kernel
theorem dX9_shares_10 : decode cX9_shares 10 = .ok (.aload_n 0, 1) := by decide +kernel
theorem dX9_shares_11 : decode cX9_shares 11 = .ok (.getfield 44, 3) := by decide +kernel
theorem dX9_shares_14 : decode cX9_shares 14 = .ok (.getfield 215, 3) := by decide +kernel
theorem dX9_shares_17 : decode cX9_shares 17 = .ok (.iconst 0, 1) := by decide +kernel
theorem dX9_shares_18 : decode cX9_shares 18 = .ok (.aaload, 1) := by decide +kernel
theorem dX9_shares_19 : decode cX9_shares 19 = .ok (.invokevirtual 219, 3) := by decide +kernel
theorem dX9_shares_22 : decode cX9_shares 22 = .ok (.ifCond .eq 8, 3) := by decide +kernel
theorem dX9_shares_25 : decode cX9_shares 25 = .ok (.ldc 225, 2) := by decide +kernel
theorem dX9_shares_27 : decode cX9_shares 27 = .ok (.goto 11, 3) := by decide +kernel
theorem dX9_shares_30 : decode cX9_shares 30 = .ok (.aload_n 0, 1) := by decide +kernel
theorem dX9_shares_31 : decode cX9_shares 31 = .ok (.getfield 44, 3) := by decide +kernel
theorem dX9_shares_34 : decode cX9_shares 34 = .ok (.iload_n 1, 1) := by decide +kernel
theorem dX9_shares_35 : decode cX9_shares 35 = .ok (.invokevirtual 226, 3) := by decide +kernel
theorem dX9_shares_38 : decode cX9_shares 38 = .ok (.ireturn, 1) := by decide +kernel
set_option maxRecDepth 20000 in
theorem ggX9_checked_X9_isWeek : GoodIn wsX9_checked wsX9_isWeek := goodIn_r _ [6, 7, 8, 5, 9] (by decide +kernel) (by decide +kernel)
set_option maxRecDepth 20000 in
theorem gX9_checked_X9_isWeek : GoodIn wsX9_checked (va_wsS RX9 185 yX9_isWeek wsX9_isWeek) := goodIn_app (goodIn_of _ (by decide +kernel)) ggX9_checked_X9_isWeek
set_option maxRecDepth 20000 in
theorem ggX9_checked_X4_checkedBits : GoodIn wsX9_checked wsX4_checkedBits := goodIn_r _ [14, 15, 16, 17, 18, 19, 5, 20, 26, 27, 28, 29, 30, 31, 32, 33, 34] (by decide +kernel) (by decide +kernel)
set_option maxRecDepth 20000 in
theorem gX9_checked_X4_checkedBits : GoodIn wsX9_checked (wsV RX9 229 RX4 yX4_checkedBits wsX4_checkedBits) := goodIn_app (goodIn_of _ (by decide +kernel)) ggX9_checked_X4_checkedBits
theorem dX9_checked_0 : decode cX9_checked 0 = .ok (.iload_n 1, 1) := by decide +kernel
theorem dX9_checked_1 : decode cX9_checked 1 = .ok (.invokestatic 185, 3) := by decide +kernel
theorem dX9_checked_4 : decode cX9_checked 4 = .ok (.ifCond .eq 14, 3) := by decide +kernel
theorem dX9_checked_7 : decode cX9_checked 7 = .ok (.aload_n 0, 1) := by decide +kernel
theorem dX9_checked_8 : decode cX9_checked 8 = .ok (.getfield 44, 3) := by decide +kernel
theorem dX9_checked_11 : decode cX9_checked 11 = .ok (.iload_n 1, 1) := by decide +kernel
theorem dX9_checked_12 : decode cX9_checked 12 = .ok (.invokevirtual 229, 3) := by decide +kernel
theorem dX9_checked_15 : decode cX9_checked 15 = .ok (.goto 5, 3) := by decide +kernel
theorem dX9_checked_18 : decode cX9_checked 18 = .ok (.ldc 52, 2) := by decide +kernel
theorem dX9_checked_20 : decode cX9_checked 20 = .ok (.ireturn, 1) := by decide +kernel
set_option maxRecDepth 20000 in
theorem ggX9_sheet_X9_isSheet : GoodIn wsX9_sheet wsX9_isSheet := goodIn_r _ [7, 8, 9, 6, 10] (by decide +kernel) (by decide +kernel)
set_option maxRecDepth 20000 in
theorem gX9_sheet_X9_isSheet : GoodIn wsX9_sheet (va_wsS RX9 232 yX9_isSheet wsX9_isSheet) := goodIn_app (goodIn_of _ (by decide +kernel)) ggX9_sheet_X9_isSheet
set_option maxRecDepth 20000 in
theorem ggX9_sheet_X8_renew : GoodIn wsX9_sheet wsX8_renew := goodIn_r _ [15, 16, 17, 18, 19, 20, 21, 30, 31] (by decide +kernel) (by decide +kernel)
set_option maxRecDepth 20000 in
theorem gX9_sheet_X8_renew : GoodIn wsX9_sheet (wsV RX9 236 RX8 yX8_renew wsX8_renew) := goodIn_app (goodIn_of _ (by decide +kernel)) ggX9_sheet_X8_renew
theorem dX9_sheet_0 : decode cX9_sheet 0 = .ok (.iload_n 1, 1) := by decide +kernel
theorem dX9_sheet_1 : decode cX9_sheet 1 = .ok (.invokestatic 232, 3) := by decide +kernel
theorem dX9_sheet_4 : decode cX9_sheet 4 = .ok (.ifCond .eq 9, 3) := by decide +kernel
theorem dX9_sheet_7 : decode cX9_sheet 7 = .ok (.iload_n 2, 1) := by decide +kernel
theorem dX9_sheet_8 : decode cX9_sheet 8 = .ok (.bipush 24, 2) := by decide +kernel
theorem dX9_sheet_10 : decode cX9_sheet 10 = .ok (.if_icmp .le 6, 3) := by decide +kernel
theorem dX9_sheet_13 : decode cX9_sheet 13 = .ok (.ldc 52, 2) := by decide +kernel
theorem dX9_sheet_15 : decode cX9_sheet 15 = .ok (.ireturn, 1) := by decide +kernel
theorem dX9_sheet_16 : decode cX9_sheet 16 = .ok (.iload_n 2, 1) := by decide +kernel
theorem dX9_sheet_17 : decode cX9_sheet 17 = .ok (.ifCond .ge 8, 3) := by decide +kernel
theorem dX9_sheet_20 : decode cX9_sheet 20 = .ok (.ldc 235, 2) := by decide +kernel
theorem dX9_sheet_22 : decode cX9_sheet 22 = .ok (.goto 16, 3) := by decide +kernel
theorem dX9_sheet_25 : decode cX9_sheet 25 = .ok (.aload_n 0, 1) := by decide +kernel
theorem dX9_sheet_26 : decode cX9_sheet 26 = .ok (.getfield 44, 3) := by decide +kernel
theorem dX9_sheet_29 : decode cX9_sheet 29 = .ok (.getfield 215, 3) := by decide +kernel
theorem dX9_sheet_32 : decode cX9_sheet 32 = .ok (.iload_n 1, 1) := by decide +kernel
theorem dX9_sheet_33 : decode cX9_sheet 33 = .ok (.aaload, 1) := by decide +kernel
theorem dX9_sheet_34 : decode cX9_sheet 34 = .ok (.iload_n 2, 1) := by decide +kernel
theorem dX9_sheet_35 : decode cX9_sheet 35 = .ok (.invokevirtual 236, 3) := by decide +kernel
theorem dX9_sheet_38 : decode cX9_sheet 38 = .ok (.ireturn, 1) := by decide +kernel
set_option maxRecDepth 20000 in
theorem ggX9_mark_X9_isSheet : GoodIn wsX9_mark wsX9_isSheet := goodIn_r _ [8, 9, 10, 7, 11] (by decide +kernel) (by decide +kernel)
set_option maxRecDepth 20000 in
theorem gX9_mark_X9_isSheet : GoodIn wsX9_mark (va_wsS RX9 232 yX9_isSheet wsX9_isSheet) := goodIn_app (goodIn_of _ (by decide +kernel)) ggX9_mark_X9_isSheet
set_option maxRecDepth 20000 in
theorem ggX9_mark_X8_isMissing : GoodIn wsX9_mark wsX8_isMissing := goodIn_r _ [16, 17, 35, 36] (by decide +kernel) (by decide +kernel)
set_option maxRecDepth 20000 in
theorem gX9_mark_X8_isMissing : GoodIn wsX9_mark (wsV RX9 219 RX8 yX8_isMissing wsX8_isMissing) := goodIn_app (goodIn_of _ (by decide +kernel)) ggX9_mark_X8_isMissing
set_option maxRecDepth 20000 in
theorem ggX9_mark_X8_has : GoodIn wsX9_mark wsX8_has := goodIn_r _ [21, 17, 35, 36] (by decide +kernel) (by decide +kernel)
set_option maxRecDepth 20000 in
theorem gX9_mark_X8_has : GoodIn wsX9_mark (wsV RX9 239 RX8 yX8_has wsX8_has) := goodIn_app (goodIn_of _ (by decide +kernel)) ggX9_mark_X8_has
set_option maxRecDepth 20000 in
theorem ggX9_mark_X8_become : GoodIn wsX9_mark wsX8_become := goodIn_r _ [25, 26, 35, 36] (by decide +kernel) (by decide +kernel)
set_option maxRecDepth 20000 in
theorem gX9_mark_X8_become : GoodIn wsX9_mark (wsV RX9 240 RX8 yX8_become wsX8_become) := goodIn_app (goodIn_of _ (by decide +kernel)) ggX9_mark_X8_become
theorem dX9_mark_0 : decode cX9_mark 0 = .ok (.iload_n 1, 1) := by decide +kernel
theorem dX9_mark_1 : decode cX9_mark 1 = .ok (.invokestatic 232, 3) := by decide +kernel
theorem dX9_mark_4 : decode cX9_mark 4 = .ok (.ifCond .ne 6, 3) := by decide +kernel
theorem dX9_mark_7 : decode cX9_mark 7 = .ok (.ldc 52, 2) := by decide +kernel
theorem dX9_mark_9 : decode cX9_mark 9 = .ok (.ireturn, 1) := by decide +kernel
theorem dX9_mark_10 : decode cX9_mark 10 = .ok (.aload_n 0, 1) := by decide +kernel
theorem dX9_mark_11 : decode cX9_mark 11 = .ok (.getfield 44, 3) := by decide +kernel
theorem dX9_mark_14 : decode cX9_mark 14 = .ok (.getfield 215, 3) := by decide +kernel
theorem dX9_mark_17 : decode cX9_mark 17 = .ok (.iload_n 1, 1) := by decide +kernel
theorem dX9_mark_18 : decode cX9_mark 18 = .ok (.aaload, 1) := by decide +kernel
theorem dX9_mark_19 : decode cX9_mark 19 = .ok (.astore 4, 2) := by decide +kernel
theorem dX9_mark_21 : decode cX9_mark 21 = .ok (.aload 4, 2) := by decide +kernel
theorem dX9_mark_23 : decode cX9_mark 23 = .ok (.invokevirtual 219, 3) := by decide +kernel
theorem dX9_mark_26 : decode cX9_mark 26 = .ok (.ifCond .eq 6, 3) := by decide +kernel
theorem dX9_mark_29 : decode cX9_mark 29 = .ok (.ldc 225, 2) := by decide +kernel
theorem dX9_mark_31 : decode cX9_mark 31 = .ok (.ireturn, 1) := by decide +kernel
theorem dX9_mark_32 : decode cX9_mark 32 = .ok (.aload 4, 2) := by decide +kernel
theorem dX9_mark_34 : decode cX9_mark 34 = .ok (.iload_n 2, 1) := by decide +kernel
theorem dX9_mark_35 : decode cX9_mark 35 = .ok (.invokevirtual 239, 3) := by decide +kernel
theorem dX9_mark_38 : decode cX9_mark 38 = .ok (.ifCond .eq 14, 3) := by decide +kernel
theorem dX9_mark_41 : decode cX9_mark 41 = .ok (.aload 4, 2) := by decide +kernel
theorem dX9_mark_43 : decode cX9_mark 43 = .ok (.iload_n 2, 1) := by decide +kernel
theorem dX9_mark_44 : decode cX9_mark 44 = .ok (.iload_n 3, 1) := by decide +kernel
theorem dX9_mark_45 : decode cX9_mark 45 = .ok (.i2s, 1) := by decide +kernel
theorem dX9_mark_46 : decode cX9_mark 46 = .ok (.invokevirtual 240, 3) := by decide +kernel
theorem dX9_mark_49 : decode cX9_mark 49 = .ok (.goto 5, 3) := by decide +kernel
theorem dX9_mark_52 : decode cX9_mark 52 = .ok (.ldc 243, 2) := by decide +kernel
theorem dX9_mark_54 : decode cX9_mark 54 = .ok (.ireturn, 1) := by decide +kernel
set_option maxRecDepth 20000 in
theorem ggX9_copy_X9_isSheet : GoodIn wsX9_copy wsX9_isSheet := goodIn_r _ [12, 13, 14, 11, 15] (by decide +kernel) (by decide +kernel)
set_option maxRecDepth 20000 in
theorem gX9_copy_X9_isSheet : GoodIn wsX9_copy (va_wsS RX9 232 yX9_isSheet wsX9_isSheet) := goodIn_app (goodIn_of _ (by decide +kernel)) ggX9_copy_X9_isSheet
set_option maxRecDepth 20000 in
theorem ggX9_copy_X8_isMissing : GoodIn wsX9_copy wsX8_isMissing := goodIn_r _ [20, 21, 34, 35] (by decide +kernel) (by decide +kernel)
set_option maxRecDepth 20000 in
theorem gX9_copy_X8_isMissing : GoodIn wsX9_copy (wsV RX9 219 RX8 yX8_isMissing wsX8_isMissing) := goodIn_app (goodIn_of _ (by decide +kernel)) ggX9_copy_X8_isMissing
set_option maxRecDepth 20000 in
theorem ggX9_copy_X8_spans : GoodIn wsX9_copy wsX8_spans := goodIn_r _ [25, 21, 14, 11, 15, 34, 35] (by decide +kernel) (by decide +kernel)
set_option maxRecDepth 20000 in
theorem gX9_copy_X8_spans : GoodIn wsX9_copy (wsV RX9 244 RX8 yX8_spans wsX8_spans) := goodIn_app (goodIn_of _ (by decide +kernel)) ggX9_copy_X8_spans
theorem dX9_copy_0 : decode cX9_copy 0 = .ok (.iload_n 1, 1) := by decide +kernel
theorem dX9_copy_1 : decode cX9_copy 1 = .ok (.invokestatic 232, 3) := by decide +kernel
theorem dX9_copy_4 : decode cX9_copy 4 = .ok (.ifCond .eq 10, 3) := by decide +kernel
theorem dX9_copy_7 : decode cX9_copy 7 = .ok (.iload_n 3, 1) := by decide +kernel
theorem dX9_copy_8 : decode cX9_copy 8 = .ok (.invokestatic 232, 3) := by decide +kernel
theorem dX9_copy_11 : decode cX9_copy 11 = .ok (.ifCond .ne 6, 3) := by decide +kernel
theorem dX9_copy_14 : decode cX9_copy 14 = .ok (.ldc 52, 2) := by decide +kernel
theorem dX9_copy_16 : decode cX9_copy 16 = .ok (.ireturn, 1) := by decide +kernel
theorem dX9_copy_17 : decode cX9_copy 17 = .ok (.aload_n 0, 1) := by decide +kernel
theorem dX9_copy_18 : decode cX9_copy 18 = .ok (.getfield 44, 3) := by decide +kernel
theorem dX9_copy_21 : decode cX9_copy 21 = .ok (.getfield 215, 3) := by decide +kernel
theorem dX9_copy_24 : decode cX9_copy 24 = .ok (.iload_n 1, 1) := by decide +kernel
theorem dX9_copy_25 : decode cX9_copy 25 = .ok (.aaload, 1) := by decide +kernel
theorem dX9_copy_26 : decode cX9_copy 26 = .ok (.astore 6, 2) := by decide +kernel
theorem dX9_copy_28 : decode cX9_copy 28 = .ok (.aload_n 0, 1) := by decide +kernel
theorem dX9_copy_29 : decode cX9_copy 29 = .ok (.getfield 44, 3) := by decide +kernel
theorem dX9_copy_32 : decode cX9_copy 32 = .ok (.getfield 215, 3) := by decide +kernel
theorem dX9_copy_35 : decode cX9_copy 35 = .ok (.iload_n 3, 1) := by decide +kernel
theorem dX9_copy_36 : decode cX9_copy 36 = .ok (.aaload, 1) := by decide +kernel
theorem dX9_copy_37 : decode cX9_copy 37 = .ok (.astore 7, 2) := by decide +kernel
theorem dX9_copy_39 : decode cX9_copy 39 = .ok (.aload 6, 2) := by decide +kernel
theorem dX9_copy_41 : decode cX9_copy 41 = .ok (.invokevirtual 219, 3) := by decide +kernel
theorem dX9_copy_44 : decode cX9_copy 44 = .ok (.ifCond .ne 11, 3) := by decide +kernel
theorem dX9_copy_47 : decode cX9_copy 47 = .ok (.aload 7, 2) := by decide +kernel
theorem dX9_copy_49 : decode cX9_copy 49 = .ok (.invokevirtual 219, 3) := by decide +kernel
theorem dX9_copy_52 : decode cX9_copy 52 = .ok (.ifCond .eq 6, 3) := by decide +kernel
theorem dX9_copy_55 : decode cX9_copy 55 = .ok (.ldc 225, 2) := by decide +kernel
theorem dX9_copy_57 : decode cX9_copy 57 = .ok (.ireturn, 1) := by decide +kernel
theorem dX9_copy_58 : decode cX9_copy 58 = .ok (.aload 6, 2) := by decide +kernel
theorem dX9_copy_60 : decode cX9_copy 60 = .ok (.iload_n 2, 1) := by decide +kernel
theorem dX9_copy_61 : decode cX9_copy 61 = .ok (.iload 5, 2) := by decide +kernel
theorem dX9_copy_63 : decode cX9_copy 63 = .ok (.invokevirtual 244, 3) := by decide +kernel
theorem dX9_copy_66 : decode cX9_copy 66 = .ok (.ifCond .eq 15, 3) := by decide +kernel
theorem dX9_copy_69 : decode cX9_copy 69 = .ok (.aload 7, 2) := by decide +kernel
theorem dX9_copy_71 : decode cX9_copy 71 = .ok (.iload 4, 2) := by decide +kernel
theorem dX9_copy_73 : decode cX9_copy 73 = .ok (.iload 5, 2) := by decide +kernel
theorem dX9_copy_75 : decode cX9_copy 75 = .ok (.invokevirtual 244, 3) := by decide +kernel
theorem dX9_copy_78 : decode cX9_copy 78 = .ok (.ifCond .ne 6, 3) := by decide +kernel
theorem dX9_copy_81 : decode cX9_copy 81 = .ok (.ldc 243, 2) := by decide +kernel
theorem dX9_copy_83 : decode cX9_copy 83 = .ok (.ireturn, 1) := by decide +kernel
theorem dX9_copy_84 : decode cX9_copy 84 = .ok (.aload 6, 2) := by decide +kernel
theorem dX9_copy_86 : decode cX9_copy 86 = .ok (.getfield 247, 3) := by decide +kernel
theorem dX9_copy_89 : decode cX9_copy 89 = .ok (.iload_n 2, 1) := by decide +kernel
theorem dX9_copy_90 : decode cX9_copy 90 = .ok (.aload 7, 2) := by decide +kernel
theorem dX9_copy_92 : decode cX9_copy 92 = .ok (.getfield 247, 3) := by decide +kernel
theorem dX9_copy_95 : decode cX9_copy 95 = .ok (.iload 4, 2) := by decide +kernel
theorem dX9_copy_97 : decode cX9_copy 97 = .ok (.iload 5, 2) := by decide +kernel
theorem dX9_copy_99 : decode cX9_copy 99 = .ok (.invokestatic 251, 3) := by decide +kernel
theorem dX9_copy_102 : decode cX9_copy 102 = .ok (.iload 5, 2) := by decide +kernel
theorem dX9_copy_104 : decode cX9_copy 104 = .ok (.ireturn, 1) := by decide +kernel
set_option maxRecDepth 20000 in
theorem ggX9_count_X2_manyRides : GoodIn wsX9_count wsX2_manyRides := goodIn_r _ [11, 12, 13, 47, 48, 49, 50, 51, 52, 53, 54, 55, 56, 57, 44, 45, 46] (by decide +kernel) (by decide +kernel)
set_option maxRecDepth 20000 in
theorem gX9_count_X2_manyRides : GoodIn wsX9_count (wsV RX9 257 RX2 yX2_manyRides wsX2_manyRides) := goodIn_app (goodIn_of _ (by decide +kernel)) ggX9_count_X2_manyRides
set_option maxRecDepth 20000 in
theorem ggX9_count_X5_allFrames : GoodIn wsX9_count wsX5_allFrames := goodIn_r _ [18, 19, 20, 44, 45, 46] (by decide +kernel) (by decide +kernel)
set_option maxRecDepth 20000 in
theorem gX9_count_X5_allFrames : GoodIn wsX9_count (wsV RX9 260 RX5 yX5_allFrames wsX5_allFrames) := goodIn_app (goodIn_of _ (by decide +kernel)) ggX9_count_X5_allFrames
set_option maxRecDepth 20000 in
theorem ggX9_count_X4_sheetsThere : GoodIn wsX9_count wsX4_sheetsThere := goodIn_r _ [25, 26, 27, 28, 29, 30, 31, 32, 65, 66, 67, 68, 69] (by decide +kernel) (by decide +kernel)
set_option maxRecDepth 20000 in
theorem gX9_count_X4_sheetsThere : GoodIn wsX9_count (wsV RX9 263 RX4 yX4_sheetsThere wsX4_sheetsThere) := goodIn_app (goodIn_of _ (by decide +kernel)) ggX9_count_X4_sheetsThere
theorem dX9_count_0 : decode cX9_count 0 = .ok (.iload_n 1, 1) := by decide +kernel
theorem dX9_count_1 : decode cX9_count 1 = .ok (.tableswitch 99 0 6 #[43, 51, 59, 67, 75, 83, 91], 43) := by decide +kernel
theorem dX9_count_44 : decode cX9_count 44 = .ok (.aload_n 0, 1) := by decide +kernel
theorem dX9_count_45 : decode cX9_count 45 = .ok (.getfield 12, 3) := by decide +kernel
theorem dX9_count_48 : decode cX9_count 48 = .ok (.getfield 53, 3) := by decide +kernel
theorem dX9_count_51 : decode cX9_count 51 = .ok (.ireturn, 1) := by decide +kernel
theorem dX9_count_52 : decode cX9_count 52 = .ok (.aload_n 0, 1) := by decide +kernel
theorem dX9_count_53 : decode cX9_count 53 = .ok (.getfield 19, 3) := by decide +kernel
theorem dX9_count_56 : decode cX9_count 56 = .ok (.getfield 87, 3) := by decide +kernel
theorem dX9_count_59 : decode cX9_count 59 = .ok (.ireturn, 1) := by decide +kernel
theorem dX9_count_60 : decode cX9_count 60 = .ok (.aload_n 0, 1) := by decide +kernel
theorem dX9_count_61 : decode cX9_count 61 = .ok (.getfield 28, 3) := by decide +kernel
theorem dX9_count_64 : decode cX9_count 64 = .ok (.getfield 164, 3) := by decide +kernel
theorem dX9_count_67 : decode cX9_count 67 = .ok (.ireturn, 1) := by decide +kernel
theorem dX9_count_68 : decode cX9_count 68 = .ok (.aload_n 0, 1) := by decide +kernel
theorem dX9_count_69 : decode cX9_count 69 = .ok (.getfield 28, 3) := by decide +kernel
theorem dX9_count_72 : decode cX9_count 72 = .ok (.invokevirtual 257, 3) := by decide +kernel
theorem dX9_count_75 : decode cX9_count 75 = .ok (.ireturn, 1) := by decide +kernel
theorem dX9_count_76 : decode cX9_count 76 = .ok (.aload_n 0, 1) := by decide +kernel
theorem dX9_count_77 : decode cX9_count 77 = .ok (.getfield 37, 3) := by decide +kernel
theorem dX9_count_80 : decode cX9_count 80 = .ok (.getfield 169, 3) := by decide +kernel
theorem dX9_count_83 : decode cX9_count 83 = .ok (.ireturn, 1) := by decide +kernel
theorem dX9_count_84 : decode cX9_count 84 = .ok (.aload_n 0, 1) := by decide +kernel
theorem dX9_count_85 : decode cX9_count 85 = .ok (.getfield 19, 3) := by decide +kernel
theorem dX9_count_88 : decode cX9_count 88 = .ok (.invokevirtual 260, 3) := by decide +kernel
theorem dX9_count_91 : decode cX9_count 91 = .ok (.ireturn, 1) := by decide +kernel
theorem dX9_count_92 : decode cX9_count 92 = .ok (.aload_n 0, 1) := by decide +kernel
theorem dX9_count_93 : decode cX9_count 93 = .ok (.getfield 44, 3) := by decide +kernel
theorem dX9_count_96 : decode cX9_count 96 = .ok (.invokevirtual 263, 3) := by decide +kernel
theorem dX9_count_99 : decode cX9_count 99 = .ok (.ireturn, 1) := by decide +kernel
theorem dX9_count_100 : decode cX9_count 100 = .ok (.ldc 52, 2) := by decide +kernel
theorem dX9_count_102 : decode cX9_count 102 = .ok (.ireturn, 1) := by decide +kernel
theorem dX9_within_0 : decode cX9_within 0 = .ok (.iload_n 0, 1) := by decide +kernel
theorem dX9_within_1 : decode cX9_within 1 = .ok (.iload_n 1, 1) := by decide +kernel
theorem dX9_within_2 : decode cX9_within 2 = .ok (.if_icmp .lt 12, 3) := by decide +kernel
theorem dX9_within_5 : decode cX9_within 5 = .ok (.iload_n 0, 1) := by decide +kernel
theorem dX9_within_6 : decode cX9_within 6 = .ok (.iload_n 2, 1) := by decide +kernel
theorem dX9_within_7 : decode cX9_within 7 = .ok (.if_icmp .gt 7, 3) := by decide +kernel
theorem dX9_within_10 : decode cX9_within 10 = .ok (.iconst 1, 1) := by decide +kernel
theorem dX9_within_11 : decode cX9_within 11 = .ok (.goto 4, 3) := by decide +kernel
theorem dX9_within_14 : decode cX9_within 14 = .ok (.iconst 0, 1) := by decide +kernel
theorem dX9_within_15 : decode cX9_within 15 = .ok (.ireturn, 1) := by decide +kernel
set_option maxRecDepth 20000 in
theorem ggX9_isWeek_X9_within : GoodIn wsX9_isWeek wsX9_within := goodIn_r _ [4] (by decide +kernel) (by decide +kernel)
set_option maxRecDepth 20000 in
theorem gX9_isWeek_X9_within : GoodIn wsX9_isWeek (va_wsS RX9 48 yX9_within wsX9_within) := goodIn_app (goodIn_of _ (by decide +kernel)) ggX9_isWeek_X9_within
theorem dX9_isWeek_0 : decode cX9_isWeek 0 = .ok (.iload_n 0, 1) := by decide +kernel
theorem dX9_isWeek_1 : decode cX9_isWeek 1 = .ok (.iconst 0, 1) := by decide +kernel
theorem dX9_isWeek_2 : decode cX9_isWeek 2 = .ok (.iconst 3, 1) := by decide +kernel
theorem dX9_isWeek_3 : decode cX9_isWeek 3 = .ok (.invokestatic 48, 3) := by decide +kernel
theorem dX9_isWeek_6 : decode cX9_isWeek 6 = .ok (.ireturn, 1) := by decide +kernel
set_option maxRecDepth 20000 in
theorem ggX9_isSheet_X9_within : GoodIn wsX9_isSheet wsX9_within := goodIn_r _ [4] (by decide +kernel) (by decide +kernel)
set_option maxRecDepth 20000 in
theorem gX9_isSheet_X9_within : GoodIn wsX9_isSheet (va_wsS RX9 48 yX9_within wsX9_within) := goodIn_app (goodIn_of _ (by decide +kernel)) ggX9_isSheet_X9_within
theorem dX9_isSheet_0 : decode cX9_isSheet 0 = .ok (.iload_n 0, 1) := by decide +kernel
theorem dX9_isSheet_1 : decode cX9_isSheet 1 = .ok (.iconst 0, 1) := by decide +kernel
theorem dX9_isSheet_2 : decode cX9_isSheet 2 = .ok (.iconst 1, 1) := by decide +kernel
theorem dX9_isSheet_3 : decode cX9_isSheet 3 = .ok (.invokestatic 48, 3) := by decide +kernel
theorem dX9_isSheet_6 : decode cX9_isSheet 6 = .ok (.ireturn, 1) := by decide +kernel
theorem dX9_place_0 : decode cX9_place 0 = .ok (.bipush 6, 2) := by decide +kernel
theorem dX9_place_2 : decode cX9_place 2 = .ok (.iload_n 0, 1) := by decide +kernel
theorem dX9_place_3 : decode cX9_place 3 = .ok (.imul, 1) := by decide +kernel
theorem dX9_place_4 : decode cX9_place 4 = .ok (.iload_n 1, 1) := by decide +kernel
theorem dX9_place_5 : decode cX9_place 5 = .ok (.iadd, 1) := by decide +kernel
theorem dX9_place_6 : decode cX9_place 6 = .ok (.ireturn, 1) := by decide +kernel
theorem dX10_init_0 : decode cX10_init 0 = .ok (.aload_n 0, 1) := by decide +kernel
theorem dX10_init_1 : decode cX10_init 1 = .ok (.invokespecial 1, 3) := by decide +kernel
theorem dX10_init_4 : decode cX10_init 4 = .ok (.aload_n 0, 1) := by decide +kernel
theorem dX10_init_5 : decode cX10_init 5 = .ok (.bipush 6, 2) := by decide +kernel
theorem dX10_init_7 : decode cX10_init 7 = .ok (.newarray .int, 2) := by decide +kernel
theorem dX10_init_9 : decode cX10_init 9 = .ok (.putfield 7, 3) := by decide +kernel
theorem dX10_init_12 : decode cX10_init 12 = .ok (.aload_n 0, 1) := by decide +kernel
theorem dX10_init_13 : decode cX10_init 13 = .ok (.bipush 6, 2) := by decide +kernel
theorem dX10_init_15 : decode cX10_init 15 = .ok (.newarray .int, 2) := by decide +kernel
theorem dX10_init_17 : decode cX10_init 17 = .ok (.putfield 13, 3) := by decide +kernel
theorem dX10_init_20 : decode cX10_init 20 = .ok (.aload_n 0, 1) := by decide +kernel
theorem dX10_init_21 : decode cX10_init 21 = .ok (.bipush 6, 2) := by decide +kernel
theorem dX10_init_23 : decode cX10_init 23 = .ok (.newarray .int, 2) := by decide +kernel
theorem dX10_init_25 : decode cX10_init 25 = .ok (.putfield 16, 3) := by decide +kernel
theorem dX10_init_28 : decode cX10_init 28 = .ok (.aload_n 0, 1) := by decide +kernel
theorem dX10_init_29 : decode cX10_init 29 = .ok (.bipush 6, 2) := by decide +kernel
theorem dX10_init_31 : decode cX10_init 31 = .ok (.newarray .int, 2) := by decide +kernel
theorem dX10_init_33 : decode cX10_init 33 = .ok (.putfield 19, 3) := by decide +kernel
theorem dX10_init_36 : decode cX10_init 36 = .ok (.aload_n 0, 1) := by decide +kernel
theorem dX10_init_37 : decode cX10_init 37 = .ok (.bipush 36, 2) := by decide +kernel
theorem dX10_init_39 : decode cX10_init 39 = .ok (.newarray .int, 2) := by decide +kernel
theorem dX10_init_41 : decode cX10_init 41 = .ok (.putfield 22, 3) := by decide +kernel
theorem dX10_init_44 : decode cX10_init 44 = .ok (.aload_n 0, 1) := by decide +kernel
theorem dX10_init_45 : decode cX10_init 45 = .ok (.bipush 36, 2) := by decide +kernel
theorem dX10_init_47 : decode cX10_init 47 = .ok (.newarray .int, 2) := by decide +kernel
theorem dX10_init_49 : decode cX10_init 49 = .ok (.putfield 25, 3) := by decide +kernel
theorem dX10_init_52 : decode cX10_init 52 = .ok (.aload_n 0, 1) := by decide +kernel
theorem dX10_init_53 : decode cX10_init 53 = .ok (.bipush 8, 2) := by decide +kernel
theorem dX10_init_55 : decode cX10_init 55 = .ok (.newarray .int, 2) := by decide +kernel
theorem dX10_init_57 : decode cX10_init 57 = .ok (.putfield 28, 3) := by decide +kernel
theorem dX10_init_60 : decode cX10_init 60 = .ok (.aload_n 0, 1) := by decide +kernel
theorem dX10_init_61 : decode cX10_init 61 = .ok (.bipush 8, 2) := by decide +kernel
theorem dX10_init_63 : decode cX10_init 63 = .ok (.newarray .int, 2) := by decide +kernel
theorem dX10_init_65 : decode cX10_init 65 = .ok (.putfield 31, 3) := by decide +kernel
theorem dX10_init_68 : decode cX10_init 68 = .ok (.aload_n 0, 1) := by decide +kernel
theorem dX10_init_69 : decode cX10_init 69 = .ok (.bipush 6, 2) := by decide +kernel
theorem dX10_init_71 : decode cX10_init 71 = .ok (.newarray .int, 2) := by decide +kernel
theorem dX10_init_73 : decode cX10_init 73 = .ok (.putfield 34, 3) := by decide +kernel
theorem dX10_init_76 : decode cX10_init 76 = .ok (.aload_n 0, 1) := by decide +kernel
theorem dX10_init_77 : decode cX10_init 77 = .ok (.bipush 40, 2) := by decide +kernel
theorem dX10_init_79 : decode cX10_init 79 = .ok (.newarray .int, 2) := by decide +kernel
theorem dX10_init_81 : decode cX10_init 81 = .ok (.putfield 37, 3) := by decide +kernel
theorem dX10_init_84 : decode cX10_init 84 = .ok (.aload_n 0, 1) := by decide +kernel
theorem dX10_init_85 : decode cX10_init 85 = .ok (.bipush 30, 2) := by decide +kernel
theorem dX10_init_87 : decode cX10_init 87 = .ok (.newarray .int, 2) := by decide +kernel
theorem dX10_init_89 : decode cX10_init 89 = .ok (.putfield 40, 3) := by decide +kernel
theorem dX10_init_92 : decode cX10_init 92 = .ok (.aload_n 0, 1) := by decide +kernel
theorem dX10_init_93 : decode cX10_init 93 = .ok (.bipush 24, 2) := by decide +kernel
theorem dX10_init_95 : decode cX10_init 95 = .ok (.newarray .int, 2) := by decide +kernel
theorem dX10_init_97 : decode cX10_init 97 = .ok (.putfield 43, 3) := by decide +kernel
theorem dX10_init_100 : decode cX10_init 100 = .ok (.aload_n 0, 1) := by decide +kernel
theorem dX10_init_101 : decode cX10_init 101 = .ok (.bipush 24, 2) := by decide +kernel
theorem dX10_init_103 : decode cX10_init 103 = .ok (.newarray .int, 2) := by decide +kernel
theorem dX10_init_105 : decode cX10_init 105 = .ok (.putfield 46, 3) := by decide +kernel
theorem dX10_init_108 : decode cX10_init 108 = .ok (.aload_n 0, 1) := by decide +kernel
theorem dX10_init_109 : decode cX10_init 109 = .ok (.bipush 40, 2) := by decide +kernel
theorem dX10_init_111 : decode cX10_init 111 = .ok (.putfield 49, 3) := by decide +kernel
theorem dX10_init_114 : decode cX10_init 114 = .ok (.aload_n 0, 1) := by decide +kernel
theorem dX10_init_115 : decode cX10_init 115 = .ok (.bipush 20, 2) := by decide +kernel
theorem dX10_init_117 : decode cX10_init 117 = .ok (.putfield 53, 3) := by decide +kernel
theorem dX10_init_120 : decode cX10_init 120 = .ok (.aload_n 0, 1) := by decide +kernel
theorem dX10_init_121 : decode cX10_init 121 = .ok (.iconst 1, 1) := by decide +kernel
theorem dX10_init_122 : decode cX10_init 122 = .ok (.putfield 56, 3) := by decide +kernel
theorem dX10_init_125 : decode cX10_init 125 = .ok (.aload_n 0, 1) := by decide +kernel
theorem dX10_init_126 : decode cX10_init 126 = .ok (.iconst 2, 1) := by decide +kernel
theorem dX10_init_127 : decode cX10_init 127 = .ok (.newarray .int, 2) := by decide +kernel
theorem dX10_init_129 : decode cX10_init 129 = .ok (.putfield 59, 3) := by decide +kernel
theorem dX10_init_132 : decode cX10_init 132 = .ok (.aload_n 0, 1) := by decide +kernel
theorem dX10_init_133 : decode cX10_init 133 = .ok (.bipush 48, 2) := by decide +kernel
theorem dX10_init_135 : decode cX10_init 135 = .ok (.newarray .int, 2) := by decide +kernel
theorem dX10_init_137 : decode cX10_init 137 = .ok (.putfield 62, 3) := by decide +kernel
theorem dX10_init_140 : decode cX10_init 140 = .ok (.aload_n 0, 1) := by decide +kernel
theorem dX10_init_141 : decode cX10_init 141 = .ok (.bipush 12, 2) := by decide +kernel
theorem dX10_init_143 : decode cX10_init 143 = .ok (.newarray .int, 2) := by decide +kernel
theorem dX10_init_145 : decode cX10_init 145 = .ok (.putfield 65, 3) := by decide +kernel
theorem dX10_init_148 : decode cX10_init 148 = .ok (.aload_n 0, 1) := by decide +kernel
theorem dX10_init_149 : decode cX10_init 149 = .ok (.bipush 40, 2) := by decide +kernel
theorem dX10_init_151 : decode cX10_init 151 = .ok (.newarray .int, 2) := by decide +kernel
theorem dX10_init_153 : decode cX10_init 153 = .ok (.putfield 68, 3) := by decide +kernel
theorem dX10_init_156 : decode cX10_init 156 = .ok (.aload_n 0, 1) := by decide +kernel
theorem dX10_init_157 : decode cX10_init 157 = .ok (.bipush 40, 2) := by decide +kernel
theorem dX10_init_159 : decode cX10_init 159 = .ok (.newarray .boolean, 2) := by decide +kernel
theorem dX10_init_161 : decode cX10_init 161 = .ok (.putfield 71, 3) := by decide +kernel
theorem dX10_init_164 : decode cX10_init 164 = .ok (.aload_n 0, 1) := by decide +kernel
theorem dX10_init_165 : decode cX10_init 165 = .ok (.sipush 1600, 3) := by decide +kernel
theorem dX10_init_168 : decode cX10_init 168 = .ok (.newarray .boolean, 2) := by decide +kernel
theorem dX10_init_170 : decode cX10_init 170 = .ok (.putfield 75, 3) := by decide +kernel
theorem dX10_init_173 : decode cX10_init 173 = .ok (.aload_n 0, 1) := by decide +kernel
theorem dX10_init_174 : decode cX10_init 174 = .ok (.bipush 48, 2) := by decide +kernel
theorem dX10_init_176 : decode cX10_init 176 = .ok (.newarray .int, 2) := by decide +kernel
theorem dX10_init_178 : decode cX10_init 178 = .ok (.putfield 78, 3) := by decide +kernel
theorem dX10_init_181 : decode cX10_init 181 = .ok (.aload_n 0, 1) := by decide +kernel
theorem dX10_init_182 : decode cX10_init 182 = .ok (.bipush 48, 2) := by decide +kernel
theorem dX10_init_184 : decode cX10_init 184 = .ok (.newarray .int, 2) := by decide +kernel
theorem dX10_init_186 : decode cX10_init 186 = .ok (.putfield 81, 3) := by decide +kernel
theorem dX10_init_189 : decode cX10_init 189 = .ok (.aload_n 0, 1) := by decide +kernel
theorem dX10_init_190 : decode cX10_init 190 = .ok (.bipush 48, 2) := by decide +kernel
theorem dX10_init_192 : decode cX10_init 192 = .ok (.newarray .int, 2) := by decide +kernel
theorem dX10_init_194 : decode cX10_init 194 = .ok (.putfield 84, 3) := by decide +kernel
theorem dX10_init_197 : decode cX10_init 197 = .ok (.aload_n 0, 1) := by decide +kernel
theorem dX10_init_198 : decode cX10_init 198 = .ok (.bipush 48, 2) := by decide +kernel
theorem dX10_init_200 : decode cX10_init 200 = .ok (.newarray .int, 2) := by decide +kernel
theorem dX10_init_202 : decode cX10_init 202 = .ok (.putfield 87, 3) := by decide +kernel
theorem dX10_init_205 : decode cX10_init 205 = .ok (.aload_n 0, 1) := by decide +kernel
theorem dX10_init_206 : decode cX10_init 206 = .ok (.bipush 24, 2) := by decide +kernel
theorem dX10_init_208 : decode cX10_init 208 = .ok (.newarray .int, 2) := by decide +kernel
theorem dX10_init_210 : decode cX10_init 210 = .ok (.putfield 90, 3) := by decide +kernel
theorem dX10_init_213 : decode cX10_init 213 = .ok (.aload_n 0, 1) := by decide +kernel
theorem dX10_init_214 : decode cX10_init 214 = .ok (.bipush 24, 2) := by decide +kernel
theorem dX10_init_216 : decode cX10_init 216 = .ok (.newarray .int, 2) := by decide +kernel
theorem dX10_init_218 : decode cX10_init 218 = .ok (.putfield 93, 3) := by decide +kernel
theorem dX10_init_221 : decode cX10_init 221 = .ok (.aload_n 0, 1) := by decide +kernel
theorem dX10_init_222 : decode cX10_init 222 = .ok (.bipush 24, 2) := by decide +kernel
theorem dX10_init_224 : decode cX10_init 224 = .ok (.newarray .int, 2) := by decide +kernel
theorem dX10_init_226 : decode cX10_init 226 = .ok (.putfield 96, 3) := by decide +kernel
theorem dX10_init_229 : decode cX10_init 229 = .ok (.iconst 0, 1) := by decide +kernel
theorem dX10_init_230 : decode cX10_init 230 = .ok (.istore_n 1, 1) := by decide +kernel
theorem dX10_init_231 : decode cX10_init 231 = .ok (.iload_n 1, 1) := by decide +kernel
theorem dX10_init_232 : decode cX10_init 232 = .ok (.bipush 36, 2) := by decide +kernel
theorem dX10_init_234 : decode cX10_init 234 = .ok (.if_icmp .ge 32, 3) := by decide +kernel
theorem dX10_init_237 : decode cX10_init 237 = .ok (.aload_n 0, 1) := by decide +kernel
theorem dX10_init_238 : decode cX10_init 238 = .ok (.getfield 22, 3) := by decide +kernel
theorem dX10_init_241 : decode cX10_init 241 = .ok (.iload_n 1, 1) := by decide +kernel
theorem dX10_init_242 : decode cX10_init 242 = .ok (.iload_n 1, 1) := by decide +kernel
theorem dX10_init_243 : decode cX10_init 243 = .ok (.bipush 6, 2) := by decide +kernel
theorem dX10_init_245 : decode cX10_init 245 = .ok (.idiv, 1) := by decide +kernel
theorem dX10_init_246 : decode cX10_init 246 = .ok (.iload_n 1, 1) := by decide +kernel
theorem dX10_init_247 : decode cX10_init 247 = .ok (.bipush 6, 2) := by decide +kernel
theorem dX10_init_249 : decode cX10_init 249 = .ok (.irem, 1) := by decide +kernel
theorem dX10_init_250 : decode cX10_init 250 = .ok (.if_icmp .ne 7, 3) := by decide +kernel
theorem dX10_init_253 : decode cX10_init 253 = .ok (.iconst 0, 1) := by decide +kernel
theorem dX10_init_254 : decode cX10_init 254 = .ok (.goto 5, 3) := by decide +kernel
theorem dX10_init_257 : decode cX10_init 257 = .ok (.bipush 10, 2) := by decide +kernel
theorem dX10_init_259 : decode cX10_init 259 = .ok (.iastore, 1) := by decide +kernel
theorem dX10_init_260 : decode cX10_init 260 = .ok (.iinc 1 1, 3) := by decide +kernel
theorem dX10_init_263 : decode cX10_init 263 = .ok (.goto (-32), 3) := by decide +kernel
theorem dX10_init_266 : decode cX10_init 266 = .ok (.iconst 0, 1) := by decide +kernel
theorem dX10_init_267 : decode cX10_init 267 = .ok (.istore_n 1, 1) := by decide +kernel
theorem dX10_init_268 : decode cX10_init 268 = .ok (.iload_n 1, 1) := by decide +kernel
theorem dX10_init_269 : decode cX10_init 269 = .ok (.bipush 24, 2) := by decide +kernel
theorem dX10_init_271 : decode cX10_init 271 = .ok (.if_icmp .ge 23, 3) := by decide +kernel
theorem dX10_init_274 : decode cX10_init 274 = .ok (.aload_n 0, 1) := by decide +kernel
theorem dX10_init_275 : decode cX10_init 275 = .ok (.getfield 43, 3) := by decide +kernel
theorem dX10_init_278 : decode cX10_init 278 = .ok (.iload_n 1, 1) := by decide +kernel
theorem dX10_init_279 : decode cX10_init 279 = .ok (.iconst (-1), 1) := by decide +kernel
theorem dX10_init_280 : decode cX10_init 280 = .ok (.iastore, 1) := by decide +kernel
theorem dX10_init_281 : decode cX10_init 281 = .ok (.aload_n 0, 1) := by decide +kernel
theorem dX10_init_282 : decode cX10_init 282 = .ok (.getfield 46, 3) := by decide +kernel
theorem dX10_init_285 : decode cX10_init 285 = .ok (.iload_n 1, 1) := by decide +kernel
theorem dX10_init_286 : decode cX10_init 286 = .ok (.iconst (-1), 1) := by decide +kernel
theorem dX10_init_287 : decode cX10_init 287 = .ok (.iastore, 1) := by decide +kernel
theorem dX10_init_288 : decode cX10_init 288 = .ok (.iinc 1 1, 3) := by decide +kernel
theorem dX10_init_291 : decode cX10_init 291 = .ok (.goto (-23), 3) := by decide +kernel
theorem dX10_init_294 : decode cX10_init 294 = .ok (.aload_n 0, 1) := by decide +kernel
theorem dX10_init_295 : decode cX10_init 295 = .ok (.getfield 59, 3) := by decide +kernel
theorem dX10_init_298 : decode cX10_init 298 = .ok (.iconst 0, 1) := by decide +kernel
theorem dX10_init_299 : decode cX10_init 299 = .ok (.iconst (-1), 1) := by decide +kernel
theorem dX10_init_300 : decode cX10_init 300 = .ok (.iastore, 1) := by decide +kernel
theorem dX10_init_301 : decode cX10_init 301 = .ok (.aload_n 0, 1) := by decide +kernel
theorem dX10_init_302 : decode cX10_init 302 = .ok (.getfield 59, 3) := by decide +kernel
theorem dX10_init_305 : decode cX10_init 305 = .ok (.iconst 1, 1) := by decide +kernel
theorem dX10_init_306 : decode cX10_init 306 = .ok (.iconst (-1), 1) := by decide +kernel
theorem dX10_init_307 : decode cX10_init 307 = .ok (.iastore, 1) := by decide +kernel
theorem dX10_init_308 : decode cX10_init 308 = .ok (.return_, 1) := by decide +kernel
theorem dX10_isIn_0 : decode cX10_isIn 0 = .ok (.iload_n 0, 1) := by decide +kernel
theorem dX10_isIn_1 : decode cX10_isIn 1 = .ok (.iload_n 1, 1) := by decide +kernel
theorem dX10_isIn_2 : decode cX10_isIn 2 = .ok (.if_icmp .lt 12, 3) := by decide +kernel
theorem dX10_isIn_5 : decode cX10_isIn 5 = .ok (.iload_n 0, 1) := by decide +kernel
theorem dX10_isIn_6 : decode cX10_isIn 6 = .ok (.iload_n 2, 1) := by decide +kernel
theorem dX10_isIn_7 : decode cX10_isIn 7 = .ok (.if_icmp .gt 7, 3) := by decide +kernel
theorem dX10_isIn_10 : decode cX10_isIn 10 = .ok (.iconst 1, 1) := by decide +kernel
theorem dX10_isIn_11 : decode cX10_isIn 11 = .ok (.goto 4, 3) := by decide +kernel
theorem dX10_isIn_14 : decode cX10_isIn 14 = .ok (.iconst 0, 1) := by decide +kernel
theorem dX10_isIn_15 : decode cX10_isIn 15 = .ok (.ireturn, 1) := by decide +kernel
set_option maxRecDepth 20000 in
theorem ggX10_isHouse_X10_isIn : GoodIn wsX10_isHouse wsX10_isIn := goodIn_r _ [5] (by decide +kernel) (by decide +kernel)
set_option maxRecDepth 20000 in
theorem gX10_isHouse_X10_isIn : GoodIn wsX10_isHouse (va_wsS RX10 102 yX10_isIn wsX10_isIn) := goodIn_app (goodIn_of _ (by decide +kernel)) ggX10_isHouse_X10_isIn
theorem dX10_isHouse_0 : decode cX10_isHouse 0 = .ok (.iload_n 1, 1) := by decide +kernel
theorem dX10_isHouse_1 : decode cX10_isHouse 1 = .ok (.iconst 0, 1) := by decide +kernel
theorem dX10_isHouse_2 : decode cX10_isHouse 2 = .ok (.aload_n 0, 1) := by decide +kernel
theorem dX10_isHouse_3 : decode cX10_isHouse 3 = .ok (.getfield 99, 3) := by decide +kernel
theorem dX10_isHouse_6 : decode cX10_isHouse 6 = .ok (.iconst 1, 1) := by decide +kernel
theorem dX10_isHouse_7 : decode cX10_isHouse 7 = .ok (.isub, 1) := by decide +kernel
theorem dX10_isHouse_8 : decode cX10_isHouse 8 = .ok (.invokestatic 102, 3) := by decide +kernel
theorem dX10_isHouse_11 : decode cX10_isHouse 11 = .ok (.ireturn, 1) := by decide +kernel
set_option maxRecDepth 20000 in
theorem ggX10_isReel_X10_isIn : GoodIn wsX10_isReel wsX10_isIn := goodIn_r _ [5] (by decide +kernel) (by decide +kernel)
set_option maxRecDepth 20000 in
theorem gX10_isReel_X10_isIn : GoodIn wsX10_isReel (va_wsS RX10 102 yX10_isIn wsX10_isIn) := goodIn_app (goodIn_of _ (by decide +kernel)) ggX10_isReel_X10_isIn
theorem dX10_isReel_0 : decode cX10_isReel 0 = .ok (.iload_n 1, 1) := by decide +kernel
theorem dX10_isReel_1 : decode cX10_isReel 1 = .ok (.iconst 0, 1) := by decide +kernel
theorem dX10_isReel_2 : decode cX10_isReel 2 = .ok (.aload_n 0, 1) := by decide +kernel
theorem dX10_isReel_3 : decode cX10_isReel 3 = .ok (.getfield 106, 3) := by decide +kernel
theorem dX10_isReel_6 : decode cX10_isReel 6 = .ok (.iconst 1, 1) := by decide +kernel
theorem dX10_isReel_7 : decode cX10_isReel 7 = .ok (.isub, 1) := by decide +kernel
theorem dX10_isReel_8 : decode cX10_isReel 8 = .ok (.invokestatic 102, 3) := by decide +kernel
theorem dX10_isReel_11 : decode cX10_isReel 11 = .ok (.ireturn, 1) := by decide +kernel
set_option maxRecDepth 20000 in
theorem ggX10_house_X10_isIn : GoodIn wsX10_house wsX10_isIn := goodIn_r _ [9] (by decide +kernel) (by decide +kernel)
set_option maxRecDepth 20000 in
theorem gX10_house_X10_isIn : GoodIn wsX10_house (va_wsS RX10 102 yX10_isIn wsX10_isIn) := goodIn_app (goodIn_of _ (by decide +kernel)) ggX10_house_X10_isIn
theorem dX10_house_0 : decode cX10_house 0 = .ok (.iload_n 1, 1) := by decide +kernel
theorem dX10_house_1 : decode cX10_house 1 = .ok (.iconst 0, 1) := by decide +kernel
theorem dX10_house_2 : decode cX10_house 2 = .ok (.iconst 3, 1) := by decide +kernel
theorem dX10_house_3 : decode cX10_house 3 = .ok (.invokestatic 102, 3) := by decide +kernel
theorem dX10_house_6 : decode cX10_house 6 = .ok (.ifCond .eq 14, 3) := by decide +kernel
theorem dX10_house_9 : decode cX10_house 9 = .ok (.iload_n 2, 1) := by decide +kernel
theorem dX10_house_10 : decode cX10_house 10 = .ok (.iconst 1, 1) := by decide +kernel
theorem dX10_house_11 : decode cX10_house 11 = .ok (.sipush 999, 3) := by decide +kernel
theorem dX10_house_14 : decode cX10_house 14 = .ok (.invokestatic 102, 3) := by decide +kernel
theorem dX10_house_17 : decode cX10_house 17 = .ok (.ifCond .ne 6, 3) := by decide +kernel
theorem dX10_house_20 : decode cX10_house 20 = .ok (.ldc 109, 2) := by decide +kernel
theorem dX10_house_22 : decode cX10_house 22 = .ok (.ireturn, 1) := by decide +kernel
theorem dX10_house_23 : decode cX10_house 23 = .ok (.aload_n 0, 1) := by decide +kernel
theorem dX10_house_24 : decode cX10_house 24 = .ok (.getfield 99, 3) := by decide +kernel
theorem dX10_house_27 : decode cX10_house 27 = .ok (.bipush 6, 2) := by decide +kernel
theorem dX10_house_29 : decode cX10_house 29 = .ok (.if_icmp .ne 6, 3) := by decide +kernel
theorem dX10_house_32 : decode cX10_house 32 = .ok (.ldc 110, 2) := by decide +kernel
theorem dX10_house_34 : decode cX10_house 34 = .ok (.ireturn, 1) := by decide +kernel
theorem dX10_house_35 : decode cX10_house 35 = .ok (.aload_n 0, 1) := by decide +kernel
theorem dX10_house_36 : decode cX10_house 36 = .ok (.getfield 7, 3) := by decide +kernel
theorem dX10_house_39 : decode cX10_house 39 = .ok (.aload_n 0, 1) := by decide +kernel
theorem dX10_house_40 : decode cX10_house 40 = .ok (.getfield 99, 3) := by decide +kernel
theorem dX10_house_43 : decode cX10_house 43 = .ok (.iload_n 1, 1) := by decide +kernel
theorem dX10_house_44 : decode cX10_house 44 = .ok (.iastore, 1) := by decide +kernel
theorem dX10_house_45 : decode cX10_house 45 = .ok (.aload_n 0, 1) := by decide +kernel
theorem dX10_house_46 : decode cX10_house 46 = .ok (.getfield 13, 3) := by decide +kernel
theorem dX10_house_49 : decode cX10_house 49 = .ok (.aload_n 0, 1) := by decide +kernel
theorem dX10_house_50 : decode cX10_house 50 = .ok (.getfield 99, 3) := by decide +kernel
theorem dX10_house_53 : decode cX10_house 53 = .ok (.iload_n 2, 1) := by decide +kernel
theorem dX10_house_54 : decode cX10_house 54 = .ok (.iastore, 1) := by decide +kernel
theorem dX10_house_55 : decode cX10_house 55 = .ok (.aload_n 0, 1) := by decide +kernel
theorem dX10_house_56 : decode cX10_house 56 = .ok (.dup, 1) := by decide +kernel
theorem dX10_house_57 : decode cX10_house 57 = .ok (.getfield 99, 3) := by decide +kernel
theorem dX10_house_60 : decode cX10_house 60 = .ok (.iconst 1, 1) := by decide +kernel
theorem dX10_house_61 : decode cX10_house 61 = .ok (.iadd, 1) := by decide +kernel
theorem dX10_house_62 : decode cX10_house 62 = .ok (.putfield 99, 3) := by decide +kernel
theorem dX10_house_65 : decode cX10_house 65 = .ok (.aload_n 0, 1) := by decide +kernel
theorem dX10_house_66 : decode cX10_house 66 = .ok (.getfield 99, 3) := by decide +kernel
theorem dX10_house_69 : decode cX10_house 69 = .ok (.iconst 1, 1) := by decide +kernel
theorem dX10_house_70 : decode cX10_house 70 = .ok (.isub, 1) := by decide +kernel
theorem dX10_house_71 : decode cX10_house 71 = .ok (.ireturn, 1) := by decide +kernel
theorem dX10_isPalace_0 : decode cX10_isPalace 0 = .ok (.aload_n 0, 1) := by decide +kernel
theorem dX10_isPalace_1 : decode cX10_isPalace 1 = .ok (.getfield 7, 3) := by decide +kernel
theorem dX10_isPalace_4 : decode cX10_isPalace 4 = .ok (.iload_n 1, 1) := by decide +kernel
theorem dX10_isPalace_5 : decode cX10_isPalace 5 = .ok (.iaload, 1) := by decide +kernel
theorem dX10_isPalace_6 : decode cX10_isPalace 6 = .ok (.iconst 1, 1) := by decide +kernel
theorem dX10_isPalace_7 : decode cX10_isPalace 7 = .ok (.if_icmp .eq 13, 3) := by decide +kernel
theorem dX10_isPalace_10 : decode cX10_isPalace 10 = .ok (.aload_n 0, 1) := by decide +kernel
theorem dX10_isPalace_11 : decode cX10_isPalace 11 = .ok (.getfield 7, 3) := by decide +kernel
theorem dX10_isPalace_14 : decode cX10_isPalace 14 = .ok (.iload_n 1, 1) := by decide +kernel
theorem dX10_isPalace_15 : decode cX10_isPalace 15 = .ok (.iaload, 1) := by decide +kernel
theorem dX10_isPalace_16 : decode cX10_isPalace 16 = .ok (.iconst 3, 1) := by decide +kernel
theorem dX10_isPalace_17 : decode cX10_isPalace 17 = .ok (.if_icmp .ne 7, 3) := by decide +kernel
theorem dX10_isPalace_20 : decode cX10_isPalace 20 = .ok (.iconst 1, 1) := by decide +kernel
theorem dX10_isPalace_21 : decode cX10_isPalace 21 = .ok (.goto 4, 3) := by decide +kernel
theorem dX10_isPalace_24 : decode cX10_isPalace 24 = .ok (.iconst 0, 1) := by decide +kernel
theorem dX10_isPalace_25 : decode cX10_isPalace 25 = .ok (.ireturn, 1) := by decide +kernel
set_option maxRecDepth 20000 in
theorem ggX10_isOf_X10_isHouse : GoodIn wsX10_isOf wsX10_isHouse := goodIn_r _ [7, 8, 9, 10, 6, 11, 16, 17, 18, 19, 20, 21, 22, 23, 24, 25, 26, 27, 28, 29, 30, 31, 32, 33, 34, 35, 36, 37, 38, 39, 40, 41, 42, 43, 44, 45, 46, 47, 48, 49, 50, 51, 52] (by decide +kernel) (by decide +kernel)
set_option maxRecDepth 20000 in
theorem gX10_isOf_X10_isHouse : GoodIn wsX10_isOf (wsV RX10 111 RX10 yX10_isHouse wsX10_isHouse) := goodIn_app (goodIn_of _ (by decide +kernel)) ggX10_isOf_X10_isHouse
set_option maxRecDepth 20000 in
theorem ggX10_isOf_X10_isIn : GoodIn wsX10_isOf wsX10_isIn := goodIn_r _ [11] (by decide +kernel) (by decide +kernel)
set_option maxRecDepth 20000 in
theorem gX10_isOf_X10_isIn : GoodIn wsX10_isOf (va_wsS RX10 102 yX10_isIn wsX10_isIn) := goodIn_app (goodIn_of _ (by decide +kernel)) ggX10_isOf_X10_isIn
set_option maxRecDepth 20000 in
theorem ggX10_isOf_X10_isPalace : GoodIn wsX10_isOf wsX10_isPalace := goodIn_r _ [15, 2, 16, 17, 18, 19, 20, 21, 22, 23, 24, 25, 26, 27, 28, 29, 30, 31, 32, 33, 34, 35, 36, 37, 38, 39, 40, 41, 42, 43, 44, 45, 46, 47, 48, 49, 50, 51, 52] (by decide +kernel) (by decide +kernel)
set_option maxRecDepth 20000 in
theorem gX10_isOf_X10_isPalace : GoodIn wsX10_isOf (wsV RX10 115 RX10 yX10_isPalace wsX10_isPalace) := goodIn_app (goodIn_of _ (by decide +kernel)) ggX10_isOf_X10_isPalace
theorem dX10_isOf_0 : decode cX10_isOf 0 = .ok (.aload_n 0, 1) := by decide +kernel
theorem dX10_isOf_1 : decode cX10_isOf 1 = .ok (.iload_n 1, 1) := by decide +kernel
theorem dX10_isOf_2 : decode cX10_isOf 2 = .ok (.invokevirtual 111, 3) := by decide +kernel
theorem dX10_isOf_5 : decode cX10_isOf 5 = .ok (.ifCond .eq 12, 3) := by decide +kernel
theorem dX10_isOf_8 : decode cX10_isOf 8 = .ok (.iload_n 2, 1) := by decide +kernel
theorem dX10_isOf_9 : decode cX10_isOf 9 = .ok (.iconst 0, 1) := by decide +kernel
theorem dX10_isOf_10 : decode cX10_isOf 10 = .ok (.iconst 3, 1) := by decide +kernel
theorem dX10_isOf_11 : decode cX10_isOf 11 = .ok (.invokestatic 102, 3) := by decide +kernel
theorem dX10_isOf_14 : decode cX10_isOf 14 = .ok (.ifCond .ne 6, 3) := by decide +kernel
theorem dX10_isOf_17 : decode cX10_isOf 17 = .ok (.ldc 109, 2) := by decide +kernel
theorem dX10_isOf_19 : decode cX10_isOf 19 = .ok (.ireturn, 1) := by decide +kernel
theorem dX10_isOf_20 : decode cX10_isOf 20 = .ok (.iload_n 2, 1) := by decide +kernel
theorem dX10_isOf_21 : decode cX10_isOf 21 = .ok (.ifCond .eq 26, 3) := by decide +kernel
theorem dX10_isOf_24 : decode cX10_isOf 24 = .ok (.aload_n 0, 1) := by decide +kernel
theorem dX10_isOf_25 : decode cX10_isOf 25 = .ok (.getfield 7, 3) := by decide +kernel
theorem dX10_isOf_28 : decode cX10_isOf 28 = .ok (.iload_n 1, 1) := by decide +kernel
theorem dX10_isOf_29 : decode cX10_isOf 29 = .ok (.iaload, 1) := by decide +kernel
theorem dX10_isOf_30 : decode cX10_isOf 30 = .ok (.iload_n 2, 1) := by decide +kernel
theorem dX10_isOf_31 : decode cX10_isOf 31 = .ok (.if_icmp .eq 16, 3) := by decide +kernel
theorem dX10_isOf_34 : decode cX10_isOf 34 = .ok (.iload_n 2, 1) := by decide +kernel
theorem dX10_isOf_35 : decode cX10_isOf 35 = .ok (.iconst 1, 1) := by decide +kernel
theorem dX10_isOf_36 : decode cX10_isOf 36 = .ok (.if_icmp .ne 15, 3) := by decide +kernel
theorem dX10_isOf_39 : decode cX10_isOf 39 = .ok (.aload_n 0, 1) := by decide +kernel
theorem dX10_isOf_40 : decode cX10_isOf 40 = .ok (.iload_n 1, 1) := by decide +kernel
theorem dX10_isOf_41 : decode cX10_isOf 41 = .ok (.invokevirtual 115, 3) := by decide +kernel
theorem dX10_isOf_44 : decode cX10_isOf 44 = .ok (.ifCond .eq 7, 3) := by decide +kernel
theorem dX10_isOf_47 : decode cX10_isOf 47 = .ok (.iconst 1, 1) := by decide +kernel
theorem dX10_isOf_48 : decode cX10_isOf 48 = .ok (.goto 4, 3) := by decide +kernel
theorem dX10_isOf_51 : decode cX10_isOf 51 = .ok (.iconst 0, 1) := by decide +kernel
theorem dX10_isOf_52 : decode cX10_isOf 52 = .ok (.ireturn, 1) := by decide +kernel
set_option maxRecDepth 20000 in
theorem ggX10_way_X10_isHouse : GoodIn wsX10_way wsX10_isHouse := goodIn_r _ [7, 8, 9, 10, 6, 11, 12, 13, 14, 15, 16, 17, 18, 19, 20, 21, 22, 23, 24, 25, 26, 27, 28, 29, 30, 31, 32, 33, 34, 35, 36, 37, 38, 39, 40, 41, 42, 43, 44, 45, 46, 47, 48] (by decide +kernel) (by decide +kernel)
set_option maxRecDepth 20000 in
theorem gX10_way_X10_isHouse : GoodIn wsX10_way (wsV RX10 111 RX10 yX10_isHouse wsX10_isHouse) := goodIn_app (goodIn_of _ (by decide +kernel)) ggX10_way_X10_isHouse
set_option maxRecDepth 20000 in
theorem ggX10_way_X10_isIn : GoodIn wsX10_way wsX10_isIn := goodIn_r _ [11] (by decide +kernel) (by decide +kernel)
set_option maxRecDepth 20000 in
theorem gX10_way_X10_isIn : GoodIn wsX10_way (va_wsS RX10 102 yX10_isIn wsX10_isIn) := goodIn_app (goodIn_of _ (by decide +kernel)) ggX10_way_X10_isIn
theorem dX10_way_0 : decode cX10_way 0 = .ok (.aload_n 0, 1) := by decide +kernel
theorem dX10_way_1 : decode cX10_way 1 = .ok (.iload_n 1, 1) := by decide +kernel
theorem dX10_way_2 : decode cX10_way 2 = .ok (.invokevirtual 111, 3) := by decide +kernel
theorem dX10_way_5 : decode cX10_way 5 = .ok (.ifCond .eq 26, 3) := by decide +kernel
theorem dX10_way_8 : decode cX10_way 8 = .ok (.aload_n 0, 1) := by decide +kernel
theorem dX10_way_9 : decode cX10_way 9 = .ok (.iload_n 2, 1) := by decide +kernel
theorem dX10_way_10 : decode cX10_way 10 = .ok (.invokevirtual 111, 3) := by decide +kernel
theorem dX10_way_13 : decode cX10_way 13 = .ok (.ifCond .eq 18, 3) := by decide +kernel
theorem dX10_way_16 : decode cX10_way 16 = .ok (.iload_n 1, 1) := by decide +kernel
theorem dX10_way_17 : decode cX10_way 17 = .ok (.iload_n 2, 1) := by decide +kernel
theorem dX10_way_18 : decode cX10_way 18 = .ok (.if_icmp .eq 13, 3) := by decide +kernel
theorem dX10_way_21 : decode cX10_way 21 = .ok (.iload_n 3, 1) := by decide +kernel
theorem dX10_way_22 : decode cX10_way 22 = .ok (.iconst 0, 1) := by decide +kernel
theorem dX10_way_23 : decode cX10_way 23 = .ok (.bipush 99, 2) := by decide +kernel
theorem dX10_way_25 : decode cX10_way 25 = .ok (.invokestatic 102, 3) := by decide +kernel
theorem dX10_way_28 : decode cX10_way 28 = .ok (.ifCond .ne 6, 3) := by decide +kernel
theorem dX10_way_31 : decode cX10_way 31 = .ok (.ldc 109, 2) := by decide +kernel
theorem dX10_way_33 : decode cX10_way 33 = .ok (.ireturn, 1) := by decide +kernel
theorem dX10_way_34 : decode cX10_way 34 = .ok (.aload_n 0, 1) := by decide +kernel
theorem dX10_way_35 : decode cX10_way 35 = .ok (.getfield 22, 3) := by decide +kernel
theorem dX10_way_38 : decode cX10_way 38 = .ok (.bipush 6, 2) := by decide +kernel
theorem dX10_way_40 : decode cX10_way 40 = .ok (.iload_n 1, 1) := by decide +kernel
theorem dX10_way_41 : decode cX10_way 41 = .ok (.imul, 1) := by decide +kernel
theorem dX10_way_42 : decode cX10_way 42 = .ok (.iload_n 2, 1) := by decide +kernel
theorem dX10_way_43 : decode cX10_way 43 = .ok (.iadd, 1) := by decide +kernel
theorem dX10_way_44 : decode cX10_way 44 = .ok (.iaload, 1) := by decide +kernel
theorem dX10_way_45 : decode cX10_way 45 = .ok (.istore 4, 2) := by decide +kernel
theorem dX10_way_47 : decode cX10_way 47 = .ok (.aload_n 0, 1) := by decide +kernel
theorem dX10_way_48 : decode cX10_way 48 = .ok (.getfield 22, 3) := by decide +kernel
theorem dX10_way_51 : decode cX10_way 51 = .ok (.bipush 6, 2) := by decide +kernel
theorem dX10_way_53 : decode cX10_way 53 = .ok (.iload_n 1, 1) := by decide +kernel
theorem dX10_way_54 : decode cX10_way 54 = .ok (.imul, 1) := by decide +kernel
theorem dX10_way_55 : decode cX10_way 55 = .ok (.iload_n 2, 1) := by decide +kernel
theorem dX10_way_56 : decode cX10_way 56 = .ok (.iadd, 1) := by decide +kernel
theorem dX10_way_57 : decode cX10_way 57 = .ok (.iload_n 3, 1) := by decide +kernel
theorem dX10_way_58 : decode cX10_way 58 = .ok (.iastore, 1) := by decide +kernel
theorem dX10_way_59 : decode cX10_way 59 = .ok (.aload_n 0, 1) := by decide +kernel
theorem dX10_way_60 : decode cX10_way 60 = .ok (.getfield 22, 3) := by decide +kernel
theorem dX10_way_63 : decode cX10_way 63 = .ok (.bipush 6, 2) := by decide +kernel
theorem dX10_way_65 : decode cX10_way 65 = .ok (.iload_n 2, 1) := by decide +kernel
theorem dX10_way_66 : decode cX10_way 66 = .ok (.imul, 1) := by decide +kernel
theorem dX10_way_67 : decode cX10_way 67 = .ok (.iload_n 1, 1) := by decide +kernel
theorem dX10_way_68 : decode cX10_way 68 = .ok (.iadd, 1) := by decide +kernel
theorem dX10_way_69 : decode cX10_way 69 = .ok (.iload_n 3, 1) := by decide +kernel
theorem dX10_way_70 : decode cX10_way 70 = .ok (.iastore, 1) := by decide +kernel
theorem dX10_way_71 : decode cX10_way 71 = .ok (.iload 4, 2) := by decide +kernel
theorem dX10_way_73 : decode cX10_way 73 = .ok (.ireturn, 1) := by decide +kernel
set_option maxRecDepth 20000 in
theorem ggX10_slack_X10_isHouse : GoodIn wsX10_slack wsX10_isHouse := goodIn_r _ [7, 8, 9, 10, 6, 11, 12, 13, 14, 15, 16, 17, 18, 19, 20, 21, 22, 23, 24, 25, 26, 27, 28, 29, 30, 31, 32, 33, 34, 35, 36, 37, 38, 39, 40, 41, 42, 43, 44, 45, 46, 47, 48] (by decide +kernel) (by decide +kernel)
set_option maxRecDepth 20000 in
theorem gX10_slack_X10_isHouse : GoodIn wsX10_slack (wsV RX10 111 RX10 yX10_isHouse wsX10_isHouse) := goodIn_app (goodIn_of _ (by decide +kernel)) ggX10_slack_X10_isHouse
set_option maxRecDepth 20000 in
theorem ggX10_slack_X10_isIn : GoodIn wsX10_slack wsX10_isIn := goodIn_r _ [11] (by decide +kernel) (by decide +kernel)
set_option maxRecDepth 20000 in
theorem gX10_slack_X10_isIn : GoodIn wsX10_slack (va_wsS RX10 102 yX10_isIn wsX10_isIn) := goodIn_app (goodIn_of _ (by decide +kernel)) ggX10_slack_X10_isIn
theorem dX10_slack_0 : decode cX10_slack 0 = .ok (.aload_n 0, 1) := by decide +kernel
theorem dX10_slack_1 : decode cX10_slack 1 = .ok (.iload_n 1, 1) := by decide +kernel
theorem dX10_slack_2 : decode cX10_slack 2 = .ok (.invokevirtual 111, 3) := by decide +kernel
theorem dX10_slack_5 : decode cX10_slack 5 = .ok (.ifCond .eq 13, 3) := by decide +kernel
theorem dX10_slack_8 : decode cX10_slack 8 = .ok (.iload_n 2, 1) := by decide +kernel
theorem dX10_slack_9 : decode cX10_slack 9 = .ok (.iconst 0, 1) := by decide +kernel
theorem dX10_slack_10 : decode cX10_slack 10 = .ok (.bipush 9, 2) := by decide +kernel
theorem dX10_slack_12 : decode cX10_slack 12 = .ok (.invokestatic 102, 3) := by decide +kernel
theorem dX10_slack_15 : decode cX10_slack 15 = .ok (.ifCond .ne 6, 3) := by decide +kernel
theorem dX10_slack_18 : decode cX10_slack 18 = .ok (.ldc 109, 2) := by decide +kernel
theorem dX10_slack_20 : decode cX10_slack 20 = .ok (.ireturn, 1) := by decide +kernel
theorem dX10_slack_21 : decode cX10_slack 21 = .ok (.aload_n 0, 1) := by decide +kernel
theorem dX10_slack_22 : decode cX10_slack 22 = .ok (.getfield 16, 3) := by decide +kernel
theorem dX10_slack_25 : decode cX10_slack 25 = .ok (.iload_n 1, 1) := by decide +kernel
theorem dX10_slack_26 : decode cX10_slack 26 = .ok (.iaload, 1) := by decide +kernel
theorem dX10_slack_27 : decode cX10_slack 27 = .ok (.istore_n 3, 1) := by decide +kernel
theorem dX10_slack_28 : decode cX10_slack 28 = .ok (.aload_n 0, 1) := by decide +kernel
theorem dX10_slack_29 : decode cX10_slack 29 = .ok (.getfield 16, 3) := by decide +kernel
theorem dX10_slack_32 : decode cX10_slack 32 = .ok (.iload_n 1, 1) := by decide +kernel
theorem dX10_slack_33 : decode cX10_slack 33 = .ok (.iload_n 2, 1) := by decide +kernel
theorem dX10_slack_34 : decode cX10_slack 34 = .ok (.iastore, 1) := by decide +kernel
theorem dX10_slack_35 : decode cX10_slack 35 = .ok (.iload_n 3, 1) := by decide +kernel
theorem dX10_slack_36 : decode cX10_slack 36 = .ok (.ireturn, 1) := by decide +kernel
set_option maxRecDepth 20000 in
theorem ggX10_reel_X10_isIn : GoodIn wsX10_reel wsX10_isIn := goodIn_r _ [10] (by decide +kernel) (by decide +kernel)
set_option maxRecDepth 20000 in
theorem gX10_reel_X10_isIn : GoodIn wsX10_reel (va_wsS RX10 102 yX10_isIn wsX10_isIn) := goodIn_app (goodIn_of _ (by decide +kernel)) ggX10_reel_X10_isIn
theorem dX10_reel_0 : decode cX10_reel 0 = .ok (.iload_n 1, 1) := by decide +kernel
theorem dX10_reel_1 : decode cX10_reel 1 = .ok (.iconst 1, 1) := by decide +kernel
theorem dX10_reel_2 : decode cX10_reel 2 = .ok (.sipush 20000, 3) := by decide +kernel
theorem dX10_reel_5 : decode cX10_reel 5 = .ok (.invokestatic 102, 3) := by decide +kernel
theorem dX10_reel_8 : decode cX10_reel 8 = .ok (.ifCond .ne 6, 3) := by decide +kernel
theorem dX10_reel_11 : decode cX10_reel 11 = .ok (.ldc 109, 2) := by decide +kernel
theorem dX10_reel_13 : decode cX10_reel 13 = .ok (.ireturn, 1) := by decide +kernel
theorem dX10_reel_14 : decode cX10_reel 14 = .ok (.aload_n 0, 1) := by decide +kernel
theorem dX10_reel_15 : decode cX10_reel 15 = .ok (.getfield 106, 3) := by decide +kernel
theorem dX10_reel_18 : decode cX10_reel 18 = .ok (.bipush 8, 2) := by decide +kernel
theorem dX10_reel_20 : decode cX10_reel 20 = .ok (.if_icmp .ne 6, 3) := by decide +kernel
theorem dX10_reel_23 : decode cX10_reel 23 = .ok (.ldc 110, 2) := by decide +kernel
theorem dX10_reel_25 : decode cX10_reel 25 = .ok (.ireturn, 1) := by decide +kernel
theorem dX10_reel_26 : decode cX10_reel 26 = .ok (.aload_n 0, 1) := by decide +kernel
theorem dX10_reel_27 : decode cX10_reel 27 = .ok (.getfield 28, 3) := by decide +kernel
theorem dX10_reel_30 : decode cX10_reel 30 = .ok (.aload_n 0, 1) := by decide +kernel
theorem dX10_reel_31 : decode cX10_reel 31 = .ok (.getfield 106, 3) := by decide +kernel
theorem dX10_reel_34 : decode cX10_reel 34 = .ok (.iload_n 1, 1) := by decide +kernel
theorem dX10_reel_35 : decode cX10_reel 35 = .ok (.iastore, 1) := by decide +kernel
theorem dX10_reel_36 : decode cX10_reel 36 = .ok (.aload_n 0, 1) := by decide +kernel
theorem dX10_reel_37 : decode cX10_reel 37 = .ok (.getfield 31, 3) := by decide +kernel
theorem dX10_reel_40 : decode cX10_reel 40 = .ok (.aload_n 0, 1) := by decide +kernel
theorem dX10_reel_41 : decode cX10_reel 41 = .ok (.getfield 106, 3) := by decide +kernel
theorem dX10_reel_44 : decode cX10_reel 44 = .ok (.iconst 0, 1) := by decide +kernel
theorem dX10_reel_45 : decode cX10_reel 45 = .ok (.iastore, 1) := by decide +kernel
theorem dX10_reel_46 : decode cX10_reel 46 = .ok (.aload_n 0, 1) := by decide +kernel
theorem dX10_reel_47 : decode cX10_reel 47 = .ok (.dup, 1) := by decide +kernel
theorem dX10_reel_48 : decode cX10_reel 48 = .ok (.getfield 106, 3) := by decide +kernel
theorem dX10_reel_51 : decode cX10_reel 51 = .ok (.iconst 1, 1) := by decide +kernel
theorem dX10_reel_52 : decode cX10_reel 52 = .ok (.iadd, 1) := by decide +kernel
theorem dX10_reel_53 : decode cX10_reel 53 = .ok (.putfield 106, 3) := by decide +kernel
theorem dX10_reel_56 : decode cX10_reel 56 = .ok (.aload_n 0, 1) := by decide +kernel
theorem dX10_reel_57 : decode cX10_reel 57 = .ok (.iconst 0, 1) := by decide +kernel
theorem dX10_reel_58 : decode cX10_reel 58 = .ok (.putfield 118, 3) := by decide +kernel
theorem dX10_reel_61 : decode cX10_reel 61 = .ok (.aload_n 0, 1) := by decide +kernel
theorem dX10_reel_62 : decode cX10_reel 62 = .ok (.getfield 106, 3) := by decide +kernel
theorem dX10_reel_65 : decode cX10_reel 65 = .ok (.iconst 1, 1) := by decide +kernel
theorem dX10_reel_66 : decode cX10_reel 66 = .ok (.isub, 1) := by decide +kernel
theorem dX10_reel_67 : decode cX10_reel 67 = .ok (.ireturn, 1) := by decide +kernel
set_option maxRecDepth 20000 in
theorem ggX10_mend_X10_isReel : GoodIn wsX10_mend wsX10_isReel := goodIn_r _ [8, 9, 10, 11, 7, 12, 13, 14, 15, 16, 17, 18, 19, 20, 21, 22, 23, 24, 25, 26, 27, 28, 29, 30, 31, 32, 33, 34, 35, 36, 37, 38, 39, 40, 41, 42, 43, 44, 45, 46, 47, 48, 49] (by decide +kernel) (by decide +kernel)
set_option maxRecDepth 20000 in
theorem gX10_mend_X10_isReel : GoodIn wsX10_mend (wsV RX10 121 RX10 yX10_isReel wsX10_isReel) := goodIn_app (goodIn_of _ (by decide +kernel)) ggX10_mend_X10_isReel
set_option maxRecDepth 20000 in
theorem ggX10_mend_X10_isIn : GoodIn wsX10_mend wsX10_isIn := goodIn_r _ [12] (by decide +kernel) (by decide +kernel)
set_option maxRecDepth 20000 in
theorem gX10_mend_X10_isIn : GoodIn wsX10_mend (va_wsS RX10 102 yX10_isIn wsX10_isIn) := goodIn_app (goodIn_of _ (by decide +kernel)) ggX10_mend_X10_isIn
theorem dX10_mend_0 : decode cX10_mend 0 = .ok (.aload_n 0, 1) := by decide +kernel
theorem dX10_mend_1 : decode cX10_mend 1 = .ok (.iload_n 1, 1) := by decide +kernel
theorem dX10_mend_2 : decode cX10_mend 2 = .ok (.invokevirtual 121, 3) := by decide +kernel
theorem dX10_mend_5 : decode cX10_mend 5 = .ok (.ifCond .eq 14, 3) := by decide +kernel
theorem dX10_mend_8 : decode cX10_mend 8 = .ok (.iload_n 2, 1) := by decide +kernel
theorem dX10_mend_9 : decode cX10_mend 9 = .ok (.iconst 1, 1) := by decide +kernel
theorem dX10_mend_10 : decode cX10_mend 10 = .ok (.sipush 20000, 3) := by decide +kernel
theorem dX10_mend_13 : decode cX10_mend 13 = .ok (.invokestatic 102, 3) := by decide +kernel
theorem dX10_mend_16 : decode cX10_mend 16 = .ok (.ifCond .ne 6, 3) := by decide +kernel
theorem dX10_mend_19 : decode cX10_mend 19 = .ok (.ldc 109, 2) := by decide +kernel
theorem dX10_mend_21 : decode cX10_mend 21 = .ok (.ireturn, 1) := by decide +kernel
theorem dX10_mend_22 : decode cX10_mend 22 = .ok (.aload_n 0, 1) := by decide +kernel
theorem dX10_mend_23 : decode cX10_mend 23 = .ok (.getfield 28, 3) := by decide +kernel
theorem dX10_mend_26 : decode cX10_mend 26 = .ok (.iload_n 1, 1) := by decide +kernel
theorem dX10_mend_27 : decode cX10_mend 27 = .ok (.aload_n 0, 1) := by decide +kernel
theorem dX10_mend_28 : decode cX10_mend 28 = .ok (.getfield 28, 3) := by decide +kernel
theorem dX10_mend_31 : decode cX10_mend 31 = .ok (.iload_n 1, 1) := by decide +kernel
theorem dX10_mend_32 : decode cX10_mend 32 = .ok (.iaload, 1) := by decide +kernel
theorem dX10_mend_33 : decode cX10_mend 33 = .ok (.iload_n 2, 1) := by decide +kernel
theorem dX10_mend_34 : decode cX10_mend 34 = .ok (.if_icmp .le 14, 3) := by decide +kernel
theorem dX10_mend_37 : decode cX10_mend 37 = .ok (.aload_n 0, 1) := by decide +kernel
theorem dX10_mend_38 : decode cX10_mend 38 = .ok (.getfield 28, 3) := by decide +kernel
theorem dX10_mend_41 : decode cX10_mend 41 = .ok (.iload_n 1, 1) := by decide +kernel
theorem dX10_mend_42 : decode cX10_mend 42 = .ok (.iaload, 1) := by decide +kernel
theorem dX10_mend_43 : decode cX10_mend 43 = .ok (.iload_n 2, 1) := by decide +kernel
theorem dX10_mend_44 : decode cX10_mend 44 = .ok (.isub, 1) := by decide +kernel
theorem dX10_mend_45 : decode cX10_mend 45 = .ok (.goto 4, 3) := by decide +kernel
theorem dX10_mend_48 : decode cX10_mend 48 = .ok (.iconst 1, 1) := by decide +kernel
theorem dX10_mend_49 : decode cX10_mend 49 = .ok (.iastore, 1) := by decide +kernel
theorem dX10_mend_50 : decode cX10_mend 50 = .ok (.aload_n 0, 1) := by decide +kernel
theorem dX10_mend_51 : decode cX10_mend 51 = .ok (.getfield 31, 3) := by decide +kernel
theorem dX10_mend_54 : decode cX10_mend 54 = .ok (.iload_n 1, 1) := by decide +kernel
theorem dX10_mend_55 : decode cX10_mend 55 = .ok (.dup2, 1) := by decide +kernel
theorem dX10_mend_56 : decode cX10_mend 56 = .ok (.iaload, 1) := by decide +kernel
theorem dX10_mend_57 : decode cX10_mend 57 = .ok (.iconst 1, 1) := by decide +kernel
theorem dX10_mend_58 : decode cX10_mend 58 = .ok (.iadd, 1) := by decide +kernel
theorem dX10_mend_59 : decode cX10_mend 59 = .ok (.iastore, 1) := by decide +kernel
theorem dX10_mend_60 : decode cX10_mend 60 = .ok (.aload_n 0, 1) := by decide +kernel
theorem dX10_mend_61 : decode cX10_mend 61 = .ok (.getfield 28, 3) := by decide +kernel
theorem dX10_mend_64 : decode cX10_mend 64 = .ok (.iload_n 1, 1) := by decide +kernel
theorem dX10_mend_65 : decode cX10_mend 65 = .ok (.iaload, 1) := by decide +kernel
theorem dX10_mend_66 : decode cX10_mend 66 = .ok (.ireturn, 1) := by decide +kernel
theorem dX10_minutes_0 : decode cX10_minutes 0 = .ok (.aload_n 0, 1) := by decide +kernel
theorem dX10_minutes_1 : decode cX10_minutes 1 = .ok (.getfield 28, 3) := by decide +kernel
theorem dX10_minutes_4 : decode cX10_minutes 4 = .ok (.iload_n 1, 1) := by decide +kernel
theorem dX10_minutes_5 : decode cX10_minutes 5 = .ok (.iaload, 1) := by decide +kernel
theorem dX10_minutes_6 : decode cX10_minutes 6 = .ok (.sipush 960, 3) := by decide +kernel
theorem dX10_minutes_9 : decode cX10_minutes 9 = .ok (.idiv, 1) := by decide +kernel
theorem dX10_minutes_10 : decode cX10_minutes 10 = .ok (.istore_n 2, 1) := by decide +kernel
theorem dX10_minutes_11 : decode cX10_minutes 11 = .ok (.iload_n 2, 1) := by decide +kernel
theorem dX10_minutes_12 : decode cX10_minutes 12 = .ok (.iconst 1, 1) := by decide +kernel
theorem dX10_minutes_13 : decode cX10_minutes 13 = .ok (.if_icmp .ge 7, 3) := by decide +kernel
theorem dX10_minutes_16 : decode cX10_minutes 16 = .ok (.iconst 1, 1) := by decide +kernel
theorem dX10_minutes_17 : decode cX10_minutes 17 = .ok (.goto 4, 3) := by decide +kernel
theorem dX10_minutes_20 : decode cX10_minutes 20 = .ok (.iload_n 2, 1) := by decide +kernel
theorem dX10_minutes_21 : decode cX10_minutes 21 = .ok (.ireturn, 1) := by decide +kernel
set_option maxRecDepth 20000 in
theorem ggX10_told_X10_isReel : GoodIn wsX10_told wsX10_isReel := goodIn_r _ [8, 9, 10, 11, 7, 12, 17, 18, 19, 20, 21, 22, 23, 24, 25, 26, 27, 28, 29, 30, 31, 32, 33, 34, 35, 36, 37, 38, 39, 40, 41, 42, 43, 44, 45, 46, 47, 48, 49, 50, 51, 52, 53] (by decide +kernel) (by decide +kernel)
set_option maxRecDepth 20000 in
theorem gX10_told_X10_isReel : GoodIn wsX10_told (wsV RX10 121 RX10 yX10_isReel wsX10_isReel) := goodIn_app (goodIn_of _ (by decide +kernel)) ggX10_told_X10_isReel
set_option maxRecDepth 20000 in
theorem ggX10_told_X10_isIn : GoodIn wsX10_told wsX10_isIn := goodIn_r _ [12] (by decide +kernel) (by decide +kernel)
set_option maxRecDepth 20000 in
theorem gX10_told_X10_isIn : GoodIn wsX10_told (va_wsS RX10 102 yX10_isIn wsX10_isIn) := goodIn_app (goodIn_of _ (by decide +kernel)) ggX10_told_X10_isIn
set_option maxRecDepth 20000 in
theorem ggX10_told_X10_minutes : GoodIn wsX10_told wsX10_minutes := goodIn_r _ [16, 2, 17, 18, 19, 20, 21, 22, 23, 24, 25, 26, 27, 28, 29, 30, 31, 32, 33, 34, 35, 36, 37, 38, 39, 40, 41, 42, 43, 44, 45, 46, 47, 48, 49, 50, 51, 52, 53] (by decide +kernel) (by decide +kernel)
set_option maxRecDepth 20000 in
theorem gX10_told_X10_minutes : GoodIn wsX10_told (wsV RX10 124 RX10 yX10_minutes wsX10_minutes) := goodIn_app (goodIn_of _ (by decide +kernel)) ggX10_told_X10_minutes
theorem dX10_told_0 : decode cX10_told 0 = .ok (.aload_n 0, 1) := by decide +kernel
theorem dX10_told_1 : decode cX10_told 1 = .ok (.iload_n 1, 1) := by decide +kernel
theorem dX10_told_2 : decode cX10_told 2 = .ok (.invokevirtual 121, 3) := by decide +kernel
theorem dX10_told_5 : decode cX10_told 5 = .ok (.ifCond .eq 12, 3) := by decide +kernel
theorem dX10_told_8 : decode cX10_told 8 = .ok (.iload_n 2, 1) := by decide +kernel
theorem dX10_told_9 : decode cX10_told 9 = .ok (.iconst 0, 1) := by decide +kernel
theorem dX10_told_10 : decode cX10_told 10 = .ok (.iconst 2, 1) := by decide +kernel
theorem dX10_told_11 : decode cX10_told 11 = .ok (.invokestatic 102, 3) := by decide +kernel
theorem dX10_told_14 : decode cX10_told 14 = .ok (.ifCond .ne 6, 3) := by decide +kernel
theorem dX10_told_17 : decode cX10_told 17 = .ok (.ldc 109, 2) := by decide +kernel
theorem dX10_told_19 : decode cX10_told 19 = .ok (.ireturn, 1) := by decide +kernel
theorem dX10_told_20 : decode cX10_told 20 = .ok (.iload_n 2, 1) := by decide +kernel
theorem dX10_told_21 : decode cX10_told 21 = .ok (.ifCond .ne 12, 3) := by decide +kernel
theorem dX10_told_24 : decode cX10_told 24 = .ok (.aload_n 0, 1) := by decide +kernel
theorem dX10_told_25 : decode cX10_told 25 = .ok (.getfield 28, 3) := by decide +kernel
theorem dX10_told_28 : decode cX10_told 28 = .ok (.iload_n 1, 1) := by decide +kernel
theorem dX10_told_29 : decode cX10_told 29 = .ok (.iaload, 1) := by decide +kernel
theorem dX10_told_30 : decode cX10_told 30 = .ok (.goto 22, 3) := by decide +kernel
theorem dX10_told_33 : decode cX10_told 33 = .ok (.iload_n 2, 1) := by decide +kernel
theorem dX10_told_34 : decode cX10_told 34 = .ok (.iconst 1, 1) := by decide +kernel
theorem dX10_told_35 : decode cX10_told 35 = .ok (.if_icmp .ne 11, 3) := by decide +kernel
theorem dX10_told_38 : decode cX10_told 38 = .ok (.aload_n 0, 1) := by decide +kernel
theorem dX10_told_39 : decode cX10_told 39 = .ok (.iload_n 1, 1) := by decide +kernel
theorem dX10_told_40 : decode cX10_told 40 = .ok (.invokevirtual 124, 3) := by decide +kernel
theorem dX10_told_43 : decode cX10_told 43 = .ok (.goto 9, 3) := by decide +kernel
theorem dX10_told_46 : decode cX10_told 46 = .ok (.aload_n 0, 1) := by decide +kernel
theorem dX10_told_47 : decode cX10_told 47 = .ok (.getfield 31, 3) := by decide +kernel
theorem dX10_told_50 : decode cX10_told 50 = .ok (.iload_n 1, 1) := by decide +kernel
theorem dX10_told_51 : decode cX10_told 51 = .ok (.iaload, 1) := by decide +kernel
theorem dX10_told_52 : decode cX10_told 52 = .ok (.ireturn, 1) := by decide +kernel
set_option maxRecDepth 20000 in
theorem ggX10_order_X10_isHouse : GoodIn wsX10_order wsX10_isHouse := goodIn_r _ [12, 13, 14, 15, 11, 16, 17, 18, 19, 20, 21, 22, 23, 24, 25, 26, 27, 28, 29, 30, 31, 32, 33, 34, 35, 36, 37, 38, 39, 40, 41, 42, 43, 44, 45, 46, 47, 48, 49, 50, 51, 52, 53] (by decide +kernel) (by decide +kernel)
set_option maxRecDepth 20000 in
theorem gX10_order_X10_isHouse : GoodIn wsX10_order (wsV RX10 111 RX10 yX10_isHouse wsX10_isHouse) := goodIn_app (goodIn_of _ (by decide +kernel)) ggX10_order_X10_isHouse
theorem dX10_order_0 : decode cX10_order 0 = .ok (.iload_n 1, 1) := by decide +kernel
theorem dX10_order_1 : decode cX10_order 1 = .ok (.ifCond .ge 6, 3) := by decide +kernel
theorem dX10_order_4 : decode cX10_order 4 = .ok (.ldc 109, 2) := by decide +kernel
theorem dX10_order_6 : decode cX10_order 6 = .ok (.ireturn, 1) := by decide +kernel
theorem dX10_order_7 : decode cX10_order 7 = .ok (.iconst 0, 1) := by decide +kernel
theorem dX10_order_8 : decode cX10_order 8 = .ok (.istore_n 2, 1) := by decide +kernel
theorem dX10_order_9 : decode cX10_order 9 = .ok (.iload_n 1, 1) := by decide +kernel
theorem dX10_order_10 : decode cX10_order 10 = .ok (.istore_n 3, 1) := by decide +kernel
theorem dX10_order_11 : decode cX10_order 11 = .ok (.iload_n 3, 1) := by decide +kernel
theorem dX10_order_12 : decode cX10_order 12 = .ok (.ifCond .le 26, 3) := by decide +kernel
theorem dX10_order_15 : decode cX10_order 15 = .ok (.aload_n 0, 1) := by decide +kernel
theorem dX10_order_16 : decode cX10_order 16 = .ok (.getfield 65, 3) := by decide +kernel
theorem dX10_order_19 : decode cX10_order 19 = .ok (.iload_n 2, 1) := by decide +kernel
theorem dX10_order_20 : decode cX10_order 20 = .ok (.iload_n 3, 1) := by decide +kernel
theorem dX10_order_21 : decode cX10_order 21 = .ok (.bipush 7, 2) := by decide +kernel
theorem dX10_order_23 : decode cX10_order 23 = .ok (.irem, 1) := by decide +kernel
theorem dX10_order_24 : decode cX10_order 24 = .ok (.iconst 1, 1) := by decide +kernel
theorem dX10_order_25 : decode cX10_order 25 = .ok (.isub, 1) := by decide +kernel
theorem dX10_order_26 : decode cX10_order 26 = .ok (.iastore, 1) := by decide +kernel
theorem dX10_order_27 : decode cX10_order 27 = .ok (.iinc 2 1, 3) := by decide +kernel
theorem dX10_order_30 : decode cX10_order 30 = .ok (.iload_n 3, 1) := by decide +kernel
theorem dX10_order_31 : decode cX10_order 31 = .ok (.bipush 7, 2) := by decide +kernel
theorem dX10_order_33 : decode cX10_order 33 = .ok (.idiv, 1) := by decide +kernel
theorem dX10_order_34 : decode cX10_order 34 = .ok (.istore_n 3, 1) := by decide +kernel
theorem dX10_order_35 : decode cX10_order 35 = .ok (.goto (-24), 3) := by decide +kernel
theorem dX10_order_38 : decode cX10_order 38 = .ok (.iload_n 2, 1) := by decide +kernel
theorem dX10_order_39 : decode cX10_order 39 = .ok (.bipush 6, 2) := by decide +kernel
theorem dX10_order_41 : decode cX10_order 41 = .ok (.if_icmp .gt 7, 3) := by decide +kernel
theorem dX10_order_44 : decode cX10_order 44 = .ok (.iconst 1, 1) := by decide +kernel
theorem dX10_order_45 : decode cX10_order 45 = .ok (.goto 4, 3) := by decide +kernel
theorem dX10_order_48 : decode cX10_order 48 = .ok (.iconst 0, 1) := by decide +kernel
theorem dX10_order_49 : decode cX10_order 49 = .ok (.istore_n 3, 1) := by decide +kernel
theorem dX10_order_50 : decode cX10_order 50 = .ok (.iconst 0, 1) := by decide +kernel
theorem dX10_order_51 : decode cX10_order 51 = .ok (.istore 4, 2) := by decide +kernel
theorem dX10_order_53 : decode cX10_order 53 = .ok (.iload 4, 2) := by decide +kernel
theorem dX10_order_55 : decode cX10_order 55 = .ok (.iload_n 2, 1) := by decide +kernel
theorem dX10_order_56 : decode cX10_order 56 = .ok (.if_icmp .ge 68, 3) := by decide +kernel
theorem dX10_order_59 : decode cX10_order 59 = .ok (.iload_n 3, 1) := by decide +kernel
theorem dX10_order_60 : decode cX10_order 60 = .ok (.ifCond .eq 64, 3) := by decide +kernel
theorem dX10_order_63 : decode cX10_order 63 = .ok (.aload_n 0, 1) := by decide +kernel
theorem dX10_order_64 : decode cX10_order 64 = .ok (.aload_n 0, 1) := by decide +kernel
theorem dX10_order_65 : decode cX10_order 65 = .ok (.getfield 65, 3) := by decide +kernel
theorem dX10_order_68 : decode cX10_order 68 = .ok (.iload 4, 2) := by decide +kernel
theorem dX10_order_70 : decode cX10_order 70 = .ok (.iaload, 1) := by decide +kernel
theorem dX10_order_71 : decode cX10_order 71 = .ok (.invokevirtual 111, 3) := by decide +kernel
theorem dX10_order_74 : decode cX10_order 74 = .ok (.istore_n 3, 1) := by decide +kernel
theorem dX10_order_75 : decode cX10_order 75 = .ok (.iconst 0, 1) := by decide +kernel
theorem dX10_order_76 : decode cX10_order 76 = .ok (.istore 5, 2) := by decide +kernel
theorem dX10_order_78 : decode cX10_order 78 = .ok (.iload 5, 2) := by decide +kernel
theorem dX10_order_80 : decode cX10_order 80 = .ok (.iload 4, 2) := by decide +kernel
theorem dX10_order_82 : decode cX10_order 82 = .ok (.if_icmp .ge 36, 3) := by decide +kernel
theorem dX10_order_85 : decode cX10_order 85 = .ok (.iload_n 3, 1) := by decide +kernel
theorem dX10_order_86 : decode cX10_order 86 = .ok (.ifCond .eq 24, 3) := by decide +kernel
theorem dX10_order_89 : decode cX10_order 89 = .ok (.aload_n 0, 1) := by decide +kernel
theorem dX10_order_90 : decode cX10_order 90 = .ok (.getfield 65, 3) := by decide +kernel
theorem dX10_order_93 : decode cX10_order 93 = .ok (.iload 5, 2) := by decide +kernel
theorem dX10_order_95 : decode cX10_order 95 = .ok (.iaload, 1) := by decide +kernel
theorem dX10_order_96 : decode cX10_order 96 = .ok (.aload_n 0, 1) := by decide +kernel
theorem dX10_order_97 : decode cX10_order 97 = .ok (.getfield 65, 3) := by decide +kernel
theorem dX10_order_100 : decode cX10_order 100 = .ok (.iload 4, 2) := by decide +kernel
theorem dX10_order_102 : decode cX10_order 102 = .ok (.iaload, 1) := by decide +kernel
theorem dX10_order_103 : decode cX10_order 103 = .ok (.if_icmp .eq 7, 3) := by decide +kernel
theorem dX10_order_106 : decode cX10_order 106 = .ok (.iconst 1, 1) := by decide +kernel
theorem dX10_order_107 : decode cX10_order 107 = .ok (.goto 4, 3) := by decide +kernel
theorem dX10_order_110 : decode cX10_order 110 = .ok (.iconst 0, 1) := by decide +kernel
theorem dX10_order_111 : decode cX10_order 111 = .ok (.istore_n 3, 1) := by decide +kernel
theorem dX10_order_112 : decode cX10_order 112 = .ok (.iinc 5 1, 3) := by decide +kernel
theorem dX10_order_115 : decode cX10_order 115 = .ok (.goto (-37), 3) := by decide +kernel
theorem dX10_order_118 : decode cX10_order 118 = .ok (.iinc 4 1, 3) := by decide +kernel
theorem dX10_order_121 : decode cX10_order 121 = .ok (.goto (-68), 3) := by decide +kernel
theorem dX10_order_124 : decode cX10_order 124 = .ok (.iload_n 3, 1) := by decide +kernel
theorem dX10_order_125 : decode cX10_order 125 = .ok (.ifCond .ne 6, 3) := by decide +kernel
theorem dX10_order_128 : decode cX10_order 128 = .ok (.ldc 109, 2) := by decide +kernel
theorem dX10_order_130 : decode cX10_order 130 = .ok (.ireturn, 1) := by decide +kernel
theorem dX10_order_131 : decode cX10_order 131 = .ok (.aload_n 0, 1) := by decide +kernel
theorem dX10_order_132 : decode cX10_order 132 = .ok (.getfield 106, 3) := by decide +kernel
theorem dX10_order_135 : decode cX10_order 135 = .ok (.ifCond .ne 6, 3) := by decide +kernel
theorem dX10_order_138 : decode cX10_order 138 = .ok (.ldc 128, 2) := by decide +kernel
theorem dX10_order_140 : decode cX10_order 140 = .ok (.ireturn, 1) := by decide +kernel
theorem dX10_order_141 : decode cX10_order 141 = .ok (.aload_n 0, 1) := by decide +kernel
theorem dX10_order_142 : decode cX10_order 142 = .ok (.iload_n 2, 1) := by decide +kernel
theorem dX10_order_143 : decode cX10_order 143 = .ok (.putfield 118, 3) := by decide +kernel
theorem dX10_order_146 : decode cX10_order 146 = .ok (.iconst 0, 1) := by decide +kernel
theorem dX10_order_147 : decode cX10_order 147 = .ok (.istore 4, 2) := by decide +kernel
theorem dX10_order_149 : decode cX10_order 149 = .ok (.iload 4, 2) := by decide +kernel
theorem dX10_order_151 : decode cX10_order 151 = .ok (.iload_n 2, 1) := by decide +kernel
theorem dX10_order_152 : decode cX10_order 152 = .ok (.if_icmp .ge 27, 3) := by decide +kernel
theorem dX10_order_155 : decode cX10_order 155 = .ok (.aload_n 0, 1) := by decide +kernel
theorem dX10_order_156 : decode cX10_order 156 = .ok (.getfield 34, 3) := by decide +kernel
theorem dX10_order_159 : decode cX10_order 159 = .ok (.iload 4, 2) := by decide +kernel
theorem dX10_order_161 : decode cX10_order 161 = .ok (.aload_n 0, 1) := by decide +kernel
theorem dX10_order_162 : decode cX10_order 162 = .ok (.getfield 65, 3) := by decide +kernel
theorem dX10_order_165 : decode cX10_order 165 = .ok (.iload_n 2, 1) := by decide +kernel
theorem dX10_order_166 : decode cX10_order 166 = .ok (.iconst 1, 1) := by decide +kernel
theorem dX10_order_167 : decode cX10_order 167 = .ok (.isub, 1) := by decide +kernel
theorem dX10_order_168 : decode cX10_order 168 = .ok (.iload 4, 2) := by decide +kernel
theorem dX10_order_170 : decode cX10_order 170 = .ok (.isub, 1) := by decide +kernel
theorem dX10_order_171 : decode cX10_order 171 = .ok (.iaload, 1) := by decide +kernel
theorem dX10_order_172 : decode cX10_order 172 = .ok (.iastore, 1) := by decide +kernel
theorem dX10_order_173 : decode cX10_order 173 = .ok (.iinc 4 1, 3) := by decide +kernel
theorem dX10_order_176 : decode cX10_order 176 = .ok (.goto (-27), 3) := by decide +kernel
theorem dX10_order_179 : decode cX10_order 179 = .ok (.iconst 0, 1) := by decide +kernel
theorem dX10_order_180 : decode cX10_order 180 = .ok (.istore 4, 2) := by decide +kernel
theorem dX10_order_182 : decode cX10_order 182 = .ok (.iload 4, 2) := by decide +kernel
theorem dX10_order_184 : decode cX10_order 184 = .ok (.bipush 40, 2) := by decide +kernel
theorem dX10_order_186 : decode cX10_order 186 = .ok (.if_icmp .ge 17, 3) := by decide +kernel
theorem dX10_order_189 : decode cX10_order 189 = .ok (.aload_n 0, 1) := by decide +kernel
theorem dX10_order_190 : decode cX10_order 190 = .ok (.getfield 37, 3) := by decide +kernel
theorem dX10_order_193 : decode cX10_order 193 = .ok (.iload 4, 2) := by decide +kernel
theorem dX10_order_195 : decode cX10_order 195 = .ok (.iconst 0, 1) := by decide +kernel
theorem dX10_order_196 : decode cX10_order 196 = .ok (.iastore, 1) := by decide +kernel
theorem dX10_order_197 : decode cX10_order 197 = .ok (.iinc 4 1, 3) := by decide +kernel
theorem dX10_order_200 : decode cX10_order 200 = .ok (.goto (-18), 3) := by decide +kernel
theorem dX10_order_203 : decode cX10_order 203 = .ok (.iload_n 2, 1) := by decide +kernel
theorem dX10_order_204 : decode cX10_order 204 = .ok (.ireturn, 1) := by decide +kernel
theorem dX10_wayTo_0 : decode cX10_wayTo 0 = .ok (.aload_n 0, 1) := by decide +kernel
theorem dX10_wayTo_1 : decode cX10_wayTo 1 = .ok (.getfield 22, 3) := by decide +kernel
theorem dX10_wayTo_4 : decode cX10_wayTo 4 = .ok (.bipush 6, 2) := by decide +kernel
theorem dX10_wayTo_6 : decode cX10_wayTo 6 = .ok (.aload_n 0, 1) := by decide +kernel
theorem dX10_wayTo_7 : decode cX10_wayTo 7 = .ok (.getfield 34, 3) := by decide +kernel
theorem dX10_wayTo_10 : decode cX10_wayTo 10 = .ok (.iload_n 1, 1) := by decide +kernel
theorem dX10_wayTo_11 : decode cX10_wayTo 11 = .ok (.iconst 1, 1) := by decide +kernel
theorem dX10_wayTo_12 : decode cX10_wayTo 12 = .ok (.isub, 1) := by decide +kernel
theorem dX10_wayTo_13 : decode cX10_wayTo 13 = .ok (.iaload, 1) := by decide +kernel
theorem dX10_wayTo_14 : decode cX10_wayTo 14 = .ok (.imul, 1) := by decide +kernel
theorem dX10_wayTo_15 : decode cX10_wayTo 15 = .ok (.aload_n 0, 1) := by decide +kernel
theorem dX10_wayTo_16 : decode cX10_wayTo 16 = .ok (.getfield 34, 3) := by decide +kernel
theorem dX10_wayTo_19 : decode cX10_wayTo 19 = .ok (.iload_n 1, 1) := by decide +kernel
theorem dX10_wayTo_20 : decode cX10_wayTo 20 = .ok (.iaload, 1) := by decide +kernel
theorem dX10_wayTo_21 : decode cX10_wayTo 21 = .ok (.iadd, 1) := by decide +kernel
theorem dX10_wayTo_22 : decode cX10_wayTo 22 = .ok (.iaload, 1) := by decide +kernel
theorem dX10_wayTo_23 : decode cX10_wayTo 23 = .ok (.ireturn, 1) := by decide +kernel
set_option maxRecDepth 20000 in
theorem ggX10_longest_X10_minutes : GoodIn wsX10_longest wsX10_minutes := goodIn_r _ [6, 7, 8, 9, 10, 11, 12, 13, 14, 15, 16, 17, 18, 19, 20, 21, 22, 23, 24, 25, 26, 27, 28, 29, 30, 31, 32, 33, 34, 35, 36, 37, 38, 39, 40, 41, 42, 43, 44] (by decide +kernel) (by decide +kernel)
set_option maxRecDepth 20000 in
theorem gX10_longest_X10_minutes : GoodIn wsX10_longest (wsV RX10 124 RX10 yX10_minutes wsX10_minutes) := goodIn_app (goodIn_of _ (by decide +kernel)) ggX10_longest_X10_minutes
theorem dX10_longest_0 : decode cX10_longest 0 = .ok (.iconst 0, 1) := by decide +kernel
theorem dX10_longest_1 : decode cX10_longest 1 = .ok (.istore_n 1, 1) := by decide +kernel
theorem dX10_longest_2 : decode cX10_longest 2 = .ok (.iconst 0, 1) := by decide +kernel
theorem dX10_longest_3 : decode cX10_longest 3 = .ok (.istore_n 2, 1) := by decide +kernel
theorem dX10_longest_4 : decode cX10_longest 4 = .ok (.iload_n 2, 1) := by decide +kernel
theorem dX10_longest_5 : decode cX10_longest 5 = .ok (.aload_n 0, 1) := by decide +kernel
theorem dX10_longest_6 : decode cX10_longest 6 = .ok (.getfield 106, 3) := by decide +kernel
theorem dX10_longest_9 : decode cX10_longest 9 = .ok (.if_icmp .ge 28, 3) := by decide +kernel
theorem dX10_longest_12 : decode cX10_longest 12 = .ok (.aload_n 0, 1) := by decide +kernel
theorem dX10_longest_13 : decode cX10_longest 13 = .ok (.iload_n 2, 1) := by decide +kernel
theorem dX10_longest_14 : decode cX10_longest 14 = .ok (.invokevirtual 124, 3) := by decide +kernel
theorem dX10_longest_17 : decode cX10_longest 17 = .ok (.iload_n 1, 1) := by decide +kernel
theorem dX10_longest_18 : decode cX10_longest 18 = .ok (.if_icmp .le 11, 3) := by decide +kernel
theorem dX10_longest_21 : decode cX10_longest 21 = .ok (.aload_n 0, 1) := by decide +kernel
theorem dX10_longest_22 : decode cX10_longest 22 = .ok (.iload_n 2, 1) := by decide +kernel
theorem dX10_longest_23 : decode cX10_longest 23 = .ok (.invokevirtual 124, 3) := by decide +kernel
theorem dX10_longest_26 : decode cX10_longest 26 = .ok (.goto 4, 3) := by decide +kernel
theorem dX10_longest_29 : decode cX10_longest 29 = .ok (.iload_n 1, 1) := by decide +kernel
theorem dX10_longest_30 : decode cX10_longest 30 = .ok (.istore_n 1, 1) := by decide +kernel
theorem dX10_longest_31 : decode cX10_longest 31 = .ok (.iinc 2 1, 3) := by decide +kernel
theorem dX10_longest_34 : decode cX10_longest 34 = .ok (.goto (-30), 3) := by decide +kernel
theorem dX10_longest_37 : decode cX10_longest 37 = .ok (.iload_n 1, 1) := by decide +kernel
theorem dX10_longest_38 : decode cX10_longest 38 = .ok (.ireturn, 1) := by decide +kernel
set_option maxRecDepth 20000 in
theorem ggX10_startOf_X10_longest : GoodIn wsX10_startOf wsX10_longest := goodIn_r _ [5, 6, 7, 8, 9, 4, 10, 11, 18, 19, 20, 21, 22, 23, 24, 25, 26, 27, 28, 29, 30, 31, 32, 33, 34, 35, 36, 37, 38, 39, 40, 41, 42, 43, 44, 45, 46, 47, 48, 49, 50, 51, 52, 53, 54] (by decide +kernel) (by decide +kernel)
set_option maxRecDepth 20000 in
theorem gX10_startOf_X10_longest : GoodIn wsX10_startOf (wsV RX10 129 RX10 yX10_longest wsX10_longest) := goodIn_app (goodIn_of _ (by decide +kernel)) ggX10_startOf_X10_longest
set_option maxRecDepth 20000 in
theorem ggX10_startOf_X10_wayTo : GoodIn wsX10_startOf wsX10_wayTo := goodIn_r _ [15, 16, 17, 18, 19, 20, 21, 22, 23, 24, 25, 26, 27, 28, 29, 30, 31, 32, 33, 34, 35, 36, 37, 38, 39, 40, 41, 42, 43, 44, 45, 46, 47, 48, 49, 50, 51, 52, 53, 54] (by decide +kernel) (by decide +kernel)
set_option maxRecDepth 20000 in
theorem gX10_startOf_X10_wayTo : GoodIn wsX10_startOf (wsV RX10 133 RX10 yX10_wayTo wsX10_wayTo) := goodIn_app (goodIn_of _ (by decide +kernel)) ggX10_startOf_X10_wayTo
theorem dX10_startOf_0 : decode cX10_startOf 0 = .ok (.iconst 0, 1) := by decide +kernel
theorem dX10_startOf_1 : decode cX10_startOf 1 = .ok (.istore_n 2, 1) := by decide +kernel
theorem dX10_startOf_2 : decode cX10_startOf 2 = .ok (.iconst 1, 1) := by decide +kernel
theorem dX10_startOf_3 : decode cX10_startOf 3 = .ok (.istore_n 3, 1) := by decide +kernel
theorem dX10_startOf_4 : decode cX10_startOf 4 = .ok (.iload_n 3, 1) := by decide +kernel
theorem dX10_startOf_5 : decode cX10_startOf 5 = .ok (.iload_n 1, 1) := by decide +kernel
theorem dX10_startOf_6 : decode cX10_startOf 6 = .ok (.if_icmp .gt 22, 3) := by decide +kernel
theorem dX10_startOf_9 : decode cX10_startOf 9 = .ok (.iload_n 2, 1) := by decide +kernel
theorem dX10_startOf_10 : decode cX10_startOf 10 = .ok (.aload_n 0, 1) := by decide +kernel
theorem dX10_startOf_11 : decode cX10_startOf 11 = .ok (.invokevirtual 129, 3) := by decide +kernel
theorem dX10_startOf_14 : decode cX10_startOf 14 = .ok (.aload_n 0, 1) := by decide +kernel
theorem dX10_startOf_15 : decode cX10_startOf 15 = .ok (.iload_n 3, 1) := by decide +kernel
theorem dX10_startOf_16 : decode cX10_startOf 16 = .ok (.invokevirtual 133, 3) := by decide +kernel
theorem dX10_startOf_19 : decode cX10_startOf 19 = .ok (.iadd, 1) := by decide +kernel
theorem dX10_startOf_20 : decode cX10_startOf 20 = .ok (.iadd, 1) := by decide +kernel
theorem dX10_startOf_21 : decode cX10_startOf 21 = .ok (.istore_n 2, 1) := by decide +kernel
theorem dX10_startOf_22 : decode cX10_startOf 22 = .ok (.iinc 3 1, 3) := by decide +kernel
theorem dX10_startOf_25 : decode cX10_startOf 25 = .ok (.goto (-21), 3) := by decide +kernel
theorem dX10_startOf_28 : decode cX10_startOf 28 = .ok (.iload_n 2, 1) := by decide +kernel
theorem dX10_startOf_29 : decode cX10_startOf 29 = .ok (.ireturn, 1) := by decide +kernel
set_option maxRecDepth 20000 in
theorem ggX10_isPlace_X10_isIn : GoodIn wsX10_isPlace wsX10_isIn := goodIn_r _ [5] (by decide +kernel) (by decide +kernel)
set_option maxRecDepth 20000 in
theorem gX10_isPlace_X10_isIn : GoodIn wsX10_isPlace (va_wsS RX10 102 yX10_isIn wsX10_isIn) := goodIn_app (goodIn_of _ (by decide +kernel)) ggX10_isPlace_X10_isIn
theorem dX10_isPlace_0 : decode cX10_isPlace 0 = .ok (.iload_n 1, 1) := by decide +kernel
theorem dX10_isPlace_1 : decode cX10_isPlace 1 = .ok (.iconst 0, 1) := by decide +kernel
theorem dX10_isPlace_2 : decode cX10_isPlace 2 = .ok (.aload_n 0, 1) := by decide +kernel
theorem dX10_isPlace_3 : decode cX10_isPlace 3 = .ok (.getfield 118, 3) := by decide +kernel
theorem dX10_isPlace_6 : decode cX10_isPlace 6 = .ok (.iconst 1, 1) := by decide +kernel
theorem dX10_isPlace_7 : decode cX10_isPlace 7 = .ok (.isub, 1) := by decide +kernel
theorem dX10_isPlace_8 : decode cX10_isPlace 8 = .ok (.invokestatic 102, 3) := by decide +kernel
theorem dX10_isPlace_11 : decode cX10_isPlace 11 = .ok (.ireturn, 1) := by decide +kernel
set_option maxRecDepth 20000 in
theorem ggX10_start_X10_isPlace : GoodIn wsX10_start wsX10_isPlace := goodIn_r _ [6, 7, 8, 9, 5, 10, 31, 32, 33, 34, 35, 36, 37, 38, 39, 40, 41, 42, 43, 44, 45, 46, 47, 48, 49, 50, 51, 52, 53, 54, 55, 56, 57, 58, 59, 60, 61, 62, 63, 64, 65, 66, 67] (by decide +kernel) (by decide +kernel)
set_option maxRecDepth 20000 in
theorem gX10_start_X10_isPlace : GoodIn wsX10_start (wsV RX10 136 RX10 yX10_isPlace wsX10_isPlace) := goodIn_app (goodIn_of _ (by decide +kernel)) ggX10_start_X10_isPlace
set_option maxRecDepth 20000 in
theorem ggX10_start_X10_startOf : GoodIn wsX10_start wsX10_startOf := goodIn_r _ [14, 15, 16, 17, 5, 18, 19, 20, 21, 22, 23, 24, 25, 26, 27, 28, 29, 30, 31, 32, 33, 34, 35, 36, 37, 38, 39, 40, 41, 42, 43, 44, 45, 46, 47, 48, 49, 50, 51, 52, 53, 54, 55, 56, 57, 58, 59, 60, 61, 62, 63, 64, 65, 66, 67] (by decide +kernel) (by decide +kernel)
set_option maxRecDepth 20000 in
theorem gX10_start_X10_startOf : GoodIn wsX10_start (wsV RX10 139 RX10 yX10_startOf wsX10_startOf) := goodIn_app (goodIn_of _ (by decide +kernel)) ggX10_start_X10_startOf
