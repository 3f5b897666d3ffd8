theorem dX10_tryFrom_233 : decode cX10_tryFrom 233 = .ok (.return_, 1) := by decide +kernel
set_option maxRecDepth 20000 in
theorem ggX10_plan_X10_isWeek : GoodIn wsX10_plan wsX10_isWeek := goodIn_r _ [14, 15, 16, 13, 17] (by decide +kernel) (by decide +kernel)
set_option maxRecDepth 20000 in
theorem gX10_plan_X10_isWeek : GoodIn wsX10_plan (va_wsS RX10 176 yX10_isWeek wsX10_isWeek) := goodIn_app (goodIn_of _ (by decide +kernel)) ggX10_plan_X10_isWeek
set_option maxRecDepth 20000 in
theorem ggX10_plan_X10_isIn : GoodIn wsX10_plan wsX10_isIn := goodIn_r _ [17] (by decide +kernel) (by decide +kernel)
set_option maxRecDepth 20000 in
theorem gX10_plan_X10_isIn : GoodIn wsX10_plan (va_wsS RX10 102 yX10_isIn wsX10_isIn) := goodIn_app (goodIn_of _ (by decide +kernel)) ggX10_plan_X10_isIn
set_option maxRecDepth 20000 in
theorem ggX10_plan_X10_tryFrom : GoodIn wsX10_plan wsX10_tryFrom := goodIn_r _ [21, 22, 4, 3, 10, 2, 23, 6, 24, 5, 18, 19, 20, 13, 25, 26, 27, 28, 29, 30, 31, 32, 33, 34, 35, 36, 37, 38, 39, 40, 41, 42, 43, 44, 45, 46, 47, 48, 49, 50, 51, 52, 53, 54, 55, 56, 57, 58, 59, 60, 61, 62, 63, 64, 65, 66, 67, 68, 69, 70, 71] (by decide +kernel) (by decide +kernel)
set_option maxRecDepth 20000 in
theorem gX10_plan_X10_tryFrom : GoodIn wsX10_plan (wsV RX10 182 RX10 yX10_tryFrom wsX10_tryFrom) := goodIn_app (goodIn_of _ (by decide +kernel)) ggX10_plan_X10_tryFrom
theorem dX10_plan_0 : decode cX10_plan 0 = .ok (.iload_n 1, 1) := by decide +kernel
theorem dX10_plan_1 : decode cX10_plan 1 = .ok (.invokestatic 176, 3) := by decide +kernel
theorem dX10_plan_4 : decode cX10_plan 4 = .ok (.ifCond .eq 14, 3) := by decide +kernel
theorem dX10_plan_7 : decode cX10_plan 7 = .ok (.iload_n 2, 1) := by decide +kernel
theorem dX10_plan_8 : decode cX10_plan 8 = .ok (.iconst 1, 1) := by decide +kernel
theorem dX10_plan_9 : decode cX10_plan 9 = .ok (.sipush 20000, 3) := by decide +kernel
theorem dX10_plan_12 : decode cX10_plan 12 = .ok (.invokestatic 102, 3) := by decide +kernel
theorem dX10_plan_15 : decode cX10_plan 15 = .ok (.ifCond .ne 6, 3) := by decide +kernel
theorem dX10_plan_18 : decode cX10_plan 18 = .ok (.ldc 109, 2) := by decide +kernel
theorem dX10_plan_20 : decode cX10_plan 20 = .ok (.ireturn, 1) := by decide +kernel
theorem dX10_plan_21 : decode cX10_plan 21 = .ok (.iconst 0, 1) := by decide +kernel
theorem dX10_plan_22 : decode cX10_plan 22 = .ok (.istore_n 3, 1) := by decide +kernel
theorem dX10_plan_23 : decode cX10_plan 23 = .ok (.iload_n 3, 1) := by decide +kernel
theorem dX10_plan_24 : decode cX10_plan 24 = .ok (.bipush 24, 2) := by decide +kernel
theorem dX10_plan_26 : decode cX10_plan 26 = .ok (.if_icmp .ge 16, 3) := by decide +kernel
theorem dX10_plan_29 : decode cX10_plan 29 = .ok (.aload_n 0, 1) := by decide +kernel
theorem dX10_plan_30 : decode cX10_plan 30 = .ok (.getfield 90, 3) := by decide +kernel
theorem dX10_plan_33 : decode cX10_plan 33 = .ok (.iload_n 3, 1) := by decide +kernel
theorem dX10_plan_34 : decode cX10_plan 34 = .ok (.iconst (-1), 1) := by decide +kernel
theorem dX10_plan_35 : decode cX10_plan 35 = .ok (.iastore, 1) := by decide +kernel
theorem dX10_plan_36 : decode cX10_plan 36 = .ok (.iinc 3 1, 3) := by decide +kernel
theorem dX10_plan_39 : decode cX10_plan 39 = .ok (.goto (-16), 3) := by decide +kernel
theorem dX10_plan_42 : decode cX10_plan 42 = .ok (.aload_n 0, 1) := by decide +kernel
theorem dX10_plan_43 : decode cX10_plan 43 = .ok (.iconst (-1), 1) := by decide +kernel
theorem dX10_plan_44 : decode cX10_plan 44 = .ok (.putfield 186, 3) := by decide +kernel
theorem dX10_plan_47 : decode cX10_plan 47 = .ok (.aload_n 0, 1) := by decide +kernel
theorem dX10_plan_48 : decode cX10_plan 48 = .ok (.iload_n 1, 1) := by decide +kernel
theorem dX10_plan_49 : decode cX10_plan 49 = .ok (.putfield 179, 3) := by decide +kernel
theorem dX10_plan_52 : decode cX10_plan 52 = .ok (.aload_n 0, 1) := by decide +kernel
theorem dX10_plan_53 : decode cX10_plan 53 = .ok (.iload_n 2, 1) := by decide +kernel
theorem dX10_plan_54 : decode cX10_plan 54 = .ok (.putfield 196, 3) := by decide +kernel
theorem dX10_plan_57 : decode cX10_plan 57 = .ok (.aload_n 0, 1) := by decide +kernel
theorem dX10_plan_58 : decode cX10_plan 58 = .ok (.iconst 0, 1) := by decide +kernel
theorem dX10_plan_59 : decode cX10_plan 59 = .ok (.putfield 189, 3) := by decide +kernel
theorem dX10_plan_62 : decode cX10_plan 62 = .ok (.aload_n 0, 1) := by decide +kernel
theorem dX10_plan_63 : decode cX10_plan 63 = .ok (.iconst 0, 1) := by decide +kernel
theorem dX10_plan_64 : decode cX10_plan 64 = .ok (.iconst 0, 1) := by decide +kernel
theorem dX10_plan_65 : decode cX10_plan 65 = .ok (.iconst 0, 1) := by decide +kernel
theorem dX10_plan_66 : decode cX10_plan 66 = .ok (.invokevirtual 182, 3) := by decide +kernel
theorem dX10_plan_69 : decode cX10_plan 69 = .ok (.aload_n 0, 1) := by decide +kernel
theorem dX10_plan_70 : decode cX10_plan 70 = .ok (.getfield 189, 3) := by decide +kernel
theorem dX10_plan_73 : decode cX10_plan 73 = .ok (.ifCond .eq 6, 3) := by decide +kernel
theorem dX10_plan_76 : decode cX10_plan 76 = .ok (.ldc 203, 2) := by decide +kernel
theorem dX10_plan_78 : decode cX10_plan 78 = .ok (.ireturn, 1) := by decide +kernel
theorem dX10_plan_79 : decode cX10_plan 79 = .ok (.aload_n 0, 1) := by decide +kernel
theorem dX10_plan_80 : decode cX10_plan 80 = .ok (.getfield 186, 3) := by decide +kernel
theorem dX10_plan_83 : decode cX10_plan 83 = .ok (.ifCond .ge 6, 3) := by decide +kernel
theorem dX10_plan_86 : decode cX10_plan 86 = .ok (.ldc 128, 2) := by decide +kernel
theorem dX10_plan_88 : decode cX10_plan 88 = .ok (.ireturn, 1) := by decide +kernel
theorem dX10_plan_89 : decode cX10_plan 89 = .ok (.iconst 0, 1) := by decide +kernel
theorem dX10_plan_90 : decode cX10_plan 90 = .ok (.istore_n 3, 1) := by decide +kernel
theorem dX10_plan_91 : decode cX10_plan 91 = .ok (.iload_n 3, 1) := by decide +kernel
theorem dX10_plan_92 : decode cX10_plan 92 = .ok (.bipush 24, 2) := by decide +kernel
theorem dX10_plan_94 : decode cX10_plan 94 = .ok (.if_icmp .ge 21, 3) := by decide +kernel
theorem dX10_plan_97 : decode cX10_plan 97 = .ok (.aload_n 0, 1) := by decide +kernel
theorem dX10_plan_98 : decode cX10_plan 98 = .ok (.getfield 46, 3) := by decide +kernel
theorem dX10_plan_101 : decode cX10_plan 101 = .ok (.iload_n 3, 1) := by decide +kernel
theorem dX10_plan_102 : decode cX10_plan 102 = .ok (.aload_n 0, 1) := by decide +kernel
theorem dX10_plan_103 : decode cX10_plan 103 = .ok (.getfield 93, 3) := by decide +kernel
theorem dX10_plan_106 : decode cX10_plan 106 = .ok (.iload_n 3, 1) := by decide +kernel
theorem dX10_plan_107 : decode cX10_plan 107 = .ok (.iaload, 1) := by decide +kernel
theorem dX10_plan_108 : decode cX10_plan 108 = .ok (.iastore, 1) := by decide +kernel
theorem dX10_plan_109 : decode cX10_plan 109 = .ok (.iinc 3 1, 3) := by decide +kernel
theorem dX10_plan_112 : decode cX10_plan 112 = .ok (.goto (-21), 3) := by decide +kernel
theorem dX10_plan_115 : decode cX10_plan 115 = .ok (.aload_n 0, 1) := by decide +kernel
theorem dX10_plan_116 : decode cX10_plan 116 = .ok (.getfield 186, 3) := by decide +kernel
theorem dX10_plan_119 : decode cX10_plan 119 = .ok (.ireturn, 1) := by decide +kernel
set_option maxRecDepth 20000 in
theorem ggX10_planned_X10_isHouse : GoodIn wsX10_planned wsX10_isHouse := goodIn_r _ [8, 9, 10, 11, 7, 12, 16, 17, 18, 19, 20, 21, 22, 23, 24, 25, 26, 27, 28, 29, 30, 31, 32, 33, 34, 35, 36, 37, 38, 39, 40, 41, 42, 43, 44, 45, 46, 47, 48, 49, 50, 51, 52] (by decide +kernel) (by decide +kernel)
set_option maxRecDepth 20000 in
theorem gX10_planned_X10_isHouse : GoodIn wsX10_planned (wsV RX10 111 RX10 yX10_isHouse wsX10_isHouse) := goodIn_app (goodIn_of _ (by decide +kernel)) ggX10_planned_X10_isHouse
set_option maxRecDepth 20000 in
theorem ggX10_planned_X10_isWeek : GoodIn wsX10_planned wsX10_isWeek := goodIn_r _ [15, 10, 11, 7, 12] (by decide +kernel) (by decide +kernel)
set_option maxRecDepth 20000 in
theorem gX10_planned_X10_isWeek : GoodIn wsX10_planned (va_wsS RX10 176 yX10_isWeek wsX10_isWeek) := goodIn_app (goodIn_of _ (by decide +kernel)) ggX10_planned_X10_isWeek
theorem dX10_planned_0 : decode cX10_planned 0 = .ok (.aload_n 0, 1) := by decide +kernel
theorem dX10_planned_1 : decode cX10_planned 1 = .ok (.iload_n 1, 1) := by decide +kernel
theorem dX10_planned_2 : decode cX10_planned 2 = .ok (.invokevirtual 111, 3) := by decide +kernel
theorem dX10_planned_5 : decode cX10_planned 5 = .ok (.ifCond .eq 10, 3) := by decide +kernel
theorem dX10_planned_8 : decode cX10_planned 8 = .ok (.iload_n 2, 1) := by decide +kernel
theorem dX10_planned_9 : decode cX10_planned 9 = .ok (.invokestatic 176, 3) := by decide +kernel
theorem dX10_planned_12 : decode cX10_planned 12 = .ok (.ifCond .ne 6, 3) := by decide +kernel
theorem dX10_planned_15 : decode cX10_planned 15 = .ok (.ldc 109, 2) := by decide +kernel
theorem dX10_planned_17 : decode cX10_planned 17 = .ok (.ireturn, 1) := by decide +kernel
theorem dX10_planned_18 : decode cX10_planned 18 = .ok (.aload_n 0, 1) := by decide +kernel
theorem dX10_planned_19 : decode cX10_planned 19 = .ok (.getfield 46, 3) := by decide +kernel
theorem dX10_planned_22 : decode cX10_planned 22 = .ok (.bipush 6, 2) := by decide +kernel
theorem dX10_planned_24 : decode cX10_planned 24 = .ok (.iload_n 2, 1) := by decide +kernel
theorem dX10_planned_25 : decode cX10_planned 25 = .ok (.imul, 1) := by decide +kernel
theorem dX10_planned_26 : decode cX10_planned 26 = .ok (.iload_n 1, 1) := by decide +kernel
theorem dX10_planned_27 : decode cX10_planned 27 = .ok (.iadd, 1) := by decide +kernel
theorem dX10_planned_28 : decode cX10_planned 28 = .ok (.iaload, 1) := by decide +kernel
theorem dX10_planned_29 : decode cX10_planned 29 = .ok (.istore_n 3, 1) := by decide +kernel
theorem dX10_planned_30 : decode cX10_planned 30 = .ok (.iload_n 3, 1) := by decide +kernel
theorem dX10_planned_31 : decode cX10_planned 31 = .ok (.ifCond .ge 8, 3) := by decide +kernel
theorem dX10_planned_34 : decode cX10_planned 34 = .ok (.ldc 169, 2) := by decide +kernel
theorem dX10_planned_36 : decode cX10_planned 36 = .ok (.goto 4, 3) := by decide +kernel
theorem dX10_planned_39 : decode cX10_planned 39 = .ok (.iload_n 3, 1) := by decide +kernel
theorem dX10_planned_40 : decode cX10_planned 40 = .ok (.ireturn, 1) := by decide +kernel
set_option maxRecDepth 20000 in
theorem ggX10_rule_X10_isIn : GoodIn wsX10_rule wsX10_isIn := goodIn_r _ [8] (by decide +kernel) (by decide +kernel)
set_option maxRecDepth 20000 in
theorem gX10_rule_X10_isIn : GoodIn wsX10_rule (va_wsS RX10 102 yX10_isIn wsX10_isIn) := goodIn_app (goodIn_of _ (by decide +kernel)) ggX10_rule_X10_isIn
theorem dX10_rule_0 : decode cX10_rule 0 = .ok (.iload_n 1, 1) := by decide +kernel
theorem dX10_rule_1 : decode cX10_rule 1 = .ok (.iconst 0, 1) := by decide +kernel
theorem dX10_rule_2 : decode cX10_rule 2 = .ok (.iconst 2, 1) := by decide +kernel
theorem dX10_rule_3 : decode cX10_rule 3 = .ok (.invokestatic 102, 3) := by decide +kernel
theorem dX10_rule_6 : decode cX10_rule 6 = .ok (.ifCond .eq 18, 3) := by decide +kernel
theorem dX10_rule_9 : decode cX10_rule 9 = .ok (.iload_n 1, 1) := by decide +kernel
theorem dX10_rule_10 : decode cX10_rule 10 = .ok (.iconst 2, 1) := by decide +kernel
theorem dX10_rule_11 : decode cX10_rule 11 = .ok (.if_icmp .ge 16, 3) := by decide +kernel
theorem dX10_rule_14 : decode cX10_rule 14 = .ok (.iload_n 2, 1) := by decide +kernel
theorem dX10_rule_15 : decode cX10_rule 15 = .ok (.iconst 0, 1) := by decide +kernel
theorem dX10_rule_16 : decode cX10_rule 16 = .ok (.bipush 100, 2) := by decide +kernel
theorem dX10_rule_18 : decode cX10_rule 18 = .ok (.invokestatic 102, 3) := by decide +kernel
theorem dX10_rule_21 : decode cX10_rule 21 = .ok (.ifCond .ne 6, 3) := by decide +kernel
theorem dX10_rule_24 : decode cX10_rule 24 = .ok (.ldc 109, 2) := by decide +kernel
theorem dX10_rule_26 : decode cX10_rule 26 = .ok (.ireturn, 1) := by decide +kernel
theorem dX10_rule_27 : decode cX10_rule 27 = .ok (.iload_n 1, 1) := by decide +kernel
theorem dX10_rule_28 : decode cX10_rule 28 = .ok (.ifCond .ne 10, 3) := by decide +kernel
theorem dX10_rule_31 : decode cX10_rule 31 = .ok (.aload_n 0, 1) := by decide +kernel
theorem dX10_rule_32 : decode cX10_rule 32 = .ok (.getfield 49, 3) := by decide +kernel
theorem dX10_rule_35 : decode cX10_rule 35 = .ok (.goto 19, 3) := by decide +kernel
theorem dX10_rule_38 : decode cX10_rule 38 = .ok (.iload_n 1, 1) := by decide +kernel
theorem dX10_rule_39 : decode cX10_rule 39 = .ok (.iconst 1, 1) := by decide +kernel
theorem dX10_rule_40 : decode cX10_rule 40 = .ok (.if_icmp .ne 10, 3) := by decide +kernel
theorem dX10_rule_43 : decode cX10_rule 43 = .ok (.aload_n 0, 1) := by decide +kernel
theorem dX10_rule_44 : decode cX10_rule 44 = .ok (.getfield 53, 3) := by decide +kernel
theorem dX10_rule_47 : decode cX10_rule 47 = .ok (.goto 7, 3) := by decide +kernel
theorem dX10_rule_50 : decode cX10_rule 50 = .ok (.aload_n 0, 1) := by decide +kernel
theorem dX10_rule_51 : decode cX10_rule 51 = .ok (.getfield 56, 3) := by decide +kernel
theorem dX10_rule_54 : decode cX10_rule 54 = .ok (.istore_n 3, 1) := by decide +kernel
theorem dX10_rule_55 : decode cX10_rule 55 = .ok (.iload_n 1, 1) := by decide +kernel
theorem dX10_rule_56 : decode cX10_rule 56 = .ok (.ifCond .ne 11, 3) := by decide +kernel
theorem dX10_rule_59 : decode cX10_rule 59 = .ok (.aload_n 0, 1) := by decide +kernel
theorem dX10_rule_60 : decode cX10_rule 60 = .ok (.iload_n 2, 1) := by decide +kernel
theorem dX10_rule_61 : decode cX10_rule 61 = .ok (.putfield 49, 3) := by decide +kernel
theorem dX10_rule_64 : decode cX10_rule 64 = .ok (.goto 21, 3) := by decide +kernel
theorem dX10_rule_67 : decode cX10_rule 67 = .ok (.iload_n 1, 1) := by decide +kernel
theorem dX10_rule_68 : decode cX10_rule 68 = .ok (.iconst 1, 1) := by decide +kernel
theorem dX10_rule_69 : decode cX10_rule 69 = .ok (.if_icmp .ne 11, 3) := by decide +kernel
theorem dX10_rule_72 : decode cX10_rule 72 = .ok (.aload_n 0, 1) := by decide +kernel
theorem dX10_rule_73 : decode cX10_rule 73 = .ok (.iload_n 2, 1) := by decide +kernel
theorem dX10_rule_74 : decode cX10_rule 74 = .ok (.putfield 53, 3) := by decide +kernel
theorem dX10_rule_77 : decode cX10_rule 77 = .ok (.goto 8, 3) := by decide +kernel
theorem dX10_rule_80 : decode cX10_rule 80 = .ok (.aload_n 0, 1) := by decide +kernel
theorem dX10_rule_81 : decode cX10_rule 81 = .ok (.iload_n 2, 1) := by decide +kernel
theorem dX10_rule_82 : decode cX10_rule 82 = .ok (.putfield 56, 3) := by decide +kernel
theorem dX10_rule_85 : decode cX10_rule 85 = .ok (.iload_n 3, 1) := by decide +kernel
theorem dX10_rule_86 : decode cX10_rule 86 = .ok (.ireturn, 1) := by decide +kernel
set_option maxRecDepth 20000 in
theorem ggX10_least_X10_isHouse : GoodIn wsX10_least wsX10_isHouse := goodIn_r _ [8, 9, 10, 11, 7, 12, 18, 19, 20, 21, 22, 23, 24, 25, 26, 27, 28, 29, 30, 31, 32, 33, 34, 35, 36, 37, 38, 39, 40, 41, 42, 43, 44, 45, 46, 47, 48, 49, 50, 51, 52, 53, 54] (by decide +kernel) (by decide +kernel)
set_option maxRecDepth 20000 in
theorem gX10_least_X10_isHouse : GoodIn wsX10_least (wsV RX10 111 RX10 yX10_isHouse wsX10_isHouse) := goodIn_app (goodIn_of _ (by decide +kernel)) ggX10_least_X10_isHouse
set_option maxRecDepth 20000 in
theorem ggX10_least_X10_isIn : GoodIn wsX10_least wsX10_isIn := goodIn_r _ [12] (by decide +kernel) (by decide +kernel)
set_option maxRecDepth 20000 in
theorem gX10_least_X10_isIn : GoodIn wsX10_least (va_wsS RX10 102 yX10_isIn wsX10_isIn) := goodIn_app (goodIn_of _ (by decide +kernel)) ggX10_least_X10_isIn
set_option maxRecDepth 20000 in
theorem ggX10_least_X10_isPalace : GoodIn wsX10_least wsX10_isPalace := goodIn_r _ [16, 17, 18, 19, 20, 21, 22, 23, 24, 25, 26, 27, 28, 29, 30, 31, 32, 33, 34, 35, 36, 37, 38, 39, 40, 41, 42, 43, 44, 45, 46, 47, 48, 49, 50, 51, 52, 53, 54] (by decide +kernel) (by decide +kernel)
set_option maxRecDepth 20000 in
theorem gX10_least_X10_isPalace : GoodIn wsX10_least (wsV RX10 115 RX10 yX10_isPalace wsX10_isPalace) := goodIn_app (goodIn_of _ (by decide +kernel)) ggX10_least_X10_isPalace
theorem dX10_least_0 : decode cX10_least 0 = .ok (.aload_n 0, 1) := by decide +kernel
theorem dX10_least_1 : decode cX10_least 1 = .ok (.iload_n 1, 1) := by decide +kernel
theorem dX10_least_2 : decode cX10_least 2 = .ok (.invokevirtual 111, 3) := by decide +kernel
theorem dX10_least_5 : decode cX10_least 5 = .ok (.ifCond .eq 14, 3) := by decide +kernel
theorem dX10_least_8 : decode cX10_least 8 = .ok (.iload_n 2, 1) := by decide +kernel
theorem dX10_least_9 : decode cX10_least 9 = .ok (.iconst 0, 1) := by decide +kernel
theorem dX10_least_10 : decode cX10_least 10 = .ok (.sipush 9999, 3) := by decide +kernel
theorem dX10_least_13 : decode cX10_least 13 = .ok (.invokestatic 102, 3) := by decide +kernel
theorem dX10_least_16 : decode cX10_least 16 = .ok (.ifCond .ne 6, 3) := by decide +kernel
theorem dX10_least_19 : decode cX10_least 19 = .ok (.ldc 109, 2) := by decide +kernel
theorem dX10_least_21 : decode cX10_least 21 = .ok (.ireturn, 1) := by decide +kernel
theorem dX10_least_22 : decode cX10_least 22 = .ok (.aload_n 0, 1) := by decide +kernel
theorem dX10_least_23 : decode cX10_least 23 = .ok (.iload_n 1, 1) := by decide +kernel
theorem dX10_least_24 : decode cX10_least 24 = .ok (.invokevirtual 115, 3) := by decide +kernel
theorem dX10_least_27 : decode cX10_least 27 = .ok (.ifCond .ne 6, 3) := by decide +kernel
theorem dX10_least_30 : decode cX10_least 30 = .ok (.ldc 128, 2) := by decide +kernel
theorem dX10_least_32 : decode cX10_least 32 = .ok (.ireturn, 1) := by decide +kernel
theorem dX10_least_33 : decode cX10_least 33 = .ok (.aload_n 0, 1) := by decide +kernel
theorem dX10_least_34 : decode cX10_least 34 = .ok (.getfield 19, 3) := by decide +kernel
theorem dX10_least_37 : decode cX10_least 37 = .ok (.iload_n 1, 1) := by decide +kernel
theorem dX10_least_38 : decode cX10_least 38 = .ok (.iaload, 1) := by decide +kernel
theorem dX10_least_39 : decode cX10_least 39 = .ok (.istore_n 3, 1) := by decide +kernel
theorem dX10_least_40 : decode cX10_least 40 = .ok (.aload_n 0, 1) := by decide +kernel
theorem dX10_least_41 : decode cX10_least 41 = .ok (.getfield 19, 3) := by decide +kernel
theorem dX10_least_44 : decode cX10_least 44 = .ok (.iload_n 1, 1) := by decide +kernel
theorem dX10_least_45 : decode cX10_least 45 = .ok (.iload_n 2, 1) := by decide +kernel
theorem dX10_least_46 : decode cX10_least 46 = .ok (.iastore, 1) := by decide +kernel
theorem dX10_least_47 : decode cX10_least 47 = .ok (.iload_n 3, 1) := by decide +kernel
theorem dX10_least_48 : decode cX10_least 48 = .ok (.ireturn, 1) := by decide +kernel
theorem dX10_shareOf_0 : decode cX10_shareOf 0 = .ok (.aload_n 0, 1) := by decide +kernel
theorem dX10_shareOf_1 : decode cX10_shareOf 1 = .ok (.getfield 7, 3) := by decide +kernel
theorem dX10_shareOf_4 : decode cX10_shareOf 4 = .ok (.iload_n 1, 1) := by decide +kernel
theorem dX10_shareOf_5 : decode cX10_shareOf 5 = .ok (.iaload, 1) := by decide +kernel
theorem dX10_shareOf_6 : decode cX10_shareOf 6 = .ok (.ifCond .ne 7, 3) := by decide +kernel
theorem dX10_shareOf_9 : decode cX10_shareOf 9 = .ok (.iconst 3, 1) := by decide +kernel
theorem dX10_shareOf_10 : decode cX10_shareOf 10 = .ok (.goto 33, 3) := by decide +kernel
theorem dX10_shareOf_13 : decode cX10_shareOf 13 = .ok (.aload_n 0, 1) := by decide +kernel
theorem dX10_shareOf_14 : decode cX10_shareOf 14 = .ok (.getfield 7, 3) := by decide +kernel
theorem dX10_shareOf_17 : decode cX10_shareOf 17 = .ok (.iload_n 1, 1) := by decide +kernel
theorem dX10_shareOf_18 : decode cX10_shareOf 18 = .ok (.iaload, 1) := by decide +kernel
theorem dX10_shareOf_19 : decode cX10_shareOf 19 = .ok (.iconst 1, 1) := by decide +kernel
theorem dX10_shareOf_20 : decode cX10_shareOf 20 = .ok (.if_icmp .ne 7, 3) := by decide +kernel
theorem dX10_shareOf_23 : decode cX10_shareOf 23 = .ok (.iconst 5, 1) := by decide +kernel
theorem dX10_shareOf_24 : decode cX10_shareOf 24 = .ok (.goto 19, 3) := by decide +kernel
theorem dX10_shareOf_27 : decode cX10_shareOf 27 = .ok (.aload_n 0, 1) := by decide +kernel
theorem dX10_shareOf_28 : decode cX10_shareOf 28 = .ok (.getfield 7, 3) := by decide +kernel
theorem dX10_shareOf_31 : decode cX10_shareOf 31 = .ok (.iload_n 1, 1) := by decide +kernel
theorem dX10_shareOf_32 : decode cX10_shareOf 32 = .ok (.iaload, 1) := by decide +kernel
theorem dX10_shareOf_33 : decode cX10_shareOf 33 = .ok (.iconst 2, 1) := by decide +kernel
theorem dX10_shareOf_34 : decode cX10_shareOf 34 = .ok (.if_icmp .ne 7, 3) := by decide +kernel
theorem dX10_shareOf_37 : decode cX10_shareOf 37 = .ok (.iconst 2, 1) := by decide +kernel
theorem dX10_shareOf_38 : decode cX10_shareOf 38 = .ok (.goto 5, 3) := by decide +kernel
theorem dX10_shareOf_41 : decode cX10_shareOf 41 = .ok (.bipush 8, 2) := by decide +kernel
theorem dX10_shareOf_43 : decode cX10_shareOf 43 = .ok (.istore_n 3, 1) := by decide +kernel
theorem dX10_shareOf_44 : decode cX10_shareOf 44 = .ok (.iload_n 2, 1) := by decide +kernel
theorem dX10_shareOf_45 : decode cX10_shareOf 45 = .ok (.iload_n 3, 1) := by decide +kernel
theorem dX10_shareOf_46 : decode cX10_shareOf 46 = .ok (.imul, 1) := by decide +kernel
theorem dX10_shareOf_47 : decode cX10_shareOf 47 = .ok (.aload_n 0, 1) := by decide +kernel
theorem dX10_shareOf_48 : decode cX10_shareOf 48 = .ok (.getfield 49, 3) := by decide +kernel
theorem dX10_shareOf_51 : decode cX10_shareOf 51 = .ok (.imul, 1) := by decide +kernel
theorem dX10_shareOf_52 : decode cX10_shareOf 52 = .ok (.bipush 100, 2) := by decide +kernel
theorem dX10_shareOf_54 : decode cX10_shareOf 54 = .ok (.idiv, 1) := by decide +kernel
theorem dX10_shareOf_55 : decode cX10_shareOf 55 = .ok (.istore 4, 2) := by decide +kernel
theorem dX10_shareOf_57 : decode cX10_shareOf 57 = .ok (.iload 4, 2) := by decide +kernel
theorem dX10_shareOf_59 : decode cX10_shareOf 59 = .ok (.aload_n 0, 1) := by decide +kernel
theorem dX10_shareOf_60 : decode cX10_shareOf 60 = .ok (.getfield 19, 3) := by decide +kernel
theorem dX10_shareOf_63 : decode cX10_shareOf 63 = .ok (.iload_n 1, 1) := by decide +kernel
theorem dX10_shareOf_64 : decode cX10_shareOf 64 = .ok (.iaload, 1) := by decide +kernel
theorem dX10_shareOf_65 : decode cX10_shareOf 65 = .ok (.if_icmp .ge 12, 3) := by decide +kernel
theorem dX10_shareOf_68 : decode cX10_shareOf 68 = .ok (.aload_n 0, 1) := by decide +kernel
theorem dX10_shareOf_69 : decode cX10_shareOf 69 = .ok (.getfield 19, 3) := by decide +kernel
theorem dX10_shareOf_72 : decode cX10_shareOf 72 = .ok (.iload_n 1, 1) := by decide +kernel
theorem dX10_shareOf_73 : decode cX10_shareOf 73 = .ok (.iaload, 1) := by decide +kernel
theorem dX10_shareOf_74 : decode cX10_shareOf 74 = .ok (.goto 5, 3) := by decide +kernel
theorem dX10_shareOf_77 : decode cX10_shareOf 77 = .ok (.iload 4, 2) := by decide +kernel
theorem dX10_shareOf_79 : decode cX10_shareOf 79 = .ok (.ireturn, 1) := by decide +kernel
set_option maxRecDepth 20000 in
theorem ggX10_share_X10_isHouse : GoodIn wsX10_share wsX10_isHouse := goodIn_r _ [7, 8, 9, 10, 6, 11, 19, 20, 21, 22, 23, 24, 25, 26, 27, 28, 29, 30, 31, 32, 33, 34, 35, 36, 37, 38, 39, 40, 41, 42, 43, 44, 45, 46, 47, 48, 49, 50, 51, 52, 53, 54, 55] (by decide +kernel) (by decide +kernel)
set_option maxRecDepth 20000 in
theorem gX10_share_X10_isHouse : GoodIn wsX10_share (wsV RX10 111 RX10 yX10_isHouse wsX10_isHouse) := goodIn_app (goodIn_of _ (by decide +kernel)) ggX10_share_X10_isHouse
set_option maxRecDepth 20000 in
theorem ggX10_share_X10_isIn : GoodIn wsX10_share wsX10_isIn := goodIn_r _ [11] (by decide +kernel) (by decide +kernel)
set_option maxRecDepth 20000 in
theorem gX10_share_X10_isIn : GoodIn wsX10_share (va_wsS RX10 102 yX10_isIn wsX10_isIn) := goodIn_app (goodIn_of _ (by decide +kernel)) ggX10_share_X10_isIn
set_option maxRecDepth 20000 in
theorem ggX10_share_X10_shareOf : GoodIn wsX10_share wsX10_shareOf := goodIn_r _ [15, 16, 17, 18, 19, 20, 21, 22, 23, 24, 25, 26, 27, 28, 29, 30, 31, 32, 33, 34, 35, 36, 37, 38, 39, 40, 41, 42, 43, 44, 45, 46, 47, 48, 49, 50, 51, 52, 53, 54, 55] (by decide +kernel) (by decide +kernel)
set_option maxRecDepth 20000 in
theorem gX10_share_X10_shareOf : GoodIn wsX10_share (wsV RX10 204 RX10 yX10_shareOf wsX10_shareOf) := goodIn_app (goodIn_of _ (by decide +kernel)) ggX10_share_X10_shareOf
theorem dX10_share_0 : decode cX10_share 0 = .ok (.aload_n 0, 1) := by decide +kernel
theorem dX10_share_1 : decode cX10_share 1 = .ok (.iload_n 1, 1) := by decide +kernel
theorem dX10_share_2 : decode cX10_share 2 = .ok (.invokevirtual 111, 3) := by decide +kernel
theorem dX10_share_5 : decode cX10_share 5 = .ok (.ifCond .eq 26, 3) := by decide +kernel
theorem dX10_share_8 : decode cX10_share 8 = .ok (.iload_n 2, 1) := by decide +kernel
theorem dX10_share_9 : decode cX10_share 9 = .ok (.iconst 0, 1) := by decide +kernel
theorem dX10_share_10 : decode cX10_share 10 = .ok (.aload_n 0, 1) := by decide +kernel
theorem dX10_share_11 : decode cX10_share 11 = .ok (.getfield 13, 3) := by decide +kernel
theorem dX10_share_14 : decode cX10_share 14 = .ok (.iload_n 1, 1) := by decide +kernel
theorem dX10_share_15 : decode cX10_share 15 = .ok (.iaload, 1) := by decide +kernel
theorem dX10_share_16 : decode cX10_share 16 = .ok (.invokestatic 102, 3) := by decide +kernel
theorem dX10_share_19 : decode cX10_share 19 = .ok (.ifCond .eq 12, 3) := by decide +kernel
theorem dX10_share_22 : decode cX10_share 22 = .ok (.aload_n 0, 1) := by decide +kernel
theorem dX10_share_23 : decode cX10_share 23 = .ok (.iload_n 1, 1) := by decide +kernel
theorem dX10_share_24 : decode cX10_share 24 = .ok (.iload_n 2, 1) := by decide +kernel
theorem dX10_share_25 : decode cX10_share 25 = .ok (.invokevirtual 204, 3) := by decide +kernel
theorem dX10_share_28 : decode cX10_share 28 = .ok (.goto 5, 3) := by decide +kernel
theorem dX10_share_31 : decode cX10_share 31 = .ok (.ldc 109, 2) := by decide +kernel
theorem dX10_share_33 : decode cX10_share 33 = .ok (.ireturn, 1) := by decide +kernel
set_option maxRecDepth 20000 in
theorem ggX10_shares_X10_isWeek : GoodIn wsX10_shares wsX10_isWeek := goodIn_r _ [10, 11, 12, 9, 13] (by decide +kernel) (by decide +kernel)
set_option maxRecDepth 20000 in
theorem gX10_shares_X10_isWeek : GoodIn wsX10_shares (va_wsS RX10 176 yX10_isWeek wsX10_isWeek) := goodIn_app (goodIn_of _ (by decide +kernel)) ggX10_shares_X10_isWeek
set_option maxRecDepth 20000 in
theorem ggX10_shares_X10_isIn : GoodIn wsX10_shares wsX10_isIn := goodIn_r _ [13] (by decide +kernel) (by decide +kernel)
set_option maxRecDepth 20000 in
theorem gX10_shares_X10_isIn : GoodIn wsX10_shares (va_wsS RX10 102 yX10_isIn wsX10_isIn) := goodIn_app (goodIn_of _ (by decide +kernel)) ggX10_shares_X10_isIn
set_option maxRecDepth 20000 in
theorem ggX10_shares_X10_shareOf : GoodIn wsX10_shares wsX10_shareOf := goodIn_r _ [17, 18, 19, 20, 21, 22, 23, 24, 25, 26, 27, 28, 29, 30, 31, 32, 33, 34, 35, 36, 37, 38, 39, 40, 41, 42, 43, 44, 45, 46, 47, 48, 49, 50, 51, 52, 53, 54, 55, 56, 57] (by decide +kernel) (by decide +kernel)
set_option maxRecDepth 20000 in
theorem gX10_shares_X10_shareOf : GoodIn wsX10_shares (wsV RX10 204 RX10 yX10_shareOf wsX10_shareOf) := goodIn_app (goodIn_of _ (by decide +kernel)) ggX10_shares_X10_shareOf
theorem dX10_shares_0 : decode cX10_shares 0 = .ok (.iload_n 1, 1) := by decide +kernel
theorem dX10_shares_1 : decode cX10_shares 1 = .ok (.invokestatic 176, 3) := by decide +kernel
theorem dX10_shares_4 : decode cX10_shares 4 = .ok (.ifCond .ne 6, 3) := by decide +kernel
theorem dX10_shares_7 : decode cX10_shares 7 = .ok (.ldc 109, 2) := by decide +kernel
theorem dX10_shares_9 : decode cX10_shares 9 = .ok (.ireturn, 1) := by decide +kernel
theorem dX10_shares_10 : decode cX10_shares 10 = .ok (.aload_n 0, 1) := by decide +kernel
theorem dX10_shares_11 : decode cX10_shares 11 = .ok (.getfield 59, 3) := by decide +kernel
theorem dX10_shares_14 : decode cX10_shares 14 = .ok (.iconst 0, 1) := by decide +kernel
theorem dX10_shares_15 : decode cX10_shares 15 = .ok (.iaload, 1) := by decide +kernel
theorem dX10_shares_16 : decode cX10_shares 16 = .ok (.ifCond .ge 6, 3) := by decide +kernel
theorem dX10_shares_19 : decode cX10_shares 19 = .ok (.ldc 208, 2) := by decide +kernel
theorem dX10_shares_21 : decode cX10_shares 21 = .ok (.ireturn, 1) := by decide +kernel
theorem dX10_shares_22 : decode cX10_shares 22 = .ok (.iconst 0, 1) := by decide +kernel
theorem dX10_shares_23 : decode cX10_shares 23 = .ok (.istore_n 2, 1) := by decide +kernel
theorem dX10_shares_24 : decode cX10_shares 24 = .ok (.iconst 0, 1) := by decide +kernel
theorem dX10_shares_25 : decode cX10_shares 25 = .ok (.istore_n 3, 1) := by decide +kernel
theorem dX10_shares_26 : decode cX10_shares 26 = .ok (.iload_n 3, 1) := by decide +kernel
theorem dX10_shares_27 : decode cX10_shares 27 = .ok (.aload_n 0, 1) := by decide +kernel
theorem dX10_shares_28 : decode cX10_shares 28 = .ok (.getfield 99, 3) := by decide +kernel
theorem dX10_shares_31 : decode cX10_shares 31 = .ok (.if_icmp .ge 79, 3) := by decide +kernel
theorem dX10_shares_34 : decode cX10_shares 34 = .ok (.bipush 6, 2) := by decide +kernel
theorem dX10_shares_36 : decode cX10_shares 36 = .ok (.iload_n 1, 1) := by decide +kernel
theorem dX10_shares_37 : decode cX10_shares 37 = .ok (.imul, 1) := by decide +kernel
theorem dX10_shares_38 : decode cX10_shares 38 = .ok (.iload_n 3, 1) := by decide +kernel
theorem dX10_shares_39 : decode cX10_shares 39 = .ok (.iadd, 1) := by decide +kernel
theorem dX10_shares_40 : decode cX10_shares 40 = .ok (.istore 4, 2) := by decide +kernel
theorem dX10_shares_42 : decode cX10_shares 42 = .ok (.iload 4, 2) := by decide +kernel
theorem dX10_shares_44 : decode cX10_shares 44 = .ok (.aload_n 0, 1) := by decide +kernel
theorem dX10_shares_45 : decode cX10_shares 45 = .ok (.getfield 59, 3) := by decide +kernel
theorem dX10_shares_48 : decode cX10_shares 48 = .ok (.iconst 0, 1) := by decide +kernel
theorem dX10_shares_49 : decode cX10_shares 49 = .ok (.iaload, 1) := by decide +kernel
theorem dX10_shares_50 : decode cX10_shares 50 = .ok (.if_icmp .ge 27, 3) := by decide +kernel
theorem dX10_shares_53 : decode cX10_shares 53 = .ok (.aload_n 0, 1) := by decide +kernel
theorem dX10_shares_54 : decode cX10_shares 54 = .ok (.getfield 62, 3) := by decide +kernel
theorem dX10_shares_57 : decode cX10_shares 57 = .ok (.iload 4, 2) := by decide +kernel
theorem dX10_shares_59 : decode cX10_shares 59 = .ok (.iaload, 1) := by decide +kernel
theorem dX10_shares_60 : decode cX10_shares 60 = .ok (.iconst 0, 1) := by decide +kernel
theorem dX10_shares_61 : decode cX10_shares 61 = .ok (.aload_n 0, 1) := by decide +kernel
theorem dX10_shares_62 : decode cX10_shares 62 = .ok (.getfield 13, 3) := by decide +kernel
theorem dX10_shares_65 : decode cX10_shares 65 = .ok (.iload_n 3, 1) := by decide +kernel
theorem dX10_shares_66 : decode cX10_shares 66 = .ok (.iaload, 1) := by decide +kernel
theorem dX10_shares_67 : decode cX10_shares 67 = .ok (.invokestatic 102, 3) := by decide +kernel
theorem dX10_shares_70 : decode cX10_shares 70 = .ok (.ifCond .eq 7, 3) := by decide +kernel
theorem dX10_shares_73 : decode cX10_shares 73 = .ok (.iconst 1, 1) := by decide +kernel
theorem dX10_shares_74 : decode cX10_shares 74 = .ok (.goto 4, 3) := by decide +kernel
theorem dX10_shares_77 : decode cX10_shares 77 = .ok (.iconst 0, 1) := by decide +kernel
theorem dX10_shares_78 : decode cX10_shares 78 = .ok (.istore 5, 2) := by decide +kernel
theorem dX10_shares_80 : decode cX10_shares 80 = .ok (.iload_n 2, 1) := by decide +kernel
theorem dX10_shares_81 : decode cX10_shares 81 = .ok (.aload_n 0, 1) := by decide +kernel
theorem dX10_shares_82 : decode cX10_shares 82 = .ok (.iload_n 3, 1) := by decide +kernel
theorem dX10_shares_83 : decode cX10_shares 83 = .ok (.iload 5, 2) := by decide +kernel
theorem dX10_shares_85 : decode cX10_shares 85 = .ok (.ifCond .eq 13, 3) := by decide +kernel
theorem dX10_shares_88 : decode cX10_shares 88 = .ok (.aload_n 0, 1) := by decide +kernel
theorem dX10_shares_89 : decode cX10_shares 89 = .ok (.getfield 62, 3) := by decide +kernel
theorem dX10_shares_92 : decode cX10_shares 92 = .ok (.iload 4, 2) := by decide +kernel
theorem dX10_shares_94 : decode cX10_shares 94 = .ok (.iaload, 1) := by decide +kernel
theorem dX10_shares_95 : decode cX10_shares 95 = .ok (.goto 4, 3) := by decide +kernel
theorem dX10_shares_98 : decode cX10_shares 98 = .ok (.iconst 0, 1) := by decide +kernel
theorem dX10_shares_99 : decode cX10_shares 99 = .ok (.invokevirtual 204, 3) := by decide +kernel
theorem dX10_shares_102 : decode cX10_shares 102 = .ok (.iadd, 1) := by decide +kernel
theorem dX10_shares_103 : decode cX10_shares 103 = .ok (.istore_n 2, 1) := by decide +kernel
theorem dX10_shares_104 : decode cX10_shares 104 = .ok (.iinc 3 1, 3) := by decide +kernel
theorem dX10_shares_107 : decode cX10_shares 107 = .ok (.goto (-81), 3) := by decide +kernel
theorem dX10_shares_110 : decode cX10_shares 110 = .ok (.iload_n 2, 1) := by decide +kernel
theorem dX10_shares_111 : decode cX10_shares 111 = .ok (.ireturn, 1) := by decide +kernel
set_option maxRecDepth 20000 in
theorem ggX10_checked_X10_isWeek : GoodIn wsX10_checked wsX10_isWeek := goodIn_r _ [10, 11, 12, 9, 13] (by decide +kernel) (by decide +kernel)
set_option maxRecDepth 20000 in
theorem gX10_checked_X10_isWeek : GoodIn wsX10_checked (va_wsS RX10 176 yX10_isWeek wsX10_isWeek) := goodIn_app (goodIn_of _ (by decide +kernel)) ggX10_checked_X10_isWeek
theorem dX10_checked_0 : decode cX10_checked 0 = .ok (.iload_n 1, 1) := by decide +kernel
theorem dX10_checked_1 : decode cX10_checked 1 = .ok (.invokestatic 176, 3) := by decide +kernel
theorem dX10_checked_4 : decode cX10_checked 4 = .ok (.ifCond .ne 6, 3) := by decide +kernel
theorem dX10_checked_7 : decode cX10_checked 7 = .ok (.ldc 109, 2) := by decide +kernel
theorem dX10_checked_9 : decode cX10_checked 9 = .ok (.ireturn, 1) := by decide +kernel
theorem dX10_checked_10 : decode cX10_checked 10 = .ok (.iconst 0, 1) := by decide +kernel
theorem dX10_checked_11 : decode cX10_checked 11 = .ok (.istore_n 2, 1) := by decide +kernel
theorem dX10_checked_12 : decode cX10_checked 12 = .ok (.iconst 0, 1) := by decide +kernel
theorem dX10_checked_13 : decode cX10_checked 13 = .ok (.istore_n 3, 1) := by decide +kernel
theorem dX10_checked_14 : decode cX10_checked 14 = .ok (.iload_n 3, 1) := by decide +kernel
theorem dX10_checked_15 : decode cX10_checked 15 = .ok (.aload_n 0, 1) := by decide +kernel
theorem dX10_checked_16 : decode cX10_checked 16 = .ok (.getfield 99, 3) := by decide +kernel
theorem dX10_checked_19 : decode cX10_checked 19 = .ok (.if_icmp .ge 70, 3) := by decide +kernel
theorem dX10_checked_22 : decode cX10_checked 22 = .ok (.aload_n 0, 1) := by decide +kernel
theorem dX10_checked_23 : decode cX10_checked 23 = .ok (.getfield 56, 3) := by decide +kernel
theorem dX10_checked_26 : decode cX10_checked 26 = .ok (.istore 4, 2) := by decide +kernel
theorem dX10_checked_28 : decode cX10_checked 28 = .ok (.iconst 0, 1) := by decide +kernel
theorem dX10_checked_29 : decode cX10_checked 29 = .ok (.istore 5, 2) := by decide +kernel
theorem dX10_checked_31 : decode cX10_checked 31 = .ok (.iload 5, 2) := by decide +kernel
theorem dX10_checked_33 : decode cX10_checked 33 = .ok (.bipush 6, 2) := by decide +kernel
theorem dX10_checked_35 : decode cX10_checked 35 = .ok (.iload_n 1, 1) := by decide +kernel
theorem dX10_checked_36 : decode cX10_checked 36 = .ok (.imul, 1) := by decide +kernel
theorem dX10_checked_37 : decode cX10_checked 37 = .ok (.iload_n 3, 1) := by decide +kernel
theorem dX10_checked_38 : decode cX10_checked 38 = .ok (.iadd, 1) := by decide +kernel
theorem dX10_checked_39 : decode cX10_checked 39 = .ok (.if_icmp .gt 19, 3) := by decide +kernel
theorem dX10_checked_42 : decode cX10_checked 42 = .ok (.iload 4, 2) := by decide +kernel
theorem dX10_checked_44 : decode cX10_checked 44 = .ok (.ldc 209, 2) := by decide +kernel
theorem dX10_checked_46 : decode cX10_checked 46 = .ok (.imul, 1) := by decide +kernel
theorem dX10_checked_47 : decode cX10_checked 47 = .ok (.ldc 210, 2) := by decide +kernel
theorem dX10_checked_49 : decode cX10_checked 49 = .ok (.iadd, 1) := by decide +kernel
theorem dX10_checked_50 : decode cX10_checked 50 = .ok (.istore 4, 2) := by decide +kernel
theorem dX10_checked_52 : decode cX10_checked 52 = .ok (.iinc 5 1, 3) := by decide +kernel
theorem dX10_checked_55 : decode cX10_checked 55 = .ok (.goto (-24), 3) := by decide +kernel
theorem dX10_checked_58 : decode cX10_checked 58 = .ok (.iload_n 2, 1) := by decide +kernel
theorem dX10_checked_59 : decode cX10_checked 59 = .ok (.iload 4, 2) := by decide +kernel
theorem dX10_checked_61 : decode cX10_checked 61 = .ok (.bipush 8, 2) := by decide +kernel
theorem dX10_checked_63 : decode cX10_checked 63 = .ok (.iushr, 1) := by decide +kernel
theorem dX10_checked_64 : decode cX10_checked 64 = .ok (.bipush 100, 2) := by decide +kernel
theorem dX10_checked_66 : decode cX10_checked 66 = .ok (.irem, 1) := by decide +kernel
theorem dX10_checked_67 : decode cX10_checked 67 = .ok (.aload_n 0, 1) := by decide +kernel
theorem dX10_checked_68 : decode cX10_checked 68 = .ok (.getfield 53, 3) := by decide +kernel
theorem dX10_checked_71 : decode cX10_checked 71 = .ok (.if_icmp .ge 9, 3) := by decide +kernel
theorem dX10_checked_74 : decode cX10_checked 74 = .ok (.iconst 1, 1) := by decide +kernel
theorem dX10_checked_75 : decode cX10_checked 75 = .ok (.iload_n 3, 1) := by decide +kernel
theorem dX10_checked_76 : decode cX10_checked 76 = .ok (.ishl, 1) := by decide +kernel
theorem dX10_checked_77 : decode cX10_checked 77 = .ok (.goto 4, 3) := by decide +kernel
theorem dX10_checked_80 : decode cX10_checked 80 = .ok (.iconst 0, 1) := by decide +kernel
theorem dX10_checked_81 : decode cX10_checked 81 = .ok (.ior, 1) := by decide +kernel
theorem dX10_checked_82 : decode cX10_checked 82 = .ok (.istore_n 2, 1) := by decide +kernel
theorem dX10_checked_83 : decode cX10_checked 83 = .ok (.iinc 3 1, 3) := by decide +kernel
theorem dX10_checked_86 : decode cX10_checked 86 = .ok (.goto (-72), 3) := by decide +kernel
theorem dX10_checked_89 : decode cX10_checked 89 = .ok (.iload_n 2, 1) := by decide +kernel
theorem dX10_checked_90 : decode cX10_checked 90 = .ok (.ireturn, 1) := by decide +kernel
set_option maxRecDepth 20000 in
theorem ggX10_isSheet_X10_isIn : GoodIn wsX10_isSheet wsX10_isIn := goodIn_r _ [4] (by decide +kernel) (by decide +kernel)
set_option maxRecDepth 20000 in
theorem gX10_isSheet_X10_isIn : GoodIn wsX10_isSheet (va_wsS RX10 102 yX10_isIn wsX10_isIn) := goodIn_app (goodIn_of _ (by decide +kernel)) ggX10_isSheet_X10_isIn
theorem dX10_isSheet_0 : decode cX10_isSheet 0 = .ok (.iload_n 0, 1) := by decide +kernel
theorem dX10_isSheet_1 : decode cX10_isSheet 1 = .ok (.iconst 0, 1) := by decide +kernel
theorem dX10_isSheet_2 : decode cX10_isSheet 2 = .ok (.iconst 1, 1) := by decide +kernel
theorem dX10_isSheet_3 : decode cX10_isSheet 3 = .ok (.invokestatic 102, 3) := by decide +kernel
theorem dX10_isSheet_6 : decode cX10_isSheet 6 = .ok (.ireturn, 1) := by decide +kernel
set_option maxRecDepth 20000 in
theorem ggX10_sheet_X10_isSheet : GoodIn wsX10_sheet wsX10_isSheet := goodIn_r _ [8, 9, 10, 7, 11] (by decide +kernel) (by decide +kernel)
set_option maxRecDepth 20000 in
theorem gX10_sheet_X10_isSheet : GoodIn wsX10_sheet (va_wsS RX10 211 yX10_isSheet wsX10_isSheet) := goodIn_app (goodIn_of _ (by decide +kernel)) ggX10_sheet_X10_isSheet
theorem dX10_sheet_0 : decode cX10_sheet 0 = .ok (.iload_n 1, 1) := by decide +kernel
theorem dX10_sheet_1 : decode cX10_sheet 1 = .ok (.invokestatic 211, 3) := by decide +kernel
theorem dX10_sheet_4 : decode cX10_sheet 4 = .ok (.ifCond .eq 9, 3) := by decide +kernel
theorem dX10_sheet_7 : decode cX10_sheet 7 = .ok (.iload_n 2, 1) := by decide +kernel
theorem dX10_sheet_8 : decode cX10_sheet 8 = .ok (.bipush 24, 2) := by decide +kernel
theorem dX10_sheet_10 : decode cX10_sheet 10 = .ok (.if_icmp .le 6, 3) := by decide +kernel
theorem dX10_sheet_13 : decode cX10_sheet 13 = .ok (.ldc 109, 2) := by decide +kernel
theorem dX10_sheet_15 : decode cX10_sheet 15 = .ok (.ireturn, 1) := by decide +kernel
theorem dX10_sheet_16 : decode cX10_sheet 16 = .ok (.iload_n 2, 1) := by decide +kernel
theorem dX10_sheet_17 : decode cX10_sheet 17 = .ok (.ifCond .ge 6, 3) := by decide +kernel
theorem dX10_sheet_20 : decode cX10_sheet 20 = .ok (.ldc 214, 2) := by decide +kernel
theorem dX10_sheet_22 : decode cX10_sheet 22 = .ok (.ireturn, 1) := by decide +kernel
theorem dX10_sheet_23 : decode cX10_sheet 23 = .ok (.aload_n 0, 1) := by decide +kernel
theorem dX10_sheet_24 : decode cX10_sheet 24 = .ok (.getfield 59, 3) := by decide +kernel
theorem dX10_sheet_27 : decode cX10_sheet 27 = .ok (.iload_n 1, 1) := by decide +kernel
theorem dX10_sheet_28 : decode cX10_sheet 28 = .ok (.iload_n 2, 1) := by decide +kernel
theorem dX10_sheet_29 : decode cX10_sheet 29 = .ok (.iastore, 1) := by decide +kernel
theorem dX10_sheet_30 : decode cX10_sheet 30 = .ok (.iconst 0, 1) := by decide +kernel
theorem dX10_sheet_31 : decode cX10_sheet 31 = .ok (.istore_n 3, 1) := by decide +kernel
theorem dX10_sheet_32 : decode cX10_sheet 32 = .ok (.iload_n 3, 1) := by decide +kernel
theorem dX10_sheet_33 : decode cX10_sheet 33 = .ok (.iload_n 2, 1) := by decide +kernel
theorem dX10_sheet_34 : decode cX10_sheet 34 = .ok (.if_icmp .ge 21, 3) := by decide +kernel
theorem dX10_sheet_37 : decode cX10_sheet 37 = .ok (.aload_n 0, 1) := by decide +kernel
theorem dX10_sheet_38 : decode cX10_sheet 38 = .ok (.getfield 62, 3) := by decide +kernel
theorem dX10_sheet_41 : decode cX10_sheet 41 = .ok (.bipush 24, 2) := by decide +kernel
theorem dX10_sheet_43 : decode cX10_sheet 43 = .ok (.iload_n 1, 1) := by decide +kernel
theorem dX10_sheet_44 : decode cX10_sheet 44 = .ok (.imul, 1) := by decide +kernel
theorem dX10_sheet_45 : decode cX10_sheet 45 = .ok (.iload_n 3, 1) := by decide +kernel
theorem dX10_sheet_46 : decode cX10_sheet 46 = .ok (.iadd, 1) := by decide +kernel
theorem dX10_sheet_47 : decode cX10_sheet 47 = .ok (.iconst 0, 1) := by decide +kernel
theorem dX10_sheet_48 : decode cX10_sheet 48 = .ok (.iastore, 1) := by decide +kernel
theorem dX10_sheet_49 : decode cX10_sheet 49 = .ok (.iinc 3 1, 3) := by decide +kernel
theorem dX10_sheet_52 : decode cX10_sheet 52 = .ok (.goto (-20), 3) := by decide +kernel
theorem dX10_sheet_55 : decode cX10_sheet 55 = .ok (.iload_n 2, 1) := by decide +kernel
theorem dX10_sheet_56 : decode cX10_sheet 56 = .ok (.ireturn, 1) := by decide +kernel
set_option maxRecDepth 20000 in
theorem ggX10_mark_X10_isSheet : GoodIn wsX10_mark wsX10_isSheet := goodIn_r _ [9, 10, 11, 8, 12] (by decide +kernel) (by decide +kernel)
set_option maxRecDepth 20000 in
theorem gX10_mark_X10_isSheet : GoodIn wsX10_mark (va_wsS RX10 211 yX10_isSheet wsX10_isSheet) := goodIn_app (goodIn_of _ (by decide +kernel)) ggX10_mark_X10_isSheet
set_option maxRecDepth 20000 in
theorem ggX10_mark_X10_isIn : GoodIn wsX10_mark wsX10_isIn := goodIn_r _ [12] (by decide +kernel) (by decide +kernel)
set_option maxRecDepth 20000 in
theorem gX10_mark_X10_isIn : GoodIn wsX10_mark (va_wsS RX10 102 yX10_isIn wsX10_isIn) := goodIn_app (goodIn_of _ (by decide +kernel)) ggX10_mark_X10_isIn
theorem dX10_mark_0 : decode cX10_mark 0 = .ok (.iload_n 1, 1) := by decide +kernel
theorem dX10_mark_1 : decode cX10_mark 1 = .ok (.invokestatic 211, 3) := by decide +kernel
theorem dX10_mark_4 : decode cX10_mark 4 = .ok (.ifCond .ne 6, 3) := by decide +kernel
theorem dX10_mark_7 : decode cX10_mark 7 = .ok (.ldc 109, 2) := by decide +kernel
theorem dX10_mark_9 : decode cX10_mark 9 = .ok (.ireturn, 1) := by decide +kernel
theorem dX10_mark_10 : decode cX10_mark 10 = .ok (.aload_n 0, 1) := by decide +kernel
theorem dX10_mark_11 : decode cX10_mark 11 = .ok (.getfield 59, 3) := by decide +kernel
theorem dX10_mark_14 : decode cX10_mark 14 = .ok (.iload_n 1, 1) := by decide +kernel
theorem dX10_mark_15 : decode cX10_mark 15 = .ok (.iaload, 1) := by decide +kernel
theorem dX10_mark_16 : decode cX10_mark 16 = .ok (.ifCond .ge 6, 3) := by decide +kernel
theorem dX10_mark_19 : decode cX10_mark 19 = .ok (.ldc 208, 2) := by decide +kernel
theorem dX10_mark_21 : decode cX10_mark 21 = .ok (.ireturn, 1) := by decide +kernel
theorem dX10_mark_22 : decode cX10_mark 22 = .ok (.iload_n 2, 1) := by decide +kernel
theorem dX10_mark_23 : decode cX10_mark 23 = .ok (.iconst 0, 1) := by decide +kernel
theorem dX10_mark_24 : decode cX10_mark 24 = .ok (.aload_n 0, 1) := by decide +kernel
theorem dX10_mark_25 : decode cX10_mark 25 = .ok (.getfield 59, 3) := by decide +kernel
theorem dX10_mark_28 : decode cX10_mark 28 = .ok (.iload_n 1, 1) := by decide +kernel
theorem dX10_mark_29 : decode cX10_mark 29 = .ok (.iaload, 1) := by decide +kernel
theorem dX10_mark_30 : decode cX10_mark 30 = .ok (.iconst 1, 1) := by decide +kernel
theorem dX10_mark_31 : decode cX10_mark 31 = .ok (.isub, 1) := by decide +kernel
theorem dX10_mark_32 : decode cX10_mark 32 = .ok (.invokestatic 102, 3) := by decide +kernel
theorem dX10_mark_35 : decode cX10_mark 35 = .ok (.ifCond .ne 6, 3) := by decide +kernel
theorem dX10_mark_38 : decode cX10_mark 38 = .ok (.ldc 215, 2) := by decide +kernel
theorem dX10_mark_40 : decode cX10_mark 40 = .ok (.ireturn, 1) := by decide +kernel
theorem dX10_mark_41 : decode cX10_mark 41 = .ok (.aload_n 0, 1) := by decide +kernel
theorem dX10_mark_42 : decode cX10_mark 42 = .ok (.getfield 62, 3) := by decide +kernel
theorem dX10_mark_45 : decode cX10_mark 45 = .ok (.bipush 24, 2) := by decide +kernel
theorem dX10_mark_47 : decode cX10_mark 47 = .ok (.iload_n 1, 1) := by decide +kernel
theorem dX10_mark_48 : decode cX10_mark 48 = .ok (.imul, 1) := by decide +kernel
theorem dX10_mark_49 : decode cX10_mark 49 = .ok (.iload_n 2, 1) := by decide +kernel
theorem dX10_mark_50 : decode cX10_mark 50 = .ok (.iadd, 1) := by decide +kernel
theorem dX10_mark_51 : decode cX10_mark 51 = .ok (.iaload, 1) := by decide +kernel
theorem dX10_mark_52 : decode cX10_mark 52 = .ok (.istore 4, 2) := by decide +kernel
theorem dX10_mark_54 : decode cX10_mark 54 = .ok (.aload_n 0, 1) := by decide +kernel
theorem dX10_mark_55 : decode cX10_mark 55 = .ok (.getfield 62, 3) := by decide +kernel
theorem dX10_mark_58 : decode cX10_mark 58 = .ok (.bipush 24, 2) := by decide +kernel
theorem dX10_mark_60 : decode cX10_mark 60 = .ok (.iload_n 1, 1) := by decide +kernel
theorem dX10_mark_61 : decode cX10_mark 61 = .ok (.imul, 1) := by decide +kernel
theorem dX10_mark_62 : decode cX10_mark 62 = .ok (.iload_n 2, 1) := by decide +kernel
theorem dX10_mark_63 : decode cX10_mark 63 = .ok (.iadd, 1) := by decide +kernel
theorem dX10_mark_64 : decode cX10_mark 64 = .ok (.iload_n 3, 1) := by decide +kernel
theorem dX10_mark_65 : decode cX10_mark 65 = .ok (.i2s, 1) := by decide +kernel
theorem dX10_mark_66 : decode cX10_mark 66 = .ok (.iastore, 1) := by decide +kernel
theorem dX10_mark_67 : decode cX10_mark 67 = .ok (.iload 4, 2) := by decide +kernel
theorem dX10_mark_69 : decode cX10_mark 69 = .ok (.ireturn, 1) := by decide +kernel
set_option maxRecDepth 20000 in
theorem ggX10_copy_X10_isSheet : GoodIn wsX10_copy wsX10_isSheet := goodIn_r _ [10, 11, 12, 9, 13] (by decide +kernel) (by decide +kernel)
set_option maxRecDepth 20000 in
theorem gX10_copy_X10_isSheet : GoodIn wsX10_copy (va_wsS RX10 211 yX10_isSheet wsX10_isSheet) := goodIn_app (goodIn_of _ (by decide +kernel)) ggX10_copy_X10_isSheet
theorem dX10_copy_0 : decode cX10_copy 0 = .ok (.iload_n 1, 1) := by decide +kernel
theorem dX10_copy_1 : decode cX10_copy 1 = .ok (.invokestatic 211, 3) := by decide +kernel
theorem dX10_copy_4 : decode cX10_copy 4 = .ok (.ifCond .eq 10, 3) := by decide +kernel
theorem dX10_copy_7 : decode cX10_copy 7 = .ok (.iload_n 3, 1) := by decide +kernel
theorem dX10_copy_8 : decode cX10_copy 8 = .ok (.invokestatic 211, 3) := by decide +kernel
theorem dX10_copy_11 : decode cX10_copy 11 = .ok (.ifCond .ne 6, 3) := by decide +kernel
theorem dX10_copy_14 : decode cX10_copy 14 = .ok (.ldc 109, 2) := by decide +kernel
theorem dX10_copy_16 : decode cX10_copy 16 = .ok (.ireturn, 1) := by decide +kernel
theorem dX10_copy_17 : decode cX10_copy 17 = .ok (.aload_n 0, 1) := by decide +kernel
theorem dX10_copy_18 : decode cX10_copy 18 = .ok (.getfield 59, 3) := by decide +kernel
theorem dX10_copy_21 : decode cX10_copy 21 = .ok (.iload_n 1, 1) := by decide +kernel
theorem dX10_copy_22 : decode cX10_copy 22 = .ok (.iaload, 1) := by decide +kernel
theorem dX10_copy_23 : decode cX10_copy 23 = .ok (.ifCond .lt 12, 3) := by decide +kernel
theorem dX10_copy_26 : decode cX10_copy 26 = .ok (.aload_n 0, 1) := by decide +kernel
theorem dX10_copy_27 : decode cX10_copy 27 = .ok (.getfield 59, 3) := by decide +kernel
theorem dX10_copy_30 : decode cX10_copy 30 = .ok (.iload_n 3, 1) := by decide +kernel
theorem dX10_copy_31 : decode cX10_copy 31 = .ok (.iaload, 1) := by decide +kernel
theorem dX10_copy_32 : decode cX10_copy 32 = .ok (.ifCond .ge 6, 3) := by decide +kernel
theorem dX10_copy_35 : decode cX10_copy 35 = .ok (.ldc 208, 2) := by decide +kernel
theorem dX10_copy_37 : decode cX10_copy 37 = .ok (.ireturn, 1) := by decide +kernel
theorem dX10_copy_38 : decode cX10_copy 38 = .ok (.iload_n 2, 1) := by decide +kernel
theorem dX10_copy_39 : decode cX10_copy 39 = .ok (.ifCond .lt 48, 3) := by decide +kernel
theorem dX10_copy_42 : decode cX10_copy 42 = .ok (.iload 4, 2) := by decide +kernel
theorem dX10_copy_44 : decode cX10_copy 44 = .ok (.ifCond .lt 43, 3) := by decide +kernel
theorem dX10_copy_47 : decode cX10_copy 47 = .ok (.iload 5, 2) := by decide +kernel
theorem dX10_copy_49 : decode cX10_copy 49 = .ok (.ifCond .lt 38, 3) := by decide +kernel
theorem dX10_copy_52 : decode cX10_copy 52 = .ok (.iload_n 2, 1) := by decide +kernel
theorem dX10_copy_53 : decode cX10_copy 53 = .ok (.i2l, 1) := by decide +kernel
theorem dX10_copy_54 : decode cX10_copy 54 = .ok (.iload 5, 2) := by decide +kernel
theorem dX10_copy_56 : decode cX10_copy 56 = .ok (.i2l, 1) := by decide +kernel
theorem dX10_copy_57 : decode cX10_copy 57 = .ok (.ladd, 1) := by decide +kernel
theorem dX10_copy_58 : decode cX10_copy 58 = .ok (.aload_n 0, 1) := by decide +kernel
theorem dX10_copy_59 : decode cX10_copy 59 = .ok (.getfield 59, 3) := by decide +kernel
theorem dX10_copy_62 : decode cX10_copy 62 = .ok (.iload_n 1, 1) := by decide +kernel
theorem dX10_copy_63 : decode cX10_copy 63 = .ok (.iaload, 1) := by decide +kernel
theorem dX10_copy_64 : decode cX10_copy 64 = .ok (.i2l, 1) := by decide +kernel
theorem dX10_copy_65 : decode cX10_copy 65 = .ok (.lcmp, 1) := by decide +kernel
theorem dX10_copy_66 : decode cX10_copy 66 = .ok (.ifCond .gt 21, 3) := by decide +kernel
theorem dX10_copy_69 : decode cX10_copy 69 = .ok (.iload 4, 2) := by decide +kernel
theorem dX10_copy_71 : decode cX10_copy 71 = .ok (.i2l, 1) := by decide +kernel
theorem dX10_copy_72 : decode cX10_copy 72 = .ok (.iload 5, 2) := by decide +kernel
theorem dX10_copy_74 : decode cX10_copy 74 = .ok (.i2l, 1) := by decide +kernel
theorem dX10_copy_75 : decode cX10_copy 75 = .ok (.ladd, 1) := by decide +kernel
theorem dX10_copy_76 : decode cX10_copy 76 = .ok (.aload_n 0, 1) := by decide +kernel
theorem dX10_copy_77 : decode cX10_copy 77 = .ok (.getfield 59, 3) := by decide +kernel
theorem dX10_copy_80 : decode cX10_copy 80 = .ok (.iload_n 3, 1) := by decide +kernel
theorem dX10_copy_81 : decode cX10_copy 81 = .ok (.iaload, 1) := by decide +kernel
theorem dX10_copy_82 : decode cX10_copy 82 = .ok (.i2l, 1) := by decide +kernel
theorem dX10_copy_83 : decode cX10_copy 83 = .ok (.lcmp, 1) := by decide +kernel
theorem dX10_copy_84 : decode cX10_copy 84 = .ok (.ifCond .le 6, 3) := by decide +kernel
theorem dX10_copy_87 : decode cX10_copy 87 = .ok (.ldc 215, 2) := by decide +kernel
theorem dX10_copy_89 : decode cX10_copy 89 = .ok (.ireturn, 1) := by decide +kernel
theorem dX10_copy_90 : decode cX10_copy 90 = .ok (.iconst 0, 1) := by decide +kernel
theorem dX10_copy_91 : decode cX10_copy 91 = .ok (.istore 6, 2) := by decide +kernel
theorem dX10_copy_93 : decode cX10_copy 93 = .ok (.iload 6, 2) := by decide +kernel
theorem dX10_copy_95 : decode cX10_copy 95 = .ok (.iload 5, 2) := by decide +kernel
theorem dX10_copy_97 : decode cX10_copy 97 = .ok (.if_icmp .ge 30, 3) := by decide +kernel
theorem dX10_copy_100 : decode cX10_copy 100 = .ok (.aload_n 0, 1) := by decide +kernel
theorem dX10_copy_101 : decode cX10_copy 101 = .ok (.getfield 96, 3) := by decide +kernel
theorem dX10_copy_104 : decode cX10_copy 104 = .ok (.iload 6, 2) := by decide +kernel
theorem dX10_copy_106 : decode cX10_copy 106 = .ok (.aload_n 0, 1) := by decide +kernel
theorem dX10_copy_107 : decode cX10_copy 107 = .ok (.getfield 62, 3) := by decide +kernel
theorem dX10_copy_110 : decode cX10_copy 110 = .ok (.bipush 24, 2) := by decide +kernel
theorem dX10_copy_112 : decode cX10_copy 112 = .ok (.iload_n 1, 1) := by decide +kernel
theorem dX10_copy_113 : decode cX10_copy 113 = .ok (.imul, 1) := by decide +kernel
theorem dX10_copy_114 : decode cX10_copy 114 = .ok (.iload_n 2, 1) := by decide +kernel
theorem dX10_copy_115 : decode cX10_copy 115 = .ok (.iadd, 1) := by decide +kernel
theorem dX10_copy_116 : decode cX10_copy 116 = .ok (.iload 6, 2) := by decide +kernel
theorem dX10_copy_118 : decode cX10_copy 118 = .ok (.iadd, 1) := by decide +kernel
theorem dX10_copy_119 : decode cX10_copy 119 = .ok (.iaload, 1) := by decide +kernel
theorem dX10_copy_120 : decode cX10_copy 120 = .ok (.iastore, 1) := by decide +kernel
theorem dX10_copy_121 : decode cX10_copy 121 = .ok (.iinc 6 1, 3) := by decide +kernel
theorem dX10_copy_124 : decode cX10_copy 124 = .ok (.goto (-31), 3) := by decide +kernel
theorem dX10_copy_127 : decode cX10_copy 127 = .ok (.iconst 0, 1) := by decide +kernel
theorem dX10_copy_128 : decode cX10_copy 128 = .ok (.istore 6, 2) := by decide +kernel
theorem dX10_copy_130 : decode cX10_copy 130 = .ok (.iload 6, 2) := by decide +kernel
theorem dX10_copy_132 : decode cX10_copy 132 = .ok (.iload 5, 2) := by decide +kernel
theorem dX10_copy_134 : decode cX10_copy 134 = .ok (.if_icmp .ge 31, 3) := by decide +kernel
theorem dX10_copy_137 : decode cX10_copy 137 = .ok (.aload_n 0, 1) := by decide +kernel
theorem dX10_copy_138 : decode cX10_copy 138 = .ok (.getfield 62, 3) := by decide +kernel
theorem dX10_copy_141 : decode cX10_copy 141 = .ok (.bipush 24, 2) := by decide +kernel
theorem dX10_copy_143 : decode cX10_copy 143 = .ok (.iload_n 3, 1) := by decide +kernel
theorem dX10_copy_144 : decode cX10_copy 144 = .ok (.imul, 1) := by decide +kernel
theorem dX10_copy_145 : decode cX10_copy 145 = .ok (.iload 4, 2) := by decide +kernel
theorem dX10_copy_147 : decode cX10_copy 147 = .ok (.iadd, 1) := by decide +kernel
theorem dX10_copy_148 : decode cX10_copy 148 = .ok (.iload 6, 2) := by decide +kernel
theorem dX10_copy_150 : decode cX10_copy 150 = .ok (.iadd, 1) := by decide +kernel
theorem dX10_copy_151 : decode cX10_copy 151 = .ok (.aload_n 0, 1) := by decide +kernel
theorem dX10_copy_152 : decode cX10_copy 152 = .ok (.getfield 96, 3) := by decide +kernel
theorem dX10_copy_155 : decode cX10_copy 155 = .ok (.iload 6, 2) := by decide +kernel
theorem dX10_copy_157 : decode cX10_copy 157 = .ok (.iaload, 1) := by decide +kernel
theorem dX10_copy_158 : decode cX10_copy 158 = .ok (.iastore, 1) := by decide +kernel
theorem dX10_copy_159 : decode cX10_copy 159 = .ok (.iinc 6 1, 3) := by decide +kernel
theorem dX10_copy_162 : decode cX10_copy 162 = .ok (.goto (-32), 3) := by decide +kernel
theorem dX10_copy_165 : decode cX10_copy 165 = .ok (.iload 5, 2) := by decide +kernel
theorem dX10_copy_167 : decode cX10_copy 167 = .ok (.ireturn, 1) := by decide +kernel
set_option maxRecDepth 20000 in
theorem ggX10_count_X10_rides : GoodIn wsX10_count wsX10_rides := goodIn_r _ [12, 3, 2, 13, 14, 15, 16, 17, 18, 19, 20, 21, 22, 23, 24, 25, 26, 27, 28, 29, 30, 31, 32, 33, 34, 35, 36, 37, 38, 39, 40, 41, 42, 43, 44, 45, 46, 47, 48, 49] (by decide +kernel) (by decide +kernel)
set_option maxRecDepth 20000 in
theorem gX10_count_X10_rides : GoodIn wsX10_count (wsV RX10 142 RX10 yX10_rides wsX10_rides) := goodIn_app (goodIn_of _ (by decide +kernel)) ggX10_count_X10_rides
theorem dX10_count_0 : decode cX10_count 0 = .ok (.iconst 0, 1) := by decide +kernel
theorem dX10_count_1 : decode cX10_count 1 = .ok (.istore_n 2, 1) := by decide +kernel
theorem dX10_count_2 : decode cX10_count 2 = .ok (.iload_n 1, 1) := by decide +kernel
theorem dX10_count_3 : decode cX10_count 3 = .ok (.tableswitch 123 0 6 #[41, 46, 51, 56, 61, 66, 93], 41) := by decide +kernel
theorem dX10_count_44 : decode cX10_count 44 = .ok (.aload_n 0, 1) := by decide +kernel
theorem dX10_count_45 : decode cX10_count 45 = .ok (.getfield 99, 3) := by decide +kernel
theorem dX10_count_48 : decode cX10_count 48 = .ok (.ireturn, 1) := by decide +kernel
theorem dX10_count_49 : decode cX10_count 49 = .ok (.aload_n 0, 1) := by decide +kernel
theorem dX10_count_50 : decode cX10_count 50 = .ok (.getfield 106, 3) := by decide +kernel
theorem dX10_count_53 : decode cX10_count 53 = .ok (.ireturn, 1) := by decide +kernel
theorem dX10_count_54 : decode cX10_count 54 = .ok (.aload_n 0, 1) := by decide +kernel
theorem dX10_count_55 : decode cX10_count 55 = .ok (.getfield 118, 3) := by decide +kernel
theorem dX10_count_58 : decode cX10_count 58 = .ok (.ireturn, 1) := by decide +kernel
theorem dX10_count_59 : decode cX10_count 59 = .ok (.aload_n 0, 1) := by decide +kernel
theorem dX10_count_60 : decode cX10_count 60 = .ok (.invokevirtual 142, 3) := by decide +kernel
theorem dX10_count_63 : decode cX10_count 63 = .ok (.ireturn, 1) := by decide +kernel
theorem dX10_count_64 : decode cX10_count 64 = .ok (.aload_n 0, 1) := by decide +kernel
theorem dX10_count_65 : decode cX10_count 65 = .ok (.getfield 170, 3) := by decide +kernel
theorem dX10_count_68 : decode cX10_count 68 = .ok (.ireturn, 1) := by decide +kernel
theorem dX10_count_69 : decode cX10_count 69 = .ok (.iconst 0, 1) := by decide +kernel
theorem dX10_count_70 : decode cX10_count 70 = .ok (.istore_n 3, 1) := by decide +kernel
theorem dX10_count_71 : decode cX10_count 71 = .ok (.iload_n 3, 1) := by decide +kernel
theorem dX10_count_72 : decode cX10_count 72 = .ok (.aload_n 0, 1) := by decide +kernel
theorem dX10_count_73 : decode cX10_count 73 = .ok (.getfield 106, 3) := by decide +kernel
theorem dX10_count_76 : decode cX10_count 76 = .ok (.if_icmp .ge 18, 3) := by decide +kernel
theorem dX10_count_79 : decode cX10_count 79 = .ok (.iload_n 2, 1) := by decide +kernel
theorem dX10_count_80 : decode cX10_count 80 = .ok (.aload_n 0, 1) := by decide +kernel
theorem dX10_count_81 : decode cX10_count 81 = .ok (.getfield 28, 3) := by decide +kernel
theorem dX10_count_84 : decode cX10_count 84 = .ok (.iload_n 3, 1) := by decide +kernel
theorem dX10_count_85 : decode cX10_count 85 = .ok (.iaload, 1) := by decide +kernel
theorem dX10_count_86 : decode cX10_count 86 = .ok (.iadd, 1) := by decide +kernel
theorem dX10_count_87 : decode cX10_count 87 = .ok (.istore_n 2, 1) := by decide +kernel
theorem dX10_count_88 : decode cX10_count 88 = .ok (.iinc 3 1, 3) := by decide +kernel
theorem dX10_count_91 : decode cX10_count 91 = .ok (.goto (-20), 3) := by decide +kernel
theorem dX10_count_94 : decode cX10_count 94 = .ok (.iload_n 2, 1) := by decide +kernel
theorem dX10_count_95 : decode cX10_count 95 = .ok (.ireturn, 1) := by decide +kernel
theorem dX10_count_96 : decode cX10_count 96 = .ok (.aload_n 0, 1) := by decide +kernel
theorem dX10_count_97 : decode cX10_count 97 = .ok (.getfield 59, 3) := by decide +kernel
theorem dX10_count_100 : decode cX10_count 100 = .ok (.iconst 0, 1) := by decide +kernel
theorem dX10_count_101 : decode cX10_count 101 = .ok (.iaload, 1) := by decide +kernel
theorem dX10_count_102 : decode cX10_count 102 = .ok (.ifCond .ge 7, 3) := by decide +kernel
theorem dX10_count_105 : decode cX10_count 105 = .ok (.iconst 0, 1) := by decide +kernel
theorem dX10_count_106 : decode cX10_count 106 = .ok (.goto 4, 3) := by decide +kernel
theorem dX10_count_109 : decode cX10_count 109 = .ok (.iconst 1, 1) := by decide +kernel
theorem dX10_count_110 : decode cX10_count 110 = .ok (.aload_n 0, 1) := by decide +kernel
theorem dX10_count_111 : decode cX10_count 111 = .ok (.getfield 59, 3) := by decide +kernel
theorem dX10_count_114 : decode cX10_count 114 = .ok (.iconst 1, 1) := by decide +kernel
theorem dX10_count_115 : decode cX10_count 115 = .ok (.iaload, 1) := by decide +kernel
theorem dX10_count_116 : decode cX10_count 116 = .ok (.ifCond .ge 7, 3) := by decide +kernel
theorem dX10_count_119 : decode cX10_count 119 = .ok (.iconst 0, 1) := by decide +kernel
theorem dX10_count_120 : decode cX10_count 120 = .ok (.goto 4, 3) := by decide +kernel
theorem dX10_count_123 : decode cX10_count 123 = .ok (.iconst 1, 1) := by decide +kernel
theorem dX10_count_124 : decode cX10_count 124 = .ok (.iadd, 1) := by decide +kernel
theorem dX10_count_125 : decode cX10_count 125 = .ok (.ireturn, 1) := by decide +kernel
theorem dX10_count_126 : decode cX10_count 126 = .ok (.ldc 109, 2) := by decide +kernel
theorem dX10_count_128 : decode cX10_count 128 = .ok (.ireturn, 1) := by decide +kernel
theorem dJ9_max_7cf53_0 : decode cJ9_max_7cf53 0 = .ok (.iload_n 0, 1) := by decide +kernel
theorem dJ9_max_7cf53_1 : decode cJ9_max_7cf53 1 = .ok (.iload_n 1, 1) := by decide +kernel
theorem dJ9_max_7cf53_2 : decode cJ9_max_7cf53 2 = .ok (.if_icmp .lt 7, 3) := by decide +kernel
theorem dJ9_max_7cf53_5 : decode cJ9_max_7cf53 5 = .ok (.iload_n 0, 1) := by decide +kernel
theorem dJ9_max_7cf53_6 : decode cJ9_max_7cf53 6 = .ok (.goto 4, 3) := by decide +kernel
theorem dJ9_max_7cf53_9 : decode cJ9_max_7cf53 9 = .ok (.iload_n 1, 1) := by decide +kernel
theorem dJ9_max_7cf53_10 : decode cJ9_max_7cf53 10 = .ok (.ireturn, 1) := by decide +kernel
theorem dJ7_fill_53178_0 : decode cJ7_fill_53178 0 = .ok (.iconst 0, 1) := by decide +kernel
theorem dJ7_fill_53178_1 : decode cJ7_fill_53178 1 = .ok (.istore_n 2, 1) := by decide +kernel
theorem dJ7_fill_53178_2 : decode cJ7_fill_53178 2 = .ok (.aload_n 0, 1) := by decide +kernel
theorem dJ7_fill_53178_3 : decode cJ7_fill_53178 3 = .ok (.arraylength, 1) := by decide +kernel
theorem dJ7_fill_53178_4 : decode cJ7_fill_53178 4 = .ok (.istore_n 3, 1) := by decide +kernel
theorem dJ7_fill_53178_5 : decode cJ7_fill_53178 5 = .ok (.iload_n 2, 1) := by decide +kernel
theorem dJ7_fill_53178_6 : decode cJ7_fill_53178 6 = .ok (.iload_n 3, 1) := by decide +kernel
theorem dJ7_fill_53178_7 : decode cJ7_fill_53178 7 = .ok (.if_icmp .ge 13, 3) := by decide +kernel
theorem dJ7_fill_53178_10 : decode cJ7_fill_53178 10 = .ok (.aload_n 0, 1) := by decide +kernel
theorem dJ7_fill_53178_11 : decode cJ7_fill_53178 11 = .ok (.iload_n 2, 1) := by decide +kernel
theorem dJ7_fill_53178_12 : decode cJ7_fill_53178 12 = .ok (.iload_n 1, 1) := by decide +kernel
theorem dJ7_fill_53178_13 : decode cJ7_fill_53178 13 = .ok (.iastore, 1) := by decide +kernel
theorem dJ7_fill_53178_14 : decode cJ7_fill_53178 14 = .ok (.iinc 2 1, 3) := by decide +kernel
theorem dJ7_fill_53178_17 : decode cJ7_fill_53178 17 = .ok (.goto (-12), 3) := by decide +kernel
theorem dJ7_fill_53178_20 : decode cJ7_fill_53178 20 = .ok (.return_, 1) := by decide +kernel
theorem dJ7_fill_fb410_0 : decode cJ7_fill_fb410 0 = .ok (.iconst 0, 1) := by decide +kernel
theorem dJ7_fill_fb410_1 : decode cJ7_fill_fb410 1 = .ok (.istore_n 2, 1) := by decide +kernel
theorem dJ7_fill_fb410_2 : decode cJ7_fill_fb410 2 = .ok (.aload_n 0, 1) := by decide +kernel
theorem dJ7_fill_fb410_3 : decode cJ7_fill_fb410 3 = .ok (.arraylength, 1) := by decide +kernel
theorem dJ7_fill_fb410_4 : decode cJ7_fill_fb410 4 = .ok (.istore_n 3, 1) := by decide +kernel
theorem dJ7_fill_fb410_5 : decode cJ7_fill_fb410 5 = .ok (.iload_n 2, 1) := by decide +kernel
theorem dJ7_fill_fb410_6 : decode cJ7_fill_fb410 6 = .ok (.iload_n 3, 1) := by decide +kernel
theorem dJ7_fill_fb410_7 : decode cJ7_fill_fb410 7 = .ok (.if_icmp .ge 13, 3) := by decide +kernel
theorem dJ7_fill_fb410_10 : decode cJ7_fill_fb410 10 = .ok (.aload_n 0, 1) := by decide +kernel
theorem dJ7_fill_fb410_11 : decode cJ7_fill_fb410 11 = .ok (.iload_n 2, 1) := by decide +kernel
theorem dJ7_fill_fb410_12 : decode cJ7_fill_fb410 12 = .ok (.iload_n 1, 1) := by decide +kernel
theorem dJ7_fill_fb410_13 : decode cJ7_fill_fb410 13 = .ok (.sastore, 1) := by decide +kernel
theorem dJ7_fill_fb410_14 : decode cJ7_fill_fb410 14 = .ok (.iinc 2 1, 3) := by decide +kernel
theorem dJ7_fill_fb410_17 : decode cJ7_fill_fb410 17 = .ok (.goto (-12), 3) := by decide +kernel
theorem dJ7_fill_fb410_20 : decode cJ7_fill_fb410 20 = .ok (.return_, 1) := by decide +kernel
