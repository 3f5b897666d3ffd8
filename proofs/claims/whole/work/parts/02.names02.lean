theorem dX5_add_9 : decode cX5_add 9 = .ok (.iastore, 1) := by decide +kernel
theorem dX5_add_10 : decode cX5_add 10 = .ok (.aload_n 0, 1) := by decide +kernel
theorem dX5_add_11 : decode cX5_add 11 = .ok (.dup, 1) := by decide +kernel
theorem dX5_add_12 : decode cX5_add 12 = .ok (.getfield 18, 3) := by decide +kernel
theorem dX5_add_15 : decode cX5_add 15 = .ok (.iconst 1, 1) := by decide +kernel
theorem dX5_add_16 : decode cX5_add 16 = .ok (.iadd, 1) := by decide +kernel
theorem dX5_add_17 : decode cX5_add 17 = .ok (.putfield 18, 3) := by decide +kernel
theorem dX5_add_20 : decode cX5_add 20 = .ok (.aload_n 0, 1) := by decide +kernel
theorem dX5_add_21 : decode cX5_add 21 = .ok (.getfield 18, 3) := by decide +kernel
theorem dX5_add_24 : decode cX5_add 24 = .ok (.iconst 1, 1) := by decide +kernel
theorem dX5_add_25 : decode cX5_add 25 = .ok (.isub, 1) := by decide +kernel
theorem dX5_add_26 : decode cX5_add 26 = .ok (.ireturn, 1) := by decide +kernel
theorem dX5_shorten_0 : decode cX5_shorten 0 = .ok (.aload_n 0, 1) := by decide +kernel
theorem dX5_shorten_1 : decode cX5_shorten 1 = .ok (.getfield 9, 3) := by decide +kernel
theorem dX5_shorten_4 : decode cX5_shorten 4 = .ok (.iload_n 1, 1) := by decide +kernel
theorem dX5_shorten_5 : decode cX5_shorten 5 = .ok (.iconst 1, 1) := by decide +kernel
theorem dX5_shorten_6 : decode cX5_shorten 6 = .ok (.aload_n 0, 1) := by decide +kernel
theorem dX5_shorten_7 : decode cX5_shorten 7 = .ok (.getfield 9, 3) := by decide +kernel
theorem dX5_shorten_10 : decode cX5_shorten 10 = .ok (.iload_n 1, 1) := by decide +kernel
theorem dX5_shorten_11 : decode cX5_shorten 11 = .ok (.iaload, 1) := by decide +kernel
theorem dX5_shorten_12 : decode cX5_shorten 12 = .ok (.iload_n 2, 1) := by decide +kernel
theorem dX5_shorten_13 : decode cX5_shorten 13 = .ok (.isub, 1) := by decide +kernel
theorem dX5_shorten_14 : decode cX5_shorten 14 = .ok (.invokestatic 22, 3) := by decide +kernel
theorem dX5_shorten_17 : decode cX5_shorten 17 = .ok (.iastore, 1) := by decide +kernel
theorem dX5_shorten_18 : decode cX5_shorten 18 = .ok (.aload_n 0, 1) := by decide +kernel
theorem dX5_shorten_19 : decode cX5_shorten 19 = .ok (.getfield 15, 3) := by decide +kernel
theorem dX5_shorten_22 : decode cX5_shorten 22 = .ok (.iload_n 1, 1) := by decide +kernel
theorem dX5_shorten_23 : decode cX5_shorten 23 = .ok (.dup2, 1) := by decide +kernel
theorem dX5_shorten_24 : decode cX5_shorten 24 = .ok (.iaload, 1) := by decide +kernel
theorem dX5_shorten_25 : decode cX5_shorten 25 = .ok (.iconst 1, 1) := by decide +kernel
theorem dX5_shorten_26 : decode cX5_shorten 26 = .ok (.iadd, 1) := by decide +kernel
theorem dX5_shorten_27 : decode cX5_shorten 27 = .ok (.iastore, 1) := by decide +kernel
theorem dX5_shorten_28 : decode cX5_shorten 28 = .ok (.aload_n 0, 1) := by decide +kernel
theorem dX5_shorten_29 : decode cX5_shorten 29 = .ok (.getfield 9, 3) := by decide +kernel
theorem dX5_shorten_32 : decode cX5_shorten 32 = .ok (.iload_n 1, 1) := by decide +kernel
theorem dX5_shorten_33 : decode cX5_shorten 33 = .ok (.iaload, 1) := by decide +kernel
theorem dX5_shorten_34 : decode cX5_shorten 34 = .ok (.ireturn, 1) := by decide +kernel
theorem dX5_minutes_0 : decode cX5_minutes 0 = .ok (.iconst 1, 1) := by decide +kernel
theorem dX5_minutes_1 : decode cX5_minutes 1 = .ok (.aload_n 0, 1) := by decide +kernel
theorem dX5_minutes_2 : decode cX5_minutes 2 = .ok (.getfield 9, 3) := by decide +kernel
theorem dX5_minutes_5 : decode cX5_minutes 5 = .ok (.iload_n 1, 1) := by decide +kernel
theorem dX5_minutes_6 : decode cX5_minutes 6 = .ok (.iaload, 1) := by decide +kernel
theorem dX5_minutes_7 : decode cX5_minutes 7 = .ok (.sipush 960, 3) := by decide +kernel
theorem dX5_minutes_10 : decode cX5_minutes 10 = .ok (.idiv, 1) := by decide +kernel
theorem dX5_minutes_11 : decode cX5_minutes 11 = .ok (.invokestatic 22, 3) := by decide +kernel
theorem dX5_minutes_14 : decode cX5_minutes 14 = .ok (.ireturn, 1) := by decide +kernel
set_option maxRecDepth 20000 in
theorem ggX5_longest_X5_minutes : GoodIn wsX5_longest wsX5_minutes := goodIn_r _ [10, 11, 2, 3, 4, 5, 12, 13, 14] (by decide +kernel) (by decide +kernel)
set_option maxRecDepth 20000 in
theorem gX5_longest_X5_minutes : GoodIn wsX5_longest (wsV RX5 28 RX5 yX5_minutes wsX5_minutes) := goodIn_app (goodIn_of _ (by decide +kernel)) ggX5_longest_X5_minutes
theorem dX5_longest_0 : decode cX5_longest 0 = .ok (.iconst 0, 1) := by decide +kernel
theorem dX5_longest_1 : decode cX5_longest 1 = .ok (.istore_n 1, 1) := by decide +kernel
theorem dX5_longest_2 : decode cX5_longest 2 = .ok (.iconst 0, 1) := by decide +kernel
theorem dX5_longest_3 : decode cX5_longest 3 = .ok (.istore_n 2, 1) := by decide +kernel
theorem dX5_longest_4 : decode cX5_longest 4 = .ok (.iload_n 2, 1) := by decide +kernel
theorem dX5_longest_5 : decode cX5_longest 5 = .ok (.aload_n 0, 1) := by decide +kernel
theorem dX5_longest_6 : decode cX5_longest 6 = .ok (.getfield 18, 3) := by decide +kernel
theorem dX5_longest_9 : decode cX5_longest 9 = .ok (.if_icmp .ge 19, 3) := by decide +kernel
theorem dX5_longest_12 : decode cX5_longest 12 = .ok (.iload_n 1, 1) := by decide +kernel
theorem dX5_longest_13 : decode cX5_longest 13 = .ok (.aload_n 0, 1) := by decide +kernel
theorem dX5_longest_14 : decode cX5_longest 14 = .ok (.iload_n 2, 1) := by decide +kernel
theorem dX5_longest_15 : decode cX5_longest 15 = .ok (.invokevirtual 28, 3) := by decide +kernel
theorem dX5_longest_18 : decode cX5_longest 18 = .ok (.invokestatic 22, 3) := by decide +kernel
theorem dX5_longest_21 : decode cX5_longest 21 = .ok (.istore_n 1, 1) := by decide +kernel
theorem dX5_longest_22 : decode cX5_longest 22 = .ok (.iinc 2 1, 3) := by decide +kernel
theorem dX5_longest_25 : decode cX5_longest 25 = .ok (.goto (-21), 3) := by decide +kernel
theorem dX5_longest_28 : decode cX5_longest 28 = .ok (.iload_n 1, 1) := by decide +kernel
theorem dX5_longest_29 : decode cX5_longest 29 = .ok (.ireturn, 1) := by decide +kernel
theorem dX5_allFrames_0 : decode cX5_allFrames 0 = .ok (.iconst 0, 1) := by decide +kernel
theorem dX5_allFrames_1 : decode cX5_allFrames 1 = .ok (.istore_n 1, 1) := by decide +kernel
theorem dX5_allFrames_2 : decode cX5_allFrames 2 = .ok (.iconst 0, 1) := by decide +kernel
theorem dX5_allFrames_3 : decode cX5_allFrames 3 = .ok (.istore_n 2, 1) := by decide +kernel
theorem dX5_allFrames_4 : decode cX5_allFrames 4 = .ok (.iload_n 2, 1) := by decide +kernel
theorem dX5_allFrames_5 : decode cX5_allFrames 5 = .ok (.aload_n 0, 1) := by decide +kernel
theorem dX5_allFrames_6 : decode cX5_allFrames 6 = .ok (.getfield 18, 3) := by decide +kernel
theorem dX5_allFrames_9 : decode cX5_allFrames 9 = .ok (.if_icmp .ge 18, 3) := by decide +kernel
theorem dX5_allFrames_12 : decode cX5_allFrames 12 = .ok (.iload_n 1, 1) := by decide +kernel
theorem dX5_allFrames_13 : decode cX5_allFrames 13 = .ok (.aload_n 0, 1) := by decide +kernel
theorem dX5_allFrames_14 : decode cX5_allFrames 14 = .ok (.getfield 9, 3) := by decide +kernel
theorem dX5_allFrames_17 : decode cX5_allFrames 17 = .ok (.iload_n 2, 1) := by decide +kernel
theorem dX5_allFrames_18 : decode cX5_allFrames 18 = .ok (.iaload, 1) := by decide +kernel
theorem dX5_allFrames_19 : decode cX5_allFrames 19 = .ok (.iadd, 1) := by decide +kernel
theorem dX5_allFrames_20 : decode cX5_allFrames 20 = .ok (.istore_n 1, 1) := by decide +kernel
theorem dX5_allFrames_21 : decode cX5_allFrames 21 = .ok (.iinc 2 1, 3) := by decide +kernel
theorem dX5_allFrames_24 : decode cX5_allFrames 24 = .ok (.goto (-20), 3) := by decide +kernel
theorem dX5_allFrames_27 : decode cX5_allFrames 27 = .ok (.iload_n 1, 1) := by decide +kernel
theorem dX5_allFrames_28 : decode cX5_allFrames 28 = .ok (.ireturn, 1) := by decide +kernel
theorem dX6_init_0 : decode cX6_init 0 = .ok (.aload_n 0, 1) := by decide +kernel
theorem dX6_init_1 : decode cX6_init 1 = .ok (.invokespecial 3, 3) := by decide +kernel
theorem dX6_init_4 : decode cX6_init 4 = .ok (.aload_n 0, 1) := by decide +kernel
theorem dX6_init_5 : decode cX6_init 5 = .ok (.bipush 40, 2) := by decide +kernel
theorem dX6_init_7 : decode cX6_init 7 = .ok (.newarray .int, 2) := by decide +kernel
theorem dX6_init_9 : decode cX6_init 9 = .ok (.putfield 9, 3) := by decide +kernel
theorem dX6_init_12 : decode cX6_init 12 = .ok (.aload_n 0, 1) := by decide +kernel
theorem dX6_init_13 : decode cX6_init 13 = .ok (.bipush 40, 2) := by decide +kernel
theorem dX6_init_15 : decode cX6_init 15 = .ok (.newarray .int, 2) := by decide +kernel
theorem dX6_init_17 : decode cX6_init 17 = .ok (.putfield 15, 3) := by decide +kernel
theorem dX6_init_20 : decode cX6_init 20 = .ok (.aload_n 0, 1) := by decide +kernel
theorem dX6_init_21 : decode cX6_init 21 = .ok (.bipush 40, 2) := by decide +kernel
theorem dX6_init_23 : decode cX6_init 23 = .ok (.newarray .int, 2) := by decide +kernel
theorem dX6_init_25 : decode cX6_init 25 = .ok (.putfield 18, 3) := by decide +kernel
theorem dX6_init_28 : decode cX6_init 28 = .ok (.aload_n 0, 1) := by decide +kernel
theorem dX6_init_29 : decode cX6_init 29 = .ok (.bipush 40, 2) := by decide +kernel
theorem dX6_init_31 : decode cX6_init 31 = .ok (.newarray .int, 2) := by decide +kernel
theorem dX6_init_33 : decode cX6_init 33 = .ok (.putfield 21, 3) := by decide +kernel
theorem dX6_init_36 : decode cX6_init 36 = .ok (.aload_n 0, 1) := by decide +kernel
theorem dX6_init_37 : decode cX6_init 37 = .ok (.bipush 40, 2) := by decide +kernel
theorem dX6_init_39 : decode cX6_init 39 = .ok (.newarray .int, 2) := by decide +kernel
theorem dX6_init_41 : decode cX6_init 41 = .ok (.putfield 24, 3) := by decide +kernel
theorem dX6_init_44 : decode cX6_init 44 = .ok (.aload_n 0, 1) := by decide +kernel
theorem dX6_init_45 : decode cX6_init 45 = .ok (.bipush 40, 2) := by decide +kernel
theorem dX6_init_47 : decode cX6_init 47 = .ok (.newarray .int, 2) := by decide +kernel
theorem dX6_init_49 : decode cX6_init 49 = .ok (.putfield 27, 3) := by decide +kernel
theorem dX6_init_52 : decode cX6_init 52 = .ok (.aload_n 0, 1) := by decide +kernel
theorem dX6_init_53 : decode cX6_init 53 = .ok (.bipush 40, 2) := by decide +kernel
theorem dX6_init_55 : decode cX6_init 55 = .ok (.newarray .int, 2) := by decide +kernel
theorem dX6_init_57 : decode cX6_init 57 = .ok (.putfield 30, 3) := by decide +kernel
theorem dX6_init_60 : decode cX6_init 60 = .ok (.aload_n 0, 1) := by decide +kernel
theorem dX6_init_61 : decode cX6_init 61 = .ok (.iconst 0, 1) := by decide +kernel
theorem dX6_init_62 : decode cX6_init 62 = .ok (.putfield 33, 3) := by decide +kernel
theorem dX6_init_65 : decode cX6_init 65 = .ok (.aload_n 0, 1) := by decide +kernel
theorem dX6_init_66 : decode cX6_init 66 = .ok (.aload_n 1, 1) := by decide +kernel
theorem dX6_init_67 : decode cX6_init 67 = .ok (.putfield 37, 3) := by decide +kernel
theorem dX6_init_70 : decode cX6_init 70 = .ok (.return_, 1) := by decide +kernel
theorem dX6_clear_0 : decode cX6_clear 0 = .ok (.aload_n 0, 1) := by decide +kernel
theorem dX6_clear_1 : decode cX6_clear 1 = .ok (.iconst 0, 1) := by decide +kernel
theorem dX6_clear_2 : decode cX6_clear 2 = .ok (.putfield 33, 3) := by decide +kernel
theorem dX6_clear_5 : decode cX6_clear 5 = .ok (.return_, 1) := by decide +kernel
set_option maxRecDepth 20000 in
theorem ggX6_add_X3_between : GoodIn wsX6_add wsX3_between := goodIn_r _ [12, 13, 23] (by decide +kernel) (by decide +kernel)
set_option maxRecDepth 20000 in
theorem gX6_add_X3_between : GoodIn wsX6_add (wsV RX6 41 RX3 yX3_between wsX3_between) := goodIn_app (goodIn_of _ (by decide +kernel)) ggX6_add_X3_between
theorem dX6_add_0 : decode cX6_add 0 = .ok (.aload_n 0, 1) := by decide +kernel
theorem dX6_add_1 : decode cX6_add 1 = .ok (.getfield 33, 3) := by decide +kernel
theorem dX6_add_4 : decode cX6_add 4 = .ok (.bipush 40, 2) := by decide +kernel
theorem dX6_add_6 : decode cX6_add 6 = .ok (.if_icmp .lt 4, 3) := by decide +kernel
theorem dX6_add_9 : decode cX6_add 9 = .ok (.return_, 1) := by decide +kernel
theorem dX6_add_10 : decode cX6_add 10 = .ok (.aload_n 0, 1) := by decide +kernel
theorem dX6_add_11 : decode cX6_add 11 = .ok (.getfield 9, 3) := by decide +kernel
theorem dX6_add_14 : decode cX6_add 14 = .ok (.aload_n 0, 1) := by decide +kernel
theorem dX6_add_15 : decode cX6_add 15 = .ok (.getfield 33, 3) := by decide +kernel
theorem dX6_add_18 : decode cX6_add 18 = .ok (.iload_n 1, 1) := by decide +kernel
theorem dX6_add_19 : decode cX6_add 19 = .ok (.iastore, 1) := by decide +kernel
theorem dX6_add_20 : decode cX6_add 20 = .ok (.aload_n 0, 1) := by decide +kernel
theorem dX6_add_21 : decode cX6_add 21 = .ok (.getfield 15, 3) := by decide +kernel
theorem dX6_add_24 : decode cX6_add 24 = .ok (.aload_n 0, 1) := by decide +kernel
theorem dX6_add_25 : decode cX6_add 25 = .ok (.getfield 33, 3) := by decide +kernel
theorem dX6_add_28 : decode cX6_add 28 = .ok (.iload_n 2, 1) := by decide +kernel
theorem dX6_add_29 : decode cX6_add 29 = .ok (.iastore, 1) := by decide +kernel
theorem dX6_add_30 : decode cX6_add 30 = .ok (.aload_n 0, 1) := by decide +kernel
theorem dX6_add_31 : decode cX6_add 31 = .ok (.getfield 18, 3) := by decide +kernel
theorem dX6_add_34 : decode cX6_add 34 = .ok (.aload_n 0, 1) := by decide +kernel
theorem dX6_add_35 : decode cX6_add 35 = .ok (.getfield 33, 3) := by decide +kernel
theorem dX6_add_38 : decode cX6_add 38 = .ok (.iload_n 3, 1) := by decide +kernel
theorem dX6_add_39 : decode cX6_add 39 = .ok (.iastore, 1) := by decide +kernel
theorem dX6_add_40 : decode cX6_add 40 = .ok (.aload_n 0, 1) := by decide +kernel
theorem dX6_add_41 : decode cX6_add 41 = .ok (.getfield 21, 3) := by decide +kernel
theorem dX6_add_44 : decode cX6_add 44 = .ok (.aload_n 0, 1) := by decide +kernel
theorem dX6_add_45 : decode cX6_add 45 = .ok (.getfield 33, 3) := by decide +kernel
theorem dX6_add_48 : decode cX6_add 48 = .ok (.iload 4, 2) := by decide +kernel
theorem dX6_add_50 : decode cX6_add 50 = .ok (.iastore, 1) := by decide +kernel
theorem dX6_add_51 : decode cX6_add 51 = .ok (.aload_n 0, 1) := by decide +kernel
theorem dX6_add_52 : decode cX6_add 52 = .ok (.getfield 24, 3) := by decide +kernel
theorem dX6_add_55 : decode cX6_add 55 = .ok (.aload_n 0, 1) := by decide +kernel
theorem dX6_add_56 : decode cX6_add 56 = .ok (.getfield 33, 3) := by decide +kernel
theorem dX6_add_59 : decode cX6_add 59 = .ok (.iload 4, 2) := by decide +kernel
theorem dX6_add_61 : decode cX6_add 61 = .ok (.aload_n 0, 1) := by decide +kernel
theorem dX6_add_62 : decode cX6_add 62 = .ok (.getfield 37, 3) := by decide +kernel
theorem dX6_add_65 : decode cX6_add 65 = .ok (.iload_n 2, 1) := by decide +kernel
theorem dX6_add_66 : decode cX6_add 66 = .ok (.iload_n 3, 1) := by decide +kernel
theorem dX6_add_67 : decode cX6_add 67 = .ok (.invokevirtual 41, 3) := by decide +kernel
theorem dX6_add_70 : decode cX6_add 70 = .ok (.iadd, 1) := by decide +kernel
theorem dX6_add_71 : decode cX6_add 71 = .ok (.iastore, 1) := by decide +kernel
theorem dX6_add_72 : decode cX6_add 72 = .ok (.aload_n 0, 1) := by decide +kernel
theorem dX6_add_73 : decode cX6_add 73 = .ok (.dup, 1) := by decide +kernel
theorem dX6_add_74 : decode cX6_add 74 = .ok (.getfield 33, 3) := by decide +kernel
theorem dX6_add_77 : decode cX6_add 77 = .ok (.iconst 1, 1) := by decide +kernel
theorem dX6_add_78 : decode cX6_add 78 = .ok (.iadd, 1) := by decide +kernel
theorem dX6_add_79 : decode cX6_add 79 = .ok (.putfield 33, 3) := by decide +kernel
theorem dX6_add_82 : decode cX6_add 82 = .ok (.return_, 1) := by decide +kernel
set_option maxRecDepth 20000 in
theorem ggX6_fewestRiders_J7_fill_53178 : GoodIn wsX6_fewestRiders wsJ7_fill_53178 := goodIn_r _ [8] (by decide +kernel) (by decide +kernel)
set_option maxRecDepth 20000 in
theorem gX6_fewestRiders_J7_fill_53178 : GoodIn wsX6_fewestRiders (va_wsS RX6 48 yJ7_fill_53178 wsJ7_fill_53178) := goodIn_app (goodIn_of _ (by decide +kernel)) ggX6_fewestRiders_J7_fill_53178
set_option maxRecDepth 20000 in
theorem ggX6_fewestRiders_X6_findNext : GoodIn wsX6_fewestRiders wsX6_findNext := goodIn_r _ [12, 4, 3, 1, 2, 13, 14, 15, 11, 16, 17, 18, 19, 20, 21, 22, 23, 24, 25, 26, 27, 9, 10, 28, 29, 30, 31, 32, 33, 34, 35, 36, 37] (by decide +kernel) (by decide +kernel)
set_option maxRecDepth 20000 in
theorem gX6_fewestRiders_X6_findNext : GoodIn wsX6_fewestRiders (va_wsS RX6 54 yX6_findNext wsX6_findNext) := goodIn_app (goodIn_of _ (by decide +kernel)) ggX6_fewestRiders_X6_findNext
theorem dX6_fewestRiders_0 : decode cX6_fewestRiders 0 = .ok (.aload_n 0, 1) := by decide +kernel
theorem dX6_fewestRiders_1 : decode cX6_fewestRiders 1 = .ok (.getfield 27, 3) := by decide +kernel
theorem dX6_fewestRiders_4 : decode cX6_fewestRiders 4 = .ok (.ldc 47, 2) := by decide +kernel
theorem dX6_fewestRiders_6 : decode cX6_fewestRiders 6 = .ok (.invokestatic 48, 3) := by decide +kernel
theorem dX6_fewestRiders_9 : decode cX6_fewestRiders 9 = .ok (.aload_n 0, 1) := by decide +kernel
theorem dX6_fewestRiders_10 : decode cX6_fewestRiders 10 = .ok (.getfield 30, 3) := by decide +kernel
theorem dX6_fewestRiders_13 : decode cX6_fewestRiders 13 = .ok (.ldc 47, 2) := by decide +kernel
theorem dX6_fewestRiders_15 : decode cX6_fewestRiders 15 = .ok (.invokestatic 48, 3) := by decide +kernel
theorem dX6_fewestRiders_18 : decode cX6_fewestRiders 18 = .ok (.aload_n 0, 1) := by decide +kernel
theorem dX6_fewestRiders_19 : decode cX6_fewestRiders 19 = .ok (.getfield 33, 3) := by decide +kernel
theorem dX6_fewestRiders_22 : decode cX6_fewestRiders 22 = .ok (.istore_n 1, 1) := by decide +kernel
theorem dX6_fewestRiders_23 : decode cX6_fewestRiders 23 = .ok (.iconst 0, 1) := by decide +kernel
theorem dX6_fewestRiders_24 : decode cX6_fewestRiders 24 = .ok (.istore_n 2, 1) := by decide +kernel
theorem dX6_fewestRiders_25 : decode cX6_fewestRiders 25 = .ok (.iload_n 2, 1) := by decide +kernel
theorem dX6_fewestRiders_26 : decode cX6_fewestRiders 26 = .ok (.aload_n 0, 1) := by decide +kernel
theorem dX6_fewestRiders_27 : decode cX6_fewestRiders 27 = .ok (.getfield 33, 3) := by decide +kernel
theorem dX6_fewestRiders_30 : decode cX6_fewestRiders 30 = .ok (.if_icmp .ge 22, 3) := by decide +kernel
theorem dX6_fewestRiders_33 : decode cX6_fewestRiders 33 = .ok (.aload_n 0, 1) := by decide +kernel
theorem dX6_fewestRiders_34 : decode cX6_fewestRiders 34 = .ok (.iload_n 2, 1) := by decide +kernel
theorem dX6_fewestRiders_35 : decode cX6_fewestRiders 35 = .ok (.iload_n 2, 1) := by decide +kernel
theorem dX6_fewestRiders_36 : decode cX6_fewestRiders 36 = .ok (.iconst 0, 1) := by decide +kernel
theorem dX6_fewestRiders_37 : decode cX6_fewestRiders 37 = .ok (.invokestatic 54, 3) := by decide +kernel
theorem dX6_fewestRiders_40 : decode cX6_fewestRiders 40 = .ok (.ifCond .eq 6, 3) := by decide +kernel
theorem dX6_fewestRiders_43 : decode cX6_fewestRiders 43 = .ok (.iinc 1 (-1), 3) := by decide +kernel
theorem dX6_fewestRiders_46 : decode cX6_fewestRiders 46 = .ok (.iinc 2 1, 3) := by decide +kernel
theorem dX6_fewestRiders_49 : decode cX6_fewestRiders 49 = .ok (.goto (-24), 3) := by decide +kernel
theorem dX6_fewestRiders_52 : decode cX6_fewestRiders 52 = .ok (.iload_n 1, 1) := by decide +kernel
theorem dX6_fewestRiders_53 : decode cX6_fewestRiders 53 = .ok (.ireturn, 1) := by decide +kernel
set_option maxRecDepth 20000 in
theorem ggX6_findNext_X6_canFollow : GoodIn wsX6_findNext wsX6_canFollow := goodIn_r _ [9, 10, 11, 12, 13, 14, 15, 16, 17, 18, 19, 20, 23, 24, 25, 26, 27, 28, 29, 30, 31, 32] (by decide +kernel) (by decide +kernel)
set_option maxRecDepth 20000 in
theorem gX6_findNext_X6_canFollow : GoodIn wsX6_findNext (wsV RX6 58 RX6 yX6_canFollow wsX6_canFollow) := goodIn_app (goodIn_of _ (by decide +kernel)) ggX6_findNext_X6_canFollow
set_option maxRecDepth 20000 in
theorem ggX6_findNext_X6_findNext : GoodIn wsX6_findNext wsX6_findNext := goodIn_r _ [0, 1, 2, 3, 4, 5, 6, 7, 8, 9, 10, 11, 12, 13, 14, 15, 16, 17, 18, 19, 20, 21, 22, 23, 24, 25, 26, 27, 28, 29, 30, 31, 32] (by decide +kernel) (by decide +kernel)
set_option maxRecDepth 20000 in
theorem gX6_findNext_X6_findNext : GoodIn wsX6_findNext (va_wsS RX6 54 yX6_findNext wsX6_findNext) := goodIn_app (goodIn_of _ (by decide +kernel)) ggX6_findNext_X6_findNext
theorem dX6_findNext_0 : decode cX6_findNext 0 = .ok (.iload_n 3, 1) := by decide +kernel
theorem dX6_findNext_1 : decode cX6_findNext 1 = .ok (.bipush 40, 2) := by decide +kernel
theorem dX6_findNext_3 : decode cX6_findNext 3 = .ok (.if_icmp .le 5, 3) := by decide +kernel
theorem dX6_findNext_6 : decode cX6_findNext 6 = .ok (.iconst 0, 1) := by decide +kernel
theorem dX6_findNext_7 : decode cX6_findNext 7 = .ok (.ireturn, 1) := by decide +kernel
theorem dX6_findNext_8 : decode cX6_findNext 8 = .ok (.iconst 0, 1) := by decide +kernel
theorem dX6_findNext_9 : decode cX6_findNext 9 = .ok (.istore 4, 2) := by decide +kernel
theorem dX6_findNext_11 : decode cX6_findNext 11 = .ok (.iload 4, 2) := by decide +kernel
theorem dX6_findNext_13 : decode cX6_findNext 13 = .ok (.aload_n 0, 1) := by decide +kernel
theorem dX6_findNext_14 : decode cX6_findNext 14 = .ok (.getfield 33, 3) := by decide +kernel
theorem dX6_findNext_17 : decode cX6_findNext 17 = .ok (.if_icmp .ge 80, 3) := by decide +kernel
theorem dX6_findNext_20 : decode cX6_findNext 20 = .ok (.aload_n 0, 1) := by decide +kernel
theorem dX6_findNext_21 : decode cX6_findNext 21 = .ok (.getfield 30, 3) := by decide +kernel
theorem dX6_findNext_24 : decode cX6_findNext 24 = .ok (.iload 4, 2) := by decide +kernel
theorem dX6_findNext_26 : decode cX6_findNext 26 = .ok (.iaload, 1) := by decide +kernel
theorem dX6_findNext_27 : decode cX6_findNext 27 = .ok (.iload_n 2, 1) := by decide +kernel
theorem dX6_findNext_28 : decode cX6_findNext 28 = .ok (.if_icmp .eq 63, 3) := by decide +kernel
theorem dX6_findNext_31 : decode cX6_findNext 31 = .ok (.aload_n 0, 1) := by decide +kernel
theorem dX6_findNext_32 : decode cX6_findNext 32 = .ok (.iload_n 1, 1) := by decide +kernel
theorem dX6_findNext_33 : decode cX6_findNext 33 = .ok (.iload 4, 2) := by decide +kernel
theorem dX6_findNext_35 : decode cX6_findNext 35 = .ok (.invokevirtual 58, 3) := by decide +kernel
theorem dX6_findNext_38 : decode cX6_findNext 38 = .ok (.ifCond .ne 6, 3) := by decide +kernel
theorem dX6_findNext_41 : decode cX6_findNext 41 = .ok (.goto 50, 3) := by decide +kernel
theorem dX6_findNext_44 : decode cX6_findNext 44 = .ok (.aload_n 0, 1) := by decide +kernel
theorem dX6_findNext_45 : decode cX6_findNext 45 = .ok (.getfield 30, 3) := by decide +kernel
theorem dX6_findNext_48 : decode cX6_findNext 48 = .ok (.iload 4, 2) := by decide +kernel
theorem dX6_findNext_50 : decode cX6_findNext 50 = .ok (.iload_n 2, 1) := by decide +kernel
theorem dX6_findNext_51 : decode cX6_findNext 51 = .ok (.iastore, 1) := by decide +kernel
theorem dX6_findNext_52 : decode cX6_findNext 52 = .ok (.aload_n 0, 1) := by decide +kernel
theorem dX6_findNext_53 : decode cX6_findNext 53 = .ok (.getfield 27, 3) := by decide +kernel
theorem dX6_findNext_56 : decode cX6_findNext 56 = .ok (.iload 4, 2) := by decide +kernel
theorem dX6_findNext_58 : decode cX6_findNext 58 = .ok (.iaload, 1) := by decide +kernel
theorem dX6_findNext_59 : decode cX6_findNext 59 = .ok (.istore 5, 2) := by decide +kernel
theorem dX6_findNext_61 : decode cX6_findNext 61 = .ok (.iload 5, 2) := by decide +kernel
theorem dX6_findNext_63 : decode cX6_findNext 63 = .ok (.ldc 47, 2) := by decide +kernel
theorem dX6_findNext_65 : decode cX6_findNext 65 = .ok (.if_icmp .eq 16, 3) := by decide +kernel
theorem dX6_findNext_68 : decode cX6_findNext 68 = .ok (.aload_n 0, 1) := by decide +kernel
theorem dX6_findNext_69 : decode cX6_findNext 69 = .ok (.iload 5, 2) := by decide +kernel
theorem dX6_findNext_71 : decode cX6_findNext 71 = .ok (.iload_n 2, 1) := by decide +kernel
theorem dX6_findNext_72 : decode cX6_findNext 72 = .ok (.iload_n 3, 1) := by decide +kernel
theorem dX6_findNext_73 : decode cX6_findNext 73 = .ok (.iconst 1, 1) := by decide +kernel
theorem dX6_findNext_74 : decode cX6_findNext 74 = .ok (.iadd, 1) := by decide +kernel
theorem dX6_findNext_75 : decode cX6_findNext 75 = .ok (.invokestatic 54, 3) := by decide +kernel
theorem dX6_findNext_78 : decode cX6_findNext 78 = .ok (.ifCond .eq 13, 3) := by decide +kernel
theorem dX6_findNext_81 : decode cX6_findNext 81 = .ok (.aload_n 0, 1) := by decide +kernel
theorem dX6_findNext_82 : decode cX6_findNext 82 = .ok (.getfield 27, 3) := by decide +kernel
theorem dX6_findNext_85 : decode cX6_findNext 85 = .ok (.iload 4, 2) := by decide +kernel
theorem dX6_findNext_87 : decode cX6_findNext 87 = .ok (.iload_n 1, 1) := by decide +kernel
theorem dX6_findNext_88 : decode cX6_findNext 88 = .ok (.iastore, 1) := by decide +kernel
theorem dX6_findNext_89 : decode cX6_findNext 89 = .ok (.iconst 1, 1) := by decide +kernel
theorem dX6_findNext_90 : decode cX6_findNext 90 = .ok (.ireturn, 1) := by decide +kernel
theorem dX6_findNext_91 : decode cX6_findNext 91 = .ok (.iinc 4 1, 3) := by decide +kernel
theorem dX6_findNext_94 : decode cX6_findNext 94 = .ok (.goto (-83), 3) := by decide +kernel
theorem dX6_findNext_97 : decode cX6_findNext 97 = .ok (.iconst 0, 1) := by decide +kernel
theorem dX6_findNext_98 : decode cX6_findNext 98 = .ok (.ireturn, 1) := by decide +kernel
set_option maxRecDepth 20000 in
theorem ggX6_canFollow_X3_between : GoodIn wsX6_canFollow wsX3_between := goodIn_r _ [10, 11, 21] (by decide +kernel) (by decide +kernel)
set_option maxRecDepth 20000 in
theorem gX6_canFollow_X3_between : GoodIn wsX6_canFollow (wsV RX6 41 RX3 yX3_between wsX3_between) := goodIn_app (goodIn_of _ (by decide +kernel)) ggX6_canFollow_X3_between
theorem dX6_canFollow_0 : decode cX6_canFollow 0 = .ok (.aload_n 0, 1) := by decide +kernel
theorem dX6_canFollow_1 : decode cX6_canFollow 1 = .ok (.getfield 21, 3) := by decide +kernel
theorem dX6_canFollow_4 : decode cX6_canFollow 4 = .ok (.iload_n 1, 1) := by decide +kernel
theorem dX6_canFollow_5 : decode cX6_canFollow 5 = .ok (.iaload, 1) := by decide +kernel
theorem dX6_canFollow_6 : decode cX6_canFollow 6 = .ok (.aload_n 0, 1) := by decide +kernel
theorem dX6_canFollow_7 : decode cX6_canFollow 7 = .ok (.getfield 21, 3) := by decide +kernel
theorem dX6_canFollow_10 : decode cX6_canFollow 10 = .ok (.iload_n 2, 1) := by decide +kernel
theorem dX6_canFollow_11 : decode cX6_canFollow 11 = .ok (.iaload, 1) := by decide +kernel
theorem dX6_canFollow_12 : decode cX6_canFollow 12 = .ok (.if_icmp .lt 23, 3) := by decide +kernel
theorem dX6_canFollow_15 : decode cX6_canFollow 15 = .ok (.aload_n 0, 1) := by decide +kernel
theorem dX6_canFollow_16 : decode cX6_canFollow 16 = .ok (.getfield 21, 3) := by decide +kernel
theorem dX6_canFollow_19 : decode cX6_canFollow 19 = .ok (.iload_n 1, 1) := by decide +kernel
theorem dX6_canFollow_20 : decode cX6_canFollow 20 = .ok (.iaload, 1) := by decide +kernel
theorem dX6_canFollow_21 : decode cX6_canFollow 21 = .ok (.aload_n 0, 1) := by decide +kernel
theorem dX6_canFollow_22 : decode cX6_canFollow 22 = .ok (.getfield 21, 3) := by decide +kernel
theorem dX6_canFollow_25 : decode cX6_canFollow 25 = .ok (.iload_n 2, 1) := by decide +kernel
theorem dX6_canFollow_26 : decode cX6_canFollow 26 = .ok (.iaload, 1) := by decide +kernel
theorem dX6_canFollow_27 : decode cX6_canFollow 27 = .ok (.if_icmp .ne 12, 3) := by decide +kernel
theorem dX6_canFollow_30 : decode cX6_canFollow 30 = .ok (.iload_n 1, 1) := by decide +kernel
theorem dX6_canFollow_31 : decode cX6_canFollow 31 = .ok (.iload_n 2, 1) := by decide +kernel
theorem dX6_canFollow_32 : decode cX6_canFollow 32 = .ok (.if_icmp .ge 7, 3) := by decide +kernel
theorem dX6_canFollow_35 : decode cX6_canFollow 35 = .ok (.iconst 1, 1) := by decide +kernel
theorem dX6_canFollow_36 : decode cX6_canFollow 36 = .ok (.goto 4, 3) := by decide +kernel
theorem dX6_canFollow_39 : decode cX6_canFollow 39 = .ok (.iconst 0, 1) := by decide +kernel
theorem dX6_canFollow_40 : decode cX6_canFollow 40 = .ok (.istore_n 3, 1) := by decide +kernel
theorem dX6_canFollow_41 : decode cX6_canFollow 41 = .ok (.iload_n 3, 1) := by decide +kernel
theorem dX6_canFollow_42 : decode cX6_canFollow 42 = .ok (.ifCond .eq 42, 3) := by decide +kernel
theorem dX6_canFollow_45 : decode cX6_canFollow 45 = .ok (.aload_n 0, 1) := by decide +kernel
theorem dX6_canFollow_46 : decode cX6_canFollow 46 = .ok (.getfield 24, 3) := by decide +kernel
theorem dX6_canFollow_49 : decode cX6_canFollow 49 = .ok (.iload_n 1, 1) := by decide +kernel
theorem dX6_canFollow_50 : decode cX6_canFollow 50 = .ok (.iaload, 1) := by decide +kernel
theorem dX6_canFollow_51 : decode cX6_canFollow 51 = .ok (.aload_n 0, 1) := by decide +kernel
theorem dX6_canFollow_52 : decode cX6_canFollow 52 = .ok (.getfield 37, 3) := by decide +kernel
theorem dX6_canFollow_55 : decode cX6_canFollow 55 = .ok (.aload_n 0, 1) := by decide +kernel
theorem dX6_canFollow_56 : decode cX6_canFollow 56 = .ok (.getfield 18, 3) := by decide +kernel
theorem dX6_canFollow_59 : decode cX6_canFollow 59 = .ok (.iload_n 1, 1) := by decide +kernel
theorem dX6_canFollow_60 : decode cX6_canFollow 60 = .ok (.iaload, 1) := by decide +kernel
theorem dX6_canFollow_61 : decode cX6_canFollow 61 = .ok (.aload_n 0, 1) := by decide +kernel
theorem dX6_canFollow_62 : decode cX6_canFollow 62 = .ok (.getfield 15, 3) := by decide +kernel
theorem dX6_canFollow_65 : decode cX6_canFollow 65 = .ok (.iload_n 2, 1) := by decide +kernel
theorem dX6_canFollow_66 : decode cX6_canFollow 66 = .ok (.iaload, 1) := by decide +kernel
theorem dX6_canFollow_67 : decode cX6_canFollow 67 = .ok (.invokevirtual 41, 3) := by decide +kernel
theorem dX6_canFollow_70 : decode cX6_canFollow 70 = .ok (.iadd, 1) := by decide +kernel
theorem dX6_canFollow_71 : decode cX6_canFollow 71 = .ok (.aload_n 0, 1) := by decide +kernel
theorem dX6_canFollow_72 : decode cX6_canFollow 72 = .ok (.getfield 21, 3) := by decide +kernel
theorem dX6_canFollow_75 : decode cX6_canFollow 75 = .ok (.iload_n 2, 1) := by decide +kernel
theorem dX6_canFollow_76 : decode cX6_canFollow 76 = .ok (.iaload, 1) := by decide +kernel
theorem dX6_canFollow_77 : decode cX6_canFollow 77 = .ok (.if_icmp .gt 7, 3) := by decide +kernel
theorem dX6_canFollow_80 : decode cX6_canFollow 80 = .ok (.iconst 1, 1) := by decide +kernel
theorem dX6_canFollow_81 : decode cX6_canFollow 81 = .ok (.goto 4, 3) := by decide +kernel
theorem dX6_canFollow_84 : decode cX6_canFollow 84 = .ok (.iconst 0, 1) := by decide +kernel
theorem dX6_canFollow_85 : decode cX6_canFollow 85 = .ok (.ireturn, 1) := by decide +kernel
theorem dX7_init_0 : decode cX7_init 0 = .ok (.aload_n 0, 1) := by decide +kernel
theorem dX7_init_1 : decode cX7_init 1 = .ok (.invokespecial 3, 3) := by decide +kernel
theorem dX7_init_4 : decode cX7_init 4 = .ok (.aload_n 0, 1) := by decide +kernel
theorem dX7_init_5 : decode cX7_init 5 = .ok (.bipush 24, 2) := by decide +kernel
theorem dX7_init_7 : decode cX7_init 7 = .ok (.newarray .int, 2) := by decide +kernel
theorem dX7_init_9 : decode cX7_init 9 = .ok (.putfield 9, 3) := by decide +kernel
theorem dX7_init_12 : decode cX7_init 12 = .ok (.aload_n 0, 1) := by decide +kernel
theorem dX7_init_13 : decode cX7_init 13 = .ok (.bipush 24, 2) := by decide +kernel
theorem dX7_init_15 : decode cX7_init 15 = .ok (.newarray .int, 2) := by decide +kernel
theorem dX7_init_17 : decode cX7_init 17 = .ok (.putfield 15, 3) := by decide +kernel
theorem dX7_init_20 : decode cX7_init 20 = .ok (.aload_n 0, 1) := by decide +kernel
theorem dX7_init_21 : decode cX7_init 21 = .ok (.bipush 30, 2) := by decide +kernel
theorem dX7_init_23 : decode cX7_init 23 = .ok (.newarray .int, 2) := by decide +kernel
theorem dX7_init_25 : decode cX7_init 25 = .ok (.putfield 18, 3) := by decide +kernel
theorem dX7_init_28 : decode cX7_init 28 = .ok (.aload_n 0, 1) := by decide +kernel
theorem dX7_init_29 : decode cX7_init 29 = .ok (.iconst 0, 1) := by decide +kernel
theorem dX7_init_30 : decode cX7_init 30 = .ok (.putfield 21, 3) := by decide +kernel
theorem dX7_init_33 : decode cX7_init 33 = .ok (.aload_n 0, 1) := by decide +kernel
theorem dX7_init_34 : decode cX7_init 34 = .ok (.iconst 0, 1) := by decide +kernel
theorem dX7_init_35 : decode cX7_init 35 = .ok (.putfield 25, 3) := by decide +kernel
theorem dX7_init_38 : decode cX7_init 38 = .ok (.aload_n 0, 1) := by decide +kernel
theorem dX7_init_39 : decode cX7_init 39 = .ok (.iconst 0, 1) := by decide +kernel
theorem dX7_init_40 : decode cX7_init 40 = .ok (.putfield 28, 3) := by decide +kernel
theorem dX7_init_43 : decode cX7_init 43 = .ok (.aload_n 0, 1) := by decide +kernel
theorem dX7_init_44 : decode cX7_init 44 = .ok (.iconst 0, 1) := by decide +kernel
theorem dX7_init_45 : decode cX7_init 45 = .ok (.putfield 32, 3) := by decide +kernel
theorem dX7_init_48 : decode cX7_init 48 = .ok (.aload_n 0, 1) := by decide +kernel
theorem dX7_init_49 : decode cX7_init 49 = .ok (.iconst (-1), 1) := by decide +kernel
theorem dX7_init_50 : decode cX7_init 50 = .ok (.putfield 35, 3) := by decide +kernel
theorem dX7_init_53 : decode cX7_init 53 = .ok (.return_, 1) := by decide +kernel
set_option maxRecDepth 20000 in
theorem ggX7_clear_J7_fill_53178 : GoodIn wsX7_clear wsJ7_fill_53178 := goodIn_r _ [12] (by decide +kernel) (by decide +kernel)
set_option maxRecDepth 20000 in
theorem gX7_clear_J7_fill_53178 : GoodIn wsX7_clear (va_wsS RX7 39 yJ7_fill_53178 wsJ7_fill_53178) := goodIn_app (goodIn_of _ (by decide +kernel)) ggX7_clear_J7_fill_53178
theorem dX7_clear_0 : decode cX7_clear 0 = .ok (.aload_n 0, 1) := by decide +kernel
theorem dX7_clear_1 : decode cX7_clear 1 = .ok (.getfield 9, 3) := by decide +kernel
theorem dX7_clear_4 : decode cX7_clear 4 = .ok (.ldc 38, 2) := by decide +kernel
theorem dX7_clear_6 : decode cX7_clear 6 = .ok (.invokestatic 39, 3) := by decide +kernel
theorem dX7_clear_9 : decode cX7_clear 9 = .ok (.aload_n 0, 1) := by decide +kernel
theorem dX7_clear_10 : decode cX7_clear 10 = .ok (.getfield 18, 3) := by decide +kernel
theorem dX7_clear_13 : decode cX7_clear 13 = .ok (.iconst 0, 1) := by decide +kernel
theorem dX7_clear_14 : decode cX7_clear 14 = .ok (.invokestatic 39, 3) := by decide +kernel
theorem dX7_clear_17 : decode cX7_clear 17 = .ok (.aload_n 0, 1) := by decide +kernel
theorem dX7_clear_18 : decode cX7_clear 18 = .ok (.iload_n 1, 1) := by decide +kernel
theorem dX7_clear_19 : decode cX7_clear 19 = .ok (.putfield 21, 3) := by decide +kernel
theorem dX7_clear_22 : decode cX7_clear 22 = .ok (.aload_n 0, 1) := by decide +kernel
theorem dX7_clear_23 : decode cX7_clear 23 = .ok (.iload_n 2, 1) := by decide +kernel
theorem dX7_clear_24 : decode cX7_clear 24 = .ok (.putfield 25, 3) := by decide +kernel
theorem dX7_clear_27 : decode cX7_clear 27 = .ok (.aload_n 0, 1) := by decide +kernel
theorem dX7_clear_28 : decode cX7_clear 28 = .ok (.iconst 0, 1) := by decide +kernel
theorem dX7_clear_29 : decode cX7_clear 29 = .ok (.putfield 28, 3) := by decide +kernel
theorem dX7_clear_32 : decode cX7_clear 32 = .ok (.aload_n 0, 1) := by decide +kernel
theorem dX7_clear_33 : decode cX7_clear 33 = .ok (.iconst 0, 1) := by decide +kernel
theorem dX7_clear_34 : decode cX7_clear 34 = .ok (.putfield 32, 3) := by decide +kernel
theorem dX7_clear_37 : decode cX7_clear 37 = .ok (.aload_n 0, 1) := by decide +kernel
theorem dX7_clear_38 : decode cX7_clear 38 = .ok (.iconst (-1), 1) := by decide +kernel
theorem dX7_clear_39 : decode cX7_clear 39 = .ok (.putfield 35, 3) := by decide +kernel
theorem dX7_clear_42 : decode cX7_clear 42 = .ok (.return_, 1) := by decide +kernel
set_option maxRecDepth 20000 in
theorem ggX7_seek_X7_nextPlace : GoodIn wsX7_seek wsX7_nextPlace := goodIn_r _ [7, 8, 9, 10, 11, 12, 13, 14, 15, 16, 17, 65, 66, 67, 68, 69, 70, 71, 72, 58, 59, 60, 61, 62, 63, 64, 73, 74, 75, 76, 77, 78] (by decide +kernel) (by decide +kernel)
set_option maxRecDepth 20000 in
theorem gX7_seek_X7_nextPlace : GoodIn wsX7_seek (wsV RX7 45 RX7 yX7_nextPlace wsX7_nextPlace) := goodIn_app (goodIn_of _ (by decide +kernel)) ggX7_seek_X7_nextPlace
set_option maxRecDepth 20000 in
theorem ggX7_seek_X7_keepIfBetter : GoodIn wsX7_seek wsX7_keepIfBetter := goodIn_r _ [21, 22, 23, 24, 25, 26, 27, 28, 29, 65, 66, 67, 68, 69, 70, 71, 72] (by decide +kernel) (by decide +kernel)
set_option maxRecDepth 20000 in
theorem gX7_seek_X7_keepIfBetter : GoodIn wsX7_seek (wsV RX7 49 RX7 yX7_keepIfBetter wsX7_keepIfBetter) := goodIn_app (goodIn_of _ (by decide +kernel)) ggX7_seek_X7_keepIfBetter
set_option maxRecDepth 20000 in
theorem ggX7_seek_X7_tryFilm : GoodIn wsX7_seek wsX7_tryFilm := goodIn_r _ [34, 35, 36, 2, 24, 22, 1, 37, 38, 39, 40, 41, 42, 43, 44, 45, 46, 47, 48, 49, 50, 51, 52, 53, 54, 55, 56, 57, 32, 33, 6, 0, 3, 4, 5, 7, 8, 9, 10, 11, 12, 13, 14, 15, 16, 17, 18, 19, 20, 21, 23, 25, 26, 27, 28, 29, 30, 31, 58, 59, 60, 61, 62, 63, 64, 65, 66, 67, 68, 69, 70, 71, 72, 73, 74, 75, 76, 77, 78, 79] (by decide +kernel) (by decide +kernel)
set_option maxRecDepth 20000 in
theorem gX7_seek_X7_tryFilm : GoodIn wsX7_seek (va_wsS RX7 57 yX7_tryFilm wsX7_tryFilm) := goodIn_app (goodIn_of _ (by decide +kernel)) ggX7_seek_X7_tryFilm
set_option maxRecDepth 20000 in
theorem ggX7_seek_X7_seek : GoodIn wsX7_seek wsX7_seek := goodIn_r _ [0, 1, 2, 3, 4, 5, 6, 7, 8, 9, 10, 11, 12, 13, 14, 15, 16, 17, 18, 19, 20, 21, 22, 23, 24, 25, 26, 27, 28, 29, 30, 31, 32, 33, 34, 35, 36, 37, 38, 39, 40, 41, 42, 43, 44, 45, 46, 47, 48, 49, 50, 51, 52, 53, 54, 55, 56, 57, 58, 59, 60, 61, 62, 63, 64, 65, 66, 67, 68, 69, 70, 71, 72, 73, 74, 75, 76, 77, 78, 79] (by decide +kernel) (by decide +kernel)
set_option maxRecDepth 20000 in
theorem gX7_seek_X7_seek : GoodIn wsX7_seek (va_wsS RX7 64 yX7_seek wsX7_seek) := goodIn_app (goodIn_of _ (by decide +kernel)) ggX7_seek_X7_seek
theorem dX7_seek_0 : decode cX7_seek 0 = .ok (.aload_n 1, 1) := by decide +kernel
theorem dX7_seek_1 : decode cX7_seek 1 = .ok (.aload_n 0, 1) := by decide +kernel
theorem dX7_seek_2 : decode cX7_seek 2 = .ok (.iload_n 2, 1) := by decide +kernel
theorem dX7_seek_3 : decode cX7_seek 3 = .ok (.invokevirtual 45, 3) := by decide +kernel
theorem dX7_seek_6 : decode cX7_seek 6 = .ok (.istore_n 3, 1) := by decide +kernel
theorem dX7_seek_7 : decode cX7_seek 7 = .ok (.iload_n 3, 1) := by decide +kernel
theorem dX7_seek_8 : decode cX7_seek 8 = .ok (.bipush 24, 2) := by decide +kernel
theorem dX7_seek_10 : decode cX7_seek 10 = .ok (.if_icmp .lt 8, 3) := by decide +kernel
theorem dX7_seek_13 : decode cX7_seek 13 = .ok (.aload_n 1, 1) := by decide +kernel
theorem dX7_seek_14 : decode cX7_seek 14 = .ok (.invokevirtual 49, 3) := by decide +kernel
theorem dX7_seek_17 : decode cX7_seek 17 = .ok (.return_, 1) := by decide +kernel
theorem dX7_seek_18 : decode cX7_seek 18 = .ok (.aload_n 0, 1) := by decide +kernel
theorem dX7_seek_19 : decode cX7_seek 19 = .ok (.getfield 52, 3) := by decide +kernel
theorem dX7_seek_22 : decode cX7_seek 22 = .ok (.iload_n 3, 1) := by decide +kernel
theorem dX7_seek_23 : decode cX7_seek 23 = .ok (.iaload, 1) := by decide +kernel
theorem dX7_seek_24 : decode cX7_seek 24 = .ok (.istore 4, 2) := by decide +kernel
theorem dX7_seek_26 : decode cX7_seek 26 = .ok (.iload 4, 2) := by decide +kernel
theorem dX7_seek_28 : decode cX7_seek 28 = .ok (.ldc 38, 2) := by decide +kernel
theorem dX7_seek_30 : decode cX7_seek 30 = .ok (.if_icmp .eq 12, 3) := by decide +kernel
theorem dX7_seek_33 : decode cX7_seek 33 = .ok (.aload_n 0, 1) := by decide +kernel
theorem dX7_seek_34 : decode cX7_seek 34 = .ok (.aload_n 1, 1) := by decide +kernel
theorem dX7_seek_35 : decode cX7_seek 35 = .ok (.iload_n 3, 1) := by decide +kernel
theorem dX7_seek_36 : decode cX7_seek 36 = .ok (.iload 4, 2) := by decide +kernel
theorem dX7_seek_38 : decode cX7_seek 38 = .ok (.invokestatic 57, 3) := by decide +kernel
theorem dX7_seek_41 : decode cX7_seek 41 = .ok (.return_, 1) := by decide +kernel
theorem dX7_seek_42 : decode cX7_seek 42 = .ok (.iconst 0, 1) := by decide +kernel
theorem dX7_seek_43 : decode cX7_seek 43 = .ok (.istore 5, 2) := by decide +kernel
theorem dX7_seek_45 : decode cX7_seek 45 = .ok (.iload 5, 2) := by decide +kernel
theorem dX7_seek_47 : decode cX7_seek 47 = .ok (.aload_n 0, 1) := by decide +kernel
theorem dX7_seek_48 : decode cX7_seek 48 = .ok (.getfield 61, 3) := by decide +kernel
theorem dX7_seek_51 : decode cX7_seek 51 = .ok (.if_icmp .ge 24, 3) := by decide +kernel
theorem dX7_seek_54 : decode cX7_seek 54 = .ok (.aload_n 1, 1) := by decide +kernel
theorem dX7_seek_55 : decode cX7_seek 55 = .ok (.getfield 28, 3) := by decide +kernel
theorem dX7_seek_58 : decode cX7_seek 58 = .ok (.ifCond .ne 17, 3) := by decide +kernel
theorem dX7_seek_61 : decode cX7_seek 61 = .ok (.aload_n 0, 1) := by decide +kernel
theorem dX7_seek_62 : decode cX7_seek 62 = .ok (.aload_n 1, 1) := by decide +kernel
theorem dX7_seek_63 : decode cX7_seek 63 = .ok (.iload_n 3, 1) := by decide +kernel
theorem dX7_seek_64 : decode cX7_seek 64 = .ok (.iload 5, 2) := by decide +kernel
theorem dX7_seek_66 : decode cX7_seek 66 = .ok (.invokestatic 57, 3) := by decide +kernel
theorem dX7_seek_69 : decode cX7_seek 69 = .ok (.iinc 5 1, 3) := by decide +kernel
theorem dX7_seek_72 : decode cX7_seek 72 = .ok (.goto (-27), 3) := by decide +kernel
theorem dX7_seek_75 : decode cX7_seek 75 = .ok (.aload_n 1, 1) := by decide +kernel
theorem dX7_seek_76 : decode cX7_seek 76 = .ok (.getfield 28, 3) := by decide +kernel
theorem dX7_seek_79 : decode cX7_seek 79 = .ok (.ifCond .ne 11, 3) := by decide +kernel
theorem dX7_seek_82 : decode cX7_seek 82 = .ok (.aload_n 0, 1) := by decide +kernel
theorem dX7_seek_83 : decode cX7_seek 83 = .ok (.aload_n 1, 1) := by decide +kernel
theorem dX7_seek_84 : decode cX7_seek 84 = .ok (.iload_n 3, 1) := by decide +kernel
theorem dX7_seek_85 : decode cX7_seek 85 = .ok (.iconst 1, 1) := by decide +kernel
theorem dX7_seek_86 : decode cX7_seek 86 = .ok (.iadd, 1) := by decide +kernel
theorem dX7_seek_87 : decode cX7_seek 87 = .ok (.invokestatic 64, 3) := by decide +kernel
theorem dX7_seek_90 : decode cX7_seek 90 = .ok (.return_, 1) := by decide +kernel
set_option maxRecDepth 20000 in
theorem ggX7_tryFilm_X0_mayBe : GoodIn wsX7_tryFilm wsX0_mayBe := goodIn_r _ [11, 12, 13, 14, 15, 16, 17, 18, 19, 10, 20, 21, 22, 23, 24, 25, 26, 58, 59, 60, 61, 62, 63, 64, 73, 74, 75, 76, 77, 78, 79] (by decide +kernel) (by decide +kernel)
set_option maxRecDepth 20000 in
theorem gX7_tryFilm_X0_mayBe : GoodIn wsX7_tryFilm (wsV RX7 68 RX0 yX0_mayBe wsX0_mayBe) := goodIn_app (goodIn_of _ (by decide +kernel)) ggX7_tryFilm_X0_mayBe
set_option maxRecDepth 20000 in
theorem ggX7_tryFilm_X0_cell : GoodIn wsX7_tryFilm wsX0_cell := goodIn_r _ [20] (by decide +kernel) (by decide +kernel)
set_option maxRecDepth 20000 in
theorem gX7_tryFilm_X0_cell : GoodIn wsX7_tryFilm (va_wsS RX7 72 yX0_cell wsX0_cell) := goodIn_app (goodIn_of _ (by decide +kernel)) ggX7_tryFilm_X0_cell
set_option maxRecDepth 20000 in
theorem ggX7_tryFilm_X7_seek : GoodIn wsX7_tryFilm wsX7_seek := goodIn_r _ [31, 6, 3, 32, 33, 34, 30, 35, 36, 37, 38, 39, 40, 41, 42, 43, 44, 45, 46, 47, 48, 49, 5, 50, 4, 51, 52, 53, 54, 55, 56, 57, 28, 29, 0, 1, 2, 7, 8, 9, 10, 11, 12, 13, 14, 15, 16, 17, 18, 19, 20, 21, 22, 23, 24, 25, 26, 27, 58, 59, 60, 61, 62, 63, 64, 65, 66, 67, 68, 69, 70, 71, 72, 73, 74, 75, 76, 77, 78, 79] (by decide +kernel) (by decide +kernel)
set_option maxRecDepth 20000 in
theorem gX7_tryFilm_X7_seek : GoodIn wsX7_tryFilm (va_wsS RX7 64 yX7_seek wsX7_seek) := goodIn_app (goodIn_of _ (by decide +kernel)) ggX7_tryFilm_X7_seek
theorem dX7_tryFilm_0 : decode cX7_tryFilm 0 = .ok (.iload_n 2, 1) := by decide +kernel
theorem dX7_tryFilm_1 : decode cX7_tryFilm 1 = .ok (.bipush 6, 2) := by decide +kernel
theorem dX7_tryFilm_3 : decode cX7_tryFilm 3 = .ok (.idiv, 1) := by decide +kernel
theorem dX7_tryFilm_4 : decode cX7_tryFilm 4 = .ok (.istore 4, 2) := by decide +kernel
theorem dX7_tryFilm_6 : decode cX7_tryFilm 6 = .ok (.iload_n 2, 1) := by decide +kernel
theorem dX7_tryFilm_7 : decode cX7_tryFilm 7 = .ok (.bipush 6, 2) := by decide +kernel
theorem dX7_tryFilm_9 : decode cX7_tryFilm 9 = .ok (.irem, 1) := by decide +kernel
theorem dX7_tryFilm_10 : decode cX7_tryFilm 10 = .ok (.istore 5, 2) := by decide +kernel
theorem dX7_tryFilm_12 : decode cX7_tryFilm 12 = .ok (.aload_n 0, 1) := by decide +kernel
theorem dX7_tryFilm_13 : decode cX7_tryFilm 13 = .ok (.iload_n 3, 1) := by decide +kernel
theorem dX7_tryFilm_14 : decode cX7_tryFilm 14 = .ok (.iload 5, 2) := by decide +kernel
theorem dX7_tryFilm_16 : decode cX7_tryFilm 16 = .ok (.iload 4, 2) := by decide +kernel
theorem dX7_tryFilm_18 : decode cX7_tryFilm 18 = .ok (.aload_n 1, 1) := by decide +kernel
theorem dX7_tryFilm_19 : decode cX7_tryFilm 19 = .ok (.getfield 18, 3) := by decide +kernel
theorem dX7_tryFilm_22 : decode cX7_tryFilm 22 = .ok (.invokevirtual 68, 3) := by decide +kernel
theorem dX7_tryFilm_25 : decode cX7_tryFilm 25 = .ok (.ifCond .ne 4, 3) := by decide +kernel
theorem dX7_tryFilm_28 : decode cX7_tryFilm 28 = .ok (.return_, 1) := by decide +kernel
theorem dX7_tryFilm_29 : decode cX7_tryFilm 29 = .ok (.aload_n 1, 1) := by decide +kernel
theorem dX7_tryFilm_30 : decode cX7_tryFilm 30 = .ok (.getfield 25, 3) := by decide +kernel
theorem dX7_tryFilm_33 : decode cX7_tryFilm 33 = .ok (.ifCond .ne 9, 3) := by decide +kernel
theorem dX7_tryFilm_36 : decode cX7_tryFilm 36 = .ok (.aload_n 1, 1) := by decide +kernel
theorem dX7_tryFilm_37 : decode cX7_tryFilm 37 = .ok (.iconst 1, 1) := by decide +kernel
theorem dX7_tryFilm_38 : decode cX7_tryFilm 38 = .ok (.putfield 28, 3) := by decide +kernel
theorem dX7_tryFilm_41 : decode cX7_tryFilm 41 = .ok (.return_, 1) := by decide +kernel
theorem dX7_tryFilm_42 : decode cX7_tryFilm 42 = .ok (.aload_n 1, 1) := by decide +kernel
theorem dX7_tryFilm_43 : decode cX7_tryFilm 43 = .ok (.dup, 1) := by decide +kernel
theorem dX7_tryFilm_44 : decode cX7_tryFilm 44 = .ok (.getfield 25, 3) := by decide +kernel
theorem dX7_tryFilm_47 : decode cX7_tryFilm 47 = .ok (.iconst 1, 1) := by decide +kernel
theorem dX7_tryFilm_48 : decode cX7_tryFilm 48 = .ok (.isub, 1) := by decide +kernel
theorem dX7_tryFilm_49 : decode cX7_tryFilm 49 = .ok (.putfield 25, 3) := by decide +kernel
theorem dX7_tryFilm_52 : decode cX7_tryFilm 52 = .ok (.iload_n 3, 1) := by decide +kernel
theorem dX7_tryFilm_53 : decode cX7_tryFilm 53 = .ok (.iload 5, 2) := by decide +kernel
theorem dX7_tryFilm_55 : decode cX7_tryFilm 55 = .ok (.invokestatic 72, 3) := by decide +kernel
theorem dX7_tryFilm_58 : decode cX7_tryFilm 58 = .ok (.istore 6, 2) := by decide +kernel
theorem dX7_tryFilm_60 : decode cX7_tryFilm 60 = .ok (.aload_n 1, 1) := by decide +kernel
theorem dX7_tryFilm_61 : decode cX7_tryFilm 61 = .ok (.getfield 18, 3) := by decide +kernel
theorem dX7_tryFilm_64 : decode cX7_tryFilm 64 = .ok (.iload 6, 2) := by decide +kernel
theorem dX7_tryFilm_66 : decode cX7_tryFilm 66 = .ok (.iaload, 1) := by decide +kernel
theorem dX7_tryFilm_67 : decode cX7_tryFilm 67 = .ok (.istore 7, 2) := by decide +kernel
theorem dX7_tryFilm_69 : decode cX7_tryFilm 69 = .ok (.iload 7, 2) := by decide +kernel
theorem dX7_tryFilm_71 : decode cX7_tryFilm 71 = .ok (.ifCond .ne 13, 3) := by decide +kernel
theorem dX7_tryFilm_74 : decode cX7_tryFilm 74 = .ok (.aload_n 0, 1) := by decide +kernel
theorem dX7_tryFilm_75 : decode cX7_tryFilm 75 = .ok (.getfield 76, 3) := by decide +kernel
theorem dX7_tryFilm_78 : decode cX7_tryFilm 78 = .ok (.iload 6, 2) := by decide +kernel
theorem dX7_tryFilm_80 : decode cX7_tryFilm 80 = .ok (.iaload, 1) := by decide +kernel
theorem dX7_tryFilm_81 : decode cX7_tryFilm 81 = .ok (.goto 12, 3) := by decide +kernel
theorem dX7_tryFilm_84 : decode cX7_tryFilm 84 = .ok (.aload_n 0, 1) := by decide +kernel
theorem dX7_tryFilm_85 : decode cX7_tryFilm 85 = .ok (.getfield 76, 3) := by decide +kernel
theorem dX7_tryFilm_88 : decode cX7_tryFilm 88 = .ok (.iload 6, 2) := by decide +kernel
theorem dX7_tryFilm_90 : decode cX7_tryFilm 90 = .ok (.iaload, 1) := by decide +kernel
theorem dX7_tryFilm_91 : decode cX7_tryFilm 91 = .ok (.iconst 2, 1) := by decide +kernel
theorem dX7_tryFilm_92 : decode cX7_tryFilm 92 = .ok (.idiv, 1) := by decide +kernel
theorem dX7_tryFilm_93 : decode cX7_tryFilm 93 = .ok (.istore 8, 2) := by decide +kernel
theorem dX7_tryFilm_95 : decode cX7_tryFilm 95 = .ok (.aload_n 1, 1) := by decide +kernel
theorem dX7_tryFilm_96 : decode cX7_tryFilm 96 = .ok (.getfield 9, 3) := by decide +kernel
theorem dX7_tryFilm_99 : decode cX7_tryFilm 99 = .ok (.iload_n 2, 1) := by decide +kernel
theorem dX7_tryFilm_100 : decode cX7_tryFilm 100 = .ok (.iload_n 3, 1) := by decide +kernel
theorem dX7_tryFilm_101 : decode cX7_tryFilm 101 = .ok (.iastore, 1) := by decide +kernel
theorem dX7_tryFilm_102 : decode cX7_tryFilm 102 = .ok (.aload_n 1, 1) := by decide +kernel
theorem dX7_tryFilm_103 : decode cX7_tryFilm 103 = .ok (.getfield 18, 3) := by decide +kernel
theorem dX7_tryFilm_106 : decode cX7_tryFilm 106 = .ok (.iload 6, 2) := by decide +kernel
theorem dX7_tryFilm_108 : decode cX7_tryFilm 108 = .ok (.iload 7, 2) := by decide +kernel
theorem dX7_tryFilm_110 : decode cX7_tryFilm 110 = .ok (.iconst 1, 1) := by decide +kernel
theorem dX7_tryFilm_111 : decode cX7_tryFilm 111 = .ok (.iload 4, 2) := by decide +kernel
theorem dX7_tryFilm_113 : decode cX7_tryFilm 113 = .ok (.ishl, 1) := by decide +kernel
theorem dX7_tryFilm_114 : decode cX7_tryFilm 114 = .ok (.ior, 1) := by decide +kernel
theorem dX7_tryFilm_115 : decode cX7_tryFilm 115 = .ok (.iastore, 1) := by decide +kernel
theorem dX7_tryFilm_116 : decode cX7_tryFilm 116 = .ok (.aload_n 1, 1) := by decide +kernel
theorem dX7_tryFilm_117 : decode cX7_tryFilm 117 = .ok (.dup, 1) := by decide +kernel
theorem dX7_tryFilm_118 : decode cX7_tryFilm 118 = .ok (.getfield 32, 3) := by decide +kernel
theorem dX7_tryFilm_121 : decode cX7_tryFilm 121 = .ok (.iload 8, 2) := by decide +kernel
theorem dX7_tryFilm_123 : decode cX7_tryFilm 123 = .ok (.iadd, 1) := by decide +kernel
theorem dX7_tryFilm_124 : decode cX7_tryFilm 124 = .ok (.putfield 32, 3) := by decide +kernel
theorem dX7_tryFilm_127 : decode cX7_tryFilm 127 = .ok (.aload_n 0, 1) := by decide +kernel
theorem dX7_tryFilm_128 : decode cX7_tryFilm 128 = .ok (.aload_n 1, 1) := by decide +kernel
theorem dX7_tryFilm_129 : decode cX7_tryFilm 129 = .ok (.iload_n 2, 1) := by decide +kernel
theorem dX7_tryFilm_130 : decode cX7_tryFilm 130 = .ok (.iconst 1, 1) := by decide +kernel
theorem dX7_tryFilm_131 : decode cX7_tryFilm 131 = .ok (.iadd, 1) := by decide +kernel
theorem dX7_tryFilm_132 : decode cX7_tryFilm 132 = .ok (.invokestatic 64, 3) := by decide +kernel
theorem dX7_tryFilm_135 : decode cX7_tryFilm 135 = .ok (.aload_n 1, 1) := by decide +kernel
theorem dX7_tryFilm_136 : decode cX7_tryFilm 136 = .ok (.dup, 1) := by decide +kernel
theorem dX7_tryFilm_137 : decode cX7_tryFilm 137 = .ok (.getfield 32, 3) := by decide +kernel
theorem dX7_tryFilm_140 : decode cX7_tryFilm 140 = .ok (.iload 8, 2) := by decide +kernel
theorem dX7_tryFilm_142 : decode cX7_tryFilm 142 = .ok (.isub, 1) := by decide +kernel
theorem dX7_tryFilm_143 : decode cX7_tryFilm 143 = .ok (.putfield 32, 3) := by decide +kernel
theorem dX7_tryFilm_146 : decode cX7_tryFilm 146 = .ok (.aload_n 1, 1) := by decide +kernel
theorem dX7_tryFilm_147 : decode cX7_tryFilm 147 = .ok (.getfield 18, 3) := by decide +kernel
theorem dX7_tryFilm_150 : decode cX7_tryFilm 150 = .ok (.iload 6, 2) := by decide +kernel
theorem dX7_tryFilm_152 : decode cX7_tryFilm 152 = .ok (.iload 7, 2) := by decide +kernel
theorem dX7_tryFilm_154 : decode cX7_tryFilm 154 = .ok (.iastore, 1) := by decide +kernel
theorem dX7_tryFilm_155 : decode cX7_tryFilm 155 = .ok (.aload_n 1, 1) := by decide +kernel
theorem dX7_tryFilm_156 : decode cX7_tryFilm 156 = .ok (.getfield 9, 3) := by decide +kernel
theorem dX7_tryFilm_159 : decode cX7_tryFilm 159 = .ok (.iload_n 2, 1) := by decide +kernel
theorem dX7_tryFilm_160 : decode cX7_tryFilm 160 = .ok (.ldc 38, 2) := by decide +kernel
theorem dX7_tryFilm_162 : decode cX7_tryFilm 162 = .ok (.iastore, 1) := by decide +kernel
theorem dX7_tryFilm_163 : decode cX7_tryFilm 163 = .ok (.return_, 1) := by decide +kernel
set_option maxRecDepth 20000 in
theorem ggX7_nextPlace_X9_place : GoodIn wsX7_nextPlace wsX9_place := goodIn_r _ [4] (by decide +kernel) (by decide +kernel)
set_option maxRecDepth 20000 in
theorem gX7_nextPlace_X9_place_n79 : GoodIn wsX7_nextPlace (wsX9_place) := ggX7_nextPlace_X9_place
set_option maxRecDepth 20000 in
theorem ggX7_nextPlace_X1_has : GoodIn wsX7_nextPlace wsX1_has := goodIn_r _ [9, 10, 26, 27, 28, 29, 30, 31] (by decide +kernel) (by decide +kernel)
set_option maxRecDepth 20000 in
theorem gX7_nextPlace_X1_has : GoodIn wsX7_nextPlace (wsV RX7 86 RX1 yX1_has wsX1_has) := goodIn_app (goodIn_of _ (by decide +kernel)) ggX7_nextPlace_X1_has
theorem dX7_nextPlace_0 : decode cX7_nextPlace 0 = .ok (.aload_n 0, 1) := by decide +kernel
theorem dX7_nextPlace_1 : decode cX7_nextPlace 1 = .ok (.getfield 21, 3) := by decide +kernel
theorem dX7_nextPlace_4 : decode cX7_nextPlace 4 = .ok (.iconst 1, 1) := by decide +kernel
theorem dX7_nextPlace_5 : decode cX7_nextPlace 5 = .ok (.iadd, 1) := by decide +kernel
theorem dX7_nextPlace_6 : decode cX7_nextPlace 6 = .ok (.iconst 0, 1) := by decide +kernel
theorem dX7_nextPlace_7 : decode cX7_nextPlace 7 = .ok (.invokestatic 79, 3) := by decide +kernel
theorem dX7_nextPlace_10 : decode cX7_nextPlace 10 = .ok (.istore_n 3, 1) := by decide +kernel
theorem dX7_nextPlace_11 : decode cX7_nextPlace 11 = .ok (.iload_n 2, 1) := by decide +kernel
theorem dX7_nextPlace_12 : decode cX7_nextPlace 12 = .ok (.istore 4, 2) := by decide +kernel
theorem dX7_nextPlace_14 : decode cX7_nextPlace 14 = .ok (.iload 4, 2) := by decide +kernel
theorem dX7_nextPlace_16 : decode cX7_nextPlace 16 = .ok (.iload_n 3, 1) := by decide +kernel
theorem dX7_nextPlace_17 : decode cX7_nextPlace 17 = .ok (.if_icmp .ge 27, 3) := by decide +kernel
theorem dX7_nextPlace_20 : decode cX7_nextPlace 20 = .ok (.aload_n 1, 1) := by decide +kernel
theorem dX7_nextPlace_21 : decode cX7_nextPlace 21 = .ok (.getfield 82, 3) := by decide +kernel
theorem dX7_nextPlace_24 : decode cX7_nextPlace 24 = .ok (.iload 4, 2) := by decide +kernel
theorem dX7_nextPlace_26 : decode cX7_nextPlace 26 = .ok (.bipush 6, 2) := by decide +kernel
theorem dX7_nextPlace_28 : decode cX7_nextPlace 28 = .ok (.irem, 1) := by decide +kernel
theorem dX7_nextPlace_29 : decode cX7_nextPlace 29 = .ok (.invokevirtual 86, 3) := by decide +kernel
theorem dX7_nextPlace_32 : decode cX7_nextPlace 32 = .ok (.ifCond .eq 6, 3) := by decide +kernel
theorem dX7_nextPlace_35 : decode cX7_nextPlace 35 = .ok (.iload 4, 2) := by decide +kernel
theorem dX7_nextPlace_37 : decode cX7_nextPlace 37 = .ok (.ireturn, 1) := by decide +kernel
theorem dX7_nextPlace_38 : decode cX7_nextPlace 38 = .ok (.iinc 4 1, 3) := by decide +kernel
theorem dX7_nextPlace_41 : decode cX7_nextPlace 41 = .ok (.goto (-27), 3) := by decide +kernel
theorem dX7_nextPlace_44 : decode cX7_nextPlace 44 = .ok (.bipush 24, 2) := by decide +kernel
theorem dX7_nextPlace_46 : decode cX7_nextPlace 46 = .ok (.ireturn, 1) := by decide +kernel
theorem dX7_keepIfBetter_0 : decode cX7_keepIfBetter 0 = .ok (.aload_n 0, 1) := by decide +kernel
theorem dX7_keepIfBetter_1 : decode cX7_keepIfBetter 1 = .ok (.getfield 32, 3) := by decide +kernel
theorem dX7_keepIfBetter_4 : decode cX7_keepIfBetter 4 = .ok (.aload_n 0, 1) := by decide +kernel
theorem dX7_keepIfBetter_5 : decode cX7_keepIfBetter 5 = .ok (.getfield 35, 3) := by decide +kernel
theorem dX7_keepIfBetter_8 : decode cX7_keepIfBetter 8 = .ok (.if_icmp .le 26, 3) := by decide +kernel
theorem dX7_keepIfBetter_11 : decode cX7_keepIfBetter 11 = .ok (.aload_n 0, 1) := by decide +kernel
theorem dX7_keepIfBetter_12 : decode cX7_keepIfBetter 12 = .ok (.aload_n 0, 1) := by decide +kernel
theorem dX7_keepIfBetter_13 : decode cX7_keepIfBetter 13 = .ok (.getfield 32, 3) := by decide +kernel
theorem dX7_keepIfBetter_16 : decode cX7_keepIfBetter 16 = .ok (.putfield 35, 3) := by decide +kernel
theorem dX7_keepIfBetter_19 : decode cX7_keepIfBetter 19 = .ok (.aload_n 0, 1) := by decide +kernel
theorem dX7_keepIfBetter_20 : decode cX7_keepIfBetter 20 = .ok (.getfield 9, 3) := by decide +kernel
theorem dX7_keepIfBetter_23 : decode cX7_keepIfBetter 23 = .ok (.iconst 0, 1) := by decide +kernel
theorem dX7_keepIfBetter_24 : decode cX7_keepIfBetter 24 = .ok (.aload_n 0, 1) := by decide +kernel
theorem dX7_keepIfBetter_25 : decode cX7_keepIfBetter 25 = .ok (.getfield 15, 3) := by decide +kernel
theorem dX7_keepIfBetter_28 : decode cX7_keepIfBetter 28 = .ok (.iconst 0, 1) := by decide +kernel
theorem dX7_keepIfBetter_29 : decode cX7_keepIfBetter 29 = .ok (.bipush 24, 2) := by decide +kernel
theorem dX7_keepIfBetter_31 : decode cX7_keepIfBetter 31 = .ok (.invokestatic 92, 3) := by decide +kernel
theorem dX7_keepIfBetter_34 : decode cX7_keepIfBetter 34 = .ok (.return_, 1) := by decide +kernel
theorem dX8_init_0 : decode cX8_init 0 = .ok (.aload_n 0, 1) := by decide +kernel
theorem dX8_init_1 : decode cX8_init 1 = .ok (.invokespecial 3, 3) := by decide +kernel
theorem dX8_init_4 : decode cX8_init 4 = .ok (.aload_n 0, 1) := by decide +kernel
theorem dX8_init_5 : decode cX8_init 5 = .ok (.bipush 24, 2) := by decide +kernel
theorem dX8_init_7 : decode cX8_init 7 = .ok (.newarray .short, 2) := by decide +kernel
theorem dX8_init_9 : decode cX8_init 9 = .ok (.putfield 9, 3) := by decide +kernel
theorem dX8_init_12 : decode cX8_init 12 = .ok (.aload_n 0, 1) := by decide +kernel
theorem dX8_init_13 : decode cX8_init 13 = .ok (.iconst (-1), 1) := by decide +kernel
theorem dX8_init_14 : decode cX8_init 14 = .ok (.putfield 15, 3) := by decide +kernel
theorem dX8_init_17 : decode cX8_init 17 = .ok (.return_, 1) := by decide +kernel
theorem dX8_isMissing_0 : decode cX8_isMissing 0 = .ok (.aload_n 0, 1) := by decide +kernel
theorem dX8_isMissing_1 : decode cX8_isMissing 1 = .ok (.getfield 15, 3) := by decide +kernel
theorem dX8_isMissing_4 : decode cX8_isMissing 4 = .ok (.iconst (-1), 1) := by decide +kernel
theorem dX8_isMissing_5 : decode cX8_isMissing 5 = .ok (.if_icmp .ne 7, 3) := by decide +kernel
theorem dX8_isMissing_8 : decode cX8_isMissing 8 = .ok (.iconst 1, 1) := by decide +kernel
theorem dX8_isMissing_9 : decode cX8_isMissing 9 = .ok (.goto 4, 3) := by decide +kernel
theorem dX8_isMissing_12 : decode cX8_isMissing 12 = .ok (.iconst 0, 1) := by decide +kernel
theorem dX8_isMissing_13 : decode cX8_isMissing 13 = .ok (.ireturn, 1) := by decide +kernel
theorem dX8_has_0 : decode cX8_has 0 = .ok (.iload_n 1, 1) := by decide +kernel
theorem dX8_has_1 : decode cX8_has 1 = .ok (.ifCond .lt 15, 3) := by decide +kernel
theorem dX8_has_4 : decode cX8_has 4 = .ok (.iload_n 1, 1) := by decide +kernel
theorem dX8_has_5 : decode cX8_has 5 = .ok (.aload_n 0, 1) := by decide +kernel
theorem dX8_has_6 : decode cX8_has 6 = .ok (.getfield 15, 3) := by decide +kernel
theorem dX8_has_9 : decode cX8_has 9 = .ok (.if_icmp .ge 7, 3) := by decide +kernel
theorem dX8_has_12 : decode cX8_has 12 = .ok (.iconst 1, 1) := by decide +kernel
theorem dX8_has_13 : decode cX8_has 13 = .ok (.goto 4, 3) := by decide +kernel
theorem dX8_has_16 : decode cX8_has 16 = .ok (.iconst 0, 1) := by decide +kernel
theorem dX8_has_17 : decode cX8_has 17 = .ok (.ireturn, 1) := by decide +kernel
set_option maxRecDepth 20000 in
theorem ggX8_spans_X9_within : GoodIn wsX8_spans wsX9_within := goodIn_r _ [4] (by decide +kernel) (by decide +kernel)
set_option maxRecDepth 20000 in
theorem gX8_spans_X9_within_n19 : GoodIn wsX8_spans (wsX9_within) := ggX8_spans_X9_within
theorem dX8_spans_0 : decode cX8_spans 0 = .ok (.iload_n 1, 1) := by decide +kernel
theorem dX8_spans_1 : decode cX8_spans 1 = .ok (.iconst 0, 1) := by decide +kernel
theorem dX8_spans_2 : decode cX8_spans 2 = .ok (.aload_n 0, 1) := by decide +kernel
theorem dX8_spans_3 : decode cX8_spans 3 = .ok (.getfield 15, 3) := by decide +kernel
theorem dX8_spans_6 : decode cX8_spans 6 = .ok (.invokestatic 19, 3) := by decide +kernel
theorem dX8_spans_9 : decode cX8_spans 9 = .ok (.ifCond .eq 21, 3) := by decide +kernel
theorem dX8_spans_12 : decode cX8_spans 12 = .ok (.iload_n 2, 1) := by decide +kernel
theorem dX8_spans_13 : decode cX8_spans 13 = .ok (.iconst 0, 1) := by decide +kernel
theorem dX8_spans_14 : decode cX8_spans 14 = .ok (.aload_n 0, 1) := by decide +kernel
theorem dX8_spans_15 : decode cX8_spans 15 = .ok (.getfield 15, 3) := by decide +kernel
theorem dX8_spans_18 : decode cX8_spans 18 = .ok (.iload_n 1, 1) := by decide +kernel
theorem dX8_spans_19 : decode cX8_spans 19 = .ok (.isub, 1) := by decide +kernel
theorem dX8_spans_20 : decode cX8_spans 20 = .ok (.invokestatic 19, 3) := by decide +kernel
theorem dX8_spans_23 : decode cX8_spans 23 = .ok (.ifCond .eq 7, 3) := by decide +kernel
theorem dX8_spans_26 : decode cX8_spans 26 = .ok (.iconst 1, 1) := by decide +kernel
theorem dX8_spans_27 : decode cX8_spans 27 = .ok (.goto 4, 3) := by decide +kernel
theorem dX8_spans_30 : decode cX8_spans 30 = .ok (.iconst 0, 1) := by decide +kernel
theorem dX8_spans_31 : decode cX8_spans 31 = .ok (.ireturn, 1) := by decide +kernel
set_option maxRecDepth 20000 in
theorem ggX8_renew_J7_fill_fb410 : GoodIn wsX8_renew wsJ7_fill_fb410 := goodIn_r _ [6] (by decide +kernel) (by decide +kernel)
set_option maxRecDepth 20000 in
theorem gX8_renew_J7_fill_fb410 : GoodIn wsX8_renew (va_wsS RX8 23 yJ7_fill_fb410 wsJ7_fill_fb410) := goodIn_app (goodIn_of _ (by decide +kernel)) ggX8_renew_J7_fill_fb410
theorem dX8_renew_0 : decode cX8_renew 0 = .ok (.aload_n 0, 1) := by decide +kernel
theorem dX8_renew_1 : decode cX8_renew 1 = .ok (.getfield 9, 3) := by decide +kernel
theorem dX8_renew_4 : decode cX8_renew 4 = .ok (.iconst 0, 1) := by decide +kernel
theorem dX8_renew_5 : decode cX8_renew 5 = .ok (.invokestatic 23, 3) := by decide +kernel
theorem dX8_renew_8 : decode cX8_renew 8 = .ok (.aload_n 0, 1) := by decide +kernel
theorem dX8_renew_9 : decode cX8_renew 9 = .ok (.iload_n 1, 1) := by decide +kernel
theorem dX8_renew_10 : decode cX8_renew 10 = .ok (.putfield 15, 3) := by decide +kernel
theorem dX8_renew_13 : decode cX8_renew 13 = .ok (.iload_n 1, 1) := by decide +kernel
theorem dX8_renew_14 : decode cX8_renew 14 = .ok (.ireturn, 1) := by decide +kernel
theorem dX8_become_0 : decode cX8_become 0 = .ok (.aload_n 0, 1) := by decide +kernel
theorem dX8_become_1 : decode cX8_become 1 = .ok (.getfield 9, 3) := by decide +kernel
theorem dX8_become_4 : decode cX8_become 4 = .ok (.iload_n 1, 1) := by decide +kernel
theorem dX8_become_5 : decode cX8_become 5 = .ok (.saload, 1) := by decide +kernel
theorem dX8_become_6 : decode cX8_become 6 = .ok (.istore_n 3, 1) := by decide +kernel
theorem dX8_become_7 : decode cX8_become 7 = .ok (.aload_n 0, 1) := by decide +kernel
theorem dX8_become_8 : decode cX8_become 8 = .ok (.getfield 9, 3) := by decide +kernel
theorem dX8_become_11 : decode cX8_become 11 = .ok (.iload_n 1, 1) := by decide +kernel
theorem dX8_become_12 : decode cX8_become 12 = .ok (.iload_n 2, 1) := by decide +kernel
theorem dX8_become_13 : decode cX8_become 13 = .ok (.sastore, 1) := by decide +kernel
theorem dX8_become_14 : decode cX8_become 14 = .ok (.iload_n 3, 1) := by decide +kernel
theorem dX8_become_15 : decode cX8_become 15 = .ok (.ireturn, 1) := by decide +kernel
set_option maxRecDepth 20000 in
theorem ggX9_init_X1_init : GoodIn wsX9_init wsX1_init := goodIn_r _ [25, 26, 2, 3, 27, 28, 29, 30, 31, 32, 33, 34, 35, 36, 37, 38, 39, 40, 41, 127, 128, 129, 130, 131, 132, 162] (by decide +kernel) (by decide +kernel)
set_option maxRecDepth 20000 in
theorem gX9_init_X1_init_n11 : GoodIn wsX9_init (wsX1_init) := ggX9_init_X1_init
set_option maxRecDepth 20000 in
theorem ggX9_init_X5_init : GoodIn wsX9_init wsX5_init := goodIn_r _ [43, 44, 2, 3, 27, 45, 46, 47, 138, 139, 140] (by decide +kernel) (by decide +kernel)
set_option maxRecDepth 20000 in
theorem gX9_init_X5_init_n18 : GoodIn wsX9_init (wsX5_init) := ggX9_init_X5_init
set_option maxRecDepth 20000 in
theorem ggX9_init_X2_init : GoodIn wsX9_init wsX2_init := goodIn_r _ [50, 51, 2, 3, 27, 52, 53, 54, 55, 56, 57, 58, 59, 60, 61, 62, 63, 64, 65, 66, 67, 68, 69, 70, 71, 72, 73, 74, 75, 76, 77, 78, 141, 142, 143, 144, 145, 146, 147, 148, 149, 150, 151, 163, 164, 165, 166, 167, 168, 169, 170, 171, 127, 128, 129, 130, 131, 132] (by decide +kernel) (by decide +kernel)
set_option maxRecDepth 20000 in
theorem gX9_init_X2_init : GoodIn wsX9_init (wsX2_init) := ggX9_init_X2_init
set_option maxRecDepth 20000 in
theorem ggX9_init_X0_init : GoodIn wsX9_init wsX0_init := goodIn_r _ [81, 82, 2, 3, 83, 33, 34, 84, 27, 85, 86, 87, 88, 89, 90, 91, 92, 93, 94, 95, 38, 39, 40, 41, 96, 97, 98, 99, 100, 101, 102, 103, 104, 105, 106, 107, 108, 109, 110, 162, 152, 153, 154, 155, 156, 157, 158, 172, 173, 174, 175, 176, 177, 178, 179] (by decide +kernel) (by decide +kernel)
set_option maxRecDepth 20000 in
theorem gX9_init_X0_init : GoodIn wsX9_init (wsX0_init) := ggX9_init_X0_init
set_option maxRecDepth 20000 in
theorem ggX9_init_X4_init : GoodIn wsX9_init wsX4_init := goodIn_r _ [113, 114, 2, 3, 27, 115, 116, 117, 118, 119, 120, 121, 122, 123, 124, 125, 126, 159, 160, 161, 180, 181] (by decide +kernel) (by decide +kernel)
set_option maxRecDepth 20000 in
theorem gX9_init_X4_init : GoodIn wsX9_init (wsX4_init) := ggX9_init_X4_init
theorem dX9_init_0 : decode cX9_init 0 = .ok (.aload_n 0, 1) := by decide +kernel
theorem dX9_init_1 : decode cX9_init 1 = .ok (.invokespecial 3, 3) := by decide +kernel
theorem dX9_init_4 : decode cX9_init 4 = .ok (.aload_n 0, 1) := by decide +kernel
theorem dX9_init_5 : decode cX9_init 5 = .ok (.new 9, 3) := by decide +kernel
theorem dX9_init_8 : decode cX9_init 8 = .ok (.dup, 1) := by decide +kernel
theorem dX9_init_9 : decode cX9_init 9 = .ok (.invokespecial 11, 3) := by decide +kernel
theorem dX9_init_12 : decode cX9_init 12 = .ok (.putfield 12, 3) := by decide +kernel
theorem dX9_init_15 : decode cX9_init 15 = .ok (.aload_n 0, 1) := by decide +kernel
theorem dX9_init_16 : decode cX9_init 16 = .ok (.new 16, 3) := by decide +kernel
theorem dX9_init_19 : decode cX9_init 19 = .ok (.dup, 1) := by decide +kernel
theorem dX9_init_20 : decode cX9_init 20 = .ok (.invokespecial 18, 3) := by decide +kernel
theorem dX9_init_23 : decode cX9_init 23 = .ok (.putfield 19, 3) := by decide +kernel
theorem dX9_init_26 : decode cX9_init 26 = .ok (.aload_n 0, 1) := by decide +kernel
theorem dX9_init_27 : decode cX9_init 27 = .ok (.new 23, 3) := by decide +kernel
theorem dX9_init_30 : decode cX9_init 30 = .ok (.dup, 1) := by decide +kernel
theorem dX9_init_31 : decode cX9_init 31 = .ok (.aload_n 0, 1) := by decide +kernel
theorem dX9_init_32 : decode cX9_init 32 = .ok (.getfield 12, 3) := by decide +kernel
theorem dX9_init_35 : decode cX9_init 35 = .ok (.aload_n 0, 1) := by decide +kernel
theorem dX9_init_36 : decode cX9_init 36 = .ok (.getfield 19, 3) := by decide +kernel
theorem dX9_init_39 : decode cX9_init 39 = .ok (.invokespecial 25, 3) := by decide +kernel
theorem dX9_init_42 : decode cX9_init 42 = .ok (.putfield 28, 3) := by decide +kernel
theorem dX9_init_45 : decode cX9_init 45 = .ok (.aload_n 0, 1) := by decide +kernel
theorem dX9_init_46 : decode cX9_init 46 = .ok (.new 32, 3) := by decide +kernel
theorem dX9_init_49 : decode cX9_init 49 = .ok (.dup, 1) := by decide +kernel
theorem dX9_init_50 : decode cX9_init 50 = .ok (.aload_n 0, 1) := by decide +kernel
theorem dX9_init_51 : decode cX9_init 51 = .ok (.getfield 12, 3) := by decide +kernel
theorem dX9_init_54 : decode cX9_init 54 = .ok (.invokespecial 34, 3) := by decide +kernel
theorem dX9_init_57 : decode cX9_init 57 = .ok (.putfield 37, 3) := by decide +kernel
theorem dX9_init_60 : decode cX9_init 60 = .ok (.aload_n 0, 1) := by decide +kernel
theorem dX9_init_61 : decode cX9_init 61 = .ok (.new 41, 3) := by decide +kernel
theorem dX9_init_64 : decode cX9_init 64 = .ok (.dup, 1) := by decide +kernel
theorem dX9_init_65 : decode cX9_init 65 = .ok (.aload_n 0, 1) := by decide +kernel
theorem dX9_init_66 : decode cX9_init 66 = .ok (.getfield 12, 3) := by decide +kernel
theorem dX9_init_69 : decode cX9_init 69 = .ok (.invokespecial 43, 3) := by decide +kernel
theorem dX9_init_72 : decode cX9_init 72 = .ok (.putfield 44, 3) := by decide +kernel
theorem dX9_init_75 : decode cX9_init 75 = .ok (.return_, 1) := by decide +kernel
set_option maxRecDepth 20000 in
theorem ggX9_house_X9_within : GoodIn wsX9_house wsX9_within := goodIn_r _ [7] (by decide +kernel) (by decide +kernel)
set_option maxRecDepth 20000 in
theorem gX9_house_X9_within : GoodIn wsX9_house (va_wsS RX9 48 yX9_within wsX9_within) := goodIn_app (goodIn_of _ (by decide +kernel)) ggX9_house_X9_within
set_option maxRecDepth 20000 in
theorem ggX9_house_X1_add : GoodIn wsX9_house wsX1_add := goodIn_r _ [12, 13, 14, 15, 21, 22, 23, 24, 25, 26] (by decide +kernel) (by decide +kernel)
set_option maxRecDepth 20000 in
theorem gX9_house_X1_add : GoodIn wsX9_house (wsV RX9 58 RX1 yX1_add wsX1_add) := goodIn_app (goodIn_of _ (by decide +kernel)) ggX9_house_X1_add
theorem dX9_house_0 : decode cX9_house 0 = .ok (.iload_n 1, 1) := by decide +kernel
theorem dX9_house_1 : decode cX9_house 1 = .ok (.iconst 0, 1) := by decide +kernel
theorem dX9_house_2 : decode cX9_house 2 = .ok (.iconst 3, 1) := by decide +kernel
theorem dX9_house_3 : decode cX9_house 3 = .ok (.invokestatic 48, 3) := by decide +kernel
theorem dX9_house_6 : decode cX9_house 6 = .ok (.ifCond .eq 14, 3) := by decide +kernel
theorem dX9_house_9 : decode cX9_house 9 = .ok (.iload_n 2, 1) := by decide +kernel
theorem dX9_house_10 : decode cX9_house 10 = .ok (.iconst 1, 1) := by decide +kernel
theorem dX9_house_11 : decode cX9_house 11 = .ok (.sipush 999, 3) := by decide +kernel
theorem dX9_house_14 : decode cX9_house 14 = .ok (.invokestatic 48, 3) := by decide +kernel
theorem dX9_house_17 : decode cX9_house 17 = .ok (.ifCond .ne 6, 3) := by decide +kernel
theorem dX9_house_20 : decode cX9_house 20 = .ok (.ldc 52, 2) := by decide +kernel
theorem dX9_house_22 : decode cX9_house 22 = .ok (.ireturn, 1) := by decide +kernel
theorem dX9_house_23 : decode cX9_house 23 = .ok (.aload_n 0, 1) := by decide +kernel
theorem dX9_house_24 : decode cX9_house 24 = .ok (.getfield 12, 3) := by decide +kernel
theorem dX9_house_27 : decode cX9_house 27 = .ok (.getfield 53, 3) := by decide +kernel
theorem dX9_house_30 : decode cX9_house 30 = .ok (.bipush 6, 2) := by decide +kernel
theorem dX9_house_32 : decode cX9_house 32 = .ok (.if_icmp .lt 8, 3) := by decide +kernel
theorem dX9_house_35 : decode cX9_house 35 = .ok (.ldc 57, 2) := by decide +kernel
theorem dX9_house_37 : decode cX9_house 37 = .ok (.goto 12, 3) := by decide +kernel
theorem dX9_house_40 : decode cX9_house 40 = .ok (.aload_n 0, 1) := by decide +kernel
theorem dX9_house_41 : decode cX9_house 41 = .ok (.getfield 12, 3) := by decide +kernel
theorem dX9_house_44 : decode cX9_house 44 = .ok (.iload_n 1, 1) := by decide +kernel
theorem dX9_house_45 : decode cX9_house 45 = .ok (.iload_n 2, 1) := by decide +kernel
theorem dX9_house_46 : decode cX9_house 46 = .ok (.invokevirtual 58, 3) := by decide +kernel
theorem dX9_house_49 : decode cX9_house 49 = .ok (.ireturn, 1) := by decide +kernel
set_option maxRecDepth 20000 in
theorem ggX9_isOf_X1_has : GoodIn wsX9_isOf wsX1_has := goodIn_r _ [7, 8, 23, 24, 25, 26, 27, 28] (by decide +kernel) (by decide +kernel)
set_option maxRecDepth 20000 in
theorem gX9_isOf_X1_has : GoodIn wsX9_isOf (wsV RX9 62 RX1 yX1_has wsX1_has) := goodIn_app (goodIn_of _ (by decide +kernel)) ggX9_isOf_X1_has
set_option maxRecDepth 20000 in
theorem ggX9_isOf_X9_within : GoodIn wsX9_isOf wsX9_within := goodIn_r _ [12] (by decide +kernel) (by decide +kernel)
set_option maxRecDepth 20000 in
theorem gX9_isOf_X9_within : GoodIn wsX9_isOf (va_wsS RX9 48 yX9_within wsX9_within) := goodIn_app (goodIn_of _ (by decide +kernel)) ggX9_isOf_X9_within
set_option maxRecDepth 20000 in
theorem ggX9_isOf_X1_areOf : GoodIn wsX9_isOf wsX1_areOf := goodIn_r _ [16, 17, 23, 24, 25, 26, 27, 28] (by decide +kernel) (by decide +kernel)
set_option maxRecDepth 20000 in
theorem gX9_isOf_X1_areOf : GoodIn wsX9_isOf (wsV RX9 66 RX1 yX1_areOf wsX1_areOf) := goodIn_app (goodIn_of _ (by decide +kernel)) ggX9_isOf_X1_areOf
theorem dX9_isOf_0 : decode cX9_isOf 0 = .ok (.aload_n 0, 1) := by decide +kernel
theorem dX9_isOf_1 : decode cX9_isOf 1 = .ok (.getfield 12, 3) := by decide +kernel
theorem dX9_isOf_4 : decode cX9_isOf 4 = .ok (.iload_n 1, 1) := by decide +kernel
theorem dX9_isOf_5 : decode cX9_isOf 5 = .ok (.invokevirtual 62, 3) := by decide +kernel
theorem dX9_isOf_8 : decode cX9_isOf 8 = .ok (.ifCond .eq 12, 3) := by decide +kernel
theorem dX9_isOf_11 : decode cX9_isOf 11 = .ok (.iload_n 2, 1) := by decide +kernel
theorem dX9_isOf_12 : decode cX9_isOf 12 = .ok (.iconst 0, 1) := by decide +kernel
theorem dX9_isOf_13 : decode cX9_isOf 13 = .ok (.iconst 3, 1) := by decide +kernel
theorem dX9_isOf_14 : decode cX9_isOf 14 = .ok (.invokestatic 48, 3) := by decide +kernel
theorem dX9_isOf_17 : decode cX9_isOf 17 = .ok (.ifCond .ne 6, 3) := by decide +kernel
theorem dX9_isOf_20 : decode cX9_isOf 20 = .ok (.ldc 52, 2) := by decide +kernel
theorem dX9_isOf_22 : decode cX9_isOf 22 = .ok (.ireturn, 1) := by decide +kernel
theorem dX9_isOf_23 : decode cX9_isOf 23 = .ok (.aload_n 0, 1) := by decide +kernel
theorem dX9_isOf_24 : decode cX9_isOf 24 = .ok (.getfield 12, 3) := by decide +kernel
theorem dX9_isOf_27 : decode cX9_isOf 27 = .ok (.iload_n 1, 1) := by decide +kernel
theorem dX9_isOf_28 : decode cX9_isOf 28 = .ok (.iload_n 2, 1) := by decide +kernel
theorem dX9_isOf_29 : decode cX9_isOf 29 = .ok (.invokevirtual 66, 3) := by decide +kernel
theorem dX9_isOf_32 : decode cX9_isOf 32 = .ok (.ifCond .eq 7, 3) := by decide +kernel
theorem dX9_isOf_35 : decode cX9_isOf 35 = .ok (.iconst 1, 1) := by decide +kernel
theorem dX9_isOf_36 : decode cX9_isOf 36 = .ok (.goto 4, 3) := by decide +kernel
theorem dX9_isOf_39 : decode cX9_isOf 39 = .ok (.iconst 0, 1) := by decide +kernel
theorem dX9_isOf_40 : decode cX9_isOf 40 = .ok (.ireturn, 1) := by decide +kernel
set_option maxRecDepth 20000 in
theorem ggX9_way_X1_hasTwo : GoodIn wsX9_way wsX1_hasTwo := goodIn_r _ [7, 8, 9, 10, 6, 11, 12, 32, 33, 34, 35, 36, 37] (by decide +kernel) (by decide +kernel)
set_option maxRecDepth 20000 in
theorem gX9_way_X1_hasTwo : GoodIn wsX9_way (wsV RX9 70 RX1 yX1_hasTwo wsX1_hasTwo) := goodIn_app (goodIn_of _ (by decide +kernel)) ggX9_way_X1_hasTwo
set_option maxRecDepth 20000 in
theorem ggX9_way_X9_within : GoodIn wsX9_way wsX9_within := goodIn_r _ [16] (by decide +kernel) (by decide +kernel)
set_option maxRecDepth 20000 in
theorem gX9_way_X9_within : GoodIn wsX9_way (va_wsS RX9 48 yX9_within wsX9_within) := goodIn_app (goodIn_of _ (by decide +kernel)) ggX9_way_X9_within
set_option maxRecDepth 20000 in
theorem ggX9_way_X3_become : GoodIn wsX9_way wsX3_become := goodIn_r _ [21, 22, 23, 24, 25, 20, 26, 38] (by decide +kernel) (by decide +kernel)
set_option maxRecDepth 20000 in
theorem gX9_way_X3_become : GoodIn wsX9_way (wsV RX9 77 RX3 yX3_become wsX3_become) := goodIn_app (goodIn_of _ (by decide +kernel)) ggX9_way_X3_become
theorem dX9_way_0 : decode cX9_way 0 = .ok (.aload_n 0, 1) := by decide +kernel
theorem dX9_way_1 : decode cX9_way 1 = .ok (.getfield 12, 3) := by decide +kernel
theorem dX9_way_4 : decode cX9_way 4 = .ok (.iload_n 1, 1) := by decide +kernel
theorem dX9_way_5 : decode cX9_way 5 = .ok (.iload_n 2, 1) := by decide +kernel
theorem dX9_way_6 : decode cX9_way 6 = .ok (.invokevirtual 70, 3) := by decide +kernel
theorem dX9_way_9 : decode cX9_way 9 = .ok (.ifCond .eq 13, 3) := by decide +kernel
theorem dX9_way_12 : decode cX9_way 12 = .ok (.iload_n 3, 1) := by decide +kernel
theorem dX9_way_13 : decode cX9_way 13 = .ok (.iconst 0, 1) := by decide +kernel
theorem dX9_way_14 : decode cX9_way 14 = .ok (.bipush 99, 2) := by decide +kernel
theorem dX9_way_16 : decode cX9_way 16 = .ok (.invokestatic 48, 3) := by decide +kernel
theorem dX9_way_19 : decode cX9_way 19 = .ok (.ifCond .ne 6, 3) := by decide +kernel
theorem dX9_way_22 : decode cX9_way 22 = .ok (.ldc 52, 2) := by decide +kernel
theorem dX9_way_24 : decode cX9_way 24 = .ok (.ireturn, 1) := by decide +kernel
theorem dX9_way_25 : decode cX9_way 25 = .ok (.aload_n 0, 1) := by decide +kernel
theorem dX9_way_26 : decode cX9_way 26 = .ok (.getfield 12, 3) := by decide +kernel
theorem dX9_way_29 : decode cX9_way 29 = .ok (.getfield 73, 3) := by decide +kernel
theorem dX9_way_32 : decode cX9_way 32 = .ok (.iload_n 1, 1) := by decide +kernel
theorem dX9_way_33 : decode cX9_way 33 = .ok (.iload_n 2, 1) := by decide +kernel
theorem dX9_way_34 : decode cX9_way 34 = .ok (.iload_n 3, 1) := by decide +kernel
theorem dX9_way_35 : decode cX9_way 35 = .ok (.invokevirtual 77, 3) := by decide +kernel
theorem dX9_way_38 : decode cX9_way 38 = .ok (.ireturn, 1) := by decide +kernel
set_option maxRecDepth 20000 in
theorem ggX9_slack_X1_has : GoodIn wsX9_slack wsX1_has := goodIn_r _ [7, 8, 18, 19, 20, 21, 22, 23] (by decide +kernel) (by decide +kernel)
set_option maxRecDepth 20000 in
theorem gX9_slack_X1_has : GoodIn wsX9_slack (wsV RX9 62 RX1 yX1_has wsX1_has) := goodIn_app (goodIn_of _ (by decide +kernel)) ggX9_slack_X1_has
set_option maxRecDepth 20000 in
theorem ggX9_slack_X9_within : GoodIn wsX9_slack wsX9_within := goodIn_r _ [12] (by decide +kernel) (by decide +kernel)
set_option maxRecDepth 20000 in
theorem gX9_slack_X9_within : GoodIn wsX9_slack (va_wsS RX9 48 yX9_within wsX9_within) := goodIn_app (goodIn_of _ (by decide +kernel)) ggX9_slack_X9_within
theorem dX9_slack_0 : decode cX9_slack 0 = .ok (.aload_n 0, 1) := by decide +kernel
theorem dX9_slack_1 : decode cX9_slack 1 = .ok (.getfield 12, 3) := by decide +kernel
theorem dX9_slack_4 : decode cX9_slack 4 = .ok (.iload_n 1, 1) := by decide +kernel
theorem dX9_slack_5 : decode cX9_slack 5 = .ok (.invokevirtual 62, 3) := by decide +kernel
theorem dX9_slack_8 : decode cX9_slack 8 = .ok (.ifCond .eq 13, 3) := by decide +kernel
theorem dX9_slack_11 : decode cX9_slack 11 = .ok (.iload_n 2, 1) := by decide +kernel
theorem dX9_slack_12 : decode cX9_slack 12 = .ok (.iconst 0, 1) := by decide +kernel
theorem dX9_slack_13 : decode cX9_slack 13 = .ok (.bipush 9, 2) := by decide +kernel
theorem dX9_slack_15 : decode cX9_slack 15 = .ok (.invokestatic 48, 3) := by decide +kernel
theorem dX9_slack_18 : decode cX9_slack 18 = .ok (.ifCond .ne 6, 3) := by decide +kernel
theorem dX9_slack_21 : decode cX9_slack 21 = .ok (.ldc 52, 2) := by decide +kernel
theorem dX9_slack_23 : decode cX9_slack 23 = .ok (.ireturn, 1) := by decide +kernel
theorem dX9_slack_24 : decode cX9_slack 24 = .ok (.aload_n 0, 1) := by decide +kernel
theorem dX9_slack_25 : decode cX9_slack 25 = .ok (.getfield 12, 3) := by decide +kernel
theorem dX9_slack_28 : decode cX9_slack 28 = .ok (.getfield 83, 3) := by decide +kernel
theorem dX9_slack_31 : decode cX9_slack 31 = .ok (.iload_n 1, 1) := by decide +kernel
theorem dX9_slack_32 : decode cX9_slack 32 = .ok (.iaload, 1) := by decide +kernel
theorem dX9_slack_33 : decode cX9_slack 33 = .ok (.istore_n 3, 1) := by decide +kernel
theorem dX9_slack_34 : decode cX9_slack 34 = .ok (.aload_n 0, 1) := by decide +kernel
theorem dX9_slack_35 : decode cX9_slack 35 = .ok (.getfield 12, 3) := by decide +kernel
theorem dX9_slack_38 : decode cX9_slack 38 = .ok (.getfield 83, 3) := by decide +kernel
theorem dX9_slack_41 : decode cX9_slack 41 = .ok (.iload_n 1, 1) := by decide +kernel
theorem dX9_slack_42 : decode cX9_slack 42 = .ok (.iload_n 2, 1) := by decide +kernel
theorem dX9_slack_43 : decode cX9_slack 43 = .ok (.iastore, 1) := by decide +kernel
theorem dX9_slack_44 : decode cX9_slack 44 = .ok (.iload_n 3, 1) := by decide +kernel
theorem dX9_slack_45 : decode cX9_slack 45 = .ok (.ireturn, 1) := by decide +kernel
set_option maxRecDepth 20000 in
theorem ggX9_reel_X9_within : GoodIn wsX9_reel wsX9_within := goodIn_r _ [8] (by decide +kernel) (by decide +kernel)
set_option maxRecDepth 20000 in
theorem gX9_reel_X9_within : GoodIn wsX9_reel (va_wsS RX9 48 yX9_within wsX9_within) := goodIn_app (goodIn_of _ (by decide +kernel)) ggX9_reel_X9_within
set_option maxRecDepth 20000 in
theorem ggX9_reel_X2_forget : GoodIn wsX9_reel wsX2_forget := goodIn_r _ [13, 14, 30, 31, 32, 33, 34, 35, 36, 37, 38, 39, 40] (by decide +kernel) (by decide +kernel)
set_option maxRecDepth 20000 in
theorem gX9_reel_X2_forget : GoodIn wsX9_reel (wsV RX9 88 RX2 yX2_forget wsX2_forget) := goodIn_app (goodIn_of _ (by decide +kernel)) ggX9_reel_X2_forget
set_option maxRecDepth 20000 in
theorem ggX9_reel_X5_add : GoodIn wsX9_reel wsX5_add := goodIn_r _ [19, 20, 21, 27, 28, 29] (by decide +kernel) (by decide +kernel)
set_option maxRecDepth 20000 in
theorem gX9_reel_X5_add : GoodIn wsX9_reel (wsV RX9 91 RX5 yX5_add wsX5_add) := goodIn_app (goodIn_of _ (by decide +kernel)) ggX9_reel_X5_add
theorem dX9_reel_0 : decode cX9_reel 0 = .ok (.iload_n 1, 1) := by decide +kernel
theorem dX9_reel_1 : decode cX9_reel 1 = .ok (.iconst 1, 1) := by decide +kernel
theorem dX9_reel_2 : decode cX9_reel 2 = .ok (.sipush 20000, 3) := by decide +kernel
theorem dX9_reel_5 : decode cX9_reel 5 = .ok (.invokestatic 48, 3) := by decide +kernel
theorem dX9_reel_8 : decode cX9_reel 8 = .ok (.ifCond .ne 6, 3) := by decide +kernel
theorem dX9_reel_11 : decode cX9_reel 11 = .ok (.ldc 52, 2) := by decide +kernel
theorem dX9_reel_13 : decode cX9_reel 13 = .ok (.ireturn, 1) := by decide +kernel
theorem dX9_reel_14 : decode cX9_reel 14 = .ok (.aload_n 0, 1) := by decide +kernel
theorem dX9_reel_15 : decode cX9_reel 15 = .ok (.getfield 19, 3) := by decide +kernel
theorem dX9_reel_18 : decode cX9_reel 18 = .ok (.getfield 87, 3) := by decide +kernel
theorem dX9_reel_21 : decode cX9_reel 21 = .ok (.bipush 8, 2) := by decide +kernel
theorem dX9_reel_23 : decode cX9_reel 23 = .ok (.if_icmp .lt 6, 3) := by decide +kernel
theorem dX9_reel_26 : decode cX9_reel 26 = .ok (.ldc 57, 2) := by decide +kernel
theorem dX9_reel_28 : decode cX9_reel 28 = .ok (.ireturn, 1) := by decide +kernel
theorem dX9_reel_29 : decode cX9_reel 29 = .ok (.aload_n 0, 1) := by decide +kernel
theorem dX9_reel_30 : decode cX9_reel 30 = .ok (.getfield 28, 3) := by decide +kernel
theorem dX9_reel_33 : decode cX9_reel 33 = .ok (.invokevirtual 88, 3) := by decide +kernel
theorem dX9_reel_36 : decode cX9_reel 36 = .ok (.aload_n 0, 1) := by decide +kernel
theorem dX9_reel_37 : decode cX9_reel 37 = .ok (.getfield 19, 3) := by decide +kernel
theorem dX9_reel_40 : decode cX9_reel 40 = .ok (.iload_n 1, 1) := by decide +kernel
theorem dX9_reel_41 : decode cX9_reel 41 = .ok (.invokevirtual 91, 3) := by decide +kernel
theorem dX9_reel_44 : decode cX9_reel 44 = .ok (.ireturn, 1) := by decide +kernel
set_option maxRecDepth 20000 in
theorem ggX9_mend_X5_has : GoodIn wsX9_mend wsX5_has := goodIn_r _ [7, 8, 28, 29, 30] (by decide +kernel) (by decide +kernel)
set_option maxRecDepth 20000 in
theorem gX9_mend_X5_has : GoodIn wsX9_mend (wsV RX9 94 RX5 yX5_has wsX5_has) := goodIn_app (goodIn_of _ (by decide +kernel)) ggX9_mend_X5_has
set_option maxRecDepth 20000 in
theorem ggX9_mend_X9_within : GoodIn wsX9_mend wsX9_within := goodIn_r _ [12] (by decide +kernel) (by decide +kernel)
set_option maxRecDepth 20000 in
theorem gX9_mend_X9_within : GoodIn wsX9_mend (va_wsS RX9 48 yX9_within wsX9_within) := goodIn_app (goodIn_of _ (by decide +kernel)) ggX9_mend_X9_within
set_option maxRecDepth 20000 in
theorem ggX9_mend_X5_shorten : GoodIn wsX9_mend wsX5_shorten := goodIn_r _ [16, 17, 18, 19, 20, 21, 22, 28, 29, 30] (by decide +kernel) (by decide +kernel)
set_option maxRecDepth 20000 in
theorem gX9_mend_X5_shorten : GoodIn wsX9_mend (wsV RX9 95 RX5 yX5_shorten wsX5_shorten) := goodIn_app (goodIn_of _ (by decide +kernel)) ggX9_mend_X5_shorten
theorem dX9_mend_0 : decode cX9_mend 0 = .ok (.aload_n 0, 1) := by decide +kernel
theorem dX9_mend_1 : decode cX9_mend 1 = .ok (.getfield 19, 3) := by decide +kernel
theorem dX9_mend_4 : decode cX9_mend 4 = .ok (.iload_n 1, 1) := by decide +kernel
theorem dX9_mend_5 : decode cX9_mend 5 = .ok (.invokevirtual 94, 3) := by decide +kernel
theorem dX9_mend_8 : decode cX9_mend 8 = .ok (.ifCond .eq 14, 3) := by decide +kernel
theorem dX9_mend_11 : decode cX9_mend 11 = .ok (.iload_n 2, 1) := by decide +kernel
theorem dX9_mend_12 : decode cX9_mend 12 = .ok (.iconst 1, 1) := by decide +kernel
theorem dX9_mend_13 : decode cX9_mend 13 = .ok (.sipush 20000, 3) := by decide +kernel
theorem dX9_mend_16 : decode cX9_mend 16 = .ok (.invokestatic 48, 3) := by decide +kernel
theorem dX9_mend_19 : decode cX9_mend 19 = .ok (.ifCond .ne 6, 3) := by decide +kernel
theorem dX9_mend_22 : decode cX9_mend 22 = .ok (.ldc 52, 2) := by decide +kernel
theorem dX9_mend_24 : decode cX9_mend 24 = .ok (.ireturn, 1) := by decide +kernel
theorem dX9_mend_25 : decode cX9_mend 25 = .ok (.aload_n 0, 1) := by decide +kernel
theorem dX9_mend_26 : decode cX9_mend 26 = .ok (.getfield 19, 3) := by decide +kernel
theorem dX9_mend_29 : decode cX9_mend 29 = .ok (.iload_n 1, 1) := by decide +kernel
theorem dX9_mend_30 : decode cX9_mend 30 = .ok (.iload_n 2, 1) := by decide +kernel
theorem dX9_mend_31 : decode cX9_mend 31 = .ok (.invokevirtual 95, 3) := by decide +kernel
theorem dX9_mend_34 : decode cX9_mend 34 = .ok (.ireturn, 1) := by decide +kernel
set_option maxRecDepth 20000 in
theorem ggX9_told_X5_has : GoodIn wsX9_told wsX5_has := goodIn_r _ [7, 8, 23, 24, 25] (by decide +kernel) (by decide +kernel)
set_option maxRecDepth 20000 in
theorem gX9_told_X5_has : GoodIn wsX9_told (wsV RX9 94 RX5 yX5_has wsX5_has) := goodIn_app (goodIn_of _ (by decide +kernel)) ggX9_told_X5_has
set_option maxRecDepth 20000 in
theorem ggX9_told_X5_minutes : GoodIn wsX9_told wsX5_minutes := goodIn_r _ [12, 13, 14, 15, 16, 17, 23, 24, 25] (by decide +kernel) (by decide +kernel)
set_option maxRecDepth 20000 in
theorem gX9_told_X5_minutes : GoodIn wsX9_told (wsV RX9 101 RX5 yX5_minutes wsX5_minutes) := goodIn_app (goodIn_of _ (by decide +kernel)) ggX9_told_X5_minutes
theorem dX9_told_0 : decode cX9_told 0 = .ok (.aload_n 0, 1) := by decide +kernel
theorem dX9_told_1 : decode cX9_told 1 = .ok (.getfield 19, 3) := by decide +kernel
theorem dX9_told_4 : decode cX9_told 4 = .ok (.iload_n 1, 1) := by decide +kernel
theorem dX9_told_5 : decode cX9_told 5 = .ok (.invokevirtual 94, 3) := by decide +kernel
theorem dX9_told_8 : decode cX9_told 8 = .ok (.ifCond .ne 6, 3) := by decide +kernel
theorem dX9_told_11 : decode cX9_told 11 = .ok (.ldc 52, 2) := by decide +kernel
theorem dX9_told_13 : decode cX9_told 13 = .ok (.ireturn, 1) := by decide +kernel
theorem dX9_told_14 : decode cX9_told 14 = .ok (.iload_n 2, 1) := by decide +kernel
theorem dX9_told_15 : decode cX9_told 15 = .ok (.tableswitch 54 0 2 #[25, 35, 44], 25) := by decide +kernel
theorem dX9_told_40 : decode cX9_told 40 = .ok (.aload_n 0, 1) := by decide +kernel
theorem dX9_told_41 : decode cX9_told 41 = .ok (.getfield 19, 3) := by decide +kernel
theorem dX9_told_44 : decode cX9_told 44 = .ok (.getfield 98, 3) := by decide +kernel
theorem dX9_told_47 : decode cX9_told 47 = .ok (.iload_n 1, 1) := by decide +kernel
theorem dX9_told_48 : decode cX9_told 48 = .ok (.iaload, 1) := by decide +kernel
theorem dX9_told_49 : decode cX9_told 49 = .ok (.ireturn, 1) := by decide +kernel
theorem dX9_told_50 : decode cX9_told 50 = .ok (.aload_n 0, 1) := by decide +kernel
theorem dX9_told_51 : decode cX9_told 51 = .ok (.getfield 19, 3) := by decide +kernel
theorem dX9_told_54 : decode cX9_told 54 = .ok (.iload_n 1, 1) := by decide +kernel
theorem dX9_told_55 : decode cX9_told 55 = .ok (.invokevirtual 101, 3) := by decide +kernel
theorem dX9_told_58 : decode cX9_told 58 = .ok (.ireturn, 1) := by decide +kernel
theorem dX9_told_59 : decode cX9_told 59 = .ok (.aload_n 0, 1) := by decide +kernel
theorem dX9_told_60 : decode cX9_told 60 = .ok (.getfield 19, 3) := by decide +kernel
theorem dX9_told_63 : decode cX9_told 63 = .ok (.getfield 104, 3) := by decide +kernel
theorem dX9_told_66 : decode cX9_told 66 = .ok (.iload_n 1, 1) := by decide +kernel
theorem dX9_told_67 : decode cX9_told 67 = .ok (.iaload, 1) := by decide +kernel
theorem dX9_told_68 : decode cX9_told 68 = .ok (.ireturn, 1) := by decide +kernel
theorem dX9_told_69 : decode cX9_told 69 = .ok (.ldc 52, 2) := by decide +kernel
theorem dX9_told_71 : decode cX9_told 71 = .ok (.ireturn, 1) := by decide +kernel
set_option maxRecDepth 20000 in
theorem ggX9_order_X2_canBeOrder : GoodIn wsX9_order wsX2_canBeOrder := goodIn_r _ [9, 10, 11, 12, 13, 14, 15, 16, 36, 37, 38, 39, 40, 41, 42, 43, 44, 45, 46, 47, 48, 49, 50, 51, 52] (by decide +kernel) (by decide +kernel)
set_option maxRecDepth 20000 in
theorem gX9_order_X2_canBeOrder : GoodIn wsX9_order (wsV RX9 107 RX2 yX2_canBeOrder wsX2_canBeOrder) := goodIn_app (goodIn_of _ (by decide +kernel)) ggX9_order_X2_canBeOrder
set_option maxRecDepth 20000 in
theorem ggX9_order_X2_takeOrder : GoodIn wsX9_order wsX2_takeOrder := goodIn_r _ [20, 21, 22, 23, 24, 25, 26, 27, 36, 37, 38, 39, 40, 41, 42, 43, 44, 45, 46] (by decide +kernel) (by decide +kernel)
set_option maxRecDepth 20000 in
theorem gX9_order_X2_takeOrder : GoodIn wsX9_order (wsV RX9 111 RX2 yX2_takeOrder wsX2_takeOrder) := goodIn_app (goodIn_of _ (by decide +kernel)) ggX9_order_X2_takeOrder
theorem dX9_order_0 : decode cX9_order 0 = .ok (.aload_n 0, 1) := by decide +kernel
theorem dX9_order_1 : decode cX9_order 1 = .ok (.getfield 28, 3) := by decide +kernel
theorem dX9_order_4 : decode cX9_order 4 = .ok (.iload_n 1, 1) := by decide +kernel
theorem dX9_order_5 : decode cX9_order 5 = .ok (.invokevirtual 107, 3) := by decide +kernel
theorem dX9_order_8 : decode cX9_order 8 = .ok (.ifCond .ne 6, 3) := by decide +kernel
theorem dX9_order_11 : decode cX9_order 11 = .ok (.ldc 52, 2) := by decide +kernel
theorem dX9_order_13 : decode cX9_order 13 = .ok (.ireturn, 1) := by decide +kernel
theorem dX9_order_14 : decode cX9_order 14 = .ok (.aload_n 0, 1) := by decide +kernel
theorem dX9_order_15 : decode cX9_order 15 = .ok (.getfield 19, 3) := by decide +kernel
theorem dX9_order_18 : decode cX9_order 18 = .ok (.getfield 87, 3) := by decide +kernel
theorem dX9_order_21 : decode cX9_order 21 = .ok (.ifCond .ne 8, 3) := by decide +kernel
theorem dX9_order_24 : decode cX9_order 24 = .ok (.ldc 110, 2) := by decide +kernel
theorem dX9_order_26 : decode cX9_order 26 = .ok (.goto 11, 3) := by decide +kernel
theorem dX9_order_29 : decode cX9_order 29 = .ok (.aload_n 0, 1) := by decide +kernel
theorem dX9_order_30 : decode cX9_order 30 = .ok (.getfield 28, 3) := by decide +kernel
theorem dX9_order_33 : decode cX9_order 33 = .ok (.iload_n 1, 1) := by decide +kernel
theorem dX9_order_34 : decode cX9_order 34 = .ok (.invokevirtual 111, 3) := by decide +kernel
theorem dX9_order_37 : decode cX9_order 37 = .ok (.ireturn, 1) := by decide +kernel
set_option maxRecDepth 20000 in
theorem ggX9_start_X2_has : GoodIn wsX9_start wsX2_has := goodIn_r _ [7, 8, 47, 48, 49, 50, 51, 52, 53, 54, 55, 56, 57] (by decide +kernel) (by decide +kernel)
set_option maxRecDepth 20000 in
theorem gX9_start_X2_has : GoodIn wsX9_start (wsV RX9 114 RX2 yX2_has wsX2_has) := goodIn_app (goodIn_of _ (by decide +kernel)) ggX9_start_X2_has
set_option maxRecDepth 20000 in
theorem ggX9_start_X2_reckonStarts : GoodIn wsX9_start wsX2_reckonStarts := goodIn_r _ [12, 13, 14, 8, 15, 16, 17, 18, 19, 20, 21, 22, 23, 24, 25, 26, 27, 28, 29, 30, 31, 32, 6, 33, 34, 35, 36, 37, 38, 39, 40, 41, 47, 48, 49, 50, 51, 52, 53, 54, 55, 56, 57, 58, 59, 60, 61, 62, 63, 64, 65, 66, 67] (by decide +kernel) (by decide +kernel)
set_option maxRecDepth 20000 in
theorem gX9_start_X2_reckonStarts : GoodIn wsX9_start (wsV RX9 115 RX2 yX2_reckonStarts wsX2_reckonStarts) := goodIn_app (goodIn_of _ (by decide +kernel)) ggX9_start_X2_reckonStarts
theorem dX9_start_0 : decode cX9_start 0 = .ok (.aload_n 0, 1) := by decide +kernel
theorem dX9_start_1 : decode cX9_start 1 = .ok (.getfield 28, 3) := by decide +kernel
theorem dX9_start_4 : decode cX9_start 4 = .ok (.iload_n 1, 1) := by decide +kernel
theorem dX9_start_5 : decode cX9_start 5 = .ok (.invokevirtual 114, 3) := by decide +kernel
theorem dX9_start_8 : decode cX9_start 8 = .ok (.ifCond .ne 6, 3) := by decide +kernel
theorem dX9_start_11 : decode cX9_start 11 = .ok (.ldc 52, 2) := by decide +kernel
theorem dX9_start_13 : decode cX9_start 13 = .ok (.ireturn, 1) := by decide +kernel
theorem dX9_start_14 : decode cX9_start 14 = .ok (.aload_n 0, 1) := by decide +kernel
theorem dX9_start_15 : decode cX9_start 15 = .ok (.getfield 28, 3) := by decide +kernel
theorem dX9_start_18 : decode cX9_start 18 = .ok (.invokevirtual 115, 3) := by decide +kernel
theorem dX9_start_21 : decode cX9_start 21 = .ok (.aload_n 0, 1) := by decide +kernel
theorem dX9_start_22 : decode cX9_start 22 = .ok (.getfield 28, 3) := by decide +kernel
theorem dX9_start_25 : decode cX9_start 25 = .ok (.getfield 118, 3) := by decide +kernel
theorem dX9_start_28 : decode cX9_start 28 = .ok (.iload_n 1, 1) := by decide +kernel
theorem dX9_start_29 : decode cX9_start 29 = .ok (.iaload, 1) := by decide +kernel
theorem dX9_start_30 : decode cX9_start 30 = .ok (.ireturn, 1) := by decide +kernel
set_option maxRecDepth 20000 in
theorem ggX9_ride_X2_hasRide : GoodIn wsX9_ride wsX2_hasRide := goodIn_r _ [7, 8, 9, 10, 6, 11, 12, 13, 83, 84, 85, 86, 87, 88, 89, 90, 91, 92, 93, 94, 95, 96] (by decide +kernel) (by decide +kernel)
set_option maxRecDepth 20000 in
theorem gX9_ride_X2_hasRide : GoodIn wsX9_ride (wsV RX9 121 RX2 yX2_hasRide wsX2_hasRide) := goodIn_app (goodIn_of _ (by decide +kernel)) ggX9_ride_X2_hasRide
set_option maxRecDepth 20000 in
theorem ggX9_ride_X2_listRides : GoodIn wsX9_ride wsX2_listRides := goodIn_r _ [17, 18, 12, 19, 13, 20, 21, 22, 23, 6, 24, 25, 26, 27, 28, 29, 30, 31, 32, 33, 34, 35, 36, 37, 38, 39, 40, 41, 42, 43, 44, 45, 46, 47, 48, 49, 50, 51, 52, 53, 54, 55, 56, 57, 58, 59, 60, 61, 62, 63, 64, 65, 66, 67, 68, 83, 84, 85, 86, 87, 88, 89, 90, 91, 92, 93, 94, 95, 96, 97, 98, 99, 100, 101, 102, 103, 74, 75, 76, 77, 78, 79, 80, 81, 82] (by decide +kernel) (by decide +kernel)
set_option maxRecDepth 20000 in
theorem gX9_ride_X2_listRides : GoodIn wsX9_ride (wsV RX9 124 RX2 yX2_listRides wsX2_listRides) := goodIn_app (goodIn_of _ (by decide +kernel)) ggX9_ride_X2_listRides
theorem dX9_ride_0 : decode cX9_ride 0 = .ok (.aload_n 0, 1) := by decide +kernel
theorem dX9_ride_1 : decode cX9_ride 1 = .ok (.getfield 28, 3) := by decide +kernel
theorem dX9_ride_4 : decode cX9_ride 4 = .ok (.iload_n 1, 1) := by decide +kernel
theorem dX9_ride_5 : decode cX9_ride 5 = .ok (.invokevirtual 121, 3) := by decide +kernel
theorem dX9_ride_8 : decode cX9_ride 8 = .ok (.ifCond .ne 6, 3) := by decide +kernel
theorem dX9_ride_11 : decode cX9_ride 11 = .ok (.ldc 52, 2) := by decide +kernel
theorem dX9_ride_13 : decode cX9_ride 13 = .ok (.ireturn, 1) := by decide +kernel
theorem dX9_ride_14 : decode cX9_ride 14 = .ok (.aload_n 0, 1) := by decide +kernel
theorem dX9_ride_15 : decode cX9_ride 15 = .ok (.getfield 28, 3) := by decide +kernel
theorem dX9_ride_18 : decode cX9_ride 18 = .ok (.invokevirtual 124, 3) := by decide +kernel
theorem dX9_ride_21 : decode cX9_ride 21 = .ok (.astore_n 3, 1) := by decide +kernel
theorem dX9_ride_22 : decode cX9_ride 22 = .ok (.iload_n 2, 1) := by decide +kernel
theorem dX9_ride_23 : decode cX9_ride 23 = .ok (.tableswitch 68 0 4 #[33, 40, 47, 54, 61], 33) := by decide +kernel
theorem dX9_ride_56 : decode cX9_ride 56 = .ok (.aload_n 3, 1) := by decide +kernel
theorem dX9_ride_57 : decode cX9_ride 57 = .ok (.getfield 128, 3) := by decide +kernel
theorem dX9_ride_60 : decode cX9_ride 60 = .ok (.iload_n 1, 1) := by decide +kernel
theorem dX9_ride_61 : decode cX9_ride 61 = .ok (.iaload, 1) := by decide +kernel
theorem dX9_ride_62 : decode cX9_ride 62 = .ok (.ireturn, 1) := by decide +kernel
theorem dX9_ride_63 : decode cX9_ride 63 = .ok (.aload_n 3, 1) := by decide +kernel
theorem dX9_ride_64 : decode cX9_ride 64 = .ok (.getfield 132, 3) := by decide +kernel
theorem dX9_ride_67 : decode cX9_ride 67 = .ok (.iload_n 1, 1) := by decide +kernel
theorem dX9_ride_68 : decode cX9_ride 68 = .ok (.iaload, 1) := by decide +kernel
theorem dX9_ride_69 : decode cX9_ride 69 = .ok (.ireturn, 1) := by decide +kernel
theorem dX9_ride_70 : decode cX9_ride 70 = .ok (.aload_n 3, 1) := by decide +kernel
theorem dX9_ride_71 : decode cX9_ride 71 = .ok (.getfield 135, 3) := by decide +kernel
theorem dX9_ride_74 : decode cX9_ride 74 = .ok (.iload_n 1, 1) := by decide +kernel
theorem dX9_ride_75 : decode cX9_ride 75 = .ok (.iaload, 1) := by decide +kernel
theorem dX9_ride_76 : decode cX9_ride 76 = .ok (.ireturn, 1) := by decide +kernel
theorem dX9_ride_77 : decode cX9_ride 77 = .ok (.aload_n 3, 1) := by decide +kernel
theorem dX9_ride_78 : decode cX9_ride 78 = .ok (.getfield 138, 3) := by decide +kernel
theorem dX9_ride_81 : decode cX9_ride 81 = .ok (.iload_n 1, 1) := by decide +kernel
theorem dX9_ride_82 : decode cX9_ride 82 = .ok (.iaload, 1) := by decide +kernel
theorem dX9_ride_83 : decode cX9_ride 83 = .ok (.ireturn, 1) := by decide +kernel
theorem dX9_ride_84 : decode cX9_ride 84 = .ok (.aload_n 3, 1) := by decide +kernel
theorem dX9_ride_85 : decode cX9_ride 85 = .ok (.getfield 141, 3) := by decide +kernel
theorem dX9_ride_88 : decode cX9_ride 88 = .ok (.iload_n 1, 1) := by decide +kernel
theorem dX9_ride_89 : decode cX9_ride 89 = .ok (.iaload, 1) := by decide +kernel
theorem dX9_ride_90 : decode cX9_ride 90 = .ok (.ireturn, 1) := by decide +kernel
theorem dX9_ride_91 : decode cX9_ride 91 = .ok (.ldc 52, 2) := by decide +kernel
theorem dX9_ride_93 : decode cX9_ride 93 = .ok (.ireturn, 1) := by decide +kernel
set_option maxRecDepth 20000 in
theorem ggX9_riders_X2_listRides : GoodIn wsX9_riders wsX2_listRides := goodIn_r _ [6, 7, 8, 9, 10, 11, 12, 13, 14, 5, 15, 16, 17, 18, 19, 20, 21, 22, 23, 24, 25, 26, 27, 28, 29, 30, 31, 32, 33, 34, 35, 36, 37, 38, 39, 40, 41, 42, 43, 44, 45, 46, 47, 48, 49, 50, 51, 52, 53, 54, 55, 56, 57, 58, 59, 83, 84, 85, 86, 87, 88, 89, 90, 91, 92, 93, 94, 95, 96, 97, 98, 99, 100, 101, 102, 103, 104, 105, 106, 107, 108, 109, 110, 111, 112] (by decide +kernel) (by decide +kernel)
set_option maxRecDepth 20000 in
theorem gX9_riders_X2_listRides : GoodIn wsX9_riders (wsV RX9 124 RX2 yX2_listRides wsX2_listRides) := goodIn_app (goodIn_of _ (by decide +kernel)) ggX9_riders_X2_listRides
set_option maxRecDepth 20000 in
theorem ggX9_riders_X6_fewestRiders : GoodIn wsX9_riders wsX6_fewestRiders := goodIn_r _ [63, 64, 65, 66, 47, 67, 68, 69, 70, 71, 72, 45, 73, 74, 75, 76, 77, 56, 57, 58, 55, 54, 59, 37, 38, 39, 40, 41, 104, 105, 106, 107, 108, 109, 110, 111, 112, 103] (by decide +kernel) (by decide +kernel)
set_option maxRecDepth 20000 in
theorem gX9_riders_X6_fewestRiders : GoodIn wsX9_riders (wsV RX9 144 RX6 yX6_fewestRiders wsX6_fewestRiders) := goodIn_app (goodIn_of _ (by decide +kernel)) ggX9_riders_X6_fewestRiders
theorem dX9_riders_0 : decode cX9_riders 0 = .ok (.aload_n 0, 1) := by decide +kernel
theorem dX9_riders_1 : decode cX9_riders 1 = .ok (.getfield 28, 3) := by decide +kernel
theorem dX9_riders_4 : decode cX9_riders 4 = .ok (.invokevirtual 124, 3) := by decide +kernel
theorem dX9_riders_7 : decode cX9_riders 7 = .ok (.invokevirtual 144, 3) := by decide +kernel
theorem dX9_riders_10 : decode cX9_riders 10 = .ok (.ireturn, 1) := by decide +kernel
set_option maxRecDepth 20000 in
theorem ggX9_late_X2_hasRide : GoodIn wsX9_late wsX2_hasRide := goodIn_r _ [7, 8, 9, 10, 6, 11, 12, 13, 23, 24, 25, 26, 27, 28, 29, 30, 31, 32, 33, 34, 35, 36] (by decide +kernel) (by decide +kernel)
set_option maxRecDepth 20000 in
theorem gX9_late_X2_hasRide : GoodIn wsX9_late (wsV RX9 121 RX2 yX2_hasRide wsX2_hasRide) := goodIn_app (goodIn_of _ (by decide +kernel)) ggX9_late_X2_hasRide
set_option maxRecDepth 20000 in
theorem ggX9_late_X9_within : GoodIn wsX9_late wsX9_within := goodIn_r _ [17] (by decide +kernel) (by decide +kernel)
set_option maxRecDepth 20000 in
theorem gX9_late_X9_within : GoodIn wsX9_late (va_wsS RX9 48 yX9_within wsX9_within) := goodIn_app (goodIn_of _ (by decide +kernel)) ggX9_late_X9_within
theorem dX9_late_0 : decode cX9_late 0 = .ok (.aload_n 0, 1) := by decide +kernel
theorem dX9_late_1 : decode cX9_late 1 = .ok (.getfield 28, 3) := by decide +kernel
theorem dX9_late_4 : decode cX9_late 4 = .ok (.iload_n 1, 1) := by decide +kernel
theorem dX9_late_5 : decode cX9_late 5 = .ok (.invokevirtual 121, 3) := by decide +kernel
theorem dX9_late_8 : decode cX9_late 8 = .ok (.ifCond .eq 14, 3) := by decide +kernel
theorem dX9_late_11 : decode cX9_late 11 = .ok (.iload_n 2, 1) := by decide +kernel
theorem dX9_late_12 : decode cX9_late 12 = .ok (.iconst 0, 1) := by decide +kernel
theorem dX9_late_13 : decode cX9_late 13 = .ok (.sipush 200, 3) := by decide +kernel
theorem dX9_late_16 : decode cX9_late 16 = .ok (.invokestatic 48, 3) := by decide +kernel
theorem dX9_late_19 : decode cX9_late 19 = .ok (.ifCond .ne 6, 3) := by decide +kernel
theorem dX9_late_22 : decode cX9_late 22 = .ok (.ldc 52, 2) := by decide +kernel
theorem dX9_late_24 : decode cX9_late 24 = .ok (.ireturn, 1) := by decide +kernel
theorem dX9_late_25 : decode cX9_late 25 = .ok (.aload_n 0, 1) := by decide +kernel
theorem dX9_late_26 : decode cX9_late 26 = .ok (.getfield 28, 3) := by decide +kernel
theorem dX9_late_29 : decode cX9_late 29 = .ok (.getfield 148, 3) := by decide +kernel
theorem dX9_late_32 : decode cX9_late 32 = .ok (.iload_n 1, 1) := by decide +kernel
theorem dX9_late_33 : decode cX9_late 33 = .ok (.iaload, 1) := by decide +kernel
theorem dX9_late_34 : decode cX9_late 34 = .ok (.istore_n 3, 1) := by decide +kernel
theorem dX9_late_35 : decode cX9_late 35 = .ok (.aload_n 0, 1) := by decide +kernel
theorem dX9_late_36 : decode cX9_late 36 = .ok (.getfield 28, 3) := by decide +kernel
theorem dX9_late_39 : decode cX9_late 39 = .ok (.getfield 148, 3) := by decide +kernel
theorem dX9_late_42 : decode cX9_late 42 = .ok (.iload_n 1, 1) := by decide +kernel
theorem dX9_late_43 : decode cX9_late 43 = .ok (.iload_n 2, 1) := by decide +kernel
theorem dX9_late_44 : decode cX9_late 44 = .ok (.iastore, 1) := by decide +kernel
theorem dX9_late_45 : decode cX9_late 45 = .ok (.iload_n 3, 1) := by decide +kernel
theorem dX9_late_46 : decode cX9_late 46 = .ok (.ireturn, 1) := by decide +kernel
set_option maxRecDepth 20000 in
theorem ggX9_begins_X2_has : GoodIn wsX9_begins wsX2_has := goodIn_r _ [8, 9, 88, 89, 90, 91, 92, 93, 94, 95, 96, 97, 98] (by decide +kernel) (by decide +kernel)
set_option maxRecDepth 20000 in
theorem gX9_begins_X2_has : GoodIn wsX9_begins (wsV RX9 114 RX2 yX2_has wsX2_has) := goodIn_app (goodIn_of _ (by decide +kernel)) ggX9_begins_X2_has
set_option maxRecDepth 20000 in
theorem ggX9_begins_X5_has : GoodIn wsX9_begins wsX5_has := goodIn_r _ [14, 15, 99, 100, 101] (by decide +kernel) (by decide +kernel)
set_option maxRecDepth 20000 in
theorem gX9_begins_X5_has : GoodIn wsX9_begins (wsV RX9 94 RX5 yX5_has wsX5_has) := goodIn_app (goodIn_of _ (by decide +kernel)) ggX9_begins_X5_has
set_option maxRecDepth 20000 in
theorem ggX9_begins_X2_reckonShows : GoodIn wsX9_begins wsX2_reckonShows := goodIn_r _ [19, 9, 20, 21, 22, 7, 23, 24, 25, 26, 27, 28, 13, 29, 15, 30, 31, 32, 33, 34, 35, 36, 37, 38, 39, 40, 41, 42, 43, 44, 45, 46, 47, 48, 49, 50, 51, 52, 53, 54, 55, 56, 57, 58, 59, 60, 61, 62, 63, 64, 65, 66, 67, 68, 69, 70, 71, 72, 73, 74, 75, 76, 77, 78, 79, 80, 81, 88, 89, 90, 91, 92, 93, 94, 95, 96, 97, 98, 99, 100, 101, 102, 103, 104, 105, 106, 107, 108] (by decide +kernel) (by decide +kernel)
set_option maxRecDepth 20000 in
theorem gX9_begins_X2_reckonShows : GoodIn wsX9_begins (wsV RX9 151 RX2 yX2_reckonShows wsX2_reckonShows) := goodIn_app (goodIn_of _ (by decide +kernel)) ggX9_begins_X2_reckonShows
set_option maxRecDepth 20000 in
theorem ggX9_begins_X2_cell : GoodIn wsX9_begins wsX2_cell := goodIn_r _ [62] (by decide +kernel) (by decide +kernel)
set_option maxRecDepth 20000 in
theorem gX9_begins_X2_cell : GoodIn wsX9_begins (va_wsS RX9 155 yX2_cell wsX2_cell) := goodIn_app (goodIn_of _ (by decide +kernel)) ggX9_begins_X2_cell
theorem dX9_begins_0 : decode cX9_begins 0 = .ok (.aload_n 0, 1) := by decide +kernel
theorem dX9_begins_1 : decode cX9_begins 1 = .ok (.getfield 28, 3) := by decide +kernel
theorem dX9_begins_4 : decode cX9_begins 4 = .ok (.iload_n 1, 1) := by decide +kernel
theorem dX9_begins_5 : decode cX9_begins 5 = .ok (.invokevirtual 114, 3) := by decide +kernel
theorem dX9_begins_8 : decode cX9_begins 8 = .ok (.ifCond .eq 14, 3) := by decide +kernel
theorem dX9_begins_11 : decode cX9_begins 11 = .ok (.aload_n 0, 1) := by decide +kernel
theorem dX9_begins_12 : decode cX9_begins 12 = .ok (.getfield 19, 3) := by decide +kernel
theorem dX9_begins_15 : decode cX9_begins 15 = .ok (.iload_n 2, 1) := by decide +kernel
theorem dX9_begins_16 : decode cX9_begins 16 = .ok (.invokevirtual 94, 3) := by decide +kernel
theorem dX9_begins_19 : decode cX9_begins 19 = .ok (.ifCond .ne 6, 3) := by decide +kernel
theorem dX9_begins_22 : decode cX9_begins 22 = .ok (.ldc 52, 2) := by decide +kernel
theorem dX9_begins_24 : decode cX9_begins 24 = .ok (.ireturn, 1) := by decide +kernel
theorem dX9_begins_25 : decode cX9_begins 25 = .ok (.aload_n 0, 1) := by decide +kernel
theorem dX9_begins_26 : decode cX9_begins 26 = .ok (.getfield 28, 3) := by decide +kernel
theorem dX9_begins_29 : decode cX9_begins 29 = .ok (.invokevirtual 151, 3) := by decide +kernel
theorem dX9_begins_32 : decode cX9_begins 32 = .ok (.aload_n 0, 1) := by decide +kernel
theorem dX9_begins_33 : decode cX9_begins 33 = .ok (.getfield 28, 3) := by decide +kernel
theorem dX9_begins_36 : decode cX9_begins 36 = .ok (.getfield 154, 3) := by decide +kernel
theorem dX9_begins_39 : decode cX9_begins 39 = .ok (.iload_n 1, 1) := by decide +kernel
theorem dX9_begins_40 : decode cX9_begins 40 = .ok (.iload_n 2, 1) := by decide +kernel
theorem dX9_begins_41 : decode cX9_begins 41 = .ok (.invokestatic 155, 3) := by decide +kernel
theorem dX9_begins_44 : decode cX9_begins 44 = .ok (.iaload, 1) := by decide +kernel
theorem dX9_begins_45 : decode cX9_begins 45 = .ok (.ireturn, 1) := by decide +kernel
set_option maxRecDepth 20000 in
theorem ggX9_waited_X2_has : GoodIn wsX9_waited wsX2_has := goodIn_r _ [7, 8, 86, 87, 88, 89, 90, 91, 92, 93, 94, 95, 96] (by decide +kernel) (by decide +kernel)
set_option maxRecDepth 20000 in
theorem gX9_waited_X2_has : GoodIn wsX9_waited (wsV RX9 114 RX2 yX2_has wsX2_has) := goodIn_app (goodIn_of _ (by decide +kernel)) ggX9_waited_X2_has
set_option maxRecDepth 20000 in
theorem ggX9_waited_X2_reckonShows : GoodIn wsX9_waited wsX2_reckonShows := goodIn_r _ [12, 8, 13, 14, 15, 6, 16, 17, 18, 19, 20, 21, 22, 23, 24, 25, 26, 27, 28, 29, 30, 31, 32, 33, 34, 35, 36, 37, 38, 39, 40, 41, 42, 43, 44, 45, 46, 47, 48, 49, 50, 51, 52, 53, 54, 55, 56, 57, 58, 59, 60, 61, 62, 63, 64, 65, 66, 67, 68, 69, 70, 71, 72, 73, 74, 75, 76, 86, 87, 88, 89, 90, 91, 92, 93, 94, 95, 96, 97, 98, 99, 100, 101, 102, 103, 104, 105, 106] (by decide +kernel) (by decide +kernel)
set_option maxRecDepth 20000 in
theorem gX9_waited_X2_reckonShows : GoodIn wsX9_waited (wsV RX9 151 RX2 yX2_reckonShows wsX2_reckonShows) := goodIn_app (goodIn_of _ (by decide +kernel)) ggX9_waited_X2_reckonShows
set_option maxRecDepth 20000 in
theorem ggX9_waited_X2_waitedAt : GoodIn wsX9_waited wsX2_waitedAt := goodIn_r _ [80, 38, 39, 17, 53, 52, 26, 27, 28, 55, 56, 6, 57, 86, 87, 88, 89, 90, 91, 92, 93, 94, 95, 96, 100, 101, 102, 103, 104, 105, 97, 98, 99] (by decide +kernel) (by decide +kernel)
set_option maxRecDepth 20000 in
theorem gX9_waited_X2_waitedAt : GoodIn wsX9_waited (wsV RX9 158 RX2 yX2_waitedAt wsX2_waitedAt) := goodIn_app (goodIn_of _ (by decide +kernel)) ggX9_waited_X2_waitedAt
theorem dX9_waited_0 : decode cX9_waited 0 = .ok (.aload_n 0, 1) := by decide +kernel
theorem dX9_waited_1 : decode cX9_waited 1 = .ok (.getfield 28, 3) := by decide +kernel
theorem dX9_waited_4 : decode cX9_waited 4 = .ok (.iload_n 1, 1) := by decide +kernel
theorem dX9_waited_5 : decode cX9_waited 5 = .ok (.invokevirtual 114, 3) := by decide +kernel
theorem dX9_waited_8 : decode cX9_waited 8 = .ok (.ifCond .ne 6, 3) := by decide +kernel
theorem dX9_waited_11 : decode cX9_waited 11 = .ok (.ldc 52, 2) := by decide +kernel
theorem dX9_waited_13 : decode cX9_waited 13 = .ok (.ireturn, 1) := by decide +kernel
theorem dX9_waited_14 : decode cX9_waited 14 = .ok (.aload_n 0, 1) := by decide +kernel
theorem dX9_waited_15 : decode cX9_waited 15 = .ok (.getfield 28, 3) := by decide +kernel
theorem dX9_waited_18 : decode cX9_waited 18 = .ok (.invokevirtual 151, 3) := by decide +kernel
theorem dX9_waited_21 : decode cX9_waited 21 = .ok (.aload_n 0, 1) := by decide +kernel
theorem dX9_waited_22 : decode cX9_waited 22 = .ok (.getfield 28, 3) := by decide +kernel
theorem dX9_waited_25 : decode cX9_waited 25 = .ok (.iload_n 1, 1) := by decide +kernel
theorem dX9_waited_26 : decode cX9_waited 26 = .ok (.invokevirtual 158, 3) := by decide +kernel
theorem dX9_waited_29 : decode cX9_waited 29 = .ok (.ireturn, 1) := by decide +kernel
set_option maxRecDepth 20000 in
theorem ggX9_cause_X2_has : GoodIn wsX9_cause wsX2_has := goodIn_r _ [8, 9, 88, 89, 90, 91, 92, 93, 94, 95, 96, 97, 98] (by decide +kernel) (by decide +kernel)
set_option maxRecDepth 20000 in
theorem gX9_cause_X2_has : GoodIn wsX9_cause (wsV RX9 114 RX2 yX2_has wsX2_has) := goodIn_app (goodIn_of _ (by decide +kernel)) ggX9_cause_X2_has
set_option maxRecDepth 20000 in
theorem ggX9_cause_X5_has : GoodIn wsX9_cause wsX5_has := goodIn_r _ [14, 15, 99, 100, 101] (by decide +kernel) (by decide +kernel)
set_option maxRecDepth 20000 in
theorem gX9_cause_X5_has : GoodIn wsX9_cause (wsV RX9 94 RX5 yX5_has wsX5_has) := goodIn_app (goodIn_of _ (by decide +kernel)) ggX9_cause_X5_has
set_option maxRecDepth 20000 in
theorem ggX9_cause_X2_reckonShows : GoodIn wsX9_cause wsX2_reckonShows := goodIn_r _ [19, 9, 20, 21, 22, 7, 23, 24, 25, 26, 27, 28, 13, 29, 15, 30, 31, 32, 33, 34, 35, 36, 37, 38, 39, 40, 41, 42, 43, 44, 45, 46, 47, 48, 49, 50, 51, 52, 53, 54, 55, 56, 57, 58, 59, 60, 61, 62, 63, 64, 65, 66, 67, 68, 69, 70, 71, 72, 73, 74, 75, 76, 77, 78, 79, 80, 81, 88, 89, 90, 91, 92, 93, 94, 95, 96, 97, 98, 99, 100, 101, 102, 103, 104, 105, 106, 107, 108] (by decide +kernel) (by decide +kernel)
set_option maxRecDepth 20000 in
theorem gX9_cause_X2_reckonShows : GoodIn wsX9_cause (wsV RX9 151 RX2 yX2_reckonShows wsX2_reckonShows) := goodIn_app (goodIn_of _ (by decide +kernel)) ggX9_cause_X2_reckonShows
set_option maxRecDepth 20000 in
theorem ggX9_cause_X2_cell : GoodIn wsX9_cause wsX2_cell := goodIn_r _ [62] (by decide +kernel) (by decide +kernel)
set_option maxRecDepth 20000 in
theorem gX9_cause_X2_cell : GoodIn wsX9_cause (va_wsS RX9 155 yX2_cell wsX2_cell) := goodIn_app (goodIn_of _ (by decide +kernel)) ggX9_cause_X2_cell
theorem dX9_cause_0 : decode cX9_cause 0 = .ok (.aload_n 0, 1) := by decide +kernel
theorem dX9_cause_1 : decode cX9_cause 1 = .ok (.getfield 28, 3) := by decide +kernel
theorem dX9_cause_4 : decode cX9_cause 4 = .ok (.iload_n 1, 1) := by decide +kernel
theorem dX9_cause_5 : decode cX9_cause 5 = .ok (.invokevirtual 114, 3) := by decide +kernel
theorem dX9_cause_8 : decode cX9_cause 8 = .ok (.ifCond .eq 14, 3) := by decide +kernel
theorem dX9_cause_11 : decode cX9_cause 11 = .ok (.aload_n 0, 1) := by decide +kernel
theorem dX9_cause_12 : decode cX9_cause 12 = .ok (.getfield 19, 3) := by decide +kernel
theorem dX9_cause_15 : decode cX9_cause 15 = .ok (.iload_n 2, 1) := by decide +kernel
theorem dX9_cause_16 : decode cX9_cause 16 = .ok (.invokevirtual 94, 3) := by decide +kernel
theorem dX9_cause_19 : decode cX9_cause 19 = .ok (.ifCond .ne 6, 3) := by decide +kernel
theorem dX9_cause_22 : decode cX9_cause 22 = .ok (.ldc 52, 2) := by decide +kernel
theorem dX9_cause_24 : decode cX9_cause 24 = .ok (.ireturn, 1) := by decide +kernel
theorem dX9_cause_25 : decode cX9_cause 25 = .ok (.aload_n 0, 1) := by decide +kernel
theorem dX9_cause_26 : decode cX9_cause 26 = .ok (.getfield 28, 3) := by decide +kernel
theorem dX9_cause_29 : decode cX9_cause 29 = .ok (.invokevirtual 151, 3) := by decide +kernel
theorem dX9_cause_32 : decode cX9_cause 32 = .ok (.aload_n 0, 1) := by decide +kernel
theorem dX9_cause_33 : decode cX9_cause 33 = .ok (.getfield 28, 3) := by decide +kernel
theorem dX9_cause_36 : decode cX9_cause 36 = .ok (.getfield 161, 3) := by decide +kernel
theorem dX9_cause_39 : decode cX9_cause 39 = .ok (.iload_n 1, 1) := by decide +kernel
theorem dX9_cause_40 : decode cX9_cause 40 = .ok (.iload_n 2, 1) := by decide +kernel
theorem dX9_cause_41 : decode cX9_cause 41 = .ok (.invokestatic 155, 3) := by decide +kernel
theorem dX9_cause_44 : decode cX9_cause 44 = .ok (.iaload, 1) := by decide +kernel
theorem dX9_cause_45 : decode cX9_cause 45 = .ok (.ireturn, 1) := by decide +kernel
set_option maxRecDepth 20000 in
theorem ggX9_where_X5_has : GoodIn wsX9_where wsX5_has := goodIn_r _ [9, 10, 103, 104, 105] (by decide +kernel) (by decide +kernel)
set_option maxRecDepth 20000 in
theorem gX9_where_X5_has : GoodIn wsX9_where (wsV RX9 94 RX5 yX5_has wsX5_has) := goodIn_app (goodIn_of _ (by decide +kernel)) ggX9_where_X5_has
set_option maxRecDepth 20000 in
theorem ggX9_where_X9_within : GoodIn wsX9_where wsX9_within := goodIn_r _ [14] (by decide +kernel) (by decide +kernel)
set_option maxRecDepth 20000 in
theorem gX9_where_X9_within : GoodIn wsX9_where (va_wsS RX9 48 yX9_within wsX9_within) := goodIn_app (goodIn_of _ (by decide +kernel)) ggX9_where_X9_within
set_option maxRecDepth 20000 in
theorem ggX9_where_X2_reckonShows : GoodIn wsX9_where wsX2_reckonShows := goodIn_r _ [19, 20, 21, 22, 23, 18, 24, 25, 26, 27, 28, 29, 8, 30, 10, 31, 32, 33, 34, 35, 36, 37, 38, 39, 40, 41, 42, 43, 44, 45, 46, 47, 48, 49, 50, 51, 52, 53, 54, 55, 56, 57, 58, 59, 60, 61, 62, 63, 64, 65, 66, 67, 68, 69, 70, 71, 72, 73, 74, 75, 76, 77, 78, 79, 80, 81, 82, 92, 93, 94, 95, 96, 97, 98, 99, 100, 101, 102, 103, 104, 105, 106, 107, 108, 109, 110, 111, 112] (by decide +kernel) (by decide +kernel)
set_option maxRecDepth 20000 in
theorem gX9_where_X2_reckonShows : GoodIn wsX9_where (wsV RX9 151 RX2 yX2_reckonShows wsX2_reckonShows) := goodIn_app (goodIn_of _ (by decide +kernel)) ggX9_where_X2_reckonShows
set_option maxRecDepth 20000 in
theorem ggX9_where_X2_whereIs : GoodIn wsX9_where wsX2_whereIs := goodIn_r _ [86, 20, 45, 56, 69, 70, 71, 18, 72, 57, 25, 61, 62, 63, 73, 36, 37, 8, 38, 39, 31, 32, 33, 34, 74, 75, 76, 77, 92, 93, 94, 95, 96, 97, 98, 99, 100, 101, 102, 103, 104, 105] (by decide +kernel) (by decide +kernel)
set_option maxRecDepth 20000 in
theorem gX9_where_X2_whereIs : GoodIn wsX9_where (wsV RX9 166 RX2 yX2_whereIs wsX2_whereIs) := goodIn_app (goodIn_of _ (by decide +kernel)) ggX9_where_X2_whereIs
theorem dX9_where_0 : decode cX9_where 0 = .ok (.aload_n 0, 1) := by decide +kernel
theorem dX9_where_1 : decode cX9_where 1 = .ok (.getfield 19, 3) := by decide +kernel
theorem dX9_where_4 : decode cX9_where 4 = .ok (.iload_n 1, 1) := by decide +kernel
theorem dX9_where_5 : decode cX9_where 5 = .ok (.invokevirtual 94, 3) := by decide +kernel
theorem dX9_where_8 : decode cX9_where 8 = .ok (.ifCond .eq 14, 3) := by decide +kernel
theorem dX9_where_11 : decode cX9_where 11 = .ok (.iload_n 2, 1) := by decide +kernel
theorem dX9_where_12 : decode cX9_where 12 = .ok (.iconst 0, 1) := by decide +kernel
theorem dX9_where_13 : decode cX9_where 13 = .ok (.sipush 9999, 3) := by decide +kernel
theorem dX9_where_16 : decode cX9_where 16 = .ok (.invokestatic 48, 3) := by decide +kernel
theorem dX9_where_19 : decode cX9_where 19 = .ok (.ifCond .ne 6, 3) := by decide +kernel
theorem dX9_where_22 : decode cX9_where 22 = .ok (.ldc 52, 2) := by decide +kernel
theorem dX9_where_24 : decode cX9_where 24 = .ok (.ireturn, 1) := by decide +kernel
theorem dX9_where_25 : decode cX9_where 25 = .ok (.aload_n 0, 1) := by decide +kernel
theorem dX9_where_26 : decode cX9_where 26 = .ok (.getfield 28, 3) := by decide +kernel
theorem dX9_where_29 : decode cX9_where 29 = .ok (.getfield 164, 3) := by decide +kernel
theorem dX9_where_32 : decode cX9_where 32 = .ok (.ifCond .ne 6, 3) := by decide +kernel
theorem dX9_where_35 : decode cX9_where 35 = .ok (.ldc 165, 2) := by decide +kernel
theorem dX9_where_37 : decode cX9_where 37 = .ok (.ireturn, 1) := by decide +kernel
theorem dX9_where_38 : decode cX9_where 38 = .ok (.aload_n 0, 1) := by decide +kernel
theorem dX9_where_39 : decode cX9_where 39 = .ok (.getfield 28, 3) := by decide +kernel
theorem dX9_where_42 : decode cX9_where 42 = .ok (.invokevirtual 151, 3) := by decide +kernel
theorem dX9_where_45 : decode cX9_where 45 = .ok (.aload_n 0, 1) := by decide +kernel
theorem dX9_where_46 : decode cX9_where 46 = .ok (.getfield 28, 3) := by decide +kernel
theorem dX9_where_49 : decode cX9_where 49 = .ok (.iload_n 1, 1) := by decide +kernel
theorem dX9_where_50 : decode cX9_where 50 = .ok (.iload_n 2, 1) := by decide +kernel
theorem dX9_where_51 : decode cX9_where 51 = .ok (.invokevirtual 166, 3) := by decide +kernel
theorem dX9_where_54 : decode cX9_where 54 = .ok (.ireturn, 1) := by decide +kernel
set_option maxRecDepth 20000 in
theorem ggX9_film_X0_addFilm : GoodIn wsX9_film wsX0_addFilm := goodIn_r _ [7, 8, 14, 15, 16, 17, 18, 19, 20] (by decide +kernel) (by decide +kernel)
set_option maxRecDepth 20000 in
theorem gX9_film_X0_addFilm : GoodIn wsX9_film (wsV RX9 172 RX0 yX0_addFilm wsX0_addFilm) := goodIn_app (goodIn_of _ (by decide +kernel)) ggX9_film_X0_addFilm
theorem dX9_film_0 : decode cX9_film 0 = .ok (.aload_n 0, 1) := by decide +kernel
theorem dX9_film_1 : decode cX9_film 1 = .ok (.getfield 37, 3) := by decide +kernel
theorem dX9_film_4 : decode cX9_film 4 = .ok (.getfield 169, 3) := by decide +kernel
theorem dX9_film_7 : decode cX9_film 7 = .ok (.iconst 5, 1) := by decide +kernel
theorem dX9_film_8 : decode cX9_film 8 = .ok (.if_icmp .lt 8, 3) := by decide +kernel
theorem dX9_film_11 : decode cX9_film 11 = .ok (.ldc 57, 2) := by decide +kernel
theorem dX9_film_13 : decode cX9_film 13 = .ok (.goto 10, 3) := by decide +kernel
theorem dX9_film_16 : decode cX9_film 16 = .ok (.aload_n 0, 1) := by decide +kernel
theorem dX9_film_17 : decode cX9_film 17 = .ok (.getfield 37, 3) := by decide +kernel
theorem dX9_film_20 : decode cX9_film 20 = .ok (.invokevirtual 172, 3) := by decide +kernel
theorem dX9_film_23 : decode cX9_film 23 = .ok (.ireturn, 1) := by decide +kernel
set_option maxRecDepth 20000 in
theorem ggX9_worth_X0_hasFilm : GoodIn wsX9_worth wsX0_hasFilm := goodIn_r _ [8, 9, 28, 29, 30, 31, 32, 33, 34] (by decide +kernel) (by decide +kernel)
set_option maxRecDepth 20000 in
theorem gX9_worth_X0_hasFilm : GoodIn wsX9_worth (wsV RX9 175 RX0 yX0_hasFilm wsX0_hasFilm) := goodIn_app (goodIn_of _ (by decide +kernel)) ggX9_worth_X0_hasFilm
set_option maxRecDepth 20000 in
theorem ggX9_worth_X1_has : GoodIn wsX9_worth wsX1_has := goodIn_r _ [14, 15, 35, 36, 37, 38, 39, 40] (by decide +kernel) (by decide +kernel)
set_option maxRecDepth 20000 in
theorem gX9_worth_X1_has : GoodIn wsX9_worth (wsV RX9 62 RX1 yX1_has wsX1_has) := goodIn_app (goodIn_of _ (by decide +kernel)) ggX9_worth_X1_has
