set_option maxRecDepth 20000 in
theorem ggX0_init_X3_init : GoodIn wsX0_init wsX3_init := goodIn_r _ [21, 22, 2, 3, 8, 23, 39] (by decide +kernel) (by decide +kernel)
set_option maxRecDepth 20000 in
theorem gX0_init_X3_init : GoodIn wsX0_init (wsX3_init) := ggX0_init_X3_init
set_option maxRecDepth 20000 in
theorem ggX0_init_J7_fill_53178 : GoodIn wsX0_init wsJ7_fill_53178 := goodIn_r _ [27] (by decide +kernel) (by decide +kernel)
set_option maxRecDepth 20000 in
theorem gX0_init_J7_fill_53178 : GoodIn wsX0_init (va_wsS RX0 39 yJ7_fill_53178 wsJ7_fill_53178) := goodIn_app (goodIn_of _ (by decide +kernel)) ggX0_init_J7_fill_53178
set_option maxRecDepth 20000 in
theorem ggX0_init_X7_init : GoodIn wsX0_init wsX7_init := goodIn_r _ [29, 30, 2, 3, 8, 31, 32, 33, 34, 35, 36, 37, 38, 47, 48, 49, 50, 51, 52, 53, 54] (by decide +kernel) (by decide +kernel)
set_option maxRecDepth 20000 in
theorem gX0_init_X7_init_n47 : GoodIn wsX0_init (wsX7_init) := ggX0_init_X7_init
theorem dX0_init_0 : decode cX0_init 0 = .ok (.aload_n 0, 1) := by decide +kernel
theorem dX0_init_1 : decode cX0_init 1 = .ok (.invokespecial 3, 3) := by decide +kernel
theorem dX0_init_4 : decode cX0_init 4 = .ok (.aload_n 0, 1) := by decide +kernel
theorem dX0_init_5 : decode cX0_init 5 = .ok (.new 9, 3) := by decide +kernel
theorem dX0_init_8 : decode cX0_init 8 = .ok (.dup, 1) := by decide +kernel
theorem dX0_init_9 : decode cX0_init 9 = .ok (.iconst 0, 1) := by decide +kernel
theorem dX0_init_10 : decode cX0_init 10 = .ok (.invokespecial 11, 3) := by decide +kernel
theorem dX0_init_13 : decode cX0_init 13 = .ok (.putfield 14, 3) := by decide +kernel
theorem dX0_init_16 : decode cX0_init 16 = .ok (.aload_n 0, 1) := by decide +kernel
theorem dX0_init_17 : decode cX0_init 17 = .ok (.bipush 30, 2) := by decide +kernel
theorem dX0_init_19 : decode cX0_init 19 = .ok (.newarray .int, 2) := by decide +kernel
theorem dX0_init_21 : decode cX0_init 21 = .ok (.putfield 20, 3) := by decide +kernel
theorem dX0_init_24 : decode cX0_init 24 = .ok (.aload_n 0, 1) := by decide +kernel
theorem dX0_init_25 : decode cX0_init 25 = .ok (.bipush 24, 2) := by decide +kernel
theorem dX0_init_27 : decode cX0_init 27 = .ok (.newarray .int, 2) := by decide +kernel
theorem dX0_init_29 : decode cX0_init 29 = .ok (.putfield 24, 3) := by decide +kernel
theorem dX0_init_32 : decode cX0_init 32 = .ok (.aload_n 0, 1) := by decide +kernel
theorem dX0_init_33 : decode cX0_init 33 = .ok (.bipush 24, 2) := by decide +kernel
theorem dX0_init_35 : decode cX0_init 35 = .ok (.newarray .int, 2) := by decide +kernel
theorem dX0_init_37 : decode cX0_init 37 = .ok (.putfield 27, 3) := by decide +kernel
theorem dX0_init_40 : decode cX0_init 40 = .ok (.aload_n 0, 1) := by decide +kernel
theorem dX0_init_41 : decode cX0_init 41 = .ok (.iconst 0, 1) := by decide +kernel
theorem dX0_init_42 : decode cX0_init 42 = .ok (.putfield 30, 3) := by decide +kernel
theorem dX0_init_45 : decode cX0_init 45 = .ok (.aload_n 0, 1) := by decide +kernel
theorem dX0_init_46 : decode cX0_init 46 = .ok (.aload_n 1, 1) := by decide +kernel
theorem dX0_init_47 : decode cX0_init 47 = .ok (.putfield 34, 3) := by decide +kernel
theorem dX0_init_50 : decode cX0_init 50 = .ok (.aload_n 0, 1) := by decide +kernel
theorem dX0_init_51 : decode cX0_init 51 = .ok (.getfield 24, 3) := by decide +kernel
theorem dX0_init_54 : decode cX0_init 54 = .ok (.ldc 38, 2) := by decide +kernel
theorem dX0_init_56 : decode cX0_init 56 = .ok (.invokestatic 39, 3) := by decide +kernel
theorem dX0_init_59 : decode cX0_init 59 = .ok (.aload_n 0, 1) := by decide +kernel
theorem dX0_init_60 : decode cX0_init 60 = .ok (.getfield 27, 3) := by decide +kernel
theorem dX0_init_63 : decode cX0_init 63 = .ok (.ldc 38, 2) := by decide +kernel
theorem dX0_init_65 : decode cX0_init 65 = .ok (.invokestatic 39, 3) := by decide +kernel
theorem dX0_init_68 : decode cX0_init 68 = .ok (.aload_n 0, 1) := by decide +kernel
theorem dX0_init_69 : decode cX0_init 69 = .ok (.new 45, 3) := by decide +kernel
theorem dX0_init_72 : decode cX0_init 72 = .ok (.dup, 1) := by decide +kernel
theorem dX0_init_73 : decode cX0_init 73 = .ok (.invokespecial 47, 3) := by decide +kernel
theorem dX0_init_76 : decode cX0_init 76 = .ok (.putfield 48, 3) := by decide +kernel
theorem dX0_init_79 : decode cX0_init 79 = .ok (.return_, 1) := by decide +kernel
theorem dX0_cell_0 : decode cX0_cell 0 = .ok (.iload_n 0, 1) := by decide +kernel
theorem dX0_cell_1 : decode cX0_cell 1 = .ok (.bipush 6, 2) := by decide +kernel
theorem dX0_cell_3 : decode cX0_cell 3 = .ok (.imul, 1) := by decide +kernel
theorem dX0_cell_4 : decode cX0_cell 4 = .ok (.iload_n 1, 1) := by decide +kernel
theorem dX0_cell_5 : decode cX0_cell 5 = .ok (.iadd, 1) := by decide +kernel
theorem dX0_cell_6 : decode cX0_cell 6 = .ok (.ireturn, 1) := by decide +kernel
theorem dX0_hasFilm_0 : decode cX0_hasFilm 0 = .ok (.iload_n 1, 1) := by decide +kernel
theorem dX0_hasFilm_1 : decode cX0_hasFilm 1 = .ok (.ifCond .lt 15, 3) := by decide +kernel
theorem dX0_hasFilm_4 : decode cX0_hasFilm 4 = .ok (.iload_n 1, 1) := by decide +kernel
theorem dX0_hasFilm_5 : decode cX0_hasFilm 5 = .ok (.aload_n 0, 1) := by decide +kernel
theorem dX0_hasFilm_6 : decode cX0_hasFilm 6 = .ok (.getfield 30, 3) := by decide +kernel
theorem dX0_hasFilm_9 : decode cX0_hasFilm 9 = .ok (.if_icmp .ge 7, 3) := by decide +kernel
theorem dX0_hasFilm_12 : decode cX0_hasFilm 12 = .ok (.iconst 1, 1) := by decide +kernel
theorem dX0_hasFilm_13 : decode cX0_hasFilm 13 = .ok (.goto 4, 3) := by decide +kernel
theorem dX0_hasFilm_16 : decode cX0_hasFilm 16 = .ok (.iconst 0, 1) := by decide +kernel
theorem dX0_hasFilm_17 : decode cX0_hasFilm 17 = .ok (.ireturn, 1) := by decide +kernel
theorem dX0_addFilm_0 : decode cX0_addFilm 0 = .ok (.aload_n 0, 1) := by decide +kernel
theorem dX0_addFilm_1 : decode cX0_addFilm 1 = .ok (.dup, 1) := by decide +kernel
theorem dX0_addFilm_2 : decode cX0_addFilm 2 = .ok (.getfield 30, 3) := by decide +kernel
theorem dX0_addFilm_5 : decode cX0_addFilm 5 = .ok (.iconst 1, 1) := by decide +kernel
theorem dX0_addFilm_6 : decode cX0_addFilm 6 = .ok (.iadd, 1) := by decide +kernel
theorem dX0_addFilm_7 : decode cX0_addFilm 7 = .ok (.putfield 30, 3) := by decide +kernel
theorem dX0_addFilm_10 : decode cX0_addFilm 10 = .ok (.aload_n 0, 1) := by decide +kernel
theorem dX0_addFilm_11 : decode cX0_addFilm 11 = .ok (.getfield 30, 3) := by decide +kernel
theorem dX0_addFilm_14 : decode cX0_addFilm 14 = .ok (.iconst 1, 1) := by decide +kernel
theorem dX0_addFilm_15 : decode cX0_addFilm 15 = .ok (.isub, 1) := by decide +kernel
theorem dX0_addFilm_16 : decode cX0_addFilm 16 = .ok (.ireturn, 1) := by decide +kernel
set_option maxRecDepth 20000 in
theorem ggX0_makePlan_X7_clear : GoodIn wsX0_makePlan wsX7_clear := goodIn_r _ [13, 14, 15, 16, 17, 18, 19, 20, 21, 22, 23, 24, 25, 79, 80, 81, 82, 83, 84, 85, 86] (by decide +kernel) (by decide +kernel)
set_option maxRecDepth 20000 in
theorem gX0_makePlan_X7_clear : GoodIn wsX0_makePlan (wsV RX0 52 RX7 yX7_clear wsX7_clear) := goodIn_app (goodIn_of _ (by decide +kernel)) ggX0_makePlan_X7_clear
set_option maxRecDepth 20000 in
theorem ggX0_makePlan_X7_seek : GoodIn wsX0_makePlan wsX7_seek := goodIn_r _ [27, 15, 19, 28, 29, 30, 12, 31, 17, 32, 33, 34, 35, 36, 37, 38, 39, 40, 41, 42, 43, 44, 20, 21, 14, 45, 46, 6, 7, 8, 47, 48, 49, 26, 50, 16, 18, 51, 52, 53, 54, 55, 56, 57, 58, 59, 60, 61, 62, 63, 64, 65, 66, 67, 68, 69, 70, 71, 72, 73, 74, 75, 76, 77, 78, 79, 80, 81, 82, 83, 84, 85, 86, 87, 88, 89, 90, 91, 92, 93] (by decide +kernel) (by decide +kernel)
set_option maxRecDepth 20000 in
theorem gX0_makePlan_X7_seek_n56 : GoodIn wsX0_makePlan (wsX7_seek) := ggX0_makePlan_X7_seek
theorem dX0_makePlan_0 : decode cX0_makePlan 0 = .ok (.aload_n 0, 1) := by decide +kernel
theorem dX0_makePlan_1 : decode cX0_makePlan 1 = .ok (.getfield 48, 3) := by decide +kernel
theorem dX0_makePlan_4 : decode cX0_makePlan 4 = .ok (.iload_n 1, 1) := by decide +kernel
theorem dX0_makePlan_5 : decode cX0_makePlan 5 = .ok (.iload_n 2, 1) := by decide +kernel
theorem dX0_makePlan_6 : decode cX0_makePlan 6 = .ok (.invokevirtual 52, 3) := by decide +kernel
theorem dX0_makePlan_9 : decode cX0_makePlan 9 = .ok (.aload_n 0, 1) := by decide +kernel
theorem dX0_makePlan_10 : decode cX0_makePlan 10 = .ok (.aload_n 0, 1) := by decide +kernel
theorem dX0_makePlan_11 : decode cX0_makePlan 11 = .ok (.getfield 48, 3) := by decide +kernel
theorem dX0_makePlan_14 : decode cX0_makePlan 14 = .ok (.iconst 0, 1) := by decide +kernel
theorem dX0_makePlan_15 : decode cX0_makePlan 15 = .ok (.invokestatic 56, 3) := by decide +kernel
theorem dX0_makePlan_18 : decode cX0_makePlan 18 = .ok (.aload_n 0, 1) := by decide +kernel
theorem dX0_makePlan_19 : decode cX0_makePlan 19 = .ok (.getfield 48, 3) := by decide +kernel
theorem dX0_makePlan_22 : decode cX0_makePlan 22 = .ok (.getfield 60, 3) := by decide +kernel
theorem dX0_makePlan_25 : decode cX0_makePlan 25 = .ok (.ifCond .eq 6, 3) := by decide +kernel
theorem dX0_makePlan_28 : decode cX0_makePlan 28 = .ok (.ldc 64, 2) := by decide +kernel
theorem dX0_makePlan_30 : decode cX0_makePlan 30 = .ok (.ireturn, 1) := by decide +kernel
theorem dX0_makePlan_31 : decode cX0_makePlan 31 = .ok (.aload_n 0, 1) := by decide +kernel
theorem dX0_makePlan_32 : decode cX0_makePlan 32 = .ok (.getfield 48, 3) := by decide +kernel
theorem dX0_makePlan_35 : decode cX0_makePlan 35 = .ok (.getfield 65, 3) := by decide +kernel
theorem dX0_makePlan_38 : decode cX0_makePlan 38 = .ok (.ifCond .ge 6, 3) := by decide +kernel
theorem dX0_makePlan_41 : decode cX0_makePlan 41 = .ok (.ldc 68, 2) := by decide +kernel
theorem dX0_makePlan_43 : decode cX0_makePlan 43 = .ok (.ireturn, 1) := by decide +kernel
theorem dX0_makePlan_44 : decode cX0_makePlan 44 = .ok (.aload_n 0, 1) := by decide +kernel
theorem dX0_makePlan_45 : decode cX0_makePlan 45 = .ok (.getfield 48, 3) := by decide +kernel
theorem dX0_makePlan_48 : decode cX0_makePlan 48 = .ok (.getfield 69, 3) := by decide +kernel
theorem dX0_makePlan_51 : decode cX0_makePlan 51 = .ok (.iconst 0, 1) := by decide +kernel
theorem dX0_makePlan_52 : decode cX0_makePlan 52 = .ok (.aload_n 0, 1) := by decide +kernel
theorem dX0_makePlan_53 : decode cX0_makePlan 53 = .ok (.getfield 27, 3) := by decide +kernel
theorem dX0_makePlan_56 : decode cX0_makePlan 56 = .ok (.iconst 0, 1) := by decide +kernel
theorem dX0_makePlan_57 : decode cX0_makePlan 57 = .ok (.bipush 24, 2) := by decide +kernel
theorem dX0_makePlan_59 : decode cX0_makePlan 59 = .ok (.invokestatic 72, 3) := by decide +kernel
theorem dX0_makePlan_62 : decode cX0_makePlan 62 = .ok (.aload_n 0, 1) := by decide +kernel
theorem dX0_makePlan_63 : decode cX0_makePlan 63 = .ok (.getfield 48, 3) := by decide +kernel
theorem dX0_makePlan_66 : decode cX0_makePlan 66 = .ok (.getfield 65, 3) := by decide +kernel
theorem dX0_makePlan_69 : decode cX0_makePlan 69 = .ok (.ireturn, 1) := by decide +kernel
set_option maxRecDepth 20000 in
theorem ggX0_mayBe_X0_cell : GoodIn wsX0_mayBe wsX0_cell := goodIn_r _ [10] (by decide +kernel) (by decide +kernel)
set_option maxRecDepth 20000 in
theorem gX0_mayBe_X0_cell : GoodIn wsX0_mayBe (va_wsS RX0 78 yX0_cell wsX0_cell) := goodIn_app (goodIn_of _ (by decide +kernel)) ggX0_mayBe_X0_cell
set_option maxRecDepth 20000 in
theorem ggX0_mayBe_X3_between : GoodIn wsX0_mayBe wsX3_between := goodIn_r _ [15, 16, 30] (by decide +kernel) (by decide +kernel)
set_option maxRecDepth 20000 in
theorem gX0_mayBe_X3_between : GoodIn wsX0_mayBe (wsV RX0 87 RX3 yX3_between wsX3_between) := goodIn_app (goodIn_of _ (by decide +kernel)) ggX0_mayBe_X3_between
theorem dX0_mayBe_0 : decode cX0_mayBe 0 = .ok (.aload 4, 2) := by decide +kernel
theorem dX0_mayBe_2 : decode cX0_mayBe 2 = .ok (.iload_n 1, 1) := by decide +kernel
theorem dX0_mayBe_3 : decode cX0_mayBe 3 = .ok (.iload_n 2, 1) := by decide +kernel
theorem dX0_mayBe_4 : decode cX0_mayBe 4 = .ok (.invokestatic 78, 3) := by decide +kernel
theorem dX0_mayBe_7 : decode cX0_mayBe 7 = .ok (.iaload, 1) := by decide +kernel
theorem dX0_mayBe_8 : decode cX0_mayBe 8 = .ok (.istore 5, 2) := by decide +kernel
theorem dX0_mayBe_10 : decode cX0_mayBe 10 = .ok (.iload 5, 2) := by decide +kernel
theorem dX0_mayBe_12 : decode cX0_mayBe 12 = .ok (.ifCond .eq 15, 3) := by decide +kernel
theorem dX0_mayBe_15 : decode cX0_mayBe 15 = .ok (.iload 5, 2) := by decide +kernel
theorem dX0_mayBe_17 : decode cX0_mayBe 17 = .ok (.iconst 1, 1) := by decide +kernel
theorem dX0_mayBe_18 : decode cX0_mayBe 18 = .ok (.ishl, 1) := by decide +kernel
theorem dX0_mayBe_19 : decode cX0_mayBe 19 = .ok (.iconst 1, 1) := by decide +kernel
theorem dX0_mayBe_20 : decode cX0_mayBe 20 = .ok (.iload_n 3, 1) := by decide +kernel
theorem dX0_mayBe_21 : decode cX0_mayBe 21 = .ok (.ishl, 1) := by decide +kernel
theorem dX0_mayBe_22 : decode cX0_mayBe 22 = .ok (.if_icmp .eq 5, 3) := by decide +kernel
theorem dX0_mayBe_25 : decode cX0_mayBe 25 = .ok (.iconst 0, 1) := by decide +kernel
theorem dX0_mayBe_26 : decode cX0_mayBe 26 = .ok (.ireturn, 1) := by decide +kernel
theorem dX0_mayBe_27 : decode cX0_mayBe 27 = .ok (.iconst 0, 1) := by decide +kernel
theorem dX0_mayBe_28 : decode cX0_mayBe 28 = .ok (.istore 6, 2) := by decide +kernel
theorem dX0_mayBe_30 : decode cX0_mayBe 30 = .ok (.iload 6, 2) := by decide +kernel
theorem dX0_mayBe_32 : decode cX0_mayBe 32 = .ok (.aload_n 0, 1) := by decide +kernel
theorem dX0_mayBe_33 : decode cX0_mayBe 33 = .ok (.getfield 34, 3) := by decide +kernel
theorem dX0_mayBe_36 : decode cX0_mayBe 36 = .ok (.getfield 82, 3) := by decide +kernel
theorem dX0_mayBe_39 : decode cX0_mayBe 39 = .ok (.if_icmp .ge 55, 3) := by decide +kernel
theorem dX0_mayBe_42 : decode cX0_mayBe 42 = .ok (.aload_n 0, 1) := by decide +kernel
theorem dX0_mayBe_43 : decode cX0_mayBe 43 = .ok (.getfield 14, 3) := by decide +kernel
theorem dX0_mayBe_46 : decode cX0_mayBe 46 = .ok (.iload_n 2, 1) := by decide +kernel
theorem dX0_mayBe_47 : decode cX0_mayBe 47 = .ok (.iload 6, 2) := by decide +kernel
theorem dX0_mayBe_49 : decode cX0_mayBe 49 = .ok (.invokevirtual 87, 3) := by decide +kernel
theorem dX0_mayBe_52 : decode cX0_mayBe 52 = .ok (.istore 7, 2) := by decide +kernel
theorem dX0_mayBe_54 : decode cX0_mayBe 54 = .ok (.aload 4, 2) := by decide +kernel
theorem dX0_mayBe_56 : decode cX0_mayBe 56 = .ok (.iload_n 1, 1) := by decide +kernel
theorem dX0_mayBe_57 : decode cX0_mayBe 57 = .ok (.iload 6, 2) := by decide +kernel
theorem dX0_mayBe_59 : decode cX0_mayBe 59 = .ok (.invokestatic 78, 3) := by decide +kernel
theorem dX0_mayBe_62 : decode cX0_mayBe 62 = .ok (.iaload, 1) := by decide +kernel
theorem dX0_mayBe_63 : decode cX0_mayBe 63 = .ok (.iconst 0, 1) := by decide +kernel
theorem dX0_mayBe_64 : decode cX0_mayBe 64 = .ok (.iload_n 3, 1) := by decide +kernel
theorem dX0_mayBe_65 : decode cX0_mayBe 65 = .ok (.iload 7, 2) := by decide +kernel
theorem dX0_mayBe_67 : decode cX0_mayBe 67 = .ok (.isub, 1) := by decide +kernel
theorem dX0_mayBe_68 : decode cX0_mayBe 68 = .ok (.iconst 1, 1) := by decide +kernel
theorem dX0_mayBe_69 : decode cX0_mayBe 69 = .ok (.iadd, 1) := by decide +kernel
theorem dX0_mayBe_70 : decode cX0_mayBe 70 = .ok (.invokestatic 90, 3) := by decide +kernel
theorem dX0_mayBe_73 : decode cX0_mayBe 73 = .ok (.ishr, 1) := by decide +kernel
theorem dX0_mayBe_74 : decode cX0_mayBe 74 = .ok (.istore 8, 2) := by decide +kernel
theorem dX0_mayBe_76 : decode cX0_mayBe 76 = .ok (.iload 7, 2) := by decide +kernel
theorem dX0_mayBe_78 : decode cX0_mayBe 78 = .ok (.ifCond .le 10, 3) := by decide +kernel
theorem dX0_mayBe_81 : decode cX0_mayBe 81 = .ok (.iload 8, 2) := by decide +kernel
theorem dX0_mayBe_83 : decode cX0_mayBe 83 = .ok (.ifCond .eq 5, 3) := by decide +kernel
theorem dX0_mayBe_86 : decode cX0_mayBe 86 = .ok (.iconst 0, 1) := by decide +kernel
theorem dX0_mayBe_87 : decode cX0_mayBe 87 = .ok (.ireturn, 1) := by decide +kernel
theorem dX0_mayBe_88 : decode cX0_mayBe 88 = .ok (.iinc 6 1, 3) := by decide +kernel
theorem dX0_mayBe_91 : decode cX0_mayBe 91 = .ok (.goto (-61), 3) := by decide +kernel
theorem dX0_mayBe_94 : decode cX0_mayBe 94 = .ok (.iconst 1, 1) := by decide +kernel
theorem dX0_mayBe_95 : decode cX0_mayBe 95 = .ok (.ireturn, 1) := by decide +kernel
set_option maxRecDepth 20000 in
theorem ggX1_init_X3_init : GoodIn wsX1_init wsX3_init := goodIn_r _ [16, 17, 2, 3, 4, 18, 25] (by decide +kernel) (by decide +kernel)
set_option maxRecDepth 20000 in
theorem gX1_init_X3_init : GoodIn wsX1_init (wsX3_init) := ggX1_init_X3_init
theorem dX1_init_0 : decode cX1_init 0 = .ok (.aload_n 0, 1) := by decide +kernel
theorem dX1_init_1 : decode cX1_init 1 = .ok (.invokespecial 3, 3) := by decide +kernel
theorem dX1_init_4 : decode cX1_init 4 = .ok (.aload_n 0, 1) := by decide +kernel
theorem dX1_init_5 : decode cX1_init 5 = .ok (.bipush 6, 2) := by decide +kernel
theorem dX1_init_7 : decode cX1_init 7 = .ok (.newarray .int, 2) := by decide +kernel
theorem dX1_init_9 : decode cX1_init 9 = .ok (.putfield 9, 3) := by decide +kernel
theorem dX1_init_12 : decode cX1_init 12 = .ok (.aload_n 0, 1) := by decide +kernel
theorem dX1_init_13 : decode cX1_init 13 = .ok (.bipush 6, 2) := by decide +kernel
theorem dX1_init_15 : decode cX1_init 15 = .ok (.newarray .int, 2) := by decide +kernel
theorem dX1_init_17 : decode cX1_init 17 = .ok (.putfield 15, 3) := by decide +kernel
theorem dX1_init_20 : decode cX1_init 20 = .ok (.aload_n 0, 1) := by decide +kernel
theorem dX1_init_21 : decode cX1_init 21 = .ok (.bipush 6, 2) := by decide +kernel
theorem dX1_init_23 : decode cX1_init 23 = .ok (.newarray .int, 2) := by decide +kernel
theorem dX1_init_25 : decode cX1_init 25 = .ok (.putfield 18, 3) := by decide +kernel
theorem dX1_init_28 : decode cX1_init 28 = .ok (.aload_n 0, 1) := by decide +kernel
theorem dX1_init_29 : decode cX1_init 29 = .ok (.bipush 6, 2) := by decide +kernel
theorem dX1_init_31 : decode cX1_init 31 = .ok (.newarray .int, 2) := by decide +kernel
theorem dX1_init_33 : decode cX1_init 33 = .ok (.putfield 21, 3) := by decide +kernel
theorem dX1_init_36 : decode cX1_init 36 = .ok (.aload_n 0, 1) := by decide +kernel
theorem dX1_init_37 : decode cX1_init 37 = .ok (.new 24, 3) := by decide +kernel
theorem dX1_init_40 : decode cX1_init 40 = .ok (.dup, 1) := by decide +kernel
theorem dX1_init_41 : decode cX1_init 41 = .ok (.bipush 10, 2) := by decide +kernel
theorem dX1_init_43 : decode cX1_init 43 = .ok (.invokespecial 26, 3) := by decide +kernel
theorem dX1_init_46 : decode cX1_init 46 = .ok (.putfield 29, 3) := by decide +kernel
theorem dX1_init_49 : decode cX1_init 49 = .ok (.aload_n 0, 1) := by decide +kernel
theorem dX1_init_50 : decode cX1_init 50 = .ok (.iconst 0, 1) := by decide +kernel
theorem dX1_init_51 : decode cX1_init 51 = .ok (.putfield 33, 3) := by decide +kernel
theorem dX1_init_54 : decode cX1_init 54 = .ok (.return_, 1) := by decide +kernel
theorem dX1_has_0 : decode cX1_has 0 = .ok (.iload_n 1, 1) := by decide +kernel
theorem dX1_has_1 : decode cX1_has 1 = .ok (.ifCond .lt 15, 3) := by decide +kernel
theorem dX1_has_4 : decode cX1_has 4 = .ok (.iload_n 1, 1) := by decide +kernel
theorem dX1_has_5 : decode cX1_has 5 = .ok (.aload_n 0, 1) := by decide +kernel
theorem dX1_has_6 : decode cX1_has 6 = .ok (.getfield 33, 3) := by decide +kernel
theorem dX1_has_9 : decode cX1_has 9 = .ok (.if_icmp .ge 7, 3) := by decide +kernel
theorem dX1_has_12 : decode cX1_has 12 = .ok (.iconst 1, 1) := by decide +kernel
theorem dX1_has_13 : decode cX1_has 13 = .ok (.goto 4, 3) := by decide +kernel
theorem dX1_has_16 : decode cX1_has 16 = .ok (.iconst 0, 1) := by decide +kernel
theorem dX1_has_17 : decode cX1_has 17 = .ok (.ireturn, 1) := by decide +kernel
set_option maxRecDepth 20000 in
theorem ggX1_hasTwo_X1_has : GoodIn wsX1_hasTwo wsX1_has := goodIn_r _ [5, 6, 7, 8, 9, 10, 11, 12] (by decide +kernel) (by decide +kernel)
set_option maxRecDepth 20000 in
theorem gX1_hasTwo_X1_has : GoodIn wsX1_hasTwo (wsV RX1 37 RX1 yX1_has wsX1_has) := goodIn_app (goodIn_of _ (by decide +kernel)) ggX1_hasTwo_X1_has
theorem dX1_hasTwo_0 : decode cX1_hasTwo 0 = .ok (.aload_n 0, 1) := by decide +kernel
theorem dX1_hasTwo_1 : decode cX1_hasTwo 1 = .ok (.iload_n 1, 1) := by decide +kernel
theorem dX1_hasTwo_2 : decode cX1_hasTwo 2 = .ok (.invokevirtual 37, 3) := by decide +kernel
theorem dX1_hasTwo_5 : decode cX1_hasTwo 5 = .ok (.ifCond .eq 20, 3) := by decide +kernel
theorem dX1_hasTwo_8 : decode cX1_hasTwo 8 = .ok (.aload_n 0, 1) := by decide +kernel
theorem dX1_hasTwo_9 : decode cX1_hasTwo 9 = .ok (.iload_n 2, 1) := by decide +kernel
theorem dX1_hasTwo_10 : decode cX1_hasTwo 10 = .ok (.invokevirtual 37, 3) := by decide +kernel
theorem dX1_hasTwo_13 : decode cX1_hasTwo 13 = .ok (.ifCond .eq 12, 3) := by decide +kernel
theorem dX1_hasTwo_16 : decode cX1_hasTwo 16 = .ok (.iload_n 1, 1) := by decide +kernel
theorem dX1_hasTwo_17 : decode cX1_hasTwo 17 = .ok (.iload_n 2, 1) := by decide +kernel
theorem dX1_hasTwo_18 : decode cX1_hasTwo 18 = .ok (.if_icmp .eq 7, 3) := by decide +kernel
theorem dX1_hasTwo_21 : decode cX1_hasTwo 21 = .ok (.iconst 1, 1) := by decide +kernel
theorem dX1_hasTwo_22 : decode cX1_hasTwo 22 = .ok (.goto 4, 3) := by decide +kernel
theorem dX1_hasTwo_25 : decode cX1_hasTwo 25 = .ok (.iconst 0, 1) := by decide +kernel
theorem dX1_hasTwo_26 : decode cX1_hasTwo 26 = .ok (.ireturn, 1) := by decide +kernel
theorem dX1_add_0 : decode cX1_add 0 = .ok (.aload_n 0, 1) := by decide +kernel
theorem dX1_add_1 : decode cX1_add 1 = .ok (.getfield 9, 3) := by decide +kernel
theorem dX1_add_4 : decode cX1_add 4 = .ok (.aload_n 0, 1) := by decide +kernel
theorem dX1_add_5 : decode cX1_add 5 = .ok (.getfield 33, 3) := by decide +kernel
theorem dX1_add_8 : decode cX1_add 8 = .ok (.iload_n 1, 1) := by decide +kernel
theorem dX1_add_9 : decode cX1_add 9 = .ok (.iastore, 1) := by decide +kernel
theorem dX1_add_10 : decode cX1_add 10 = .ok (.aload_n 0, 1) := by decide +kernel
theorem dX1_add_11 : decode cX1_add 11 = .ok (.getfield 15, 3) := by decide +kernel
theorem dX1_add_14 : decode cX1_add 14 = .ok (.aload_n 0, 1) := by decide +kernel
theorem dX1_add_15 : decode cX1_add 15 = .ok (.getfield 33, 3) := by decide +kernel
theorem dX1_add_18 : decode cX1_add 18 = .ok (.iload_n 2, 1) := by decide +kernel
theorem dX1_add_19 : decode cX1_add 19 = .ok (.iastore, 1) := by decide +kernel
theorem dX1_add_20 : decode cX1_add 20 = .ok (.aload_n 0, 1) := by decide +kernel
theorem dX1_add_21 : decode cX1_add 21 = .ok (.dup, 1) := by decide +kernel
theorem dX1_add_22 : decode cX1_add 22 = .ok (.getfield 33, 3) := by decide +kernel
theorem dX1_add_25 : decode cX1_add 25 = .ok (.iconst 1, 1) := by decide +kernel
theorem dX1_add_26 : decode cX1_add 26 = .ok (.iadd, 1) := by decide +kernel
theorem dX1_add_27 : decode cX1_add 27 = .ok (.putfield 33, 3) := by decide +kernel
theorem dX1_add_30 : decode cX1_add 30 = .ok (.aload_n 0, 1) := by decide +kernel
theorem dX1_add_31 : decode cX1_add 31 = .ok (.getfield 33, 3) := by decide +kernel
theorem dX1_add_34 : decode cX1_add 34 = .ok (.iconst 1, 1) := by decide +kernel
theorem dX1_add_35 : decode cX1_add 35 = .ok (.isub, 1) := by decide +kernel
theorem dX1_add_36 : decode cX1_add 36 = .ok (.ireturn, 1) := by decide +kernel
theorem dX1_areOf_0 : decode cX1_areOf 0 = .ok (.aload_n 0, 1) := by decide +kernel
theorem dX1_areOf_1 : decode cX1_areOf 1 = .ok (.getfield 9, 3) := by decide +kernel
theorem dX1_areOf_4 : decode cX1_areOf 4 = .ok (.iload_n 1, 1) := by decide +kernel
theorem dX1_areOf_5 : decode cX1_areOf 5 = .ok (.iaload, 1) := by decide +kernel
theorem dX1_areOf_6 : decode cX1_areOf 6 = .ok (.istore_n 3, 1) := by decide +kernel
theorem dX1_areOf_7 : decode cX1_areOf 7 = .ok (.iload_n 2, 1) := by decide +kernel
theorem dX1_areOf_8 : decode cX1_areOf 8 = .ok (.ifCond .eq 18, 3) := by decide +kernel
theorem dX1_areOf_11 : decode cX1_areOf 11 = .ok (.iload_n 3, 1) := by decide +kernel
theorem dX1_areOf_12 : decode cX1_areOf 12 = .ok (.iload_n 2, 1) := by decide +kernel
theorem dX1_areOf_13 : decode cX1_areOf 13 = .ok (.if_icmp .eq 13, 3) := by decide +kernel
theorem dX1_areOf_16 : decode cX1_areOf 16 = .ok (.iload_n 2, 1) := by decide +kernel
theorem dX1_areOf_17 : decode cX1_areOf 17 = .ok (.iconst 1, 1) := by decide +kernel
theorem dX1_areOf_18 : decode cX1_areOf 18 = .ok (.if_icmp .ne 12, 3) := by decide +kernel
theorem dX1_areOf_21 : decode cX1_areOf 21 = .ok (.iload_n 3, 1) := by decide +kernel
theorem dX1_areOf_22 : decode cX1_areOf 22 = .ok (.iconst 3, 1) := by decide +kernel
theorem dX1_areOf_23 : decode cX1_areOf 23 = .ok (.if_icmp .ne 7, 3) := by decide +kernel
theorem dX1_areOf_26 : decode cX1_areOf 26 = .ok (.iconst 1, 1) := by decide +kernel
theorem dX1_areOf_27 : decode cX1_areOf 27 = .ok (.goto 4, 3) := by decide +kernel
theorem dX1_areOf_30 : decode cX1_areOf 30 = .ok (.iconst 0, 1) := by decide +kernel
theorem dX1_areOf_31 : decode cX1_areOf 31 = .ok (.ireturn, 1) := by decide +kernel
set_option maxRecDepth 20000 in
theorem ggX2_init_X6_init : GoodIn wsX2_init wsX6_init := goodIn_r _ [21, 22, 2, 3, 4, 23, 24, 25, 26, 27, 28, 29, 30, 31, 43, 44, 45, 46, 47, 48, 49, 50, 51] (by decide +kernel) (by decide +kernel)
set_option maxRecDepth 20000 in
theorem gX2_init_X6_init : GoodIn wsX2_init (wsX6_init) := ggX2_init_X6_init
theorem dX2_init_0 : decode cX2_init 0 = .ok (.aload_n 0, 1) := by decide +kernel
theorem dX2_init_1 : decode cX2_init 1 = .ok (.invokespecial 3, 3) := by decide +kernel
theorem dX2_init_4 : decode cX2_init 4 = .ok (.aload_n 0, 1) := by decide +kernel
theorem dX2_init_5 : decode cX2_init 5 = .ok (.bipush 6, 2) := by decide +kernel
theorem dX2_init_7 : decode cX2_init 7 = .ok (.newarray .int, 2) := by decide +kernel
theorem dX2_init_9 : decode cX2_init 9 = .ok (.putfield 9, 3) := by decide +kernel
theorem dX2_init_12 : decode cX2_init 12 = .ok (.aload_n 0, 1) := by decide +kernel
theorem dX2_init_13 : decode cX2_init 13 = .ok (.bipush 40, 2) := by decide +kernel
theorem dX2_init_15 : decode cX2_init 15 = .ok (.newarray .int, 2) := by decide +kernel
theorem dX2_init_17 : decode cX2_init 17 = .ok (.putfield 15, 3) := by decide +kernel
theorem dX2_init_20 : decode cX2_init 20 = .ok (.aload_n 0, 1) := by decide +kernel
theorem dX2_init_21 : decode cX2_init 21 = .ok (.iconst 0, 1) := by decide +kernel
theorem dX2_init_22 : decode cX2_init 22 = .ok (.putfield 18, 3) := by decide +kernel
theorem dX2_init_25 : decode cX2_init 25 = .ok (.aload_n 0, 1) := by decide +kernel
theorem dX2_init_26 : decode cX2_init 26 = .ok (.bipush 6, 2) := by decide +kernel
theorem dX2_init_28 : decode cX2_init 28 = .ok (.newarray .int, 2) := by decide +kernel
theorem dX2_init_30 : decode cX2_init 30 = .ok (.putfield 22, 3) := by decide +kernel
theorem dX2_init_33 : decode cX2_init 33 = .ok (.aload_n 0, 1) := by decide +kernel
theorem dX2_init_34 : decode cX2_init 34 = .ok (.bipush 48, 2) := by decide +kernel
theorem dX2_init_36 : decode cX2_init 36 = .ok (.newarray .int, 2) := by decide +kernel
theorem dX2_init_38 : decode cX2_init 38 = .ok (.putfield 25, 3) := by decide +kernel
theorem dX2_init_41 : decode cX2_init 41 = .ok (.aload_n 0, 1) := by decide +kernel
theorem dX2_init_42 : decode cX2_init 42 = .ok (.bipush 48, 2) := by decide +kernel
theorem dX2_init_44 : decode cX2_init 44 = .ok (.newarray .int, 2) := by decide +kernel
theorem dX2_init_46 : decode cX2_init 46 = .ok (.putfield 28, 3) := by decide +kernel
theorem dX2_init_49 : decode cX2_init 49 = .ok (.aload_n 0, 1) := by decide +kernel
theorem dX2_init_50 : decode cX2_init 50 = .ok (.bipush 48, 2) := by decide +kernel
theorem dX2_init_52 : decode cX2_init 52 = .ok (.newarray .int, 2) := by decide +kernel
theorem dX2_init_54 : decode cX2_init 54 = .ok (.putfield 31, 3) := by decide +kernel
theorem dX2_init_57 : decode cX2_init 57 = .ok (.aload_n 0, 1) := by decide +kernel
theorem dX2_init_58 : decode cX2_init 58 = .ok (.bipush 48, 2) := by decide +kernel
theorem dX2_init_60 : decode cX2_init 60 = .ok (.newarray .int, 2) := by decide +kernel
theorem dX2_init_62 : decode cX2_init 62 = .ok (.putfield 34, 3) := by decide +kernel
theorem dX2_init_65 : decode cX2_init 65 = .ok (.aload_n 0, 1) := by decide +kernel
theorem dX2_init_66 : decode cX2_init 66 = .ok (.aload_n 1, 1) := by decide +kernel
theorem dX2_init_67 : decode cX2_init 67 = .ok (.putfield 37, 3) := by decide +kernel
theorem dX2_init_70 : decode cX2_init 70 = .ok (.aload_n 0, 1) := by decide +kernel
theorem dX2_init_71 : decode cX2_init 71 = .ok (.aload_n 2, 1) := by decide +kernel
theorem dX2_init_72 : decode cX2_init 72 = .ok (.putfield 41, 3) := by decide +kernel
theorem dX2_init_75 : decode cX2_init 75 = .ok (.aload_n 0, 1) := by decide +kernel
theorem dX2_init_76 : decode cX2_init 76 = .ok (.new 45, 3) := by decide +kernel
theorem dX2_init_79 : decode cX2_init 79 = .ok (.dup, 1) := by decide +kernel
theorem dX2_init_80 : decode cX2_init 80 = .ok (.aload_n 1, 1) := by decide +kernel
theorem dX2_init_81 : decode cX2_init 81 = .ok (.getfield 47, 3) := by decide +kernel
theorem dX2_init_84 : decode cX2_init 84 = .ok (.invokespecial 53, 3) := by decide +kernel
theorem dX2_init_87 : decode cX2_init 87 = .ok (.putfield 56, 3) := by decide +kernel
theorem dX2_init_90 : decode cX2_init 90 = .ok (.return_, 1) := by decide +kernel
theorem dX2_cell_0 : decode cX2_cell 0 = .ok (.iload_n 0, 1) := by decide +kernel
theorem dX2_cell_1 : decode cX2_cell 1 = .ok (.bipush 8, 2) := by decide +kernel
theorem dX2_cell_3 : decode cX2_cell 3 = .ok (.imul, 1) := by decide +kernel
theorem dX2_cell_4 : decode cX2_cell 4 = .ok (.iload_n 1, 1) := by decide +kernel
theorem dX2_cell_5 : decode cX2_cell 5 = .ok (.iadd, 1) := by decide +kernel
theorem dX2_cell_6 : decode cX2_cell 6 = .ok (.ireturn, 1) := by decide +kernel
theorem dX2_has_0 : decode cX2_has 0 = .ok (.iload_n 1, 1) := by decide +kernel
theorem dX2_has_1 : decode cX2_has 1 = .ok (.ifCond .lt 15, 3) := by decide +kernel
theorem dX2_has_4 : decode cX2_has 4 = .ok (.iload_n 1, 1) := by decide +kernel
theorem dX2_has_5 : decode cX2_has 5 = .ok (.aload_n 0, 1) := by decide +kernel
theorem dX2_has_6 : decode cX2_has 6 = .ok (.getfield 18, 3) := by decide +kernel
theorem dX2_has_9 : decode cX2_has 9 = .ok (.if_icmp .ge 7, 3) := by decide +kernel
theorem dX2_has_12 : decode cX2_has 12 = .ok (.iconst 1, 1) := by decide +kernel
theorem dX2_has_13 : decode cX2_has 13 = .ok (.goto 4, 3) := by decide +kernel
theorem dX2_has_16 : decode cX2_has 16 = .ok (.iconst 0, 1) := by decide +kernel
theorem dX2_has_17 : decode cX2_has 17 = .ok (.ireturn, 1) := by decide +kernel
theorem dX2_manyRides_0 : decode cX2_manyRides 0 = .ok (.aload_n 0, 1) := by decide +kernel
theorem dX2_manyRides_1 : decode cX2_manyRides 1 = .ok (.getfield 18, 3) := by decide +kernel
theorem dX2_manyRides_4 : decode cX2_manyRides 4 = .ok (.ifCond .ne 7, 3) := by decide +kernel
theorem dX2_manyRides_7 : decode cX2_manyRides 7 = .ok (.iconst 0, 1) := by decide +kernel
theorem dX2_manyRides_8 : decode cX2_manyRides 8 = .ok (.goto 17, 3) := by decide +kernel
theorem dX2_manyRides_11 : decode cX2_manyRides 11 = .ok (.aload_n 0, 1) := by decide +kernel
theorem dX2_manyRides_12 : decode cX2_manyRides 12 = .ok (.getfield 18, 3) := by decide +kernel
theorem dX2_manyRides_15 : decode cX2_manyRides 15 = .ok (.iconst 1, 1) := by decide +kernel
theorem dX2_manyRides_16 : decode cX2_manyRides 16 = .ok (.isub, 1) := by decide +kernel
theorem dX2_manyRides_17 : decode cX2_manyRides 17 = .ok (.aload_n 0, 1) := by decide +kernel
theorem dX2_manyRides_18 : decode cX2_manyRides 18 = .ok (.getfield 41, 3) := by decide +kernel
theorem dX2_manyRides_21 : decode cX2_manyRides 21 = .ok (.getfield 60, 3) := by decide +kernel
theorem dX2_manyRides_24 : decode cX2_manyRides 24 = .ok (.imul, 1) := by decide +kernel
theorem dX2_manyRides_25 : decode cX2_manyRides 25 = .ok (.ireturn, 1) := by decide +kernel
set_option maxRecDepth 20000 in
theorem ggX2_hasRide_X2_manyRides : GoodIn wsX2_hasRide wsX2_manyRides := goodIn_r _ [5, 6, 7, 8, 9, 10, 11, 12, 13, 14, 15, 16, 17, 18, 19, 20, 21] (by decide +kernel) (by decide +kernel)
set_option maxRecDepth 20000 in
theorem gX2_hasRide_X2_manyRides : GoodIn wsX2_hasRide (wsV RX2 63 RX2 yX2_manyRides wsX2_manyRides) := goodIn_app (goodIn_of _ (by decide +kernel)) ggX2_hasRide_X2_manyRides
theorem dX2_hasRide_0 : decode cX2_hasRide 0 = .ok (.iload_n 1, 1) := by decide +kernel
theorem dX2_hasRide_1 : decode cX2_hasRide 1 = .ok (.ifCond .lt 15, 3) := by decide +kernel
theorem dX2_hasRide_4 : decode cX2_hasRide 4 = .ok (.iload_n 1, 1) := by decide +kernel
theorem dX2_hasRide_5 : decode cX2_hasRide 5 = .ok (.aload_n 0, 1) := by decide +kernel
theorem dX2_hasRide_6 : decode cX2_hasRide 6 = .ok (.invokevirtual 63, 3) := by decide +kernel
theorem dX2_hasRide_9 : decode cX2_hasRide 9 = .ok (.if_icmp .ge 7, 3) := by decide +kernel
theorem dX2_hasRide_12 : decode cX2_hasRide 12 = .ok (.iconst 1, 1) := by decide +kernel
theorem dX2_hasRide_13 : decode cX2_hasRide 13 = .ok (.goto 4, 3) := by decide +kernel
theorem dX2_hasRide_16 : decode cX2_hasRide 16 = .ok (.iconst 0, 1) := by decide +kernel
theorem dX2_hasRide_17 : decode cX2_hasRide 17 = .ok (.ireturn, 1) := by decide +kernel
theorem dX2_forget_0 : decode cX2_forget 0 = .ok (.aload_n 0, 1) := by decide +kernel
theorem dX2_forget_1 : decode cX2_forget 1 = .ok (.iconst 0, 1) := by decide +kernel
theorem dX2_forget_2 : decode cX2_forget 2 = .ok (.putfield 18, 3) := by decide +kernel
theorem dX2_forget_5 : decode cX2_forget 5 = .ok (.return_, 1) := by decide +kernel
set_option maxRecDepth 20000 in
theorem ggX2_canBeOrder_X1_has : GoodIn wsX2_canBeOrder wsX1_has := goodIn_r _ [6, 7, 19, 20, 21, 22, 23, 24] (by decide +kernel) (by decide +kernel)
set_option maxRecDepth 20000 in
theorem gX2_canBeOrder_X1_has : GoodIn wsX2_canBeOrder (wsV RX2 67 RX1 yX1_has wsX1_has) := goodIn_app (goodIn_of _ (by decide +kernel)) ggX2_canBeOrder_X1_has
theorem dX2_canBeOrder_0 : decode cX2_canBeOrder 0 = .ok (.iload_n 1, 1) := by decide +kernel
theorem dX2_canBeOrder_1 : decode cX2_canBeOrder 1 = .ok (.ifCond .ge 5, 3) := by decide +kernel
theorem dX2_canBeOrder_4 : decode cX2_canBeOrder 4 = .ok (.iconst 0, 1) := by decide +kernel
theorem dX2_canBeOrder_5 : decode cX2_canBeOrder 5 = .ok (.ireturn, 1) := by decide +kernel
theorem dX2_canBeOrder_6 : decode cX2_canBeOrder 6 = .ok (.iconst 0, 1) := by decide +kernel
theorem dX2_canBeOrder_7 : decode cX2_canBeOrder 7 = .ok (.istore_n 2, 1) := by decide +kernel
theorem dX2_canBeOrder_8 : decode cX2_canBeOrder 8 = .ok (.iload_n 1, 1) := by decide +kernel
theorem dX2_canBeOrder_9 : decode cX2_canBeOrder 9 = .ok (.istore_n 3, 1) := by decide +kernel
theorem dX2_canBeOrder_10 : decode cX2_canBeOrder 10 = .ok (.iconst 0, 1) := by decide +kernel
theorem dX2_canBeOrder_11 : decode cX2_canBeOrder 11 = .ok (.istore 4, 2) := by decide +kernel
theorem dX2_canBeOrder_13 : decode cX2_canBeOrder 13 = .ok (.iload 4, 2) := by decide +kernel
theorem dX2_canBeOrder_15 : decode cX2_canBeOrder 15 = .ok (.bipush 6, 2) := by decide +kernel
theorem dX2_canBeOrder_17 : decode cX2_canBeOrder 17 = .ok (.if_icmp .ge 57, 3) := by decide +kernel
theorem dX2_canBeOrder_20 : decode cX2_canBeOrder 20 = .ok (.iload_n 3, 1) := by decide +kernel
theorem dX2_canBeOrder_21 : decode cX2_canBeOrder 21 = .ok (.ifCond .le 53, 3) := by decide +kernel
theorem dX2_canBeOrder_24 : decode cX2_canBeOrder 24 = .ok (.iload_n 3, 1) := by decide +kernel
theorem dX2_canBeOrder_25 : decode cX2_canBeOrder 25 = .ok (.bipush 7, 2) := by decide +kernel
theorem dX2_canBeOrder_27 : decode cX2_canBeOrder 27 = .ok (.irem, 1) := by decide +kernel
theorem dX2_canBeOrder_28 : decode cX2_canBeOrder 28 = .ok (.iconst 1, 1) := by decide +kernel
theorem dX2_canBeOrder_29 : decode cX2_canBeOrder 29 = .ok (.isub, 1) := by decide +kernel
theorem dX2_canBeOrder_30 : decode cX2_canBeOrder 30 = .ok (.istore 5, 2) := by decide +kernel
theorem dX2_canBeOrder_32 : decode cX2_canBeOrder 32 = .ok (.aload_n 0, 1) := by decide +kernel
theorem dX2_canBeOrder_33 : decode cX2_canBeOrder 33 = .ok (.getfield 37, 3) := by decide +kernel
theorem dX2_canBeOrder_36 : decode cX2_canBeOrder 36 = .ok (.iload 5, 2) := by decide +kernel
theorem dX2_canBeOrder_38 : decode cX2_canBeOrder 38 = .ok (.invokevirtual 67, 3) := by decide +kernel
theorem dX2_canBeOrder_41 : decode cX2_canBeOrder 41 = .ok (.ifCond .eq 13, 3) := by decide +kernel
theorem dX2_canBeOrder_44 : decode cX2_canBeOrder 44 = .ok (.iload_n 2, 1) := by decide +kernel
theorem dX2_canBeOrder_45 : decode cX2_canBeOrder 45 = .ok (.iload 5, 2) := by decide +kernel
theorem dX2_canBeOrder_47 : decode cX2_canBeOrder 47 = .ok (.ishr, 1) := by decide +kernel
theorem dX2_canBeOrder_48 : decode cX2_canBeOrder 48 = .ok (.iconst 1, 1) := by decide +kernel
theorem dX2_canBeOrder_49 : decode cX2_canBeOrder 49 = .ok (.iand, 1) := by decide +kernel
theorem dX2_canBeOrder_50 : decode cX2_canBeOrder 50 = .ok (.iconst 1, 1) := by decide +kernel
theorem dX2_canBeOrder_51 : decode cX2_canBeOrder 51 = .ok (.if_icmp .ne 5, 3) := by decide +kernel
theorem dX2_canBeOrder_54 : decode cX2_canBeOrder 54 = .ok (.iconst 0, 1) := by decide +kernel
theorem dX2_canBeOrder_55 : decode cX2_canBeOrder 55 = .ok (.ireturn, 1) := by decide +kernel
theorem dX2_canBeOrder_56 : decode cX2_canBeOrder 56 = .ok (.iload_n 2, 1) := by decide +kernel
theorem dX2_canBeOrder_57 : decode cX2_canBeOrder 57 = .ok (.iconst 1, 1) := by decide +kernel
theorem dX2_canBeOrder_58 : decode cX2_canBeOrder 58 = .ok (.iload 5, 2) := by decide +kernel
theorem dX2_canBeOrder_60 : decode cX2_canBeOrder 60 = .ok (.ishl, 1) := by decide +kernel
theorem dX2_canBeOrder_61 : decode cX2_canBeOrder 61 = .ok (.ior, 1) := by decide +kernel
theorem dX2_canBeOrder_62 : decode cX2_canBeOrder 62 = .ok (.istore_n 2, 1) := by decide +kernel
theorem dX2_canBeOrder_63 : decode cX2_canBeOrder 63 = .ok (.iload_n 3, 1) := by decide +kernel
theorem dX2_canBeOrder_64 : decode cX2_canBeOrder 64 = .ok (.bipush 7, 2) := by decide +kernel
theorem dX2_canBeOrder_66 : decode cX2_canBeOrder 66 = .ok (.idiv, 1) := by decide +kernel
theorem dX2_canBeOrder_67 : decode cX2_canBeOrder 67 = .ok (.istore_n 3, 1) := by decide +kernel
theorem dX2_canBeOrder_68 : decode cX2_canBeOrder 68 = .ok (.iinc 4 1, 3) := by decide +kernel
theorem dX2_canBeOrder_71 : decode cX2_canBeOrder 71 = .ok (.goto (-58), 3) := by decide +kernel
theorem dX2_canBeOrder_74 : decode cX2_canBeOrder 74 = .ok (.iload_n 3, 1) := by decide +kernel
theorem dX2_canBeOrder_75 : decode cX2_canBeOrder 75 = .ok (.ifCond .ne 7, 3) := by decide +kernel
theorem dX2_canBeOrder_78 : decode cX2_canBeOrder 78 = .ok (.iconst 1, 1) := by decide +kernel
theorem dX2_canBeOrder_79 : decode cX2_canBeOrder 79 = .ok (.goto 4, 3) := by decide +kernel
theorem dX2_canBeOrder_82 : decode cX2_canBeOrder 82 = .ok (.iconst 0, 1) := by decide +kernel
theorem dX2_canBeOrder_83 : decode cX2_canBeOrder 83 = .ok (.ireturn, 1) := by decide +kernel
set_option maxRecDepth 20000 in
theorem ggX2_takeOrder_J7_fill_53178 : GoodIn wsX2_takeOrder wsJ7_fill_53178 := goodIn_r _ [7] (by decide +kernel) (by decide +kernel)
set_option maxRecDepth 20000 in
theorem gX2_takeOrder_J7_fill_53178 : GoodIn wsX2_takeOrder (va_wsS RX2 71 yJ7_fill_53178 wsJ7_fill_53178) := goodIn_app (goodIn_of _ (by decide +kernel)) ggX2_takeOrder_J7_fill_53178
theorem dX2_takeOrder_0 : decode cX2_takeOrder 0 = .ok (.aload_n 0, 1) := by decide +kernel
theorem dX2_takeOrder_1 : decode cX2_takeOrder 1 = .ok (.iconst 0, 1) := by decide +kernel
theorem dX2_takeOrder_2 : decode cX2_takeOrder 2 = .ok (.putfield 18, 3) := by decide +kernel
theorem dX2_takeOrder_5 : decode cX2_takeOrder 5 = .ok (.iload_n 1, 1) := by decide +kernel
theorem dX2_takeOrder_6 : decode cX2_takeOrder 6 = .ok (.istore_n 2, 1) := by decide +kernel
theorem dX2_takeOrder_7 : decode cX2_takeOrder 7 = .ok (.iload_n 2, 1) := by decide +kernel
theorem dX2_takeOrder_8 : decode cX2_takeOrder 8 = .ok (.ifCond .le 30, 3) := by decide +kernel
theorem dX2_takeOrder_11 : decode cX2_takeOrder 11 = .ok (.aload_n 0, 1) := by decide +kernel
theorem dX2_takeOrder_12 : decode cX2_takeOrder 12 = .ok (.getfield 18, 3) := by decide +kernel
theorem dX2_takeOrder_15 : decode cX2_takeOrder 15 = .ok (.bipush 6, 2) := by decide +kernel
theorem dX2_takeOrder_17 : decode cX2_takeOrder 17 = .ok (.if_icmp .ge 21, 3) := by decide +kernel
theorem dX2_takeOrder_20 : decode cX2_takeOrder 20 = .ok (.aload_n 0, 1) := by decide +kernel
theorem dX2_takeOrder_21 : decode cX2_takeOrder 21 = .ok (.dup, 1) := by decide +kernel
theorem dX2_takeOrder_22 : decode cX2_takeOrder 22 = .ok (.getfield 18, 3) := by decide +kernel
theorem dX2_takeOrder_25 : decode cX2_takeOrder 25 = .ok (.iconst 1, 1) := by decide +kernel
theorem dX2_takeOrder_26 : decode cX2_takeOrder 26 = .ok (.iadd, 1) := by decide +kernel
theorem dX2_takeOrder_27 : decode cX2_takeOrder 27 = .ok (.putfield 18, 3) := by decide +kernel
theorem dX2_takeOrder_30 : decode cX2_takeOrder 30 = .ok (.iload_n 2, 1) := by decide +kernel
theorem dX2_takeOrder_31 : decode cX2_takeOrder 31 = .ok (.bipush 7, 2) := by decide +kernel
theorem dX2_takeOrder_33 : decode cX2_takeOrder 33 = .ok (.idiv, 1) := by decide +kernel
theorem dX2_takeOrder_34 : decode cX2_takeOrder 34 = .ok (.istore_n 2, 1) := by decide +kernel
theorem dX2_takeOrder_35 : decode cX2_takeOrder 35 = .ok (.goto (-28), 3) := by decide +kernel
theorem dX2_takeOrder_38 : decode cX2_takeOrder 38 = .ok (.iload_n 1, 1) := by decide +kernel
theorem dX2_takeOrder_39 : decode cX2_takeOrder 39 = .ok (.istore_n 2, 1) := by decide +kernel
theorem dX2_takeOrder_40 : decode cX2_takeOrder 40 = .ok (.aload_n 0, 1) := by decide +kernel
theorem dX2_takeOrder_41 : decode cX2_takeOrder 41 = .ok (.getfield 18, 3) := by decide +kernel
theorem dX2_takeOrder_44 : decode cX2_takeOrder 44 = .ok (.iconst 1, 1) := by decide +kernel
theorem dX2_takeOrder_45 : decode cX2_takeOrder 45 = .ok (.isub, 1) := by decide +kernel
theorem dX2_takeOrder_46 : decode cX2_takeOrder 46 = .ok (.istore_n 3, 1) := by decide +kernel
theorem dX2_takeOrder_47 : decode cX2_takeOrder 47 = .ok (.iload_n 3, 1) := by decide +kernel
theorem dX2_takeOrder_48 : decode cX2_takeOrder 48 = .ok (.ifCond .lt 26, 3) := by decide +kernel
theorem dX2_takeOrder_51 : decode cX2_takeOrder 51 = .ok (.aload_n 0, 1) := by decide +kernel
theorem dX2_takeOrder_52 : decode cX2_takeOrder 52 = .ok (.getfield 9, 3) := by decide +kernel
theorem dX2_takeOrder_55 : decode cX2_takeOrder 55 = .ok (.iload_n 3, 1) := by decide +kernel
theorem dX2_takeOrder_56 : decode cX2_takeOrder 56 = .ok (.iload_n 2, 1) := by decide +kernel
theorem dX2_takeOrder_57 : decode cX2_takeOrder 57 = .ok (.bipush 7, 2) := by decide +kernel
theorem dX2_takeOrder_59 : decode cX2_takeOrder 59 = .ok (.irem, 1) := by decide +kernel
theorem dX2_takeOrder_60 : decode cX2_takeOrder 60 = .ok (.iconst 1, 1) := by decide +kernel
theorem dX2_takeOrder_61 : decode cX2_takeOrder 61 = .ok (.isub, 1) := by decide +kernel
theorem dX2_takeOrder_62 : decode cX2_takeOrder 62 = .ok (.iastore, 1) := by decide +kernel
theorem dX2_takeOrder_63 : decode cX2_takeOrder 63 = .ok (.iload_n 2, 1) := by decide +kernel
theorem dX2_takeOrder_64 : decode cX2_takeOrder 64 = .ok (.bipush 7, 2) := by decide +kernel
theorem dX2_takeOrder_66 : decode cX2_takeOrder 66 = .ok (.idiv, 1) := by decide +kernel
theorem dX2_takeOrder_67 : decode cX2_takeOrder 67 = .ok (.istore_n 2, 1) := by decide +kernel
theorem dX2_takeOrder_68 : decode cX2_takeOrder 68 = .ok (.iinc 3 (-1), 3) := by decide +kernel
theorem dX2_takeOrder_71 : decode cX2_takeOrder 71 = .ok (.goto (-24), 3) := by decide +kernel
theorem dX2_takeOrder_74 : decode cX2_takeOrder 74 = .ok (.aload_n 0, 1) := by decide +kernel
theorem dX2_takeOrder_75 : decode cX2_takeOrder 75 = .ok (.getfield 15, 3) := by decide +kernel
theorem dX2_takeOrder_78 : decode cX2_takeOrder 78 = .ok (.iconst 0, 1) := by decide +kernel
theorem dX2_takeOrder_79 : decode cX2_takeOrder 79 = .ok (.invokestatic 71, 3) := by decide +kernel
theorem dX2_takeOrder_82 : decode cX2_takeOrder 82 = .ok (.aload_n 0, 1) := by decide +kernel
theorem dX2_takeOrder_83 : decode cX2_takeOrder 83 = .ok (.getfield 18, 3) := by decide +kernel
theorem dX2_takeOrder_86 : decode cX2_takeOrder 86 = .ok (.ireturn, 1) := by decide +kernel
set_option maxRecDepth 20000 in
theorem ggX2_wayTo_X3_between : GoodIn wsX2_wayTo wsX3_between := goodIn_r _ [7, 8, 26] (by decide +kernel) (by decide +kernel)
set_option maxRecDepth 20000 in
theorem gX2_wayTo_X3_between : GoodIn wsX2_wayTo (wsV RX2 77 RX3 yX3_between wsX3_between) := goodIn_app (goodIn_of _ (by decide +kernel)) ggX2_wayTo_X3_between
theorem dX2_wayTo_0 : decode cX2_wayTo 0 = .ok (.aload_n 0, 1) := by decide +kernel
theorem dX2_wayTo_1 : decode cX2_wayTo 1 = .ok (.getfield 37, 3) := by decide +kernel
theorem dX2_wayTo_4 : decode cX2_wayTo 4 = .ok (.getfield 47, 3) := by decide +kernel
theorem dX2_wayTo_7 : decode cX2_wayTo 7 = .ok (.aload_n 0, 1) := by decide +kernel
theorem dX2_wayTo_8 : decode cX2_wayTo 8 = .ok (.getfield 9, 3) := by decide +kernel
theorem dX2_wayTo_11 : decode cX2_wayTo 11 = .ok (.iload_n 1, 1) := by decide +kernel
theorem dX2_wayTo_12 : decode cX2_wayTo 12 = .ok (.iconst 1, 1) := by decide +kernel
theorem dX2_wayTo_13 : decode cX2_wayTo 13 = .ok (.isub, 1) := by decide +kernel
theorem dX2_wayTo_14 : decode cX2_wayTo 14 = .ok (.iaload, 1) := by decide +kernel
theorem dX2_wayTo_15 : decode cX2_wayTo 15 = .ok (.aload_n 0, 1) := by decide +kernel
theorem dX2_wayTo_16 : decode cX2_wayTo 16 = .ok (.getfield 9, 3) := by decide +kernel
theorem dX2_wayTo_19 : decode cX2_wayTo 19 = .ok (.iload_n 1, 1) := by decide +kernel
theorem dX2_wayTo_20 : decode cX2_wayTo 20 = .ok (.iaload, 1) := by decide +kernel
theorem dX2_wayTo_21 : decode cX2_wayTo 21 = .ok (.invokevirtual 77, 3) := by decide +kernel
theorem dX2_wayTo_24 : decode cX2_wayTo 24 = .ok (.ireturn, 1) := by decide +kernel
theorem dX2_rideOf_0 : decode cX2_rideOf 0 = .ok (.iload_n 1, 1) := by decide +kernel
theorem dX2_rideOf_1 : decode cX2_rideOf 1 = .ok (.iconst 1, 1) := by decide +kernel
theorem dX2_rideOf_2 : decode cX2_rideOf 2 = .ok (.isub, 1) := by decide +kernel
theorem dX2_rideOf_3 : decode cX2_rideOf 3 = .ok (.aload_n 0, 1) := by decide +kernel
theorem dX2_rideOf_4 : decode cX2_rideOf 4 = .ok (.getfield 41, 3) := by decide +kernel
theorem dX2_rideOf_7 : decode cX2_rideOf 7 = .ok (.getfield 60, 3) := by decide +kernel
theorem dX2_rideOf_10 : decode cX2_rideOf 10 = .ok (.imul, 1) := by decide +kernel
theorem dX2_rideOf_11 : decode cX2_rideOf 11 = .ok (.iload_n 2, 1) := by decide +kernel
theorem dX2_rideOf_12 : decode cX2_rideOf 12 = .ok (.iadd, 1) := by decide +kernel
theorem dX2_rideOf_13 : decode cX2_rideOf 13 = .ok (.ireturn, 1) := by decide +kernel
set_option maxRecDepth 20000 in
theorem ggX2_reckonStarts_X5_longest : GoodIn wsX2_reckonStarts wsX5_longest := goodIn_r _ [8, 9, 10, 11, 12, 13, 14, 15, 16, 7, 17, 18, 43, 44, 45] (by decide +kernel) (by decide +kernel)
set_option maxRecDepth 20000 in
theorem gX2_reckonStarts_X5_longest : GoodIn wsX2_reckonStarts (wsV RX2 83 RX5 yX5_longest wsX5_longest) := goodIn_app (goodIn_of _ (by decide +kernel)) ggX2_reckonStarts_X5_longest
set_option maxRecDepth 20000 in
theorem ggX2_reckonStarts_X2_wayTo : GoodIn wsX2_reckonStarts wsX2_wayTo := goodIn_r _ [23, 24, 25, 26, 27, 28, 29, 30, 31, 32, 33, 34, 35, 36, 37, 38, 39, 40, 41, 42, 46, 47, 48, 49, 50, 51, 52] (by decide +kernel) (by decide +kernel)
set_option maxRecDepth 20000 in
theorem gX2_reckonStarts_X2_wayTo : GoodIn wsX2_reckonStarts (wsV RX2 86 RX2 yX2_wayTo wsX2_wayTo) := goodIn_app (goodIn_of _ (by decide +kernel)) ggX2_reckonStarts_X2_wayTo
theorem dX2_reckonStarts_0 : decode cX2_reckonStarts 0 = .ok (.aload_n 0, 1) := by decide +kernel
theorem dX2_reckonStarts_1 : decode cX2_reckonStarts 1 = .ok (.getfield 41, 3) := by decide +kernel
theorem dX2_reckonStarts_4 : decode cX2_reckonStarts 4 = .ok (.invokevirtual 83, 3) := by decide +kernel
theorem dX2_reckonStarts_7 : decode cX2_reckonStarts 7 = .ok (.istore_n 1, 1) := by decide +kernel
theorem dX2_reckonStarts_8 : decode cX2_reckonStarts 8 = .ok (.aload_n 0, 1) := by decide +kernel
theorem dX2_reckonStarts_9 : decode cX2_reckonStarts 9 = .ok (.getfield 22, 3) := by decide +kernel
theorem dX2_reckonStarts_12 : decode cX2_reckonStarts 12 = .ok (.iconst 0, 1) := by decide +kernel
theorem dX2_reckonStarts_13 : decode cX2_reckonStarts 13 = .ok (.iconst 0, 1) := by decide +kernel
theorem dX2_reckonStarts_14 : decode cX2_reckonStarts 14 = .ok (.iastore, 1) := by decide +kernel
theorem dX2_reckonStarts_15 : decode cX2_reckonStarts 15 = .ok (.iconst 1, 1) := by decide +kernel
theorem dX2_reckonStarts_16 : decode cX2_reckonStarts 16 = .ok (.istore_n 2, 1) := by decide +kernel
theorem dX2_reckonStarts_17 : decode cX2_reckonStarts 17 = .ok (.iload_n 2, 1) := by decide +kernel
theorem dX2_reckonStarts_18 : decode cX2_reckonStarts 18 = .ok (.aload_n 0, 1) := by decide +kernel
theorem dX2_reckonStarts_19 : decode cX2_reckonStarts 19 = .ok (.getfield 18, 3) := by decide +kernel
theorem dX2_reckonStarts_22 : decode cX2_reckonStarts 22 = .ok (.if_icmp .ge 31, 3) := by decide +kernel
theorem dX2_reckonStarts_25 : decode cX2_reckonStarts 25 = .ok (.aload_n 0, 1) := by decide +kernel
theorem dX2_reckonStarts_26 : decode cX2_reckonStarts 26 = .ok (.getfield 22, 3) := by decide +kernel
theorem dX2_reckonStarts_29 : decode cX2_reckonStarts 29 = .ok (.iload_n 2, 1) := by decide +kernel
theorem dX2_reckonStarts_30 : decode cX2_reckonStarts 30 = .ok (.aload_n 0, 1) := by decide +kernel
theorem dX2_reckonStarts_31 : decode cX2_reckonStarts 31 = .ok (.getfield 22, 3) := by decide +kernel
theorem dX2_reckonStarts_34 : decode cX2_reckonStarts 34 = .ok (.iload_n 2, 1) := by decide +kernel
theorem dX2_reckonStarts_35 : decode cX2_reckonStarts 35 = .ok (.iconst 1, 1) := by decide +kernel
theorem dX2_reckonStarts_36 : decode cX2_reckonStarts 36 = .ok (.isub, 1) := by decide +kernel
theorem dX2_reckonStarts_37 : decode cX2_reckonStarts 37 = .ok (.iaload, 1) := by decide +kernel
theorem dX2_reckonStarts_38 : decode cX2_reckonStarts 38 = .ok (.iload_n 1, 1) := by decide +kernel
theorem dX2_reckonStarts_39 : decode cX2_reckonStarts 39 = .ok (.iadd, 1) := by decide +kernel
theorem dX2_reckonStarts_40 : decode cX2_reckonStarts 40 = .ok (.aload_n 0, 1) := by decide +kernel
theorem dX2_reckonStarts_41 : decode cX2_reckonStarts 41 = .ok (.iload_n 2, 1) := by decide +kernel
theorem dX2_reckonStarts_42 : decode cX2_reckonStarts 42 = .ok (.invokevirtual 86, 3) := by decide +kernel
theorem dX2_reckonStarts_45 : decode cX2_reckonStarts 45 = .ok (.iadd, 1) := by decide +kernel
theorem dX2_reckonStarts_46 : decode cX2_reckonStarts 46 = .ok (.iastore, 1) := by decide +kernel
theorem dX2_reckonStarts_47 : decode cX2_reckonStarts 47 = .ok (.iinc 2 1, 3) := by decide +kernel
theorem dX2_reckonStarts_50 : decode cX2_reckonStarts 50 = .ok (.goto (-33), 3) := by decide +kernel
theorem dX2_reckonStarts_53 : decode cX2_reckonStarts 53 = .ok (.return_, 1) := by decide +kernel
set_option maxRecDepth 20000 in
theorem ggX2_listRides_X2_reckonStarts : GoodIn wsX2_listRides wsX2_reckonStarts := goodIn_r _ [10, 4, 3, 2, 11, 12, 13, 14, 15, 16, 17, 18, 19, 20, 21, 22, 23, 24, 25, 26, 27, 28, 9, 29, 30, 5, 31, 32, 33, 34, 35, 36, 55, 56, 57, 58, 59, 60, 61, 62, 63, 64, 65, 66, 67, 68, 69, 70, 71, 72, 73, 74, 75] (by decide +kernel) (by decide +kernel)
set_option maxRecDepth 20000 in
theorem gX2_listRides_X2_reckonStarts : GoodIn wsX2_listRides (wsV RX2 90 RX2 yX2_reckonStarts wsX2_reckonStarts) := goodIn_app (goodIn_of _ (by decide +kernel)) ggX2_listRides_X2_reckonStarts
set_option maxRecDepth 20000 in
theorem ggX2_listRides_X6_clear : GoodIn wsX2_listRides wsX6_clear := goodIn_r _ [41, 42, 76, 77, 78, 79, 80, 81, 82, 83, 84] (by decide +kernel) (by decide +kernel)
set_option maxRecDepth 20000 in
theorem gX2_listRides_X6_clear : GoodIn wsX2_listRides (wsV RX2 93 RX6 yX6_clear wsX6_clear) := goodIn_app (goodIn_of _ (by decide +kernel)) ggX2_listRides_X6_clear
set_option maxRecDepth 20000 in
theorem ggX2_listRides_X5_minutes : GoodIn wsX2_listRides wsX5_minutes := goodIn_r _ [24, 25, 17, 18, 19, 20, 66, 67, 68] (by decide +kernel) (by decide +kernel)
set_option maxRecDepth 20000 in
theorem gX2_listRides_X5_minutes : GoodIn wsX2_listRides (wsV RX2 96 RX5 yX5_minutes wsX5_minutes) := goodIn_app (goodIn_of _ (by decide +kernel)) ggX2_listRides_X5_minutes
set_option maxRecDepth 20000 in
theorem ggX2_listRides_X6_add : GoodIn wsX2_listRides wsX6_add := goodIn_r _ [47, 42, 48, 49, 50, 51, 52, 53, 54, 32, 33, 34, 35, 36, 76, 77, 78, 79, 80, 81, 82, 83, 84, 75] (by decide +kernel) (by decide +kernel)
set_option maxRecDepth 20000 in
theorem gX2_listRides_X6_add : GoodIn wsX2_listRides (wsV RX2 99 RX6 yX6_add wsX6_add) := goodIn_app (goodIn_of _ (by decide +kernel)) ggX2_listRides_X6_add
theorem dX2_listRides_0 : decode cX2_listRides 0 = .ok (.aload_n 0, 1) := by decide +kernel
theorem dX2_listRides_1 : decode cX2_listRides 1 = .ok (.invokevirtual 90, 3) := by decide +kernel
theorem dX2_listRides_4 : decode cX2_listRides 4 = .ok (.aload_n 0, 1) := by decide +kernel
theorem dX2_listRides_5 : decode cX2_listRides 5 = .ok (.getfield 56, 3) := by decide +kernel
theorem dX2_listRides_8 : decode cX2_listRides 8 = .ok (.invokevirtual 93, 3) := by decide +kernel
theorem dX2_listRides_11 : decode cX2_listRides 11 = .ok (.iconst 1, 1) := by decide +kernel
theorem dX2_listRides_12 : decode cX2_listRides 12 = .ok (.istore_n 1, 1) := by decide +kernel
theorem dX2_listRides_13 : decode cX2_listRides 13 = .ok (.iload_n 1, 1) := by decide +kernel
theorem dX2_listRides_14 : decode cX2_listRides 14 = .ok (.aload_n 0, 1) := by decide +kernel
theorem dX2_listRides_15 : decode cX2_listRides 15 = .ok (.getfield 18, 3) := by decide +kernel
theorem dX2_listRides_18 : decode cX2_listRides 18 = .ok (.if_icmp .ge 71, 3) := by decide +kernel
theorem dX2_listRides_21 : decode cX2_listRides 21 = .ok (.aload_n 0, 1) := by decide +kernel
theorem dX2_listRides_22 : decode cX2_listRides 22 = .ok (.getfield 22, 3) := by decide +kernel
theorem dX2_listRides_25 : decode cX2_listRides 25 = .ok (.iload_n 1, 1) := by decide +kernel
theorem dX2_listRides_26 : decode cX2_listRides 26 = .ok (.iconst 1, 1) := by decide +kernel
theorem dX2_listRides_27 : decode cX2_listRides 27 = .ok (.isub, 1) := by decide +kernel
theorem dX2_listRides_28 : decode cX2_listRides 28 = .ok (.iaload, 1) := by decide +kernel
theorem dX2_listRides_29 : decode cX2_listRides 29 = .ok (.istore_n 2, 1) := by decide +kernel
theorem dX2_listRides_30 : decode cX2_listRides 30 = .ok (.iconst 0, 1) := by decide +kernel
theorem dX2_listRides_31 : decode cX2_listRides 31 = .ok (.istore_n 3, 1) := by decide +kernel
theorem dX2_listRides_32 : decode cX2_listRides 32 = .ok (.iload_n 3, 1) := by decide +kernel
theorem dX2_listRides_33 : decode cX2_listRides 33 = .ok (.aload_n 0, 1) := by decide +kernel
theorem dX2_listRides_34 : decode cX2_listRides 34 = .ok (.getfield 41, 3) := by decide +kernel
theorem dX2_listRides_37 : decode cX2_listRides 37 = .ok (.getfield 60, 3) := by decide +kernel
theorem dX2_listRides_40 : decode cX2_listRides 40 = .ok (.if_icmp .ge 43, 3) := by decide +kernel
theorem dX2_listRides_43 : decode cX2_listRides 43 = .ok (.iload_n 2, 1) := by decide +kernel
theorem dX2_listRides_44 : decode cX2_listRides 44 = .ok (.aload_n 0, 1) := by decide +kernel
theorem dX2_listRides_45 : decode cX2_listRides 45 = .ok (.getfield 41, 3) := by decide +kernel
theorem dX2_listRides_48 : decode cX2_listRides 48 = .ok (.iload_n 3, 1) := by decide +kernel
theorem dX2_listRides_49 : decode cX2_listRides 49 = .ok (.invokevirtual 96, 3) := by decide +kernel
theorem dX2_listRides_52 : decode cX2_listRides 52 = .ok (.iadd, 1) := by decide +kernel
theorem dX2_listRides_53 : decode cX2_listRides 53 = .ok (.istore_n 2, 1) := by decide +kernel
theorem dX2_listRides_54 : decode cX2_listRides 54 = .ok (.aload_n 0, 1) := by decide +kernel
theorem dX2_listRides_55 : decode cX2_listRides 55 = .ok (.getfield 56, 3) := by decide +kernel
theorem dX2_listRides_58 : decode cX2_listRides 58 = .ok (.iload_n 3, 1) := by decide +kernel
theorem dX2_listRides_59 : decode cX2_listRides 59 = .ok (.aload_n 0, 1) := by decide +kernel
theorem dX2_listRides_60 : decode cX2_listRides 60 = .ok (.getfield 9, 3) := by decide +kernel
theorem dX2_listRides_63 : decode cX2_listRides 63 = .ok (.iload_n 1, 1) := by decide +kernel
theorem dX2_listRides_64 : decode cX2_listRides 64 = .ok (.iconst 1, 1) := by decide +kernel
theorem dX2_listRides_65 : decode cX2_listRides 65 = .ok (.isub, 1) := by decide +kernel
theorem dX2_listRides_66 : decode cX2_listRides 66 = .ok (.iaload, 1) := by decide +kernel
theorem dX2_listRides_67 : decode cX2_listRides 67 = .ok (.aload_n 0, 1) := by decide +kernel
theorem dX2_listRides_68 : decode cX2_listRides 68 = .ok (.getfield 9, 3) := by decide +kernel
theorem dX2_listRides_71 : decode cX2_listRides 71 = .ok (.iload_n 1, 1) := by decide +kernel
theorem dX2_listRides_72 : decode cX2_listRides 72 = .ok (.iaload, 1) := by decide +kernel
theorem dX2_listRides_73 : decode cX2_listRides 73 = .ok (.iload_n 2, 1) := by decide +kernel
theorem dX2_listRides_74 : decode cX2_listRides 74 = .ok (.invokevirtual 99, 3) := by decide +kernel
theorem dX2_listRides_77 : decode cX2_listRides 77 = .ok (.iinc 3 1, 3) := by decide +kernel
theorem dX2_listRides_80 : decode cX2_listRides 80 = .ok (.goto (-48), 3) := by decide +kernel
theorem dX2_listRides_83 : decode cX2_listRides 83 = .ok (.iinc 1 1, 3) := by decide +kernel
theorem dX2_listRides_86 : decode cX2_listRides 86 = .ok (.goto (-73), 3) := by decide +kernel
theorem dX2_listRides_89 : decode cX2_listRides 89 = .ok (.aload_n 0, 1) := by decide +kernel
theorem dX2_listRides_90 : decode cX2_listRides 90 = .ok (.getfield 56, 3) := by decide +kernel
theorem dX2_listRides_93 : decode cX2_listRides 93 = .ok (.areturn, 1) := by decide +kernel
set_option maxRecDepth 20000 in
theorem ggX2_reckonShows_X2_reckonStarts : GoodIn wsX2_reckonShows wsX2_reckonStarts := goodIn_r _ [6, 7, 8, 1, 9, 10, 11, 12, 13, 14, 15, 16, 17, 18, 19, 20, 21, 22, 23, 24, 25, 26, 5, 27, 28, 29, 30, 31, 32, 33, 34, 35, 67, 68, 69, 70, 71, 72, 73, 74, 75, 76, 77, 78, 79, 80, 81, 82, 83, 84, 85, 86, 87] (by decide +kernel) (by decide +kernel)
set_option maxRecDepth 20000 in
theorem gX2_reckonShows_X2_reckonStarts : GoodIn wsX2_reckonShows (wsV RX2 90 RX2 yX2_reckonStarts wsX2_reckonStarts) := goodIn_app (goodIn_of _ (by decide +kernel)) ggX2_reckonShows_X2_reckonStarts
set_option maxRecDepth 20000 in
theorem ggX2_reckonShows_X2_reckonShow : GoodIn wsX2_reckonShows wsX2_reckonShow := goodIn_r _ [39, 8, 7, 40, 41, 42, 16, 17, 18, 43, 44, 45, 46, 5, 47, 48, 49, 50, 51, 52, 53, 54, 55, 56, 57, 20, 21, 12, 22, 23, 15, 24, 25, 26, 27, 28, 29, 30, 31, 32, 33, 34, 35, 58, 59, 60, 61, 62, 63, 64, 65, 66, 67, 68, 69, 70, 71, 72, 73, 74, 75, 76, 77, 78, 79, 80, 81, 82, 83, 84, 85, 86, 87] (by decide +kernel) (by decide +kernel)
set_option maxRecDepth 20000 in
theorem gX2_reckonShows_X2_reckonShow : GoodIn wsX2_reckonShows (wsV RX2 103 RX2 yX2_reckonShow wsX2_reckonShow) := goodIn_app (goodIn_of _ (by decide +kernel)) ggX2_reckonShows_X2_reckonShow
theorem dX2_reckonShows_0 : decode cX2_reckonShows 0 = .ok (.aload_n 0, 1) := by decide +kernel
theorem dX2_reckonShows_1 : decode cX2_reckonShows 1 = .ok (.invokevirtual 90, 3) := by decide +kernel
theorem dX2_reckonShows_4 : decode cX2_reckonShows 4 = .ok (.iconst 0, 1) := by decide +kernel
theorem dX2_reckonShows_5 : decode cX2_reckonShows 5 = .ok (.istore_n 1, 1) := by decide +kernel
theorem dX2_reckonShows_6 : decode cX2_reckonShows 6 = .ok (.iload_n 1, 1) := by decide +kernel
theorem dX2_reckonShows_7 : decode cX2_reckonShows 7 = .ok (.aload_n 0, 1) := by decide +kernel
theorem dX2_reckonShows_8 : decode cX2_reckonShows 8 = .ok (.getfield 18, 3) := by decide +kernel
theorem dX2_reckonShows_11 : decode cX2_reckonShows 11 = .ok (.if_icmp .ge 14, 3) := by decide +kernel
theorem dX2_reckonShows_14 : decode cX2_reckonShows 14 = .ok (.aload_n 0, 1) := by decide +kernel
theorem dX2_reckonShows_15 : decode cX2_reckonShows 15 = .ok (.iload_n 1, 1) := by decide +kernel
theorem dX2_reckonShows_16 : decode cX2_reckonShows 16 = .ok (.invokevirtual 103, 3) := by decide +kernel
theorem dX2_reckonShows_19 : decode cX2_reckonShows 19 = .ok (.iinc 1 1, 3) := by decide +kernel
theorem dX2_reckonShows_22 : decode cX2_reckonShows 22 = .ok (.goto (-16), 3) := by decide +kernel
theorem dX2_reckonShows_25 : decode cX2_reckonShows 25 = .ok (.return_, 1) := by decide +kernel
set_option maxRecDepth 20000 in
theorem ggX2_reckonShow_X2_cell : GoodIn wsX2_reckonShow wsX2_cell := goodIn_r _ [14] (by decide +kernel) (by decide +kernel)
set_option maxRecDepth 20000 in
theorem gX2_reckonShow_X2_cell : GoodIn wsX2_reckonShow (va_wsS RX2 107 yX2_cell wsX2_cell) := goodIn_app (goodIn_of _ (by decide +kernel)) ggX2_reckonShow_X2_cell
set_option maxRecDepth 20000 in
theorem ggX2_reckonShow_X2_comesTo : GoodIn wsX2_reckonShow wsX2_comesTo := goodIn_r _ [18, 19, 20, 21, 22, 13, 23, 4, 2, 11, 12, 14, 24, 25, 26, 27, 28, 29, 30, 6, 7, 8, 31, 32, 33, 34, 35, 36, 37, 38, 39, 40, 41, 42, 43, 44, 45, 46, 52, 53, 54, 55, 56, 57, 58, 59, 60, 61, 62, 63, 64, 65, 66, 67, 68, 69, 70, 71, 72] (by decide +kernel) (by decide +kernel)
set_option maxRecDepth 20000 in
theorem gX2_reckonShow_X2_comesTo : GoodIn wsX2_reckonShow (wsV RX2 110 RX2 yX2_comesTo wsX2_comesTo) := goodIn_app (goodIn_of _ (by decide +kernel)) ggX2_reckonShow_X2_comesTo
set_option maxRecDepth 20000 in
theorem ggX2_reckonShow_X2_causeOf : GoodIn wsX2_reckonShow wsX2_causeOf := goodIn_r _ [50, 9, 51, 19, 10, 11, 12, 13, 14, 43, 44, 45, 46, 2, 52, 53, 54, 55, 56, 57, 58, 59, 60, 61, 62, 63, 64, 65] (by decide +kernel) (by decide +kernel)
set_option maxRecDepth 20000 in
theorem gX2_reckonShow_X2_causeOf : GoodIn wsX2_reckonShow (wsV RX2 118 RX2 yX2_causeOf wsX2_causeOf) := goodIn_app (goodIn_of _ (by decide +kernel)) ggX2_reckonShow_X2_causeOf
set_option maxRecDepth 20000 in
theorem ggX2_reckonShow_X5_minutes : GoodIn wsX2_reckonShow wsX5_minutes := goodIn_r _ [28, 29, 30, 6, 7, 8, 63, 64, 65] (by decide +kernel) (by decide +kernel)
set_option maxRecDepth 20000 in
theorem gX2_reckonShow_X5_minutes : GoodIn wsX2_reckonShow (wsV RX2 96 RX5 yX5_minutes wsX5_minutes) := goodIn_app (goodIn_of _ (by decide +kernel)) ggX2_reckonShow_X5_minutes
theorem dX2_reckonShow_0 : decode cX2_reckonShow 0 = .ok (.aload_n 0, 1) := by decide +kernel
theorem dX2_reckonShow_1 : decode cX2_reckonShow 1 = .ok (.getfield 22, 3) := by decide +kernel
theorem dX2_reckonShow_4 : decode cX2_reckonShow 4 = .ok (.iload_n 1, 1) := by decide +kernel
theorem dX2_reckonShow_5 : decode cX2_reckonShow 5 = .ok (.iaload, 1) := by decide +kernel
theorem dX2_reckonShow_6 : decode cX2_reckonShow 6 = .ok (.istore_n 2, 1) := by decide +kernel
theorem dX2_reckonShow_7 : decode cX2_reckonShow 7 = .ok (.iconst 0, 1) := by decide +kernel
theorem dX2_reckonShow_8 : decode cX2_reckonShow 8 = .ok (.istore_n 3, 1) := by decide +kernel
theorem dX2_reckonShow_9 : decode cX2_reckonShow 9 = .ok (.iload_n 3, 1) := by decide +kernel
theorem dX2_reckonShow_10 : decode cX2_reckonShow 10 = .ok (.aload_n 0, 1) := by decide +kernel
theorem dX2_reckonShow_11 : decode cX2_reckonShow 11 = .ok (.getfield 41, 3) := by decide +kernel
theorem dX2_reckonShow_14 : decode cX2_reckonShow 14 = .ok (.getfield 60, 3) := by decide +kernel
theorem dX2_reckonShow_17 : decode cX2_reckonShow 17 = .ok (.if_icmp .ge 93, 3) := by decide +kernel
theorem dX2_reckonShow_20 : decode cX2_reckonShow 20 = .ok (.iload_n 1, 1) := by decide +kernel
theorem dX2_reckonShow_21 : decode cX2_reckonShow 21 = .ok (.iload_n 3, 1) := by decide +kernel
theorem dX2_reckonShow_22 : decode cX2_reckonShow 22 = .ok (.invokestatic 107, 3) := by decide +kernel
theorem dX2_reckonShow_25 : decode cX2_reckonShow 25 = .ok (.istore 4, 2) := by decide +kernel
theorem dX2_reckonShow_27 : decode cX2_reckonShow 27 = .ok (.aload_n 0, 1) := by decide +kernel
theorem dX2_reckonShow_28 : decode cX2_reckonShow 28 = .ok (.getfield 25, 3) := by decide +kernel
theorem dX2_reckonShow_31 : decode cX2_reckonShow 31 = .ok (.iload 4, 2) := by decide +kernel
theorem dX2_reckonShow_33 : decode cX2_reckonShow 33 = .ok (.aload_n 0, 1) := by decide +kernel
theorem dX2_reckonShow_34 : decode cX2_reckonShow 34 = .ok (.iload_n 1, 1) := by decide +kernel
theorem dX2_reckonShow_35 : decode cX2_reckonShow 35 = .ok (.iload_n 3, 1) := by decide +kernel
theorem dX2_reckonShow_36 : decode cX2_reckonShow 36 = .ok (.invokevirtual 110, 3) := by decide +kernel
theorem dX2_reckonShow_39 : decode cX2_reckonShow 39 = .ok (.iastore, 1) := by decide +kernel
theorem dX2_reckonShow_40 : decode cX2_reckonShow 40 = .ok (.aload_n 0, 1) := by decide +kernel
theorem dX2_reckonShow_41 : decode cX2_reckonShow 41 = .ok (.getfield 28, 3) := by decide +kernel
theorem dX2_reckonShow_44 : decode cX2_reckonShow 44 = .ok (.iload 4, 2) := by decide +kernel
theorem dX2_reckonShow_46 : decode cX2_reckonShow 46 = .ok (.iload_n 2, 1) := by decide +kernel
theorem dX2_reckonShow_47 : decode cX2_reckonShow 47 = .ok (.aload_n 0, 1) := by decide +kernel
theorem dX2_reckonShow_48 : decode cX2_reckonShow 48 = .ok (.getfield 25, 3) := by decide +kernel
theorem dX2_reckonShow_51 : decode cX2_reckonShow 51 = .ok (.iload 4, 2) := by decide +kernel
theorem dX2_reckonShow_53 : decode cX2_reckonShow 53 = .ok (.iaload, 1) := by decide +kernel
theorem dX2_reckonShow_54 : decode cX2_reckonShow 54 = .ok (.invokestatic 113, 3) := by decide +kernel
theorem dX2_reckonShow_57 : decode cX2_reckonShow 57 = .ok (.iastore, 1) := by decide +kernel
theorem dX2_reckonShow_58 : decode cX2_reckonShow 58 = .ok (.aload_n 0, 1) := by decide +kernel
theorem dX2_reckonShow_59 : decode cX2_reckonShow 59 = .ok (.getfield 31, 3) := by decide +kernel
theorem dX2_reckonShow_62 : decode cX2_reckonShow 62 = .ok (.iload 4, 2) := by decide +kernel
theorem dX2_reckonShow_64 : decode cX2_reckonShow 64 = .ok (.aload_n 0, 1) := by decide +kernel
theorem dX2_reckonShow_65 : decode cX2_reckonShow 65 = .ok (.getfield 28, 3) := by decide +kernel
theorem dX2_reckonShow_68 : decode cX2_reckonShow 68 = .ok (.iload 4, 2) := by decide +kernel
theorem dX2_reckonShow_70 : decode cX2_reckonShow 70 = .ok (.iaload, 1) := by decide +kernel
theorem dX2_reckonShow_71 : decode cX2_reckonShow 71 = .ok (.iload_n 2, 1) := by decide +kernel
theorem dX2_reckonShow_72 : decode cX2_reckonShow 72 = .ok (.isub, 1) := by decide +kernel
theorem dX2_reckonShow_73 : decode cX2_reckonShow 73 = .ok (.iastore, 1) := by decide +kernel
theorem dX2_reckonShow_74 : decode cX2_reckonShow 74 = .ok (.aload_n 0, 1) := by decide +kernel
theorem dX2_reckonShow_75 : decode cX2_reckonShow 75 = .ok (.getfield 34, 3) := by decide +kernel
theorem dX2_reckonShow_78 : decode cX2_reckonShow 78 = .ok (.iload 4, 2) := by decide +kernel
theorem dX2_reckonShow_80 : decode cX2_reckonShow 80 = .ok (.aload_n 0, 1) := by decide +kernel
theorem dX2_reckonShow_81 : decode cX2_reckonShow 81 = .ok (.iload_n 1, 1) := by decide +kernel
theorem dX2_reckonShow_82 : decode cX2_reckonShow 82 = .ok (.iload_n 3, 1) := by decide +kernel
theorem dX2_reckonShow_83 : decode cX2_reckonShow 83 = .ok (.invokevirtual 118, 3) := by decide +kernel
theorem dX2_reckonShow_86 : decode cX2_reckonShow 86 = .ok (.iastore, 1) := by decide +kernel
theorem dX2_reckonShow_87 : decode cX2_reckonShow 87 = .ok (.aload_n 0, 1) := by decide +kernel
theorem dX2_reckonShow_88 : decode cX2_reckonShow 88 = .ok (.getfield 28, 3) := by decide +kernel
theorem dX2_reckonShow_91 : decode cX2_reckonShow 91 = .ok (.iload 4, 2) := by decide +kernel
theorem dX2_reckonShow_93 : decode cX2_reckonShow 93 = .ok (.iaload, 1) := by decide +kernel
theorem dX2_reckonShow_94 : decode cX2_reckonShow 94 = .ok (.aload_n 0, 1) := by decide +kernel
theorem dX2_reckonShow_95 : decode cX2_reckonShow 95 = .ok (.getfield 41, 3) := by decide +kernel
theorem dX2_reckonShow_98 : decode cX2_reckonShow 98 = .ok (.iload_n 3, 1) := by decide +kernel
theorem dX2_reckonShow_99 : decode cX2_reckonShow 99 = .ok (.invokevirtual 96, 3) := by decide +kernel
theorem dX2_reckonShow_102 : decode cX2_reckonShow 102 = .ok (.iadd, 1) := by decide +kernel
theorem dX2_reckonShow_103 : decode cX2_reckonShow 103 = .ok (.istore_n 2, 1) := by decide +kernel
theorem dX2_reckonShow_104 : decode cX2_reckonShow 104 = .ok (.iinc 3 1, 3) := by decide +kernel
theorem dX2_reckonShow_107 : decode cX2_reckonShow 107 = .ok (.goto (-98), 3) := by decide +kernel
theorem dX2_reckonShow_110 : decode cX2_reckonShow 110 = .ok (.return_, 1) := by decide +kernel
set_option maxRecDepth 20000 in
theorem ggX2_endedAt_X2_cell : GoodIn wsX2_endedAt wsX2_cell := goodIn_r _ [6] (by decide +kernel) (by decide +kernel)
set_option maxRecDepth 20000 in
theorem gX2_endedAt_X2_cell : GoodIn wsX2_endedAt (va_wsS RX2 107 yX2_cell wsX2_cell) := goodIn_app (goodIn_of _ (by decide +kernel)) ggX2_endedAt_X2_cell
set_option maxRecDepth 20000 in
theorem ggX2_endedAt_X5_minutes : GoodIn wsX2_endedAt wsX5_minutes := goodIn_r _ [11, 12, 13, 14, 15, 16, 28, 29, 30] (by decide +kernel) (by decide +kernel)
set_option maxRecDepth 20000 in
theorem gX2_endedAt_X5_minutes : GoodIn wsX2_endedAt (wsV RX2 96 RX5 yX5_minutes wsX5_minutes) := goodIn_app (goodIn_of _ (by decide +kernel)) ggX2_endedAt_X5_minutes
theorem dX2_endedAt_0 : decode cX2_endedAt 0 = .ok (.aload_n 0, 1) := by decide +kernel
theorem dX2_endedAt_1 : decode cX2_endedAt 1 = .ok (.getfield 28, 3) := by decide +kernel
theorem dX2_endedAt_4 : decode cX2_endedAt 4 = .ok (.iload_n 1, 1) := by decide +kernel
theorem dX2_endedAt_5 : decode cX2_endedAt 5 = .ok (.iload_n 2, 1) := by decide +kernel
theorem dX2_endedAt_6 : decode cX2_endedAt 6 = .ok (.invokestatic 107, 3) := by decide +kernel
theorem dX2_endedAt_9 : decode cX2_endedAt 9 = .ok (.iaload, 1) := by decide +kernel
theorem dX2_endedAt_10 : decode cX2_endedAt 10 = .ok (.aload_n 0, 1) := by decide +kernel
theorem dX2_endedAt_11 : decode cX2_endedAt 11 = .ok (.getfield 41, 3) := by decide +kernel
theorem dX2_endedAt_14 : decode cX2_endedAt 14 = .ok (.iload_n 2, 1) := by decide +kernel
theorem dX2_endedAt_15 : decode cX2_endedAt 15 = .ok (.invokevirtual 96, 3) := by decide +kernel
theorem dX2_endedAt_18 : decode cX2_endedAt 18 = .ok (.iadd, 1) := by decide +kernel
theorem dX2_endedAt_19 : decode cX2_endedAt 19 = .ok (.ireturn, 1) := by decide +kernel
set_option maxRecDepth 20000 in
theorem ggX2_comesTo_X2_endedAt : GoodIn wsX2_comesTo wsX2_endedAt := goodIn_r _ [6, 7, 8, 9, 10, 5, 11, 12, 13, 14, 15, 16, 17, 18, 19, 20, 21, 38, 39, 40, 41, 42, 43, 44, 45, 46, 47, 48, 49, 50, 51] (by decide +kernel) (by decide +kernel)
set_option maxRecDepth 20000 in
theorem gX2_comesTo_X2_endedAt : GoodIn wsX2_comesTo (wsV RX2 121 RX2 yX2_endedAt wsX2_endedAt) := goodIn_app (goodIn_of _ (by decide +kernel)) ggX2_comesTo_X2_endedAt
set_option maxRecDepth 20000 in
theorem ggX2_comesTo_X2_wayTo : GoodIn wsX2_comesTo wsX2_wayTo := goodIn_r _ [25, 26, 27, 28, 29, 30, 31, 32, 33, 38, 39, 40, 41, 42, 43, 44, 45, 46, 47, 48, 52, 53, 54, 55, 56, 57, 58] (by decide +kernel) (by decide +kernel)
set_option maxRecDepth 20000 in
theorem gX2_comesTo_X2_wayTo : GoodIn wsX2_comesTo (wsV RX2 86 RX2 yX2_wayTo wsX2_wayTo) := goodIn_app (goodIn_of _ (by decide +kernel)) ggX2_comesTo_X2_wayTo
set_option maxRecDepth 20000 in
theorem ggX2_comesTo_X2_rideOf : GoodIn wsX2_comesTo wsX2_rideOf := goodIn_r _ [37, 8, 38, 39, 40, 41, 42, 43, 44, 45, 46, 47, 48, 49, 50, 51] (by decide +kernel) (by decide +kernel)
set_option maxRecDepth 20000 in
theorem gX2_comesTo_X2_rideOf : GoodIn wsX2_comesTo (wsV RX2 124 RX2 yX2_rideOf wsX2_rideOf) := goodIn_app (goodIn_of _ (by decide +kernel)) ggX2_comesTo_X2_rideOf
theorem dX2_comesTo_0 : decode cX2_comesTo 0 = .ok (.iload_n 1, 1) := by decide +kernel
theorem dX2_comesTo_1 : decode cX2_comesTo 1 = .ok (.ifCond .ne 7, 3) := by decide +kernel
theorem dX2_comesTo_4 : decode cX2_comesTo 4 = .ok (.iconst 0, 1) := by decide +kernel
theorem dX2_comesTo_5 : decode cX2_comesTo 5 = .ok (.goto 29, 3) := by decide +kernel
theorem dX2_comesTo_8 : decode cX2_comesTo 8 = .ok (.aload_n 0, 1) := by decide +kernel
theorem dX2_comesTo_9 : decode cX2_comesTo 9 = .ok (.iload_n 1, 1) := by decide +kernel
theorem dX2_comesTo_10 : decode cX2_comesTo 10 = .ok (.iconst 1, 1) := by decide +kernel
theorem dX2_comesTo_11 : decode cX2_comesTo 11 = .ok (.isub, 1) := by decide +kernel
theorem dX2_comesTo_12 : decode cX2_comesTo 12 = .ok (.iload_n 2, 1) := by decide +kernel
theorem dX2_comesTo_13 : decode cX2_comesTo 13 = .ok (.invokevirtual 121, 3) := by decide +kernel
theorem dX2_comesTo_16 : decode cX2_comesTo 16 = .ok (.aload_n 0, 1) := by decide +kernel
theorem dX2_comesTo_17 : decode cX2_comesTo 17 = .ok (.iload_n 1, 1) := by decide +kernel
theorem dX2_comesTo_18 : decode cX2_comesTo 18 = .ok (.invokevirtual 86, 3) := by decide +kernel
theorem dX2_comesTo_21 : decode cX2_comesTo 21 = .ok (.iadd, 1) := by decide +kernel
theorem dX2_comesTo_22 : decode cX2_comesTo 22 = .ok (.aload_n 0, 1) := by decide +kernel
theorem dX2_comesTo_23 : decode cX2_comesTo 23 = .ok (.getfield 15, 3) := by decide +kernel
theorem dX2_comesTo_26 : decode cX2_comesTo 26 = .ok (.aload_n 0, 1) := by decide +kernel
theorem dX2_comesTo_27 : decode cX2_comesTo 27 = .ok (.iload_n 1, 1) := by decide +kernel
theorem dX2_comesTo_28 : decode cX2_comesTo 28 = .ok (.iload_n 2, 1) := by decide +kernel
theorem dX2_comesTo_29 : decode cX2_comesTo 29 = .ok (.invokevirtual 124, 3) := by decide +kernel
theorem dX2_comesTo_32 : decode cX2_comesTo 32 = .ok (.iaload, 1) := by decide +kernel
theorem dX2_comesTo_33 : decode cX2_comesTo 33 = .ok (.iadd, 1) := by decide +kernel
theorem dX2_comesTo_34 : decode cX2_comesTo 34 = .ok (.ireturn, 1) := by decide +kernel
set_option maxRecDepth 20000 in
theorem ggX2_causeOf_X2_cell : GoodIn wsX2_causeOf wsX2_cell := goodIn_r _ [8] (by decide +kernel) (by decide +kernel)
set_option maxRecDepth 20000 in
theorem gX2_causeOf_X2_cell : GoodIn wsX2_causeOf (va_wsS RX2 107 yX2_cell wsX2_cell) := goodIn_app (goodIn_of _ (by decide +kernel)) ggX2_causeOf_X2_cell
set_option maxRecDepth 20000 in
theorem ggX2_causeOf_X2_rideOf : GoodIn wsX2_causeOf wsX2_rideOf := goodIn_r _ [12, 13, 14, 15, 16, 17, 18, 19, 20, 21, 22, 23, 24, 25, 26, 27] (by decide +kernel) (by decide +kernel)
set_option maxRecDepth 20000 in
theorem gX2_causeOf_X2_rideOf : GoodIn wsX2_causeOf (wsV RX2 124 RX2 yX2_rideOf wsX2_rideOf) := goodIn_app (goodIn_of _ (by decide +kernel)) ggX2_causeOf_X2_rideOf
theorem dX2_causeOf_0 : decode cX2_causeOf 0 = .ok (.iload_n 1, 1) := by decide +kernel
theorem dX2_causeOf_1 : decode cX2_causeOf 1 = .ok (.ifCond .eq 16, 3) := by decide +kernel
theorem dX2_causeOf_4 : decode cX2_causeOf 4 = .ok (.aload_n 0, 1) := by decide +kernel
theorem dX2_causeOf_5 : decode cX2_causeOf 5 = .ok (.getfield 31, 3) := by decide +kernel
theorem dX2_causeOf_8 : decode cX2_causeOf 8 = .ok (.iload_n 1, 1) := by decide +kernel
theorem dX2_causeOf_9 : decode cX2_causeOf 9 = .ok (.iload_n 2, 1) := by decide +kernel
theorem dX2_causeOf_10 : decode cX2_causeOf 10 = .ok (.invokestatic 107, 3) := by decide +kernel
theorem dX2_causeOf_13 : decode cX2_causeOf 13 = .ok (.iaload, 1) := by decide +kernel
theorem dX2_causeOf_14 : decode cX2_causeOf 14 = .ok (.ifCond .ne 6, 3) := by decide +kernel
theorem dX2_causeOf_17 : decode cX2_causeOf 17 = .ok (.ldc 127, 2) := by decide +kernel
theorem dX2_causeOf_19 : decode cX2_causeOf 19 = .ok (.ireturn, 1) := by decide +kernel
theorem dX2_causeOf_20 : decode cX2_causeOf 20 = .ok (.aload_n 0, 1) := by decide +kernel
theorem dX2_causeOf_21 : decode cX2_causeOf 21 = .ok (.iload_n 1, 1) := by decide +kernel
theorem dX2_causeOf_22 : decode cX2_causeOf 22 = .ok (.iload_n 2, 1) := by decide +kernel
theorem dX2_causeOf_23 : decode cX2_causeOf 23 = .ok (.invokevirtual 124, 3) := by decide +kernel
theorem dX2_causeOf_26 : decode cX2_causeOf 26 = .ok (.istore_n 3, 1) := by decide +kernel
theorem dX2_causeOf_27 : decode cX2_causeOf 27 = .ok (.aload_n 0, 1) := by decide +kernel
theorem dX2_causeOf_28 : decode cX2_causeOf 28 = .ok (.getfield 15, 3) := by decide +kernel
theorem dX2_causeOf_31 : decode cX2_causeOf 31 = .ok (.iload_n 3, 1) := by decide +kernel
theorem dX2_causeOf_32 : decode cX2_causeOf 32 = .ok (.iaload, 1) := by decide +kernel
theorem dX2_causeOf_33 : decode cX2_causeOf 33 = .ok (.ifCond .le 5, 3) := by decide +kernel
theorem dX2_causeOf_36 : decode cX2_causeOf 36 = .ok (.iload_n 3, 1) := by decide +kernel
theorem dX2_causeOf_37 : decode cX2_causeOf 37 = .ok (.ireturn, 1) := by decide +kernel
theorem dX2_causeOf_38 : decode cX2_causeOf 38 = .ok (.iload_n 2, 1) := by decide +kernel
theorem dX2_causeOf_39 : decode cX2_causeOf 39 = .ok (.istore 4, 2) := by decide +kernel
theorem dX2_causeOf_41 : decode cX2_causeOf 41 = .ok (.iload 4, 2) := by decide +kernel
theorem dX2_causeOf_43 : decode cX2_causeOf 43 = .ok (.ifCond .lt 34, 3) := by decide +kernel
theorem dX2_causeOf_46 : decode cX2_causeOf 46 = .ok (.aload_n 0, 1) := by decide +kernel
theorem dX2_causeOf_47 : decode cX2_causeOf 47 = .ok (.getfield 34, 3) := by decide +kernel
theorem dX2_causeOf_50 : decode cX2_causeOf 50 = .ok (.iload_n 1, 1) := by decide +kernel
theorem dX2_causeOf_51 : decode cX2_causeOf 51 = .ok (.iconst 1, 1) := by decide +kernel
theorem dX2_causeOf_52 : decode cX2_causeOf 52 = .ok (.isub, 1) := by decide +kernel
theorem dX2_causeOf_53 : decode cX2_causeOf 53 = .ok (.iload 4, 2) := by decide +kernel
theorem dX2_causeOf_55 : decode cX2_causeOf 55 = .ok (.invokestatic 107, 3) := by decide +kernel
theorem dX2_causeOf_58 : decode cX2_causeOf 58 = .ok (.iaload, 1) := by decide +kernel
theorem dX2_causeOf_59 : decode cX2_causeOf 59 = .ok (.istore 5, 2) := by decide +kernel
theorem dX2_causeOf_61 : decode cX2_causeOf 61 = .ok (.iload 5, 2) := by decide +kernel
theorem dX2_causeOf_63 : decode cX2_causeOf 63 = .ok (.ldc 127, 2) := by decide +kernel
theorem dX2_causeOf_65 : decode cX2_causeOf 65 = .ok (.if_icmp .eq 6, 3) := by decide +kernel
theorem dX2_causeOf_68 : decode cX2_causeOf 68 = .ok (.iload 5, 2) := by decide +kernel
theorem dX2_causeOf_70 : decode cX2_causeOf 70 = .ok (.ireturn, 1) := by decide +kernel
theorem dX2_causeOf_71 : decode cX2_causeOf 71 = .ok (.iinc 4 (-1), 3) := by decide +kernel
theorem dX2_causeOf_74 : decode cX2_causeOf 74 = .ok (.goto (-33), 3) := by decide +kernel
theorem dX2_causeOf_77 : decode cX2_causeOf 77 = .ok (.ldc 127, 2) := by decide +kernel
theorem dX2_causeOf_79 : decode cX2_causeOf 79 = .ok (.ireturn, 1) := by decide +kernel
set_option maxRecDepth 20000 in
theorem ggX2_waitedAt_X2_cell : GoodIn wsX2_waitedAt wsX2_cell := goodIn_r _ [12] (by decide +kernel) (by decide +kernel)
set_option maxRecDepth 20000 in
theorem gX2_waitedAt_X2_cell : GoodIn wsX2_waitedAt (va_wsS RX2 107 yX2_cell wsX2_cell) := goodIn_app (goodIn_of _ (by decide +kernel)) ggX2_waitedAt_X2_cell
theorem dX2_waitedAt_0 : decode cX2_waitedAt 0 = .ok (.aload_n 0, 1) := by decide +kernel
theorem dX2_waitedAt_1 : decode cX2_waitedAt 1 = .ok (.getfield 37, 3) := by decide +kernel
theorem dX2_waitedAt_4 : decode cX2_waitedAt 4 = .ok (.getfield 128, 3) := by decide +kernel
theorem dX2_waitedAt_7 : decode cX2_waitedAt 7 = .ok (.aload_n 0, 1) := by decide +kernel
theorem dX2_waitedAt_8 : decode cX2_waitedAt 8 = .ok (.getfield 9, 3) := by decide +kernel
theorem dX2_waitedAt_11 : decode cX2_waitedAt 11 = .ok (.iload_n 1, 1) := by decide +kernel
theorem dX2_waitedAt_12 : decode cX2_waitedAt 12 = .ok (.iaload, 1) := by decide +kernel
theorem dX2_waitedAt_13 : decode cX2_waitedAt 13 = .ok (.iaload, 1) := by decide +kernel
theorem dX2_waitedAt_14 : decode cX2_waitedAt 14 = .ok (.istore_n 2, 1) := by decide +kernel
theorem dX2_waitedAt_15 : decode cX2_waitedAt 15 = .ok (.iconst 0, 1) := by decide +kernel
theorem dX2_waitedAt_16 : decode cX2_waitedAt 16 = .ok (.istore_n 3, 1) := by decide +kernel
theorem dX2_waitedAt_17 : decode cX2_waitedAt 17 = .ok (.iconst 0, 1) := by decide +kernel
theorem dX2_waitedAt_18 : decode cX2_waitedAt 18 = .ok (.istore 4, 2) := by decide +kernel
theorem dX2_waitedAt_20 : decode cX2_waitedAt 20 = .ok (.iload 4, 2) := by decide +kernel
theorem dX2_waitedAt_22 : decode cX2_waitedAt 22 = .ok (.aload_n 0, 1) := by decide +kernel
theorem dX2_waitedAt_23 : decode cX2_waitedAt 23 = .ok (.getfield 41, 3) := by decide +kernel
theorem dX2_waitedAt_26 : decode cX2_waitedAt 26 = .ok (.getfield 60, 3) := by decide +kernel
theorem dX2_waitedAt_29 : decode cX2_waitedAt 29 = .ok (.if_icmp .ge 43, 3) := by decide +kernel
theorem dX2_waitedAt_32 : decode cX2_waitedAt 32 = .ok (.aload_n 0, 1) := by decide +kernel
theorem dX2_waitedAt_33 : decode cX2_waitedAt 33 = .ok (.getfield 31, 3) := by decide +kernel
theorem dX2_waitedAt_36 : decode cX2_waitedAt 36 = .ok (.iload_n 1, 1) := by decide +kernel
theorem dX2_waitedAt_37 : decode cX2_waitedAt 37 = .ok (.iload 4, 2) := by decide +kernel
theorem dX2_waitedAt_39 : decode cX2_waitedAt 39 = .ok (.invokestatic 107, 3) := by decide +kernel
theorem dX2_waitedAt_42 : decode cX2_waitedAt 42 = .ok (.iaload, 1) := by decide +kernel
theorem dX2_waitedAt_43 : decode cX2_waitedAt 43 = .ok (.istore 5, 2) := by decide +kernel
theorem dX2_waitedAt_45 : decode cX2_waitedAt 45 = .ok (.iload_n 3, 1) := by decide +kernel
theorem dX2_waitedAt_46 : decode cX2_waitedAt 46 = .ok (.iload 4, 2) := by decide +kernel
theorem dX2_waitedAt_48 : decode cX2_waitedAt 48 = .ok (.ifCond .ne 8, 3) := by decide +kernel
theorem dX2_waitedAt_51 : decode cX2_waitedAt 51 = .ok (.iload 5, 2) := by decide +kernel
theorem dX2_waitedAt_53 : decode cX2_waitedAt 53 = .ok (.goto 11, 3) := by decide +kernel
theorem dX2_waitedAt_56 : decode cX2_waitedAt 56 = .ok (.iconst 0, 1) := by decide +kernel
theorem dX2_waitedAt_57 : decode cX2_waitedAt 57 = .ok (.iload 5, 2) := by decide +kernel
theorem dX2_waitedAt_59 : decode cX2_waitedAt 59 = .ok (.iload_n 2, 1) := by decide +kernel
theorem dX2_waitedAt_60 : decode cX2_waitedAt 60 = .ok (.isub, 1) := by decide +kernel
theorem dX2_waitedAt_61 : decode cX2_waitedAt 61 = .ok (.invokestatic 113, 3) := by decide +kernel
theorem dX2_waitedAt_64 : decode cX2_waitedAt 64 = .ok (.iadd, 1) := by decide +kernel
theorem dX2_waitedAt_65 : decode cX2_waitedAt 65 = .ok (.istore_n 3, 1) := by decide +kernel
theorem dX2_waitedAt_66 : decode cX2_waitedAt 66 = .ok (.iinc 4 1, 3) := by decide +kernel
theorem dX2_waitedAt_69 : decode cX2_waitedAt 69 = .ok (.goto (-49), 3) := by decide +kernel
theorem dX2_waitedAt_72 : decode cX2_waitedAt 72 = .ok (.iload_n 3, 1) := by decide +kernel
theorem dX2_waitedAt_73 : decode cX2_waitedAt 73 = .ok (.ireturn, 1) := by decide +kernel
set_option maxRecDepth 20000 in
theorem ggX2_whereIs_X2_endedAt : GoodIn wsX2_whereIs wsX2_endedAt := goodIn_r _ [8, 9, 10, 11, 12, 7, 13, 14, 15, 16, 17, 18, 19, 20, 21, 22, 23, 28, 29, 30, 31, 32, 33, 34, 35, 36, 37, 38, 39, 40, 41] (by decide +kernel) (by decide +kernel)
set_option maxRecDepth 20000 in
theorem gX2_whereIs_X2_endedAt : GoodIn wsX2_whereIs (wsV RX2 121 RX2 yX2_endedAt wsX2_endedAt) := goodIn_app (goodIn_of _ (by decide +kernel)) ggX2_whereIs_X2_endedAt
set_option maxRecDepth 20000 in
theorem ggX2_whereIs_X2_cell : GoodIn wsX2_whereIs wsX2_cell := goodIn_r _ [13] (by decide +kernel) (by decide +kernel)
set_option maxRecDepth 20000 in
theorem gX2_whereIs_X2_cell : GoodIn wsX2_whereIs (va_wsS RX2 107 yX2_cell wsX2_cell) := goodIn_app (goodIn_of _ (by decide +kernel)) ggX2_whereIs_X2_cell
set_option maxRecDepth 20000 in
theorem ggX2_whereIs_X2_rideOf : GoodIn wsX2_whereIs wsX2_rideOf := goodIn_r _ [27, 10, 28, 29, 30, 31, 32, 33, 34, 35, 36, 37, 38, 39, 40, 41] (by decide +kernel) (by decide +kernel)
set_option maxRecDepth 20000 in
theorem gX2_whereIs_X2_rideOf : GoodIn wsX2_whereIs (wsV RX2 124 RX2 yX2_rideOf wsX2_rideOf) := goodIn_app (goodIn_of _ (by decide +kernel)) ggX2_whereIs_X2_rideOf
theorem dX2_whereIs_0 : decode cX2_whereIs 0 = .ok (.iconst 1, 1) := by decide +kernel
theorem dX2_whereIs_1 : decode cX2_whereIs 1 = .ok (.istore_n 3, 1) := by decide +kernel
theorem dX2_whereIs_2 : decode cX2_whereIs 2 = .ok (.iload_n 3, 1) := by decide +kernel
theorem dX2_whereIs_3 : decode cX2_whereIs 3 = .ok (.aload_n 0, 1) := by decide +kernel
theorem dX2_whereIs_4 : decode cX2_whereIs 4 = .ok (.getfield 18, 3) := by decide +kernel
theorem dX2_whereIs_7 : decode cX2_whereIs 7 = .ok (.if_icmp .ge 54, 3) := by decide +kernel
theorem dX2_whereIs_10 : decode cX2_whereIs 10 = .ok (.iload_n 2, 1) := by decide +kernel
theorem dX2_whereIs_11 : decode cX2_whereIs 11 = .ok (.aload_n 0, 1) := by decide +kernel
theorem dX2_whereIs_12 : decode cX2_whereIs 12 = .ok (.iload_n 3, 1) := by decide +kernel
theorem dX2_whereIs_13 : decode cX2_whereIs 13 = .ok (.iconst 1, 1) := by decide +kernel
theorem dX2_whereIs_14 : decode cX2_whereIs 14 = .ok (.isub, 1) := by decide +kernel
theorem dX2_whereIs_15 : decode cX2_whereIs 15 = .ok (.iload_n 1, 1) := by decide +kernel
theorem dX2_whereIs_16 : decode cX2_whereIs 16 = .ok (.invokevirtual 121, 3) := by decide +kernel
theorem dX2_whereIs_19 : decode cX2_whereIs 19 = .ok (.if_icmp .ge 12, 3) := by decide +kernel
theorem dX2_whereIs_22 : decode cX2_whereIs 22 = .ok (.aload_n 0, 1) := by decide +kernel
theorem dX2_whereIs_23 : decode cX2_whereIs 23 = .ok (.getfield 9, 3) := by decide +kernel
theorem dX2_whereIs_26 : decode cX2_whereIs 26 = .ok (.iload_n 3, 1) := by decide +kernel
theorem dX2_whereIs_27 : decode cX2_whereIs 27 = .ok (.iconst 1, 1) := by decide +kernel
theorem dX2_whereIs_28 : decode cX2_whereIs 28 = .ok (.isub, 1) := by decide +kernel
theorem dX2_whereIs_29 : decode cX2_whereIs 29 = .ok (.iaload, 1) := by decide +kernel
theorem dX2_whereIs_30 : decode cX2_whereIs 30 = .ok (.ireturn, 1) := by decide +kernel
theorem dX2_whereIs_31 : decode cX2_whereIs 31 = .ok (.iload_n 2, 1) := by decide +kernel
theorem dX2_whereIs_32 : decode cX2_whereIs 32 = .ok (.aload_n 0, 1) := by decide +kernel
theorem dX2_whereIs_33 : decode cX2_whereIs 33 = .ok (.getfield 25, 3) := by decide +kernel
theorem dX2_whereIs_36 : decode cX2_whereIs 36 = .ok (.iload_n 3, 1) := by decide +kernel
theorem dX2_whereIs_37 : decode cX2_whereIs 37 = .ok (.iload_n 1, 1) := by decide +kernel
theorem dX2_whereIs_38 : decode cX2_whereIs 38 = .ok (.invokestatic 107, 3) := by decide +kernel
theorem dX2_whereIs_41 : decode cX2_whereIs 41 = .ok (.iaload, 1) := by decide +kernel
theorem dX2_whereIs_42 : decode cX2_whereIs 42 = .ok (.if_icmp .ge 13, 3) := by decide +kernel
theorem dX2_whereIs_45 : decode cX2_whereIs 45 = .ok (.bipush 100, 2) := by decide +kernel
theorem dX2_whereIs_47 : decode cX2_whereIs 47 = .ok (.aload_n 0, 1) := by decide +kernel
theorem dX2_whereIs_48 : decode cX2_whereIs 48 = .ok (.iload_n 3, 1) := by decide +kernel
theorem dX2_whereIs_49 : decode cX2_whereIs 49 = .ok (.iload_n 1, 1) := by decide +kernel
theorem dX2_whereIs_50 : decode cX2_whereIs 50 = .ok (.invokevirtual 124, 3) := by decide +kernel
theorem dX2_whereIs_53 : decode cX2_whereIs 53 = .ok (.iadd, 1) := by decide +kernel
theorem dX2_whereIs_54 : decode cX2_whereIs 54 = .ok (.ireturn, 1) := by decide +kernel
theorem dX2_whereIs_55 : decode cX2_whereIs 55 = .ok (.iinc 3 1, 3) := by decide +kernel
theorem dX2_whereIs_58 : decode cX2_whereIs 58 = .ok (.goto (-56), 3) := by decide +kernel
theorem dX2_whereIs_61 : decode cX2_whereIs 61 = .ok (.aload_n 0, 1) := by decide +kernel
theorem dX2_whereIs_62 : decode cX2_whereIs 62 = .ok (.getfield 9, 3) := by decide +kernel
theorem dX2_whereIs_65 : decode cX2_whereIs 65 = .ok (.aload_n 0, 1) := by decide +kernel
theorem dX2_whereIs_66 : decode cX2_whereIs 66 = .ok (.getfield 18, 3) := by decide +kernel
theorem dX2_whereIs_69 : decode cX2_whereIs 69 = .ok (.iconst 1, 1) := by decide +kernel
theorem dX2_whereIs_70 : decode cX2_whereIs 70 = .ok (.isub, 1) := by decide +kernel
theorem dX2_whereIs_71 : decode cX2_whereIs 71 = .ok (.iaload, 1) := by decide +kernel
theorem dX2_whereIs_72 : decode cX2_whereIs 72 = .ok (.ireturn, 1) := by decide +kernel
theorem dX3_init_0 : decode cX3_init 0 = .ok (.aload_n 0, 1) := by decide +kernel
theorem dX3_init_1 : decode cX3_init 1 = .ok (.invokespecial 3, 3) := by decide +kernel
theorem dX3_init_4 : decode cX3_init 4 = .ok (.aload_n 0, 1) := by decide +kernel
theorem dX3_init_5 : decode cX3_init 5 = .ok (.bipush 36, 2) := by decide +kernel
theorem dX3_init_7 : decode cX3_init 7 = .ok (.newarray .int, 2) := by decide +kernel
theorem dX3_init_9 : decode cX3_init 9 = .ok (.putfield 9, 3) := by decide +kernel
theorem dX3_init_12 : decode cX3_init 12 = .ok (.iconst 0, 1) := by decide +kernel
theorem dX3_init_13 : decode cX3_init 13 = .ok (.istore_n 2, 1) := by decide +kernel
theorem dX3_init_14 : decode cX3_init 14 = .ok (.iload_n 2, 1) := by decide +kernel
theorem dX3_init_15 : decode cX3_init 15 = .ok (.bipush 6, 2) := by decide +kernel
theorem dX3_init_17 : decode cX3_init 17 = .ok (.if_icmp .ge 44, 3) := by decide +kernel
theorem dX3_init_20 : decode cX3_init 20 = .ok (.iconst 0, 1) := by decide +kernel
theorem dX3_init_21 : decode cX3_init 21 = .ok (.istore_n 3, 1) := by decide +kernel
theorem dX3_init_22 : decode cX3_init 22 = .ok (.iload_n 3, 1) := by decide +kernel
theorem dX3_init_23 : decode cX3_init 23 = .ok (.bipush 6, 2) := by decide +kernel
theorem dX3_init_25 : decode cX3_init 25 = .ok (.if_icmp .ge 30, 3) := by decide +kernel
theorem dX3_init_28 : decode cX3_init 28 = .ok (.aload_n 0, 1) := by decide +kernel
theorem dX3_init_29 : decode cX3_init 29 = .ok (.getfield 9, 3) := by decide +kernel
theorem dX3_init_32 : decode cX3_init 32 = .ok (.iload_n 2, 1) := by decide +kernel
theorem dX3_init_33 : decode cX3_init 33 = .ok (.bipush 6, 2) := by decide +kernel
theorem dX3_init_35 : decode cX3_init 35 = .ok (.imul, 1) := by decide +kernel
theorem dX3_init_36 : decode cX3_init 36 = .ok (.iload_n 3, 1) := by decide +kernel
theorem dX3_init_37 : decode cX3_init 37 = .ok (.iadd, 1) := by decide +kernel
theorem dX3_init_38 : decode cX3_init 38 = .ok (.iload_n 2, 1) := by decide +kernel
theorem dX3_init_39 : decode cX3_init 39 = .ok (.iload_n 3, 1) := by decide +kernel
theorem dX3_init_40 : decode cX3_init 40 = .ok (.if_icmp .ne 7, 3) := by decide +kernel
theorem dX3_init_43 : decode cX3_init 43 = .ok (.iconst 0, 1) := by decide +kernel
theorem dX3_init_44 : decode cX3_init 44 = .ok (.goto 4, 3) := by decide +kernel
theorem dX3_init_47 : decode cX3_init 47 = .ok (.iload_n 1, 1) := by decide +kernel
theorem dX3_init_48 : decode cX3_init 48 = .ok (.iastore, 1) := by decide +kernel
theorem dX3_init_49 : decode cX3_init 49 = .ok (.iinc 3 1, 3) := by decide +kernel
theorem dX3_init_52 : decode cX3_init 52 = .ok (.goto (-30), 3) := by decide +kernel
theorem dX3_init_55 : decode cX3_init 55 = .ok (.iinc 2 1, 3) := by decide +kernel
theorem dX3_init_58 : decode cX3_init 58 = .ok (.goto (-44), 3) := by decide +kernel
theorem dX3_init_61 : decode cX3_init 61 = .ok (.return_, 1) := by decide +kernel
theorem dX3_between_0 : decode cX3_between 0 = .ok (.aload_n 0, 1) := by decide +kernel
theorem dX3_between_1 : decode cX3_between 1 = .ok (.getfield 9, 3) := by decide +kernel
theorem dX3_between_4 : decode cX3_between 4 = .ok (.iload_n 1, 1) := by decide +kernel
theorem dX3_between_5 : decode cX3_between 5 = .ok (.bipush 6, 2) := by decide +kernel
theorem dX3_between_7 : decode cX3_between 7 = .ok (.imul, 1) := by decide +kernel
theorem dX3_between_8 : decode cX3_between 8 = .ok (.iload_n 2, 1) := by decide +kernel
theorem dX3_between_9 : decode cX3_between 9 = .ok (.iadd, 1) := by decide +kernel
theorem dX3_between_10 : decode cX3_between 10 = .ok (.iaload, 1) := by decide +kernel
theorem dX3_between_11 : decode cX3_between 11 = .ok (.ireturn, 1) := by decide +kernel
set_option maxRecDepth 20000 in
theorem ggX3_become_X3_between : GoodIn wsX3_become wsX3_between := goodIn_r _ [6, 1, 7] (by decide +kernel) (by decide +kernel)
set_option maxRecDepth 20000 in
theorem gX3_become_X3_between : GoodIn wsX3_become (wsV RX3 15 RX3 yX3_between wsX3_between) := goodIn_app (goodIn_of _ (by decide +kernel)) ggX3_become_X3_between
theorem dX3_become_0 : decode cX3_become 0 = .ok (.aload_n 0, 1) := by decide +kernel
theorem dX3_become_1 : decode cX3_become 1 = .ok (.iload_n 1, 1) := by decide +kernel
theorem dX3_become_2 : decode cX3_become 2 = .ok (.iload_n 2, 1) := by decide +kernel
theorem dX3_become_3 : decode cX3_become 3 = .ok (.invokevirtual 15, 3) := by decide +kernel
theorem dX3_become_6 : decode cX3_become 6 = .ok (.istore 4, 2) := by decide +kernel
theorem dX3_become_8 : decode cX3_become 8 = .ok (.aload_n 0, 1) := by decide +kernel
theorem dX3_become_9 : decode cX3_become 9 = .ok (.getfield 9, 3) := by decide +kernel
theorem dX3_become_12 : decode cX3_become 12 = .ok (.iload_n 1, 1) := by decide +kernel
theorem dX3_become_13 : decode cX3_become 13 = .ok (.bipush 6, 2) := by decide +kernel
theorem dX3_become_15 : decode cX3_become 15 = .ok (.imul, 1) := by decide +kernel
theorem dX3_become_16 : decode cX3_become 16 = .ok (.iload_n 2, 1) := by decide +kernel
theorem dX3_become_17 : decode cX3_become 17 = .ok (.iadd, 1) := by decide +kernel
theorem dX3_become_18 : decode cX3_become 18 = .ok (.iload_n 3, 1) := by decide +kernel
theorem dX3_become_19 : decode cX3_become 19 = .ok (.iastore, 1) := by decide +kernel
theorem dX3_become_20 : decode cX3_become 20 = .ok (.aload_n 0, 1) := by decide +kernel
theorem dX3_become_21 : decode cX3_become 21 = .ok (.getfield 9, 3) := by decide +kernel
theorem dX3_become_24 : decode cX3_become 24 = .ok (.iload_n 2, 1) := by decide +kernel
theorem dX3_become_25 : decode cX3_become 25 = .ok (.bipush 6, 2) := by decide +kernel
theorem dX3_become_27 : decode cX3_become 27 = .ok (.imul, 1) := by decide +kernel
theorem dX3_become_28 : decode cX3_become 28 = .ok (.iload_n 1, 1) := by decide +kernel
theorem dX3_become_29 : decode cX3_become 29 = .ok (.iadd, 1) := by decide +kernel
theorem dX3_become_30 : decode cX3_become 30 = .ok (.iload_n 3, 1) := by decide +kernel
theorem dX3_become_31 : decode cX3_become 31 = .ok (.iastore, 1) := by decide +kernel
theorem dX3_become_32 : decode cX3_become 32 = .ok (.iload 4, 2) := by decide +kernel
theorem dX3_become_34 : decode cX3_become 34 = .ok (.ireturn, 1) := by decide +kernel
set_option maxRecDepth 20000 in
theorem ggX4_init_X8_init : GoodIn wsX4_init wsX8_init := goodIn_r _ [12, 13, 2, 3, 14, 15, 16, 20, 21] (by decide +kernel) (by decide +kernel)
set_option maxRecDepth 20000 in
theorem gX4_init_X8_init_n17 : GoodIn wsX4_init (wsX8_init) := ggX4_init_X8_init
theorem dX4_init_0 : decode cX4_init 0 = .ok (.aload_n 0, 1) := by decide +kernel
theorem dX4_init_1 : decode cX4_init 1 = .ok (.invokespecial 3, 3) := by decide +kernel
theorem dX4_init_4 : decode cX4_init 4 = .ok (.aload_n 0, 1) := by decide +kernel
theorem dX4_init_5 : decode cX4_init 5 = .ok (.iconst 3, 1) := by decide +kernel
theorem dX4_init_6 : decode cX4_init 6 = .ok (.newarray .int, 2) := by decide +kernel
theorem dX4_init_8 : decode cX4_init 8 = .ok (.dup, 1) := by decide +kernel
theorem dX4_init_9 : decode cX4_init 9 = .ok (.iconst 0, 1) := by decide +kernel
theorem dX4_init_10 : decode cX4_init 10 = .ok (.bipush 40, 2) := by decide +kernel
theorem dX4_init_12 : decode cX4_init 12 = .ok (.iastore, 1) := by decide +kernel
theorem dX4_init_13 : decode cX4_init 13 = .ok (.dup, 1) := by decide +kernel
theorem dX4_init_14 : decode cX4_init 14 = .ok (.iconst 1, 1) := by decide +kernel
theorem dX4_init_15 : decode cX4_init 15 = .ok (.bipush 20, 2) := by decide +kernel
theorem dX4_init_17 : decode cX4_init 17 = .ok (.iastore, 1) := by decide +kernel
theorem dX4_init_18 : decode cX4_init 18 = .ok (.dup, 1) := by decide +kernel
theorem dX4_init_19 : decode cX4_init 19 = .ok (.iconst 2, 1) := by decide +kernel
theorem dX4_init_20 : decode cX4_init 20 = .ok (.iconst 1, 1) := by decide +kernel
theorem dX4_init_21 : decode cX4_init 21 = .ok (.iastore, 1) := by decide +kernel
theorem dX4_init_22 : decode cX4_init 22 = .ok (.putfield 9, 3) := by decide +kernel
theorem dX4_init_25 : decode cX4_init 25 = .ok (.aload_n 0, 1) := by decide +kernel
theorem dX4_init_26 : decode cX4_init 26 = .ok (.iconst 2, 1) := by decide +kernel
theorem dX4_init_27 : decode cX4_init 27 = .ok (.anewarray 15, 3) := by decide +kernel
theorem dX4_init_30 : decode cX4_init 30 = .ok (.dup, 1) := by decide +kernel
theorem dX4_init_31 : decode cX4_init 31 = .ok (.iconst 0, 1) := by decide +kernel
theorem dX4_init_32 : decode cX4_init 32 = .ok (.new 15, 3) := by decide +kernel
theorem dX4_init_35 : decode cX4_init 35 = .ok (.dup, 1) := by decide +kernel
theorem dX4_init_36 : decode cX4_init 36 = .ok (.invokespecial 17, 3) := by decide +kernel
theorem dX4_init_39 : decode cX4_init 39 = .ok (.aastore, 1) := by decide +kernel
theorem dX4_init_40 : decode cX4_init 40 = .ok (.dup, 1) := by decide +kernel
theorem dX4_init_41 : decode cX4_init 41 = .ok (.iconst 1, 1) := by decide +kernel
theorem dX4_init_42 : decode cX4_init 42 = .ok (.new 15, 3) := by decide +kernel
theorem dX4_init_45 : decode cX4_init 45 = .ok (.dup, 1) := by decide +kernel
theorem dX4_init_46 : decode cX4_init 46 = .ok (.invokespecial 17, 3) := by decide +kernel
theorem dX4_init_49 : decode cX4_init 49 = .ok (.aastore, 1) := by decide +kernel
theorem dX4_init_50 : decode cX4_init 50 = .ok (.putfield 18, 3) := by decide +kernel
theorem dX4_init_53 : decode cX4_init 53 = .ok (.aload_n 0, 1) := by decide +kernel
theorem dX4_init_54 : decode cX4_init 54 = .ok (.aload_n 1, 1) := by decide +kernel
theorem dX4_init_55 : decode cX4_init 55 = .ok (.putfield 22, 3) := by decide +kernel
theorem dX4_init_58 : decode cX4_init 58 = .ok (.return_, 1) := by decide +kernel
set_option maxRecDepth 20000 in
theorem ggX4_mayRule_X9_within : GoodIn wsX4_mayRule wsX9_within := goodIn_r _ [3] (by decide +kernel) (by decide +kernel)
set_option maxRecDepth 20000 in
theorem gX4_mayRule_X9_within_n26 : GoodIn wsX4_mayRule (wsX9_within) := ggX4_mayRule_X9_within
theorem dX4_mayRule_0 : decode cX4_mayRule 0 = .ok (.iload_n 1, 1) := by decide +kernel
theorem dX4_mayRule_1 : decode cX4_mayRule 1 = .ok (.iconst 2, 1) := by decide +kernel
theorem dX4_mayRule_2 : decode cX4_mayRule 2 = .ok (.if_icmp .eq 22, 3) := by decide +kernel
theorem dX4_mayRule_5 : decode cX4_mayRule 5 = .ok (.iload_n 1, 1) := by decide +kernel
theorem dX4_mayRule_6 : decode cX4_mayRule 6 = .ok (.ifCond .eq 8, 3) := by decide +kernel
theorem dX4_mayRule_9 : decode cX4_mayRule 9 = .ok (.iload_n 1, 1) := by decide +kernel
theorem dX4_mayRule_10 : decode cX4_mayRule 10 = .ok (.iconst 1, 1) := by decide +kernel
theorem dX4_mayRule_11 : decode cX4_mayRule 11 = .ok (.if_icmp .ne 17, 3) := by decide +kernel
theorem dX4_mayRule_14 : decode cX4_mayRule 14 = .ok (.iload_n 2, 1) := by decide +kernel
theorem dX4_mayRule_15 : decode cX4_mayRule 15 = .ok (.iconst 0, 1) := by decide +kernel
theorem dX4_mayRule_16 : decode cX4_mayRule 16 = .ok (.bipush 100, 2) := by decide +kernel
theorem dX4_mayRule_18 : decode cX4_mayRule 18 = .ok (.invokestatic 26, 3) := by decide +kernel
theorem dX4_mayRule_21 : decode cX4_mayRule 21 = .ok (.ifCond .eq 7, 3) := by decide +kernel
theorem dX4_mayRule_24 : decode cX4_mayRule 24 = .ok (.iconst 1, 1) := by decide +kernel
theorem dX4_mayRule_25 : decode cX4_mayRule 25 = .ok (.goto 4, 3) := by decide +kernel
theorem dX4_mayRule_28 : decode cX4_mayRule 28 = .ok (.iconst 0, 1) := by decide +kernel
theorem dX4_mayRule_29 : decode cX4_mayRule 29 = .ok (.ireturn, 1) := by decide +kernel
theorem dX4_shareOf_0 : decode cX4_shareOf 0 = .ok (.iload_n 2, 1) := by decide +kernel
theorem dX4_shareOf_1 : decode cX4_shareOf 1 = .ok (.getstatic 30, 3) := by decide +kernel
theorem dX4_shareOf_4 : decode cX4_shareOf 4 = .ok (.aload_n 0, 1) := by decide +kernel
theorem dX4_shareOf_5 : decode cX4_shareOf 5 = .ok (.getfield 22, 3) := by decide +kernel
theorem dX4_shareOf_8 : decode cX4_shareOf 8 = .ok (.getfield 33, 3) := by decide +kernel
theorem dX4_shareOf_11 : decode cX4_shareOf 11 = .ok (.iload_n 1, 1) := by decide +kernel
theorem dX4_shareOf_12 : decode cX4_shareOf 12 = .ok (.iaload, 1) := by decide +kernel
theorem dX4_shareOf_13 : decode cX4_shareOf 13 = .ok (.iaload, 1) := by decide +kernel
theorem dX4_shareOf_14 : decode cX4_shareOf 14 = .ok (.imul, 1) := by decide +kernel
theorem dX4_shareOf_15 : decode cX4_shareOf 15 = .ok (.istore_n 3, 1) := by decide +kernel
theorem dX4_shareOf_16 : decode cX4_shareOf 16 = .ok (.aload_n 0, 1) := by decide +kernel
theorem dX4_shareOf_17 : decode cX4_shareOf 17 = .ok (.getfield 22, 3) := by decide +kernel
theorem dX4_shareOf_20 : decode cX4_shareOf 20 = .ok (.getfield 38, 3) := by decide +kernel
theorem dX4_shareOf_23 : decode cX4_shareOf 23 = .ok (.iload_n 1, 1) := by decide +kernel
theorem dX4_shareOf_24 : decode cX4_shareOf 24 = .ok (.iaload, 1) := by decide +kernel
theorem dX4_shareOf_25 : decode cX4_shareOf 25 = .ok (.iload_n 3, 1) := by decide +kernel
theorem dX4_shareOf_26 : decode cX4_shareOf 26 = .ok (.aload_n 0, 1) := by decide +kernel
theorem dX4_shareOf_27 : decode cX4_shareOf 27 = .ok (.getfield 9, 3) := by decide +kernel
theorem dX4_shareOf_30 : decode cX4_shareOf 30 = .ok (.iconst 0, 1) := by decide +kernel
theorem dX4_shareOf_31 : decode cX4_shareOf 31 = .ok (.iaload, 1) := by decide +kernel
theorem dX4_shareOf_32 : decode cX4_shareOf 32 = .ok (.imul, 1) := by decide +kernel
theorem dX4_shareOf_33 : decode cX4_shareOf 33 = .ok (.bipush 100, 2) := by decide +kernel
theorem dX4_shareOf_35 : decode cX4_shareOf 35 = .ok (.idiv, 1) := by decide +kernel
theorem dX4_shareOf_36 : decode cX4_shareOf 36 = .ok (.invokestatic 41, 3) := by decide +kernel
theorem dX4_shareOf_39 : decode cX4_shareOf 39 = .ok (.ireturn, 1) := by decide +kernel
set_option maxRecDepth 20000 in
theorem ggX4_allShares_X4_headsToldOf : GoodIn wsX4_allShares wsX4_headsToldOf := goodIn_r _ [6, 7, 1, 8, 9, 10, 11, 12, 13, 14, 15, 16, 17, 18, 28, 29, 30, 37, 38, 31, 32, 33, 34, 35, 36] (by decide +kernel) (by decide +kernel)
set_option maxRecDepth 20000 in
theorem gX4_allShares_X4_headsToldOf : GoodIn wsX4_allShares (wsV RX4 51 RX4 yX4_headsToldOf wsX4_headsToldOf) := goodIn_app (goodIn_of _ (by decide +kernel)) ggX4_allShares_X4_headsToldOf
set_option maxRecDepth 20000 in
theorem ggX4_allShares_X4_shareOf : GoodIn wsX4_allShares wsX4_shareOf := goodIn_r _ [22, 1, 23, 24, 25, 26, 27, 28, 29, 30, 31, 32, 33, 34, 35, 36] (by decide +kernel) (by decide +kernel)
set_option maxRecDepth 20000 in
theorem gX4_allShares_X4_shareOf : GoodIn wsX4_allShares (wsV RX4 54 RX4 yX4_shareOf wsX4_shareOf) := goodIn_app (goodIn_of _ (by decide +kernel)) ggX4_allShares_X4_shareOf
theorem dX4_allShares_0 : decode cX4_allShares 0 = .ok (.iconst 0, 1) := by decide +kernel
theorem dX4_allShares_1 : decode cX4_allShares 1 = .ok (.istore_n 2, 1) := by decide +kernel
theorem dX4_allShares_2 : decode cX4_allShares 2 = .ok (.iconst 0, 1) := by decide +kernel
theorem dX4_allShares_3 : decode cX4_allShares 3 = .ok (.istore_n 3, 1) := by decide +kernel
theorem dX4_allShares_4 : decode cX4_allShares 4 = .ok (.iload_n 3, 1) := by decide +kernel
theorem dX4_allShares_5 : decode cX4_allShares 5 = .ok (.aload_n 0, 1) := by decide +kernel
theorem dX4_allShares_6 : decode cX4_allShares 6 = .ok (.getfield 22, 3) := by decide +kernel
theorem dX4_allShares_9 : decode cX4_allShares 9 = .ok (.getfield 47, 3) := by decide +kernel
theorem dX4_allShares_12 : decode cX4_allShares 12 = .ok (.if_icmp .ge 23, 3) := by decide +kernel
theorem dX4_allShares_15 : decode cX4_allShares 15 = .ok (.iload_n 2, 1) := by decide +kernel
theorem dX4_allShares_16 : decode cX4_allShares 16 = .ok (.aload_n 0, 1) := by decide +kernel
theorem dX4_allShares_17 : decode cX4_allShares 17 = .ok (.iload_n 3, 1) := by decide +kernel
theorem dX4_allShares_18 : decode cX4_allShares 18 = .ok (.aload_n 0, 1) := by decide +kernel
theorem dX4_allShares_19 : decode cX4_allShares 19 = .ok (.iload_n 1, 1) := by decide +kernel
theorem dX4_allShares_20 : decode cX4_allShares 20 = .ok (.iload_n 3, 1) := by decide +kernel
theorem dX4_allShares_21 : decode cX4_allShares 21 = .ok (.invokevirtual 51, 3) := by decide +kernel
theorem dX4_allShares_24 : decode cX4_allShares 24 = .ok (.invokevirtual 54, 3) := by decide +kernel
theorem dX4_allShares_27 : decode cX4_allShares 27 = .ok (.iadd, 1) := by decide +kernel
theorem dX4_allShares_28 : decode cX4_allShares 28 = .ok (.istore_n 2, 1) := by decide +kernel
theorem dX4_allShares_29 : decode cX4_allShares 29 = .ok (.iinc 3 1, 3) := by decide +kernel
theorem dX4_allShares_32 : decode cX4_allShares 32 = .ok (.goto (-28), 3) := by decide +kernel
theorem dX4_allShares_35 : decode cX4_allShares 35 = .ok (.iload_n 2, 1) := by decide +kernel
theorem dX4_allShares_36 : decode cX4_allShares 36 = .ok (.ireturn, 1) := by decide +kernel
set_option maxRecDepth 20000 in
theorem ggX4_headsToldOf_X9_place : GoodIn wsX4_headsToldOf wsX9_place := goodIn_r _ [5] (by decide +kernel) (by decide +kernel)
set_option maxRecDepth 20000 in
theorem gX4_headsToldOf_X9_place_n57 : GoodIn wsX4_headsToldOf (wsX9_place) := ggX4_headsToldOf_X9_place
set_option maxRecDepth 20000 in
theorem ggX4_headsToldOf_X8_has : GoodIn wsX4_headsToldOf wsX8_has := goodIn_r _ [10, 11, 17, 18] (by decide +kernel) (by decide +kernel)
set_option maxRecDepth 20000 in
theorem gX4_headsToldOf_X8_has : GoodIn wsX4_headsToldOf (wsV RX4 60 RX8 yX8_has wsX8_has) := goodIn_app (goodIn_of _ (by decide +kernel)) ggX4_headsToldOf_X8_has
set_option maxRecDepth 20000 in
theorem ggX4_headsToldOf_X9_within : GoodIn wsX4_headsToldOf wsX9_within := goodIn_r _ [13] (by decide +kernel) (by decide +kernel)
set_option maxRecDepth 20000 in
theorem gX4_headsToldOf_X9_within_n26 : GoodIn wsX4_headsToldOf (wsX9_within) := ggX4_headsToldOf_X9_within
theorem dX4_headsToldOf_0 : decode cX4_headsToldOf 0 = .ok (.iload_n 1, 1) := by decide +kernel
theorem dX4_headsToldOf_1 : decode cX4_headsToldOf 1 = .ok (.iload_n 2, 1) := by decide +kernel
theorem dX4_headsToldOf_2 : decode cX4_headsToldOf 2 = .ok (.invokestatic 57, 3) := by decide +kernel
theorem dX4_headsToldOf_5 : decode cX4_headsToldOf 5 = .ok (.istore_n 3, 1) := by decide +kernel
theorem dX4_headsToldOf_6 : decode cX4_headsToldOf 6 = .ok (.aload_n 0, 1) := by decide +kernel
theorem dX4_headsToldOf_7 : decode cX4_headsToldOf 7 = .ok (.getfield 18, 3) := by decide +kernel
theorem dX4_headsToldOf_10 : decode cX4_headsToldOf 10 = .ok (.iconst 0, 1) := by decide +kernel
theorem dX4_headsToldOf_11 : decode cX4_headsToldOf 11 = .ok (.aaload, 1) := by decide +kernel
theorem dX4_headsToldOf_12 : decode cX4_headsToldOf 12 = .ok (.iload_n 3, 1) := by decide +kernel
theorem dX4_headsToldOf_13 : decode cX4_headsToldOf 13 = .ok (.invokevirtual 60, 3) := by decide +kernel
theorem dX4_headsToldOf_16 : decode cX4_headsToldOf 16 = .ok (.ifCond .ne 5, 3) := by decide +kernel
theorem dX4_headsToldOf_19 : decode cX4_headsToldOf 19 = .ok (.iconst 0, 1) := by decide +kernel
theorem dX4_headsToldOf_20 : decode cX4_headsToldOf 20 = .ok (.ireturn, 1) := by decide +kernel
theorem dX4_headsToldOf_21 : decode cX4_headsToldOf 21 = .ok (.aload_n 0, 1) := by decide +kernel
theorem dX4_headsToldOf_22 : decode cX4_headsToldOf 22 = .ok (.getfield 18, 3) := by decide +kernel
theorem dX4_headsToldOf_25 : decode cX4_headsToldOf 25 = .ok (.iconst 0, 1) := by decide +kernel
theorem dX4_headsToldOf_26 : decode cX4_headsToldOf 26 = .ok (.aaload, 1) := by decide +kernel
theorem dX4_headsToldOf_27 : decode cX4_headsToldOf 27 = .ok (.getfield 64, 3) := by decide +kernel
theorem dX4_headsToldOf_30 : decode cX4_headsToldOf 30 = .ok (.iload_n 3, 1) := by decide +kernel
theorem dX4_headsToldOf_31 : decode cX4_headsToldOf 31 = .ok (.saload, 1) := by decide +kernel
theorem dX4_headsToldOf_32 : decode cX4_headsToldOf 32 = .ok (.istore 4, 2) := by decide +kernel
theorem dX4_headsToldOf_34 : decode cX4_headsToldOf 34 = .ok (.iload 4, 2) := by decide +kernel
theorem dX4_headsToldOf_36 : decode cX4_headsToldOf 36 = .ok (.iconst 0, 1) := by decide +kernel
theorem dX4_headsToldOf_37 : decode cX4_headsToldOf 37 = .ok (.aload_n 0, 1) := by decide +kernel
theorem dX4_headsToldOf_38 : decode cX4_headsToldOf 38 = .ok (.getfield 22, 3) := by decide +kernel
theorem dX4_headsToldOf_41 : decode cX4_headsToldOf 41 = .ok (.getfield 68, 3) := by decide +kernel
theorem dX4_headsToldOf_44 : decode cX4_headsToldOf 44 = .ok (.iload_n 2, 1) := by decide +kernel
theorem dX4_headsToldOf_45 : decode cX4_headsToldOf 45 = .ok (.iaload, 1) := by decide +kernel
theorem dX4_headsToldOf_46 : decode cX4_headsToldOf 46 = .ok (.invokestatic 26, 3) := by decide +kernel
theorem dX4_headsToldOf_49 : decode cX4_headsToldOf 49 = .ok (.ifCond .eq 8, 3) := by decide +kernel
theorem dX4_headsToldOf_52 : decode cX4_headsToldOf 52 = .ok (.iload 4, 2) := by decide +kernel
theorem dX4_headsToldOf_54 : decode cX4_headsToldOf 54 = .ok (.goto 4, 3) := by decide +kernel
theorem dX4_headsToldOf_57 : decode cX4_headsToldOf 57 = .ok (.iconst 0, 1) := by decide +kernel
theorem dX4_headsToldOf_58 : decode cX4_headsToldOf 58 = .ok (.ireturn, 1) := by decide +kernel
set_option maxRecDepth 20000 in
theorem ggX4_checkedBits_X9_place : GoodIn wsX4_checkedBits wsX9_place := goodIn_r _ [7] (by decide +kernel) (by decide +kernel)
set_option maxRecDepth 20000 in
theorem gX4_checkedBits_X9_place_n57 : GoodIn wsX4_checkedBits (wsX9_place) := ggX4_checkedBits_X9_place
theorem dX4_checkedBits_0 : decode cX4_checkedBits 0 = .ok (.iconst 0, 1) := by decide +kernel
theorem dX4_checkedBits_1 : decode cX4_checkedBits 1 = .ok (.istore_n 2, 1) := by decide +kernel
theorem dX4_checkedBits_2 : decode cX4_checkedBits 2 = .ok (.aload_n 0, 1) := by decide +kernel
theorem dX4_checkedBits_3 : decode cX4_checkedBits 3 = .ok (.getfield 9, 3) := by decide +kernel
theorem dX4_checkedBits_6 : decode cX4_checkedBits 6 = .ok (.iconst 2, 1) := by decide +kernel
theorem dX4_checkedBits_7 : decode cX4_checkedBits 7 = .ok (.iaload, 1) := by decide +kernel
theorem dX4_checkedBits_8 : decode cX4_checkedBits 8 = .ok (.istore_n 3, 1) := by decide +kernel
theorem dX4_checkedBits_9 : decode cX4_checkedBits 9 = .ok (.iload_n 1, 1) := by decide +kernel
theorem dX4_checkedBits_10 : decode cX4_checkedBits 10 = .ok (.iconst 0, 1) := by decide +kernel
theorem dX4_checkedBits_11 : decode cX4_checkedBits 11 = .ok (.invokestatic 57, 3) := by decide +kernel
theorem dX4_checkedBits_14 : decode cX4_checkedBits 14 = .ok (.istore 4, 2) := by decide +kernel
theorem dX4_checkedBits_16 : decode cX4_checkedBits 16 = .ok (.iconst 0, 1) := by decide +kernel
theorem dX4_checkedBits_17 : decode cX4_checkedBits 17 = .ok (.istore 5, 2) := by decide +kernel
theorem dX4_checkedBits_19 : decode cX4_checkedBits 19 = .ok (.iload 5, 2) := by decide +kernel
theorem dX4_checkedBits_21 : decode cX4_checkedBits 21 = .ok (.iload 4, 2) := by decide +kernel
theorem dX4_checkedBits_23 : decode cX4_checkedBits 23 = .ok (.aload_n 0, 1) := by decide +kernel
theorem dX4_checkedBits_24 : decode cX4_checkedBits 24 = .ok (.getfield 22, 3) := by decide +kernel
theorem dX4_checkedBits_27 : decode cX4_checkedBits 27 = .ok (.getfield 47, 3) := by decide +kernel
theorem dX4_checkedBits_30 : decode cX4_checkedBits 30 = .ok (.iadd, 1) := by decide +kernel
theorem dX4_checkedBits_31 : decode cX4_checkedBits 31 = .ok (.if_icmp .ge 50, 3) := by decide +kernel
theorem dX4_checkedBits_34 : decode cX4_checkedBits 34 = .ok (.iload_n 3, 1) := by decide +kernel
theorem dX4_checkedBits_35 : decode cX4_checkedBits 35 = .ok (.ldc 71, 2) := by decide +kernel
theorem dX4_checkedBits_37 : decode cX4_checkedBits 37 = .ok (.imul, 1) := by decide +kernel
theorem dX4_checkedBits_38 : decode cX4_checkedBits 38 = .ok (.ldc 72, 2) := by decide +kernel
theorem dX4_checkedBits_40 : decode cX4_checkedBits 40 = .ok (.iadd, 1) := by decide +kernel
theorem dX4_checkedBits_41 : decode cX4_checkedBits 41 = .ok (.istore_n 3, 1) := by decide +kernel
theorem dX4_checkedBits_42 : decode cX4_checkedBits 42 = .ok (.iload 5, 2) := by decide +kernel
theorem dX4_checkedBits_44 : decode cX4_checkedBits 44 = .ok (.iload 4, 2) := by decide +kernel
theorem dX4_checkedBits_46 : decode cX4_checkedBits 46 = .ok (.if_icmp .lt 29, 3) := by decide +kernel
theorem dX4_checkedBits_49 : decode cX4_checkedBits 49 = .ok (.iload_n 3, 1) := by decide +kernel
theorem dX4_checkedBits_50 : decode cX4_checkedBits 50 = .ok (.bipush 8, 2) := by decide +kernel
theorem dX4_checkedBits_52 : decode cX4_checkedBits 52 = .ok (.iushr, 1) := by decide +kernel
theorem dX4_checkedBits_53 : decode cX4_checkedBits 53 = .ok (.bipush 100, 2) := by decide +kernel
theorem dX4_checkedBits_55 : decode cX4_checkedBits 55 = .ok (.irem, 1) := by decide +kernel
theorem dX4_checkedBits_56 : decode cX4_checkedBits 56 = .ok (.aload_n 0, 1) := by decide +kernel
theorem dX4_checkedBits_57 : decode cX4_checkedBits 57 = .ok (.getfield 9, 3) := by decide +kernel
theorem dX4_checkedBits_60 : decode cX4_checkedBits 60 = .ok (.iconst 1, 1) := by decide +kernel
theorem dX4_checkedBits_61 : decode cX4_checkedBits 61 = .ok (.iaload, 1) := by decide +kernel
theorem dX4_checkedBits_62 : decode cX4_checkedBits 62 = .ok (.if_icmp .ge 13, 3) := by decide +kernel
theorem dX4_checkedBits_65 : decode cX4_checkedBits 65 = .ok (.iload_n 2, 1) := by decide +kernel
theorem dX4_checkedBits_66 : decode cX4_checkedBits 66 = .ok (.iconst 1, 1) := by decide +kernel
theorem dX4_checkedBits_67 : decode cX4_checkedBits 67 = .ok (.iload 5, 2) := by decide +kernel
theorem dX4_checkedBits_69 : decode cX4_checkedBits 69 = .ok (.iload 4, 2) := by decide +kernel
theorem dX4_checkedBits_71 : decode cX4_checkedBits 71 = .ok (.isub, 1) := by decide +kernel
theorem dX4_checkedBits_72 : decode cX4_checkedBits 72 = .ok (.ishl, 1) := by decide +kernel
theorem dX4_checkedBits_73 : decode cX4_checkedBits 73 = .ok (.ior, 1) := by decide +kernel
theorem dX4_checkedBits_74 : decode cX4_checkedBits 74 = .ok (.istore_n 2, 1) := by decide +kernel
theorem dX4_checkedBits_75 : decode cX4_checkedBits 75 = .ok (.iinc 5 1, 3) := by decide +kernel
theorem dX4_checkedBits_78 : decode cX4_checkedBits 78 = .ok (.goto (-59), 3) := by decide +kernel
theorem dX4_checkedBits_81 : decode cX4_checkedBits 81 = .ok (.iload_n 2, 1) := by decide +kernel
theorem dX4_checkedBits_82 : decode cX4_checkedBits 82 = .ok (.ireturn, 1) := by decide +kernel
set_option maxRecDepth 20000 in
theorem ggX4_sheetsThere_X8_isMissing : GoodIn wsX4_sheetsThere wsX8_isMissing := goodIn_r _ [6, 7, 11, 12] (by decide +kernel) (by decide +kernel)
set_option maxRecDepth 20000 in
theorem gX4_sheetsThere_X8_isMissing : GoodIn wsX4_sheetsThere (wsV RX4 73 RX8 yX8_isMissing wsX8_isMissing) := goodIn_app (goodIn_of _ (by decide +kernel)) ggX4_sheetsThere_X8_isMissing
theorem dX4_sheetsThere_0 : decode cX4_sheetsThere 0 = .ok (.iconst 0, 1) := by decide +kernel
theorem dX4_sheetsThere_1 : decode cX4_sheetsThere 1 = .ok (.istore_n 1, 1) := by decide +kernel
theorem dX4_sheetsThere_2 : decode cX4_sheetsThere 2 = .ok (.iconst 0, 1) := by decide +kernel
theorem dX4_sheetsThere_3 : decode cX4_sheetsThere 3 = .ok (.istore_n 2, 1) := by decide +kernel
theorem dX4_sheetsThere_4 : decode cX4_sheetsThere 4 = .ok (.iload_n 2, 1) := by decide +kernel
theorem dX4_sheetsThere_5 : decode cX4_sheetsThere 5 = .ok (.iconst 2, 1) := by decide +kernel
theorem dX4_sheetsThere_6 : decode cX4_sheetsThere 6 = .ok (.if_icmp .ge 24, 3) := by decide +kernel
theorem dX4_sheetsThere_9 : decode cX4_sheetsThere 9 = .ok (.aload_n 0, 1) := by decide +kernel
theorem dX4_sheetsThere_10 : decode cX4_sheetsThere 10 = .ok (.getfield 18, 3) := by decide +kernel
theorem dX4_sheetsThere_13 : decode cX4_sheetsThere 13 = .ok (.iload_n 2, 1) := by decide +kernel
theorem dX4_sheetsThere_14 : decode cX4_sheetsThere 14 = .ok (.aaload, 1) := by decide +kernel
theorem dX4_sheetsThere_15 : decode cX4_sheetsThere 15 = .ok (.invokevirtual 73, 3) := by decide +kernel
theorem dX4_sheetsThere_18 : decode cX4_sheetsThere 18 = .ok (.ifCond .ne 6, 3) := by decide +kernel
theorem dX4_sheetsThere_21 : decode cX4_sheetsThere 21 = .ok (.iinc 1 1, 3) := by decide +kernel
theorem dX4_sheetsThere_24 : decode cX4_sheetsThere 24 = .ok (.iinc 2 1, 3) := by decide +kernel
theorem dX4_sheetsThere_27 : decode cX4_sheetsThere 27 = .ok (.goto (-23), 3) := by decide +kernel
theorem dX4_sheetsThere_30 : decode cX4_sheetsThere 30 = .ok (.iload_n 1, 1) := by decide +kernel
theorem dX4_sheetsThere_31 : decode cX4_sheetsThere 31 = .ok (.ireturn, 1) := by decide +kernel
theorem dX5_init_0 : decode cX5_init 0 = .ok (.aload_n 0, 1) := by decide +kernel
theorem dX5_init_1 : decode cX5_init 1 = .ok (.invokespecial 3, 3) := by decide +kernel
theorem dX5_init_4 : decode cX5_init 4 = .ok (.aload_n 0, 1) := by decide +kernel
theorem dX5_init_5 : decode cX5_init 5 = .ok (.bipush 8, 2) := by decide +kernel
theorem dX5_init_7 : decode cX5_init 7 = .ok (.newarray .int, 2) := by decide +kernel
theorem dX5_init_9 : decode cX5_init 9 = .ok (.putfield 9, 3) := by decide +kernel
theorem dX5_init_12 : decode cX5_init 12 = .ok (.aload_n 0, 1) := by decide +kernel
theorem dX5_init_13 : decode cX5_init 13 = .ok (.bipush 8, 2) := by decide +kernel
theorem dX5_init_15 : decode cX5_init 15 = .ok (.newarray .int, 2) := by decide +kernel
theorem dX5_init_17 : decode cX5_init 17 = .ok (.putfield 15, 3) := by decide +kernel
theorem dX5_init_20 : decode cX5_init 20 = .ok (.aload_n 0, 1) := by decide +kernel
theorem dX5_init_21 : decode cX5_init 21 = .ok (.iconst 0, 1) := by decide +kernel
theorem dX5_init_22 : decode cX5_init 22 = .ok (.putfield 18, 3) := by decide +kernel
theorem dX5_init_25 : decode cX5_init 25 = .ok (.return_, 1) := by decide +kernel
theorem dX5_has_0 : decode cX5_has 0 = .ok (.iload_n 1, 1) := by decide +kernel
theorem dX5_has_1 : decode cX5_has 1 = .ok (.ifCond .lt 15, 3) := by decide +kernel
theorem dX5_has_4 : decode cX5_has 4 = .ok (.iload_n 1, 1) := by decide +kernel
theorem dX5_has_5 : decode cX5_has 5 = .ok (.aload_n 0, 1) := by decide +kernel
theorem dX5_has_6 : decode cX5_has 6 = .ok (.getfield 18, 3) := by decide +kernel
theorem dX5_has_9 : decode cX5_has 9 = .ok (.if_icmp .ge 7, 3) := by decide +kernel
theorem dX5_has_12 : decode cX5_has 12 = .ok (.iconst 1, 1) := by decide +kernel
theorem dX5_has_13 : decode cX5_has 13 = .ok (.goto 4, 3) := by decide +kernel
theorem dX5_has_16 : decode cX5_has 16 = .ok (.iconst 0, 1) := by decide +kernel
theorem dX5_has_17 : decode cX5_has 17 = .ok (.ireturn, 1) := by decide +kernel
theorem dX5_add_0 : decode cX5_add 0 = .ok (.aload_n 0, 1) := by decide +kernel
theorem dX5_add_1 : decode cX5_add 1 = .ok (.getfield 9, 3) := by decide +kernel
theorem dX5_add_4 : decode cX5_add 4 = .ok (.aload_n 0, 1) := by decide +kernel
theorem dX5_add_5 : decode cX5_add 5 = .ok (.getfield 18, 3) := by decide +kernel
theorem dX5_add_8 : decode cX5_add 8 = .ok (.iload_n 1, 1) := by decide +kernel
