theorem dX10_start_0 : decode cX10_start 0 = .ok (.aload_n 0, 1) := by decide +kernel
theorem dX10_start_1 : decode cX10_start 1 = .ok (.iload_n 1, 1) := by decide +kernel
theorem dX10_start_2 : decode cX10_start 2 = .ok (.invokevirtual 136, 3) := by decide +kernel
theorem dX10_start_5 : decode cX10_start 5 = .ok (.ifCond .eq 11, 3) := by decide +kernel
theorem dX10_start_8 : decode cX10_start 8 = .ok (.aload_n 0, 1) := by decide +kernel
theorem dX10_start_9 : decode cX10_start 9 = .ok (.iload_n 1, 1) := by decide +kernel
theorem dX10_start_10 : decode cX10_start 10 = .ok (.invokevirtual 139, 3) := by decide +kernel
theorem dX10_start_13 : decode cX10_start 13 = .ok (.goto 5, 3) := by decide +kernel
theorem dX10_start_16 : decode cX10_start 16 = .ok (.ldc 109, 2) := by decide +kernel
theorem dX10_start_18 : decode cX10_start 18 = .ok (.ireturn, 1) := by decide +kernel
theorem dX10_rides_0 : decode cX10_rides 0 = .ok (.aload_n 0, 1) := by decide +kernel
theorem dX10_rides_1 : decode cX10_rides 1 = .ok (.getfield 118, 3) := by decide +kernel
theorem dX10_rides_4 : decode cX10_rides 4 = .ok (.ifCond .ne 7, 3) := by decide +kernel
theorem dX10_rides_7 : decode cX10_rides 7 = .ok (.iconst 0, 1) := by decide +kernel
theorem dX10_rides_8 : decode cX10_rides 8 = .ok (.goto 14, 3) := by decide +kernel
theorem dX10_rides_11 : decode cX10_rides 11 = .ok (.aload_n 0, 1) := by decide +kernel
theorem dX10_rides_12 : decode cX10_rides 12 = .ok (.getfield 118, 3) := by decide +kernel
theorem dX10_rides_15 : decode cX10_rides 15 = .ok (.iconst 1, 1) := by decide +kernel
theorem dX10_rides_16 : decode cX10_rides 16 = .ok (.isub, 1) := by decide +kernel
theorem dX10_rides_17 : decode cX10_rides 17 = .ok (.aload_n 0, 1) := by decide +kernel
theorem dX10_rides_18 : decode cX10_rides 18 = .ok (.getfield 106, 3) := by decide +kernel
theorem dX10_rides_21 : decode cX10_rides 21 = .ok (.imul, 1) := by decide +kernel
theorem dX10_rides_22 : decode cX10_rides 22 = .ok (.ireturn, 1) := by decide +kernel
set_option maxRecDepth 20000 in
theorem ggX10_isRide_X10_rides : GoodIn wsX10_isRide wsX10_rides := goodIn_r _ [5, 6, 7, 11, 12, 13, 14, 15, 16, 17, 18, 19, 20, 21, 22, 23, 24, 25, 26, 27, 28, 29, 30, 31, 32, 33, 34, 35, 36, 37, 38, 39, 40, 41, 42, 43, 44, 45, 46, 47] (by decide +kernel) (by decide +kernel)
set_option maxRecDepth 20000 in
theorem gX10_isRide_X10_rides : GoodIn wsX10_isRide (wsV RX10 142 RX10 yX10_rides wsX10_rides) := goodIn_app (goodIn_of _ (by decide +kernel)) ggX10_isRide_X10_rides
set_option maxRecDepth 20000 in
theorem ggX10_isRide_X10_isIn : GoodIn wsX10_isRide wsX10_isIn := goodIn_r _ [10] (by decide +kernel) (by decide +kernel)
set_option maxRecDepth 20000 in
theorem gX10_isRide_X10_isIn : GoodIn wsX10_isRide (va_wsS RX10 102 yX10_isIn wsX10_isIn) := goodIn_app (goodIn_of _ (by decide +kernel)) ggX10_isRide_X10_isIn
theorem dX10_isRide_0 : decode cX10_isRide 0 = .ok (.iload_n 1, 1) := by decide +kernel
theorem dX10_isRide_1 : decode cX10_isRide 1 = .ok (.iconst 0, 1) := by decide +kernel
theorem dX10_isRide_2 : decode cX10_isRide 2 = .ok (.aload_n 0, 1) := by decide +kernel
theorem dX10_isRide_3 : decode cX10_isRide 3 = .ok (.invokevirtual 142, 3) := by decide +kernel
theorem dX10_isRide_6 : decode cX10_isRide 6 = .ok (.iconst 1, 1) := by decide +kernel
theorem dX10_isRide_7 : decode cX10_isRide 7 = .ok (.isub, 1) := by decide +kernel
theorem dX10_isRide_8 : decode cX10_isRide 8 = .ok (.invokestatic 102, 3) := by decide +kernel
theorem dX10_isRide_11 : decode cX10_isRide 11 = .ok (.ireturn, 1) := by decide +kernel
theorem dX10_toPlace_0 : decode cX10_toPlace 0 = .ok (.iload_n 1, 1) := by decide +kernel
theorem dX10_toPlace_1 : decode cX10_toPlace 1 = .ok (.aload_n 0, 1) := by decide +kernel
theorem dX10_toPlace_2 : decode cX10_toPlace 2 = .ok (.getfield 106, 3) := by decide +kernel
theorem dX10_toPlace_5 : decode cX10_toPlace 5 = .ok (.idiv, 1) := by decide +kernel
theorem dX10_toPlace_6 : decode cX10_toPlace 6 = .ok (.iconst 1, 1) := by decide +kernel
theorem dX10_toPlace_7 : decode cX10_toPlace 7 = .ok (.iadd, 1) := by decide +kernel
theorem dX10_toPlace_8 : decode cX10_toPlace 8 = .ok (.ireturn, 1) := by decide +kernel
set_option maxRecDepth 20000 in
theorem ggX10_rideBegins_X10_toPlace : GoodIn wsX10_rideBegins wsX10_toPlace := goodIn_r _ [6, 1, 26, 27, 28, 29, 30, 31, 32, 33, 34, 35, 36, 37, 38, 39, 40, 41, 42, 43, 44, 45, 46, 47, 48, 49, 50, 51, 52, 53, 54, 55, 56, 57, 58, 59, 60, 61, 62] (by decide +kernel) (by decide +kernel)
set_option maxRecDepth 20000 in
theorem gX10_rideBegins_X10_toPlace : GoodIn wsX10_rideBegins (wsV RX10 145 RX10 yX10_toPlace wsX10_toPlace) := goodIn_app (goodIn_of _ (by decide +kernel)) ggX10_rideBegins_X10_toPlace
set_option maxRecDepth 20000 in
theorem ggX10_rideBegins_X10_startOf : GoodIn wsX10_rideBegins wsX10_startOf := goodIn_r _ [10, 11, 12, 13, 5, 14, 1, 15, 16, 17, 18, 19, 20, 21, 22, 23, 24, 25, 26, 27, 28, 29, 30, 31, 32, 33, 34, 35, 36, 37, 38, 39, 40, 41, 42, 43, 44, 45, 46, 47, 48, 49, 50, 51, 52, 53, 54, 55, 56, 57, 58, 59, 60, 61, 62] (by decide +kernel) (by decide +kernel)
set_option maxRecDepth 20000 in
theorem gX10_rideBegins_X10_startOf : GoodIn wsX10_rideBegins (wsV RX10 139 RX10 yX10_startOf wsX10_startOf) := goodIn_app (goodIn_of _ (by decide +kernel)) ggX10_rideBegins_X10_startOf
set_option maxRecDepth 20000 in
theorem ggX10_rideBegins_X10_minutes : GoodIn wsX10_rideBegins wsX10_minutes := goodIn_r _ [18, 19, 26, 27, 28, 29, 30, 31, 32, 33, 34, 35, 36, 37, 38, 39, 40, 41, 42, 43, 44, 45, 46, 47, 48, 49, 50, 51, 52, 53, 54, 55, 56, 57, 58, 59, 60, 61, 62] (by decide +kernel) (by decide +kernel)
set_option maxRecDepth 20000 in
theorem gX10_rideBegins_X10_minutes : GoodIn wsX10_rideBegins (wsV RX10 124 RX10 yX10_minutes wsX10_minutes) := goodIn_app (goodIn_of _ (by decide +kernel)) ggX10_rideBegins_X10_minutes
theorem dX10_rideBegins_0 : decode cX10_rideBegins 0 = .ok (.aload_n 0, 1) := by decide +kernel
theorem dX10_rideBegins_1 : decode cX10_rideBegins 1 = .ok (.aload_n 0, 1) := by decide +kernel
theorem dX10_rideBegins_2 : decode cX10_rideBegins 2 = .ok (.iload_n 1, 1) := by decide +kernel
theorem dX10_rideBegins_3 : decode cX10_rideBegins 3 = .ok (.invokevirtual 145, 3) := by decide +kernel
theorem dX10_rideBegins_6 : decode cX10_rideBegins 6 = .ok (.iconst 1, 1) := by decide +kernel
theorem dX10_rideBegins_7 : decode cX10_rideBegins 7 = .ok (.isub, 1) := by decide +kernel
theorem dX10_rideBegins_8 : decode cX10_rideBegins 8 = .ok (.invokevirtual 139, 3) := by decide +kernel
theorem dX10_rideBegins_11 : decode cX10_rideBegins 11 = .ok (.istore_n 2, 1) := by decide +kernel
theorem dX10_rideBegins_12 : decode cX10_rideBegins 12 = .ok (.iconst 0, 1) := by decide +kernel
theorem dX10_rideBegins_13 : decode cX10_rideBegins 13 = .ok (.istore_n 3, 1) := by decide +kernel
theorem dX10_rideBegins_14 : decode cX10_rideBegins 14 = .ok (.iload_n 3, 1) := by decide +kernel
theorem dX10_rideBegins_15 : decode cX10_rideBegins 15 = .ok (.iload_n 1, 1) := by decide +kernel
theorem dX10_rideBegins_16 : decode cX10_rideBegins 16 = .ok (.aload_n 0, 1) := by decide +kernel
theorem dX10_rideBegins_17 : decode cX10_rideBegins 17 = .ok (.getfield 106, 3) := by decide +kernel
theorem dX10_rideBegins_20 : decode cX10_rideBegins 20 = .ok (.irem, 1) := by decide +kernel
theorem dX10_rideBegins_21 : decode cX10_rideBegins 21 = .ok (.if_icmp .gt 17, 3) := by decide +kernel
theorem dX10_rideBegins_24 : decode cX10_rideBegins 24 = .ok (.iload_n 2, 1) := by decide +kernel
theorem dX10_rideBegins_25 : decode cX10_rideBegins 25 = .ok (.aload_n 0, 1) := by decide +kernel
theorem dX10_rideBegins_26 : decode cX10_rideBegins 26 = .ok (.iload_n 3, 1) := by decide +kernel
theorem dX10_rideBegins_27 : decode cX10_rideBegins 27 = .ok (.invokevirtual 124, 3) := by decide +kernel
theorem dX10_rideBegins_30 : decode cX10_rideBegins 30 = .ok (.iadd, 1) := by decide +kernel
theorem dX10_rideBegins_31 : decode cX10_rideBegins 31 = .ok (.istore_n 2, 1) := by decide +kernel
theorem dX10_rideBegins_32 : decode cX10_rideBegins 32 = .ok (.iinc 3 1, 3) := by decide +kernel
theorem dX10_rideBegins_35 : decode cX10_rideBegins 35 = .ok (.goto (-21), 3) := by decide +kernel
theorem dX10_rideBegins_38 : decode cX10_rideBegins 38 = .ok (.iload_n 2, 1) := by decide +kernel
theorem dX10_rideBegins_39 : decode cX10_rideBegins 39 = .ok (.ireturn, 1) := by decide +kernel
set_option maxRecDepth 20000 in
theorem ggX10_rideEnds_X10_rideBegins : GoodIn wsX10_rideEnds wsX10_rideBegins := goodIn_r _ [5, 6, 7, 8, 9, 4, 10, 11, 12, 13, 14, 15, 16, 17, 18, 19, 20, 21, 22, 23, 24, 25, 26, 27, 28, 29, 30, 31, 32, 33, 34, 35, 36, 37, 38, 39, 40, 41, 42, 43, 44, 45, 46, 47, 48, 49, 50, 51, 52, 53, 54, 55, 56, 57, 58, 59, 60, 61, 62, 63, 64, 65, 66] (by decide +kernel) (by decide +kernel)
set_option maxRecDepth 20000 in
theorem gX10_rideEnds_X10_rideBegins : GoodIn wsX10_rideEnds (wsV RX10 148 RX10 yX10_rideBegins wsX10_rideBegins) := goodIn_app (goodIn_of _ (by decide +kernel)) ggX10_rideEnds_X10_rideBegins
set_option maxRecDepth 20000 in
theorem ggX10_rideEnds_X10_toPlace : GoodIn wsX10_rideEnds wsX10_toPlace := goodIn_r _ [10, 6, 30, 31, 32, 33, 34, 35, 36, 37, 38, 39, 40, 41, 42, 43, 44, 45, 46, 47, 48, 49, 50, 51, 52, 53, 54, 55, 56, 57, 58, 59, 60, 61, 62, 63, 64, 65, 66] (by decide +kernel) (by decide +kernel)
set_option maxRecDepth 20000 in
theorem gX10_rideEnds_X10_toPlace : GoodIn wsX10_rideEnds (wsV RX10 145 RX10 yX10_toPlace wsX10_toPlace) := goodIn_app (goodIn_of _ (by decide +kernel)) ggX10_rideEnds_X10_toPlace
set_option maxRecDepth 20000 in
theorem ggX10_rideEnds_X10_wayTo : GoodIn wsX10_rideEnds wsX10_wayTo := goodIn_r _ [27, 28, 29, 30, 31, 32, 33, 34, 35, 36, 37, 38, 39, 40, 41, 42, 43, 44, 45, 46, 47, 48, 49, 50, 51, 52, 53, 54, 55, 56, 57, 58, 59, 60, 61, 62, 63, 64, 65, 66] (by decide +kernel) (by decide +kernel)
set_option maxRecDepth 20000 in
theorem gX10_rideEnds_X10_wayTo : GoodIn wsX10_rideEnds (wsV RX10 133 RX10 yX10_wayTo wsX10_wayTo) := goodIn_app (goodIn_of _ (by decide +kernel)) ggX10_rideEnds_X10_wayTo
theorem dX10_rideEnds_0 : decode cX10_rideEnds 0 = .ok (.aload_n 0, 1) := by decide +kernel
theorem dX10_rideEnds_1 : decode cX10_rideEnds 1 = .ok (.iload_n 1, 1) := by decide +kernel
theorem dX10_rideEnds_2 : decode cX10_rideEnds 2 = .ok (.invokevirtual 148, 3) := by decide +kernel
theorem dX10_rideEnds_5 : decode cX10_rideEnds 5 = .ok (.aload_n 0, 1) := by decide +kernel
theorem dX10_rideEnds_6 : decode cX10_rideEnds 6 = .ok (.aload_n 0, 1) := by decide +kernel
theorem dX10_rideEnds_7 : decode cX10_rideEnds 7 = .ok (.iload_n 1, 1) := by decide +kernel
theorem dX10_rideEnds_8 : decode cX10_rideEnds 8 = .ok (.invokevirtual 145, 3) := by decide +kernel
theorem dX10_rideEnds_11 : decode cX10_rideEnds 11 = .ok (.invokevirtual 133, 3) := by decide +kernel
theorem dX10_rideEnds_14 : decode cX10_rideEnds 14 = .ok (.iadd, 1) := by decide +kernel
theorem dX10_rideEnds_15 : decode cX10_rideEnds 15 = .ok (.ireturn, 1) := by decide +kernel
set_option maxRecDepth 20000 in
theorem ggX10_ride_X10_isRide : GoodIn wsX10_ride wsX10_isRide := goodIn_r _ [8, 9, 10, 11, 7, 12, 13, 2, 14, 15, 16, 47, 48, 49, 50, 51, 52, 53, 54, 55, 56, 57, 58, 59, 60, 61, 62, 63, 64, 65, 66, 67, 68, 69, 70, 71, 72, 73, 74, 75, 76, 77, 78, 79, 80, 81, 82, 83] (by decide +kernel) (by decide +kernel)
set_option maxRecDepth 20000 in
theorem gX10_ride_X10_isRide : GoodIn wsX10_ride (wsV RX10 151 RX10 yX10_isRide wsX10_isRide) := goodIn_app (goodIn_of _ (by decide +kernel)) ggX10_ride_X10_isRide
set_option maxRecDepth 20000 in
theorem ggX10_ride_X10_isIn : GoodIn wsX10_ride wsX10_isIn := goodIn_r _ [16] (by decide +kernel) (by decide +kernel)
set_option maxRecDepth 20000 in
theorem gX10_ride_X10_isIn : GoodIn wsX10_ride (va_wsS RX10 102 yX10_isIn wsX10_isIn) := goodIn_app (goodIn_of _ (by decide +kernel)) ggX10_ride_X10_isIn
set_option maxRecDepth 20000 in
theorem ggX10_ride_X10_toPlace : GoodIn wsX10_ride wsX10_toPlace := goodIn_r _ [20, 2, 47, 48, 49, 50, 51, 52, 53, 54, 55, 56, 57, 58, 59, 60, 61, 62, 63, 64, 65, 66, 67, 68, 69, 70, 71, 72, 73, 74, 75, 76, 77, 78, 79, 80, 81, 82, 83] (by decide +kernel) (by decide +kernel)
set_option maxRecDepth 20000 in
theorem gX10_ride_X10_toPlace : GoodIn wsX10_ride (wsV RX10 145 RX10 yX10_toPlace wsX10_toPlace) := goodIn_app (goodIn_of _ (by decide +kernel)) ggX10_ride_X10_toPlace
set_option maxRecDepth 20000 in
theorem ggX10_ride_X10_rideBegins : GoodIn wsX10_ride wsX10_rideBegins := goodIn_r _ [24, 2, 17, 18, 19, 7, 20, 25, 26, 27, 28, 29, 30, 31, 32, 33, 34, 35, 36, 37, 38, 39, 40, 41, 42, 3, 47, 48, 49, 50, 51, 52, 53, 54, 55, 56, 57, 58, 59, 60, 61, 62, 63, 64, 65, 66, 67, 68, 69, 70, 71, 72, 73, 74, 75, 76, 77, 78, 79, 80, 81, 82, 83] (by decide +kernel) (by decide +kernel)
set_option maxRecDepth 20000 in
theorem gX10_ride_X10_rideBegins : GoodIn wsX10_ride (wsV RX10 148 RX10 yX10_rideBegins wsX10_rideBegins) := goodIn_app (goodIn_of _ (by decide +kernel)) ggX10_ride_X10_rideBegins
set_option maxRecDepth 20000 in
theorem ggX10_ride_X10_rideEnds : GoodIn wsX10_ride wsX10_rideEnds := goodIn_r _ [46, 21, 22, 23, 7, 24, 2, 17, 18, 19, 20, 25, 26, 27, 28, 29, 30, 31, 32, 33, 34, 35, 36, 37, 38, 39, 40, 41, 42, 3, 47, 48, 49, 50, 51, 52, 53, 54, 55, 56, 57, 58, 59, 60, 61, 62, 63, 64, 65, 66, 67, 68, 69, 70, 71, 72, 73, 74, 75, 76, 77, 78, 79, 80, 81, 82, 83] (by decide +kernel) (by decide +kernel)
set_option maxRecDepth 20000 in
theorem gX10_ride_X10_rideEnds : GoodIn wsX10_ride (wsV RX10 154 RX10 yX10_rideEnds wsX10_rideEnds) := goodIn_app (goodIn_of _ (by decide +kernel)) ggX10_ride_X10_rideEnds
theorem dX10_ride_0 : decode cX10_ride 0 = .ok (.aload_n 0, 1) := by decide +kernel
theorem dX10_ride_1 : decode cX10_ride 1 = .ok (.iload_n 1, 1) := by decide +kernel
theorem dX10_ride_2 : decode cX10_ride 2 = .ok (.invokevirtual 151, 3) := by decide +kernel
theorem dX10_ride_5 : decode cX10_ride 5 = .ok (.ifCond .eq 12, 3) := by decide +kernel
theorem dX10_ride_8 : decode cX10_ride 8 = .ok (.iload_n 2, 1) := by decide +kernel
theorem dX10_ride_9 : decode cX10_ride 9 = .ok (.iconst 0, 1) := by decide +kernel
theorem dX10_ride_10 : decode cX10_ride 10 = .ok (.iconst 4, 1) := by decide +kernel
theorem dX10_ride_11 : decode cX10_ride 11 = .ok (.invokestatic 102, 3) := by decide +kernel
theorem dX10_ride_14 : decode cX10_ride 14 = .ok (.ifCond .ne 6, 3) := by decide +kernel
theorem dX10_ride_17 : decode cX10_ride 17 = .ok (.ldc 109, 2) := by decide +kernel
theorem dX10_ride_19 : decode cX10_ride 19 = .ok (.ireturn, 1) := by decide +kernel
theorem dX10_ride_20 : decode cX10_ride 20 = .ok (.iload_n 2, 1) := by decide +kernel
theorem dX10_ride_21 : decode cX10_ride 21 = .ok (.tableswitch 68 0 3 #[31, 38, 51, 62], 31) := by decide +kernel
theorem dX10_ride_52 : decode cX10_ride 52 = .ok (.iload_n 1, 1) := by decide +kernel
theorem dX10_ride_53 : decode cX10_ride 53 = .ok (.aload_n 0, 1) := by decide +kernel
theorem dX10_ride_54 : decode cX10_ride 54 = .ok (.getfield 106, 3) := by decide +kernel
theorem dX10_ride_57 : decode cX10_ride 57 = .ok (.irem, 1) := by decide +kernel
theorem dX10_ride_58 : decode cX10_ride 58 = .ok (.ireturn, 1) := by decide +kernel
theorem dX10_ride_59 : decode cX10_ride 59 = .ok (.aload_n 0, 1) := by decide +kernel
theorem dX10_ride_60 : decode cX10_ride 60 = .ok (.getfield 34, 3) := by decide +kernel
theorem dX10_ride_63 : decode cX10_ride 63 = .ok (.aload_n 0, 1) := by decide +kernel
theorem dX10_ride_64 : decode cX10_ride 64 = .ok (.iload_n 1, 1) := by decide +kernel
theorem dX10_ride_65 : decode cX10_ride 65 = .ok (.invokevirtual 145, 3) := by decide +kernel
theorem dX10_ride_68 : decode cX10_ride 68 = .ok (.iconst 1, 1) := by decide +kernel
theorem dX10_ride_69 : decode cX10_ride 69 = .ok (.isub, 1) := by decide +kernel
theorem dX10_ride_70 : decode cX10_ride 70 = .ok (.iaload, 1) := by decide +kernel
theorem dX10_ride_71 : decode cX10_ride 71 = .ok (.ireturn, 1) := by decide +kernel
theorem dX10_ride_72 : decode cX10_ride 72 = .ok (.aload_n 0, 1) := by decide +kernel
theorem dX10_ride_73 : decode cX10_ride 73 = .ok (.getfield 34, 3) := by decide +kernel
theorem dX10_ride_76 : decode cX10_ride 76 = .ok (.aload_n 0, 1) := by decide +kernel
theorem dX10_ride_77 : decode cX10_ride 77 = .ok (.iload_n 1, 1) := by decide +kernel
theorem dX10_ride_78 : decode cX10_ride 78 = .ok (.invokevirtual 145, 3) := by decide +kernel
theorem dX10_ride_81 : decode cX10_ride 81 = .ok (.iaload, 1) := by decide +kernel
theorem dX10_ride_82 : decode cX10_ride 82 = .ok (.ireturn, 1) := by decide +kernel
theorem dX10_ride_83 : decode cX10_ride 83 = .ok (.aload_n 0, 1) := by decide +kernel
theorem dX10_ride_84 : decode cX10_ride 84 = .ok (.iload_n 1, 1) := by decide +kernel
theorem dX10_ride_85 : decode cX10_ride 85 = .ok (.invokevirtual 148, 3) := by decide +kernel
theorem dX10_ride_88 : decode cX10_ride 88 = .ok (.ireturn, 1) := by decide +kernel
theorem dX10_ride_89 : decode cX10_ride 89 = .ok (.aload_n 0, 1) := by decide +kernel
theorem dX10_ride_90 : decode cX10_ride 90 = .ok (.iload_n 1, 1) := by decide +kernel
theorem dX10_ride_91 : decode cX10_ride 91 = .ok (.invokevirtual 154, 3) := by decide +kernel
theorem dX10_ride_94 : decode cX10_ride 94 = .ok (.ireturn, 1) := by decide +kernel
set_option maxRecDepth 20000 in
theorem ggX10_findFollowers_X10_rides : GoodIn wsX10_findFollowers wsX10_rides := goodIn_r _ [8, 9, 10, 40, 41, 42, 43, 44, 45, 46, 47, 48, 49, 50, 51, 52, 53, 54, 55, 56, 57, 58, 59, 60, 61, 62, 63, 64, 65, 66, 67, 68, 69, 70, 71, 72, 73, 74, 75, 76] (by decide +kernel) (by decide +kernel)
set_option maxRecDepth 20000 in
theorem gX10_findFollowers_X10_rides : GoodIn wsX10_findFollowers (wsV RX10 142 RX10 yX10_rides wsX10_rides) := goodIn_app (goodIn_of _ (by decide +kernel)) ggX10_findFollowers_X10_rides
set_option maxRecDepth 20000 in
theorem ggX10_findFollowers_X10_toPlace : GoodIn wsX10_findFollowers wsX10_toPlace := goodIn_r _ [14, 10, 40, 41, 42, 43, 44, 45, 46, 47, 48, 49, 50, 51, 52, 53, 54, 55, 56, 57, 58, 59, 60, 61, 62, 63, 64, 65, 66, 67, 68, 69, 70, 71, 72, 73, 74, 75, 76] (by decide +kernel) (by decide +kernel)
set_option maxRecDepth 20000 in
theorem gX10_findFollowers_X10_toPlace : GoodIn wsX10_findFollowers (wsV RX10 145 RX10 yX10_toPlace wsX10_toPlace) := goodIn_app (goodIn_of _ (by decide +kernel)) ggX10_findFollowers_X10_toPlace
set_option maxRecDepth 20000 in
theorem ggX10_findFollowers_X10_rideBegins : GoodIn wsX10_findFollowers wsX10_rideBegins := goodIn_r _ [18, 10, 11, 12, 13, 7, 14, 19, 20, 21, 22, 23, 24, 25, 26, 27, 28, 29, 30, 31, 32, 33, 34, 35, 3, 1, 40, 41, 42, 43, 44, 45, 46, 47, 48, 49, 50, 51, 52, 53, 54, 55, 56, 57, 58, 59, 60, 61, 62, 63, 64, 65, 66, 67, 68, 69, 70, 71, 72, 73, 74, 75, 76] (by decide +kernel) (by decide +kernel)
set_option maxRecDepth 20000 in
theorem gX10_findFollowers_X10_rideBegins : GoodIn wsX10_findFollowers (wsV RX10 148 RX10 yX10_rideBegins wsX10_rideBegins) := goodIn_app (goodIn_of _ (by decide +kernel)) ggX10_findFollowers_X10_rideBegins
set_option maxRecDepth 20000 in
theorem ggX10_findFollowers_X10_rideEnds : GoodIn wsX10_findFollowers wsX10_rideEnds := goodIn_r _ [39, 15, 16, 17, 7, 18, 10, 11, 12, 13, 14, 19, 20, 21, 22, 23, 24, 25, 26, 27, 28, 29, 30, 31, 32, 33, 34, 35, 3, 1, 40, 41, 42, 43, 44, 45, 46, 47, 48, 49, 50, 51, 52, 53, 54, 55, 56, 57, 58, 59, 60, 61, 62, 63, 64, 65, 66, 67, 68, 69, 70, 71, 72, 73, 74, 75, 76] (by decide +kernel) (by decide +kernel)
set_option maxRecDepth 20000 in
theorem gX10_findFollowers_X10_rideEnds : GoodIn wsX10_findFollowers (wsV RX10 154 RX10 yX10_rideEnds wsX10_rideEnds) := goodIn_app (goodIn_of _ (by decide +kernel)) ggX10_findFollowers_X10_rideEnds
theorem dX10_findFollowers_0 : decode cX10_findFollowers 0 = .ok (.aload_n 0, 1) := by decide +kernel
theorem dX10_findFollowers_1 : decode cX10_findFollowers 1 = .ok (.invokevirtual 142, 3) := by decide +kernel
theorem dX10_findFollowers_4 : decode cX10_findFollowers 4 = .ok (.istore_n 1, 1) := by decide +kernel
theorem dX10_findFollowers_5 : decode cX10_findFollowers 5 = .ok (.iconst 0, 1) := by decide +kernel
theorem dX10_findFollowers_6 : decode cX10_findFollowers 6 = .ok (.istore_n 2, 1) := by decide +kernel
theorem dX10_findFollowers_7 : decode cX10_findFollowers 7 = .ok (.iload_n 2, 1) := by decide +kernel
theorem dX10_findFollowers_8 : decode cX10_findFollowers 8 = .ok (.iload_n 1, 1) := by decide +kernel
theorem dX10_findFollowers_9 : decode cX10_findFollowers 9 = .ok (.if_icmp .ge 140, 3) := by decide +kernel
theorem dX10_findFollowers_12 : decode cX10_findFollowers 12 = .ok (.aload_n 0, 1) := by decide +kernel
theorem dX10_findFollowers_13 : decode cX10_findFollowers 13 = .ok (.getfield 34, 3) := by decide +kernel
theorem dX10_findFollowers_16 : decode cX10_findFollowers 16 = .ok (.aload_n 0, 1) := by decide +kernel
theorem dX10_findFollowers_17 : decode cX10_findFollowers 17 = .ok (.iload_n 2, 1) := by decide +kernel
theorem dX10_findFollowers_18 : decode cX10_findFollowers 18 = .ok (.invokevirtual 145, 3) := by decide +kernel
theorem dX10_findFollowers_21 : decode cX10_findFollowers 21 = .ok (.iaload, 1) := by decide +kernel
theorem dX10_findFollowers_22 : decode cX10_findFollowers 22 = .ok (.istore_n 3, 1) := by decide +kernel
theorem dX10_findFollowers_23 : decode cX10_findFollowers 23 = .ok (.iconst 0, 1) := by decide +kernel
theorem dX10_findFollowers_24 : decode cX10_findFollowers 24 = .ok (.istore 4, 2) := by decide +kernel
theorem dX10_findFollowers_26 : decode cX10_findFollowers 26 = .ok (.iload 4, 2) := by decide +kernel
theorem dX10_findFollowers_28 : decode cX10_findFollowers 28 = .ok (.iload_n 1, 1) := by decide +kernel
theorem dX10_findFollowers_29 : decode cX10_findFollowers 29 = .ok (.if_icmp .ge 114, 3) := by decide +kernel
theorem dX10_findFollowers_32 : decode cX10_findFollowers 32 = .ok (.aload_n 0, 1) := by decide +kernel
theorem dX10_findFollowers_33 : decode cX10_findFollowers 33 = .ok (.iload_n 2, 1) := by decide +kernel
theorem dX10_findFollowers_34 : decode cX10_findFollowers 34 = .ok (.invokevirtual 148, 3) := by decide +kernel
theorem dX10_findFollowers_37 : decode cX10_findFollowers 37 = .ok (.aload_n 0, 1) := by decide +kernel
theorem dX10_findFollowers_38 : decode cX10_findFollowers 38 = .ok (.iload 4, 2) := by decide +kernel
theorem dX10_findFollowers_40 : decode cX10_findFollowers 40 = .ok (.invokevirtual 148, 3) := by decide +kernel
theorem dX10_findFollowers_43 : decode cX10_findFollowers 43 = .ok (.if_icmp .lt 23, 3) := by decide +kernel
theorem dX10_findFollowers_46 : decode cX10_findFollowers 46 = .ok (.aload_n 0, 1) := by decide +kernel
theorem dX10_findFollowers_47 : decode cX10_findFollowers 47 = .ok (.iload_n 2, 1) := by decide +kernel
theorem dX10_findFollowers_48 : decode cX10_findFollowers 48 = .ok (.invokevirtual 148, 3) := by decide +kernel
theorem dX10_findFollowers_51 : decode cX10_findFollowers 51 = .ok (.aload_n 0, 1) := by decide +kernel
theorem dX10_findFollowers_52 : decode cX10_findFollowers 52 = .ok (.iload 4, 2) := by decide +kernel
theorem dX10_findFollowers_54 : decode cX10_findFollowers 54 = .ok (.invokevirtual 148, 3) := by decide +kernel
theorem dX10_findFollowers_57 : decode cX10_findFollowers 57 = .ok (.if_icmp .ne 13, 3) := by decide +kernel
theorem dX10_findFollowers_60 : decode cX10_findFollowers 60 = .ok (.iload_n 2, 1) := by decide +kernel
theorem dX10_findFollowers_61 : decode cX10_findFollowers 61 = .ok (.iload 4, 2) := by decide +kernel
theorem dX10_findFollowers_63 : decode cX10_findFollowers 63 = .ok (.if_icmp .ge 7, 3) := by decide +kernel
theorem dX10_findFollowers_66 : decode cX10_findFollowers 66 = .ok (.iconst 1, 1) := by decide +kernel
theorem dX10_findFollowers_67 : decode cX10_findFollowers 67 = .ok (.goto 4, 3) := by decide +kernel
theorem dX10_findFollowers_70 : decode cX10_findFollowers 70 = .ok (.iconst 0, 1) := by decide +kernel
theorem dX10_findFollowers_71 : decode cX10_findFollowers 71 = .ok (.istore 5, 2) := by decide +kernel
theorem dX10_findFollowers_73 : decode cX10_findFollowers 73 = .ok (.aload_n 0, 1) := by decide +kernel
theorem dX10_findFollowers_74 : decode cX10_findFollowers 74 = .ok (.getfield 34, 3) := by decide +kernel
theorem dX10_findFollowers_77 : decode cX10_findFollowers 77 = .ok (.aload_n 0, 1) := by decide +kernel
theorem dX10_findFollowers_78 : decode cX10_findFollowers 78 = .ok (.iload 4, 2) := by decide +kernel
theorem dX10_findFollowers_80 : decode cX10_findFollowers 80 = .ok (.invokevirtual 145, 3) := by decide +kernel
theorem dX10_findFollowers_83 : decode cX10_findFollowers 83 = .ok (.iconst 1, 1) := by decide +kernel
theorem dX10_findFollowers_84 : decode cX10_findFollowers 84 = .ok (.isub, 1) := by decide +kernel
theorem dX10_findFollowers_85 : decode cX10_findFollowers 85 = .ok (.iaload, 1) := by decide +kernel
theorem dX10_findFollowers_86 : decode cX10_findFollowers 86 = .ok (.istore 6, 2) := by decide +kernel
theorem dX10_findFollowers_88 : decode cX10_findFollowers 88 = .ok (.aload_n 0, 1) := by decide +kernel
theorem dX10_findFollowers_89 : decode cX10_findFollowers 89 = .ok (.getfield 75, 3) := by decide +kernel
theorem dX10_findFollowers_92 : decode cX10_findFollowers 92 = .ok (.bipush 40, 2) := by decide +kernel
theorem dX10_findFollowers_94 : decode cX10_findFollowers 94 = .ok (.iload_n 2, 1) := by decide +kernel
theorem dX10_findFollowers_95 : decode cX10_findFollowers 95 = .ok (.imul, 1) := by decide +kernel
theorem dX10_findFollowers_96 : decode cX10_findFollowers 96 = .ok (.iload 4, 2) := by decide +kernel
theorem dX10_findFollowers_98 : decode cX10_findFollowers 98 = .ok (.iadd, 1) := by decide +kernel
theorem dX10_findFollowers_99 : decode cX10_findFollowers 99 = .ok (.iload 5, 2) := by decide +kernel
theorem dX10_findFollowers_101 : decode cX10_findFollowers 101 = .ok (.ifCond .eq 34, 3) := by decide +kernel
theorem dX10_findFollowers_104 : decode cX10_findFollowers 104 = .ok (.aload_n 0, 1) := by decide +kernel
theorem dX10_findFollowers_105 : decode cX10_findFollowers 105 = .ok (.iload_n 2, 1) := by decide +kernel
theorem dX10_findFollowers_106 : decode cX10_findFollowers 106 = .ok (.invokevirtual 154, 3) := by decide +kernel
theorem dX10_findFollowers_109 : decode cX10_findFollowers 109 = .ok (.aload_n 0, 1) := by decide +kernel
theorem dX10_findFollowers_110 : decode cX10_findFollowers 110 = .ok (.getfield 22, 3) := by decide +kernel
theorem dX10_findFollowers_113 : decode cX10_findFollowers 113 = .ok (.bipush 6, 2) := by decide +kernel
theorem dX10_findFollowers_115 : decode cX10_findFollowers 115 = .ok (.iload_n 3, 1) := by decide +kernel
theorem dX10_findFollowers_116 : decode cX10_findFollowers 116 = .ok (.imul, 1) := by decide +kernel
theorem dX10_findFollowers_117 : decode cX10_findFollowers 117 = .ok (.iload 6, 2) := by decide +kernel
theorem dX10_findFollowers_119 : decode cX10_findFollowers 119 = .ok (.iadd, 1) := by decide +kernel
theorem dX10_findFollowers_120 : decode cX10_findFollowers 120 = .ok (.iaload, 1) := by decide +kernel
theorem dX10_findFollowers_121 : decode cX10_findFollowers 121 = .ok (.iadd, 1) := by decide +kernel
theorem dX10_findFollowers_122 : decode cX10_findFollowers 122 = .ok (.aload_n 0, 1) := by decide +kernel
theorem dX10_findFollowers_123 : decode cX10_findFollowers 123 = .ok (.iload 4, 2) := by decide +kernel
theorem dX10_findFollowers_125 : decode cX10_findFollowers 125 = .ok (.invokevirtual 148, 3) := by decide +kernel
theorem dX10_findFollowers_128 : decode cX10_findFollowers 128 = .ok (.if_icmp .gt 7, 3) := by decide +kernel
theorem dX10_findFollowers_131 : decode cX10_findFollowers 131 = .ok (.iconst 1, 1) := by decide +kernel
theorem dX10_findFollowers_132 : decode cX10_findFollowers 132 = .ok (.goto 4, 3) := by decide +kernel
theorem dX10_findFollowers_135 : decode cX10_findFollowers 135 = .ok (.iconst 0, 1) := by decide +kernel
theorem dX10_findFollowers_136 : decode cX10_findFollowers 136 = .ok (.bastore, 1) := by decide +kernel
theorem dX10_findFollowers_137 : decode cX10_findFollowers 137 = .ok (.iinc 4 1, 3) := by decide +kernel
theorem dX10_findFollowers_140 : decode cX10_findFollowers 140 = .ok (.goto (-114), 3) := by decide +kernel
theorem dX10_findFollowers_143 : decode cX10_findFollowers 143 = .ok (.iinc 2 1, 3) := by decide +kernel
theorem dX10_findFollowers_146 : decode cX10_findFollowers 146 = .ok (.goto (-139), 3) := by decide +kernel
theorem dX10_findFollowers_149 : decode cX10_findFollowers 149 = .ok (.return_, 1) := by decide +kernel
set_option maxRecDepth 20000 in
theorem ggX10_give_X10_rides : GoodIn wsX10_give wsX10_rides := goodIn_r _ [8, 9, 10, 14, 15, 16, 17, 18, 19, 20, 21, 22, 23, 24, 25, 26, 27, 28, 29, 30, 31, 32, 33, 34, 35, 36, 37, 38, 39, 40, 41, 42, 43, 44, 45, 46, 47, 48, 49, 50] (by decide +kernel) (by decide +kernel)
set_option maxRecDepth 20000 in
theorem gX10_give_X10_rides : GoodIn wsX10_give (wsV RX10 142 RX10 yX10_rides wsX10_rides) := goodIn_app (goodIn_of _ (by decide +kernel)) ggX10_give_X10_rides
set_option maxRecDepth 20000 in
theorem ggX10_give_X10_give : GoodIn wsX10_give wsX10_give := goodIn_r _ [0, 1, 2, 3, 4, 5, 6, 7, 8, 9, 10, 11, 12, 13, 14, 15, 16, 17, 18, 19, 20, 21, 22, 23, 24, 25, 26, 27, 28, 29, 30, 31, 32, 33, 34, 35, 36, 37, 38, 39, 40, 41, 42, 43, 44, 45, 46, 47, 48, 49, 50] (by decide +kernel) (by decide +kernel)
set_option maxRecDepth 20000 in
theorem gX10_give_X10_give : GoodIn wsX10_give (wsV RX10 157 RX10 yX10_give wsX10_give) := goodIn_app (goodIn_of _ (by decide +kernel)) ggX10_give_X10_give
theorem dX10_give_0 : decode cX10_give 0 = .ok (.iconst 0, 1) := by decide +kernel
theorem dX10_give_1 : decode cX10_give 1 = .ok (.istore_n 2, 1) := by decide +kernel
theorem dX10_give_2 : decode cX10_give 2 = .ok (.iload_n 2, 1) := by decide +kernel
theorem dX10_give_3 : decode cX10_give 3 = .ok (.aload_n 0, 1) := by decide +kernel
theorem dX10_give_4 : decode cX10_give 4 = .ok (.invokevirtual 142, 3) := by decide +kernel
theorem dX10_give_7 : decode cX10_give 7 = .ok (.if_icmp .ge 73, 3) := by decide +kernel
theorem dX10_give_10 : decode cX10_give 10 = .ok (.aload_n 0, 1) := by decide +kernel
theorem dX10_give_11 : decode cX10_give 11 = .ok (.getfield 75, 3) := by decide +kernel
theorem dX10_give_14 : decode cX10_give 14 = .ok (.bipush 40, 2) := by decide +kernel
theorem dX10_give_16 : decode cX10_give 16 = .ok (.iload_n 1, 1) := by decide +kernel
theorem dX10_give_17 : decode cX10_give 17 = .ok (.imul, 1) := by decide +kernel
theorem dX10_give_18 : decode cX10_give 18 = .ok (.iload_n 2, 1) := by decide +kernel
theorem dX10_give_19 : decode cX10_give 19 = .ok (.iadd, 1) := by decide +kernel
theorem dX10_give_20 : decode cX10_give 20 = .ok (.baload, 1) := by decide +kernel
theorem dX10_give_21 : decode cX10_give 21 = .ok (.ifCond .eq 53, 3) := by decide +kernel
theorem dX10_give_24 : decode cX10_give 24 = .ok (.aload_n 0, 1) := by decide +kernel
theorem dX10_give_25 : decode cX10_give 25 = .ok (.getfield 71, 3) := by decide +kernel
theorem dX10_give_28 : decode cX10_give 28 = .ok (.iload_n 2, 1) := by decide +kernel
theorem dX10_give_29 : decode cX10_give 29 = .ok (.baload, 1) := by decide +kernel
theorem dX10_give_30 : decode cX10_give 30 = .ok (.ifCond .eq 6, 3) := by decide +kernel
theorem dX10_give_33 : decode cX10_give 33 = .ok (.goto 41, 3) := by decide +kernel
theorem dX10_give_36 : decode cX10_give 36 = .ok (.aload_n 0, 1) := by decide +kernel
theorem dX10_give_37 : decode cX10_give 37 = .ok (.getfield 71, 3) := by decide +kernel
theorem dX10_give_40 : decode cX10_give 40 = .ok (.iload_n 2, 1) := by decide +kernel
theorem dX10_give_41 : decode cX10_give 41 = .ok (.iconst 1, 1) := by decide +kernel
theorem dX10_give_42 : decode cX10_give 42 = .ok (.bastore, 1) := by decide +kernel
theorem dX10_give_43 : decode cX10_give 43 = .ok (.aload_n 0, 1) := by decide +kernel
theorem dX10_give_44 : decode cX10_give 44 = .ok (.getfield 68, 3) := by decide +kernel
theorem dX10_give_47 : decode cX10_give 47 = .ok (.iload_n 2, 1) := by decide +kernel
theorem dX10_give_48 : decode cX10_give 48 = .ok (.iaload, 1) := by decide +kernel
theorem dX10_give_49 : decode cX10_give 49 = .ok (.ifCond .lt 16, 3) := by decide +kernel
theorem dX10_give_52 : decode cX10_give 52 = .ok (.aload_n 0, 1) := by decide +kernel
theorem dX10_give_53 : decode cX10_give 53 = .ok (.aload_n 0, 1) := by decide +kernel
theorem dX10_give_54 : decode cX10_give 54 = .ok (.getfield 68, 3) := by decide +kernel
theorem dX10_give_57 : decode cX10_give 57 = .ok (.iload_n 2, 1) := by decide +kernel
theorem dX10_give_58 : decode cX10_give 58 = .ok (.iaload, 1) := by decide +kernel
theorem dX10_give_59 : decode cX10_give 59 = .ok (.invokevirtual 157, 3) := by decide +kernel
theorem dX10_give_62 : decode cX10_give 62 = .ok (.ifCond .eq 12, 3) := by decide +kernel
theorem dX10_give_65 : decode cX10_give 65 = .ok (.aload_n 0, 1) := by decide +kernel
theorem dX10_give_66 : decode cX10_give 66 = .ok (.getfield 68, 3) := by decide +kernel
theorem dX10_give_69 : decode cX10_give 69 = .ok (.iload_n 2, 1) := by decide +kernel
theorem dX10_give_70 : decode cX10_give 70 = .ok (.iload_n 1, 1) := by decide +kernel
theorem dX10_give_71 : decode cX10_give 71 = .ok (.iastore, 1) := by decide +kernel
theorem dX10_give_72 : decode cX10_give 72 = .ok (.iconst 1, 1) := by decide +kernel
theorem dX10_give_73 : decode cX10_give 73 = .ok (.ireturn, 1) := by decide +kernel
theorem dX10_give_74 : decode cX10_give 74 = .ok (.iinc 2 1, 3) := by decide +kernel
theorem dX10_give_77 : decode cX10_give 77 = .ok (.goto (-75), 3) := by decide +kernel
theorem dX10_give_80 : decode cX10_give 80 = .ok (.iconst 0, 1) := by decide +kernel
theorem dX10_give_81 : decode cX10_give 81 = .ok (.ireturn, 1) := by decide +kernel
set_option maxRecDepth 20000 in
theorem ggX10_riders_X10_rides : GoodIn wsX10_riders wsX10_rides := goodIn_r _ [7, 8, 9, 50, 51, 52, 53, 54, 55, 56, 57, 58, 59, 60, 61, 62, 63, 64, 65, 66, 67, 68, 69, 70, 71, 72, 73, 74, 75, 76, 77, 78, 79, 80, 81, 82, 83, 84, 85, 86] (by decide +kernel) (by decide +kernel)
set_option maxRecDepth 20000 in
theorem gX10_riders_X10_rides : GoodIn wsX10_riders (wsV RX10 142 RX10 yX10_rides wsX10_rides) := goodIn_app (goodIn_of _ (by decide +kernel)) ggX10_riders_X10_rides
set_option maxRecDepth 20000 in
theorem ggX10_riders_X10_findFollowers : GoodIn wsX10_riders wsX10_findFollowers := goodIn_r _ [13, 14, 15, 16, 3, 4, 5, 6, 7, 8, 9, 17, 18, 19, 20, 21, 22, 23, 24, 25, 26, 27, 28, 29, 30, 31, 32, 33, 34, 35, 36, 37, 38, 39, 40, 41, 42, 43, 44, 45, 50, 51, 52, 53, 54, 55, 56, 57, 58, 59, 60, 61, 62, 63, 64, 65, 66, 67, 68, 69, 70, 71, 72, 73, 74, 75, 76, 77, 78, 79, 80, 81, 82, 83, 84, 85, 86] (by decide +kernel) (by decide +kernel)
set_option maxRecDepth 20000 in
theorem gX10_riders_X10_findFollowers : GoodIn wsX10_riders (wsV RX10 160 RX10 yX10_findFollowers wsX10_findFollowers) := goodIn_app (goodIn_of _ (by decide +kernel)) ggX10_riders_X10_findFollowers
set_option maxRecDepth 20000 in
theorem ggX10_riders_X10_give : GoodIn wsX10_riders wsX10_give := goodIn_r _ [49, 15, 2, 1, 3, 4, 5, 6, 7, 8, 9, 46, 47, 48, 50, 51, 52, 53, 54, 55, 56, 57, 58, 59, 60, 61, 62, 63, 64, 65, 66, 67, 68, 69, 70, 71, 72, 73, 74, 75, 76, 77, 78, 79, 80, 81, 82, 83, 84, 85, 86] (by decide +kernel) (by decide +kernel)
set_option maxRecDepth 20000 in
theorem gX10_riders_X10_give : GoodIn wsX10_riders (wsV RX10 157 RX10 yX10_give wsX10_give) := goodIn_app (goodIn_of _ (by decide +kernel)) ggX10_riders_X10_give
theorem dX10_riders_0 : decode cX10_riders 0 = .ok (.aload_n 0, 1) := by decide +kernel
theorem dX10_riders_1 : decode cX10_riders 1 = .ok (.invokevirtual 142, 3) := by decide +kernel
theorem dX10_riders_4 : decode cX10_riders 4 = .ok (.istore_n 1, 1) := by decide +kernel
theorem dX10_riders_5 : decode cX10_riders 5 = .ok (.aload_n 0, 1) := by decide +kernel
theorem dX10_riders_6 : decode cX10_riders 6 = .ok (.invokevirtual 160, 3) := by decide +kernel
theorem dX10_riders_9 : decode cX10_riders 9 = .ok (.iconst 0, 1) := by decide +kernel
theorem dX10_riders_10 : decode cX10_riders 10 = .ok (.istore_n 2, 1) := by decide +kernel
theorem dX10_riders_11 : decode cX10_riders 11 = .ok (.iload_n 2, 1) := by decide +kernel
theorem dX10_riders_12 : decode cX10_riders 12 = .ok (.iload_n 1, 1) := by decide +kernel
theorem dX10_riders_13 : decode cX10_riders 13 = .ok (.if_icmp .ge 16, 3) := by decide +kernel
theorem dX10_riders_16 : decode cX10_riders 16 = .ok (.aload_n 0, 1) := by decide +kernel
theorem dX10_riders_17 : decode cX10_riders 17 = .ok (.getfield 68, 3) := by decide +kernel
theorem dX10_riders_20 : decode cX10_riders 20 = .ok (.iload_n 2, 1) := by decide +kernel
theorem dX10_riders_21 : decode cX10_riders 21 = .ok (.iconst (-1), 1) := by decide +kernel
theorem dX10_riders_22 : decode cX10_riders 22 = .ok (.iastore, 1) := by decide +kernel
theorem dX10_riders_23 : decode cX10_riders 23 = .ok (.iinc 2 1, 3) := by decide +kernel
theorem dX10_riders_26 : decode cX10_riders 26 = .ok (.goto (-15), 3) := by decide +kernel
theorem dX10_riders_29 : decode cX10_riders 29 = .ok (.iconst 0, 1) := by decide +kernel
theorem dX10_riders_30 : decode cX10_riders 30 = .ok (.istore_n 2, 1) := by decide +kernel
theorem dX10_riders_31 : decode cX10_riders 31 = .ok (.iconst 0, 1) := by decide +kernel
theorem dX10_riders_32 : decode cX10_riders 32 = .ok (.istore_n 3, 1) := by decide +kernel
theorem dX10_riders_33 : decode cX10_riders 33 = .ok (.iload_n 3, 1) := by decide +kernel
theorem dX10_riders_34 : decode cX10_riders 34 = .ok (.iload_n 1, 1) := by decide +kernel
theorem dX10_riders_35 : decode cX10_riders 35 = .ok (.if_icmp .ge 48, 3) := by decide +kernel
theorem dX10_riders_38 : decode cX10_riders 38 = .ok (.iconst 0, 1) := by decide +kernel
theorem dX10_riders_39 : decode cX10_riders 39 = .ok (.istore 4, 2) := by decide +kernel
theorem dX10_riders_41 : decode cX10_riders 41 = .ok (.iload 4, 2) := by decide +kernel
theorem dX10_riders_43 : decode cX10_riders 43 = .ok (.iload_n 1, 1) := by decide +kernel
theorem dX10_riders_44 : decode cX10_riders 44 = .ok (.if_icmp .ge 17, 3) := by decide +kernel
theorem dX10_riders_47 : decode cX10_riders 47 = .ok (.aload_n 0, 1) := by decide +kernel
theorem dX10_riders_48 : decode cX10_riders 48 = .ok (.getfield 71, 3) := by decide +kernel
theorem dX10_riders_51 : decode cX10_riders 51 = .ok (.iload 4, 2) := by decide +kernel
theorem dX10_riders_53 : decode cX10_riders 53 = .ok (.iconst 0, 1) := by decide +kernel
theorem dX10_riders_54 : decode cX10_riders 54 = .ok (.bastore, 1) := by decide +kernel
theorem dX10_riders_55 : decode cX10_riders 55 = .ok (.iinc 4 1, 3) := by decide +kernel
theorem dX10_riders_58 : decode cX10_riders 58 = .ok (.goto (-17), 3) := by decide +kernel
theorem dX10_riders_61 : decode cX10_riders 61 = .ok (.iload_n 2, 1) := by decide +kernel
theorem dX10_riders_62 : decode cX10_riders 62 = .ok (.aload_n 0, 1) := by decide +kernel
theorem dX10_riders_63 : decode cX10_riders 63 = .ok (.iload_n 3, 1) := by decide +kernel
theorem dX10_riders_64 : decode cX10_riders 64 = .ok (.invokevirtual 157, 3) := by decide +kernel
theorem dX10_riders_67 : decode cX10_riders 67 = .ok (.ifCond .eq 7, 3) := by decide +kernel
theorem dX10_riders_70 : decode cX10_riders 70 = .ok (.iconst 1, 1) := by decide +kernel
theorem dX10_riders_71 : decode cX10_riders 71 = .ok (.goto 4, 3) := by decide +kernel
theorem dX10_riders_74 : decode cX10_riders 74 = .ok (.iconst 0, 1) := by decide +kernel
theorem dX10_riders_75 : decode cX10_riders 75 = .ok (.iadd, 1) := by decide +kernel
theorem dX10_riders_76 : decode cX10_riders 76 = .ok (.istore_n 2, 1) := by decide +kernel
theorem dX10_riders_77 : decode cX10_riders 77 = .ok (.iinc 3 1, 3) := by decide +kernel
theorem dX10_riders_80 : decode cX10_riders 80 = .ok (.goto (-47), 3) := by decide +kernel
theorem dX10_riders_83 : decode cX10_riders 83 = .ok (.iload_n 1, 1) := by decide +kernel
theorem dX10_riders_84 : decode cX10_riders 84 = .ok (.iload_n 2, 1) := by decide +kernel
theorem dX10_riders_85 : decode cX10_riders 85 = .ok (.isub, 1) := by decide +kernel
theorem dX10_riders_86 : decode cX10_riders 86 = .ok (.ireturn, 1) := by decide +kernel
set_option maxRecDepth 20000 in
theorem ggX10_late_X10_isRide : GoodIn wsX10_late wsX10_isRide := goodIn_r _ [7, 8, 9, 10, 6, 11, 12, 13, 14, 15, 16, 17, 18, 19, 20, 21, 22, 23, 24, 25, 26, 27, 28, 29, 30, 31, 32, 33, 34, 35, 36, 37, 38, 39, 40, 41, 42, 43, 44, 45, 46, 47, 48, 49, 50, 51, 52, 53] (by decide +kernel) (by decide +kernel)
set_option maxRecDepth 20000 in
theorem gX10_late_X10_isRide : GoodIn wsX10_late (wsV RX10 151 RX10 yX10_isRide wsX10_isRide) := goodIn_app (goodIn_of _ (by decide +kernel)) ggX10_late_X10_isRide
set_option maxRecDepth 20000 in
theorem ggX10_late_X10_isIn : GoodIn wsX10_late wsX10_isIn := goodIn_r _ [16] (by decide +kernel) (by decide +kernel)
set_option maxRecDepth 20000 in
theorem gX10_late_X10_isIn : GoodIn wsX10_late (va_wsS RX10 102 yX10_isIn wsX10_isIn) := goodIn_app (goodIn_of _ (by decide +kernel)) ggX10_late_X10_isIn
theorem dX10_late_0 : decode cX10_late 0 = .ok (.aload_n 0, 1) := by decide +kernel
theorem dX10_late_1 : decode cX10_late 1 = .ok (.iload_n 1, 1) := by decide +kernel
theorem dX10_late_2 : decode cX10_late 2 = .ok (.invokevirtual 151, 3) := by decide +kernel
theorem dX10_late_5 : decode cX10_late 5 = .ok (.ifCond .eq 14, 3) := by decide +kernel
theorem dX10_late_8 : decode cX10_late 8 = .ok (.iload_n 2, 1) := by decide +kernel
theorem dX10_late_9 : decode cX10_late 9 = .ok (.iconst 0, 1) := by decide +kernel
theorem dX10_late_10 : decode cX10_late 10 = .ok (.sipush 200, 3) := by decide +kernel
theorem dX10_late_13 : decode cX10_late 13 = .ok (.invokestatic 102, 3) := by decide +kernel
theorem dX10_late_16 : decode cX10_late 16 = .ok (.ifCond .ne 6, 3) := by decide +kernel
theorem dX10_late_19 : decode cX10_late 19 = .ok (.ldc 109, 2) := by decide +kernel
theorem dX10_late_21 : decode cX10_late 21 = .ok (.ireturn, 1) := by decide +kernel
theorem dX10_late_22 : decode cX10_late 22 = .ok (.aload_n 0, 1) := by decide +kernel
theorem dX10_late_23 : decode cX10_late 23 = .ok (.getfield 37, 3) := by decide +kernel
theorem dX10_late_26 : decode cX10_late 26 = .ok (.iload_n 1, 1) := by decide +kernel
theorem dX10_late_27 : decode cX10_late 27 = .ok (.iaload, 1) := by decide +kernel
theorem dX10_late_28 : decode cX10_late 28 = .ok (.istore_n 3, 1) := by decide +kernel
theorem dX10_late_29 : decode cX10_late 29 = .ok (.aload_n 0, 1) := by decide +kernel
theorem dX10_late_30 : decode cX10_late 30 = .ok (.getfield 37, 3) := by decide +kernel
theorem dX10_late_33 : decode cX10_late 33 = .ok (.iload_n 1, 1) := by decide +kernel
theorem dX10_late_34 : decode cX10_late 34 = .ok (.iload_n 2, 1) := by decide +kernel
theorem dX10_late_35 : decode cX10_late 35 = .ok (.iastore, 1) := by decide +kernel
theorem dX10_late_36 : decode cX10_late 36 = .ok (.iload_n 3, 1) := by decide +kernel
theorem dX10_late_37 : decode cX10_late 37 = .ok (.ireturn, 1) := by decide +kernel
set_option maxRecDepth 20000 in
theorem ggX10_goOn_X10_startOf : GoodIn wsX10_goOn wsX10_startOf := goodIn_r _ [11, 12, 13, 14, 10, 15, 2, 16, 17, 18, 19, 20, 21, 22, 23, 24, 25, 26, 27, 28, 29, 30, 31, 32, 33, 34, 35, 36, 37, 38, 39, 40, 41, 42, 43, 44, 45, 46, 47, 48, 49, 50, 51, 52, 53, 54, 55, 56, 57, 58, 59, 60, 61, 62, 63] (by decide +kernel) (by decide +kernel)
set_option maxRecDepth 20000 in
theorem gX10_goOn_X10_startOf : GoodIn wsX10_goOn (wsV RX10 139 RX10 yX10_startOf wsX10_startOf) := goodIn_app (goodIn_of _ (by decide +kernel)) ggX10_goOn_X10_startOf
set_option maxRecDepth 20000 in
theorem ggX10_goOn_X10_minutes : GoodIn wsX10_goOn wsX10_minutes := goodIn_r _ [19, 20, 27, 28, 29, 30, 31, 32, 33, 34, 35, 36, 37, 38, 39, 40, 41, 42, 43, 44, 45, 46, 47, 48, 49, 50, 51, 52, 53, 54, 55, 56, 57, 58, 59, 60, 61, 62, 63] (by decide +kernel) (by decide +kernel)
set_option maxRecDepth 20000 in
theorem gX10_goOn_X10_minutes : GoodIn wsX10_goOn (wsV RX10 124 RX10 yX10_minutes wsX10_minutes) := goodIn_app (goodIn_of _ (by decide +kernel)) ggX10_goOn_X10_minutes
set_option maxRecDepth 20000 in
theorem ggX10_goOn_X10_wayTo : GoodIn wsX10_goOn wsX10_wayTo := goodIn_r _ [24, 25, 26, 27, 28, 29, 30, 31, 32, 33, 34, 35, 36, 37, 38, 39, 40, 41, 42, 43, 44, 45, 46, 47, 48, 49, 50, 51, 52, 53, 54, 55, 56, 57, 58, 59, 60, 61, 62, 63] (by decide +kernel) (by decide +kernel)
set_option maxRecDepth 20000 in
theorem gX10_goOn_X10_wayTo : GoodIn wsX10_goOn (wsV RX10 133 RX10 yX10_wayTo wsX10_wayTo) := goodIn_app (goodIn_of _ (by decide +kernel)) ggX10_goOn_X10_wayTo
theorem dX10_goOn_0 : decode cX10_goOn 0 = .ok (.iconst 0, 1) := by decide +kernel
theorem dX10_goOn_1 : decode cX10_goOn 1 = .ok (.istore_n 1, 1) := by decide +kernel
theorem dX10_goOn_2 : decode cX10_goOn 2 = .ok (.iload_n 1, 1) := by decide +kernel
theorem dX10_goOn_3 : decode cX10_goOn 3 = .ok (.aload_n 0, 1) := by decide +kernel
theorem dX10_goOn_4 : decode cX10_goOn 4 = .ok (.getfield 118, 3) := by decide +kernel
theorem dX10_goOn_7 : decode cX10_goOn 7 = .ok (.if_icmp .ge 155, 3) := by decide +kernel
theorem dX10_goOn_10 : decode cX10_goOn 10 = .ok (.aload_n 0, 1) := by decide +kernel
theorem dX10_goOn_11 : decode cX10_goOn 11 = .ok (.iload_n 1, 1) := by decide +kernel
theorem dX10_goOn_12 : decode cX10_goOn 12 = .ok (.invokevirtual 139, 3) := by decide +kernel
theorem dX10_goOn_15 : decode cX10_goOn 15 = .ok (.istore_n 2, 1) := by decide +kernel
theorem dX10_goOn_16 : decode cX10_goOn 16 = .ok (.iconst 0, 1) := by decide +kernel
theorem dX10_goOn_17 : decode cX10_goOn 17 = .ok (.istore_n 3, 1) := by decide +kernel
theorem dX10_goOn_18 : decode cX10_goOn 18 = .ok (.iload_n 3, 1) := by decide +kernel
theorem dX10_goOn_19 : decode cX10_goOn 19 = .ok (.aload_n 0, 1) := by decide +kernel
theorem dX10_goOn_20 : decode cX10_goOn 20 = .ok (.getfield 106, 3) := by decide +kernel
theorem dX10_goOn_23 : decode cX10_goOn 23 = .ok (.if_icmp .ge 133, 3) := by decide +kernel
theorem dX10_goOn_26 : decode cX10_goOn 26 = .ok (.bipush 8, 2) := by decide +kernel
theorem dX10_goOn_28 : decode cX10_goOn 28 = .ok (.iload_n 1, 1) := by decide +kernel
theorem dX10_goOn_29 : decode cX10_goOn 29 = .ok (.imul, 1) := by decide +kernel
theorem dX10_goOn_30 : decode cX10_goOn 30 = .ok (.iload_n 3, 1) := by decide +kernel
theorem dX10_goOn_31 : decode cX10_goOn 31 = .ok (.iadd, 1) := by decide +kernel
theorem dX10_goOn_32 : decode cX10_goOn 32 = .ok (.istore 4, 2) := by decide +kernel
theorem dX10_goOn_34 : decode cX10_goOn 34 = .ok (.aload_n 0, 1) := by decide +kernel
theorem dX10_goOn_35 : decode cX10_goOn 35 = .ok (.getfield 78, 3) := by decide +kernel
theorem dX10_goOn_38 : decode cX10_goOn 38 = .ok (.iload 4, 2) := by decide +kernel
theorem dX10_goOn_40 : decode cX10_goOn 40 = .ok (.iconst 0, 1) := by decide +kernel
theorem dX10_goOn_41 : decode cX10_goOn 41 = .ok (.iastore, 1) := by decide +kernel
theorem dX10_goOn_42 : decode cX10_goOn 42 = .ok (.iload_n 1, 1) := by decide +kernel
theorem dX10_goOn_43 : decode cX10_goOn 43 = .ok (.ifCond .le 48, 3) := by decide +kernel
theorem dX10_goOn_46 : decode cX10_goOn 46 = .ok (.aload_n 0, 1) := by decide +kernel
theorem dX10_goOn_47 : decode cX10_goOn 47 = .ok (.getfield 78, 3) := by decide +kernel
theorem dX10_goOn_50 : decode cX10_goOn 50 = .ok (.iload 4, 2) := by decide +kernel
theorem dX10_goOn_52 : decode cX10_goOn 52 = .ok (.aload_n 0, 1) := by decide +kernel
theorem dX10_goOn_53 : decode cX10_goOn 53 = .ok (.getfield 81, 3) := by decide +kernel
theorem dX10_goOn_56 : decode cX10_goOn 56 = .ok (.iload 4, 2) := by decide +kernel
theorem dX10_goOn_58 : decode cX10_goOn 58 = .ok (.bipush 8, 2) := by decide +kernel
theorem dX10_goOn_60 : decode cX10_goOn 60 = .ok (.isub, 1) := by decide +kernel
theorem dX10_goOn_61 : decode cX10_goOn 61 = .ok (.iaload, 1) := by decide +kernel
theorem dX10_goOn_62 : decode cX10_goOn 62 = .ok (.aload_n 0, 1) := by decide +kernel
theorem dX10_goOn_63 : decode cX10_goOn 63 = .ok (.iload_n 3, 1) := by decide +kernel
theorem dX10_goOn_64 : decode cX10_goOn 64 = .ok (.invokevirtual 124, 3) := by decide +kernel
theorem dX10_goOn_67 : decode cX10_goOn 67 = .ok (.iadd, 1) := by decide +kernel
theorem dX10_goOn_68 : decode cX10_goOn 68 = .ok (.aload_n 0, 1) := by decide +kernel
theorem dX10_goOn_69 : decode cX10_goOn 69 = .ok (.iload_n 1, 1) := by decide +kernel
theorem dX10_goOn_70 : decode cX10_goOn 70 = .ok (.invokevirtual 133, 3) := by decide +kernel
theorem dX10_goOn_73 : decode cX10_goOn 73 = .ok (.iadd, 1) := by decide +kernel
theorem dX10_goOn_74 : decode cX10_goOn 74 = .ok (.aload_n 0, 1) := by decide +kernel
theorem dX10_goOn_75 : decode cX10_goOn 75 = .ok (.getfield 37, 3) := by decide +kernel
theorem dX10_goOn_78 : decode cX10_goOn 78 = .ok (.iload_n 1, 1) := by decide +kernel
theorem dX10_goOn_79 : decode cX10_goOn 79 = .ok (.iconst 1, 1) := by decide +kernel
theorem dX10_goOn_80 : decode cX10_goOn 80 = .ok (.isub, 1) := by decide +kernel
theorem dX10_goOn_81 : decode cX10_goOn 81 = .ok (.aload_n 0, 1) := by decide +kernel
theorem dX10_goOn_82 : decode cX10_goOn 82 = .ok (.getfield 106, 3) := by decide +kernel
theorem dX10_goOn_85 : decode cX10_goOn 85 = .ok (.imul, 1) := by decide +kernel
theorem dX10_goOn_86 : decode cX10_goOn 86 = .ok (.iload_n 3, 1) := by decide +kernel
theorem dX10_goOn_87 : decode cX10_goOn 87 = .ok (.iadd, 1) := by decide +kernel
theorem dX10_goOn_88 : decode cX10_goOn 88 = .ok (.iaload, 1) := by decide +kernel
theorem dX10_goOn_89 : decode cX10_goOn 89 = .ok (.iadd, 1) := by decide +kernel
theorem dX10_goOn_90 : decode cX10_goOn 90 = .ok (.iastore, 1) := by decide +kernel
theorem dX10_goOn_91 : decode cX10_goOn 91 = .ok (.aload_n 0, 1) := by decide +kernel
theorem dX10_goOn_92 : decode cX10_goOn 92 = .ok (.getfield 81, 3) := by decide +kernel
theorem dX10_goOn_95 : decode cX10_goOn 95 = .ok (.iload 4, 2) := by decide +kernel
theorem dX10_goOn_97 : decode cX10_goOn 97 = .ok (.aload_n 0, 1) := by decide +kernel
theorem dX10_goOn_98 : decode cX10_goOn 98 = .ok (.getfield 78, 3) := by decide +kernel
theorem dX10_goOn_101 : decode cX10_goOn 101 = .ok (.iload 4, 2) := by decide +kernel
theorem dX10_goOn_103 : decode cX10_goOn 103 = .ok (.iaload, 1) := by decide +kernel
theorem dX10_goOn_104 : decode cX10_goOn 104 = .ok (.iload_n 2, 1) := by decide +kernel
theorem dX10_goOn_105 : decode cX10_goOn 105 = .ok (.if_icmp .le 13, 3) := by decide +kernel
theorem dX10_goOn_108 : decode cX10_goOn 108 = .ok (.aload_n 0, 1) := by decide +kernel
theorem dX10_goOn_109 : decode cX10_goOn 109 = .ok (.getfield 78, 3) := by decide +kernel
theorem dX10_goOn_112 : decode cX10_goOn 112 = .ok (.iload 4, 2) := by decide +kernel
theorem dX10_goOn_114 : decode cX10_goOn 114 = .ok (.iaload, 1) := by decide +kernel
theorem dX10_goOn_115 : decode cX10_goOn 115 = .ok (.goto 4, 3) := by decide +kernel
theorem dX10_goOn_118 : decode cX10_goOn 118 = .ok (.iload_n 2, 1) := by decide +kernel
theorem dX10_goOn_119 : decode cX10_goOn 119 = .ok (.iastore, 1) := by decide +kernel
theorem dX10_goOn_120 : decode cX10_goOn 120 = .ok (.aload_n 0, 1) := by decide +kernel
theorem dX10_goOn_121 : decode cX10_goOn 121 = .ok (.getfield 84, 3) := by decide +kernel
theorem dX10_goOn_124 : decode cX10_goOn 124 = .ok (.iload 4, 2) := by decide +kernel
theorem dX10_goOn_126 : decode cX10_goOn 126 = .ok (.aload_n 0, 1) := by decide +kernel
theorem dX10_goOn_127 : decode cX10_goOn 127 = .ok (.getfield 81, 3) := by decide +kernel
theorem dX10_goOn_130 : decode cX10_goOn 130 = .ok (.iload 4, 2) := by decide +kernel
theorem dX10_goOn_132 : decode cX10_goOn 132 = .ok (.iaload, 1) := by decide +kernel
theorem dX10_goOn_133 : decode cX10_goOn 133 = .ok (.iload_n 2, 1) := by decide +kernel
theorem dX10_goOn_134 : decode cX10_goOn 134 = .ok (.isub, 1) := by decide +kernel
theorem dX10_goOn_135 : decode cX10_goOn 135 = .ok (.iastore, 1) := by decide +kernel
theorem dX10_goOn_136 : decode cX10_goOn 136 = .ok (.aload_n 0, 1) := by decide +kernel
theorem dX10_goOn_137 : decode cX10_goOn 137 = .ok (.getfield 81, 3) := by decide +kernel
theorem dX10_goOn_140 : decode cX10_goOn 140 = .ok (.iload 4, 2) := by decide +kernel
theorem dX10_goOn_142 : decode cX10_goOn 142 = .ok (.iaload, 1) := by decide +kernel
theorem dX10_goOn_143 : decode cX10_goOn 143 = .ok (.aload_n 0, 1) := by decide +kernel
theorem dX10_goOn_144 : decode cX10_goOn 144 = .ok (.iload_n 3, 1) := by decide +kernel
theorem dX10_goOn_145 : decode cX10_goOn 145 = .ok (.invokevirtual 124, 3) := by decide +kernel
theorem dX10_goOn_148 : decode cX10_goOn 148 = .ok (.iadd, 1) := by decide +kernel
theorem dX10_goOn_149 : decode cX10_goOn 149 = .ok (.istore_n 2, 1) := by decide +kernel
theorem dX10_goOn_150 : decode cX10_goOn 150 = .ok (.iinc 3 1, 3) := by decide +kernel
theorem dX10_goOn_153 : decode cX10_goOn 153 = .ok (.goto (-135), 3) := by decide +kernel
theorem dX10_goOn_156 : decode cX10_goOn 156 = .ok (.iinc 1 1, 3) := by decide +kernel
theorem dX10_goOn_159 : decode cX10_goOn 159 = .ok (.goto (-157), 3) := by decide +kernel
theorem dX10_goOn_162 : decode cX10_goOn 162 = .ok (.return_, 1) := by decide +kernel
set_option maxRecDepth 20000 in
theorem ggX10_begins_X10_isPlace : GoodIn wsX10_begins wsX10_isPlace := goodIn_r _ [7, 8, 9, 10, 6, 11, 43, 44, 45, 46, 47, 48, 49, 50, 51, 52, 53, 54, 55, 56, 57, 58, 59, 60, 61, 62, 63, 64, 65, 66, 67, 68, 69, 70, 71, 72, 73, 74, 75, 76, 77, 78, 79] (by decide +kernel) (by decide +kernel)
set_option maxRecDepth 20000 in
theorem gX10_begins_X10_isPlace : GoodIn wsX10_begins (wsV RX10 136 RX10 yX10_isPlace wsX10_isPlace) := goodIn_app (goodIn_of _ (by decide +kernel)) ggX10_begins_X10_isPlace
set_option maxRecDepth 20000 in
theorem ggX10_begins_X10_isReel : GoodIn wsX10_begins wsX10_isReel := goodIn_r _ [15, 16, 9, 10, 6, 11, 43, 44, 45, 46, 47, 48, 49, 50, 51, 52, 53, 54, 55, 56, 57, 58, 59, 60, 61, 62, 63, 64, 65, 66, 67, 68, 69, 70, 71, 72, 73, 74, 75, 76, 77, 78, 79] (by decide +kernel) (by decide +kernel)
set_option maxRecDepth 20000 in
theorem gX10_begins_X10_isReel : GoodIn wsX10_begins (wsV RX10 121 RX10 yX10_isReel wsX10_isReel) := goodIn_app (goodIn_of _ (by decide +kernel)) ggX10_begins_X10_isReel
set_option maxRecDepth 20000 in
theorem ggX10_begins_X10_goOn : GoodIn wsX10_begins wsX10_goOn := goodIn_r _ [20, 8, 16, 21, 2, 22, 23, 24, 25, 26, 6, 27, 28, 29, 30, 31, 32, 33, 34, 35, 36, 37, 38, 39, 40, 41, 42, 43, 44, 45, 46, 47, 48, 49, 50, 51, 52, 53, 54, 55, 56, 57, 58, 59, 60, 61, 62, 63, 64, 65, 66, 67, 68, 69, 70, 71, 72, 73, 74, 75, 76, 77, 78, 79] (by decide +kernel) (by decide +kernel)
set_option maxRecDepth 20000 in
theorem gX10_begins_X10_goOn : GoodIn wsX10_begins (wsV RX10 163 RX10 yX10_goOn wsX10_goOn) := goodIn_app (goodIn_of _ (by decide +kernel)) ggX10_begins_X10_goOn
theorem dX10_begins_0 : decode cX10_begins 0 = .ok (.aload_n 0, 1) := by decide +kernel
theorem dX10_begins_1 : decode cX10_begins 1 = .ok (.iload_n 1, 1) := by decide +kernel
theorem dX10_begins_2 : decode cX10_begins 2 = .ok (.invokevirtual 136, 3) := by decide +kernel
theorem dX10_begins_5 : decode cX10_begins 5 = .ok (.ifCond .eq 11, 3) := by decide +kernel
theorem dX10_begins_8 : decode cX10_begins 8 = .ok (.aload_n 0, 1) := by decide +kernel
theorem dX10_begins_9 : decode cX10_begins 9 = .ok (.iload_n 2, 1) := by decide +kernel
theorem dX10_begins_10 : decode cX10_begins 10 = .ok (.invokevirtual 121, 3) := by decide +kernel
theorem dX10_begins_13 : decode cX10_begins 13 = .ok (.ifCond .ne 6, 3) := by decide +kernel
theorem dX10_begins_16 : decode cX10_begins 16 = .ok (.ldc 109, 2) := by decide +kernel
theorem dX10_begins_18 : decode cX10_begins 18 = .ok (.ireturn, 1) := by decide +kernel
theorem dX10_begins_19 : decode cX10_begins 19 = .ok (.aload_n 0, 1) := by decide +kernel
theorem dX10_begins_20 : decode cX10_begins 20 = .ok (.invokevirtual 163, 3) := by decide +kernel
theorem dX10_begins_23 : decode cX10_begins 23 = .ok (.aload_n 0, 1) := by decide +kernel
theorem dX10_begins_24 : decode cX10_begins 24 = .ok (.getfield 81, 3) := by decide +kernel
theorem dX10_begins_27 : decode cX10_begins 27 = .ok (.bipush 8, 2) := by decide +kernel
theorem dX10_begins_29 : decode cX10_begins 29 = .ok (.iload_n 1, 1) := by decide +kernel
theorem dX10_begins_30 : decode cX10_begins 30 = .ok (.imul, 1) := by decide +kernel
theorem dX10_begins_31 : decode cX10_begins 31 = .ok (.iload_n 2, 1) := by decide +kernel
theorem dX10_begins_32 : decode cX10_begins 32 = .ok (.iadd, 1) := by decide +kernel
theorem dX10_begins_33 : decode cX10_begins 33 = .ok (.iaload, 1) := by decide +kernel
theorem dX10_begins_34 : decode cX10_begins 34 = .ok (.ireturn, 1) := by decide +kernel
set_option maxRecDepth 20000 in
theorem ggX10_waited_X10_isPlace : GoodIn wsX10_waited wsX10_isPlace := goodIn_r _ [10, 11, 12, 13, 9, 14, 40, 41, 42, 43, 44, 45, 46, 47, 48, 49, 50, 51, 52, 53, 54, 55, 56, 57, 58, 59, 60, 61, 62, 63, 64, 65, 66, 67, 68, 69, 70, 71, 72, 73, 74, 75, 76] (by decide +kernel) (by decide +kernel)
set_option maxRecDepth 20000 in
theorem gX10_waited_X10_isPlace : GoodIn wsX10_waited (wsV RX10 136 RX10 yX10_isPlace wsX10_isPlace) := goodIn_app (goodIn_of _ (by decide +kernel)) ggX10_waited_X10_isPlace
set_option maxRecDepth 20000 in
theorem ggX10_waited_X10_goOn : GoodIn wsX10_waited wsX10_goOn := goodIn_r _ [18, 11, 2, 19, 20, 21, 3, 22, 23, 24, 9, 25, 26, 27, 28, 29, 30, 31, 32, 33, 34, 35, 36, 37, 38, 39, 5, 40, 41, 42, 43, 44, 45, 46, 47, 48, 49, 50, 51, 52, 53, 54, 55, 56, 57, 58, 59, 60, 61, 62, 63, 64, 65, 66, 67, 68, 69, 70, 71, 72, 73, 74, 75, 76] (by decide +kernel) (by decide +kernel)
set_option maxRecDepth 20000 in
theorem gX10_waited_X10_goOn : GoodIn wsX10_waited (wsV RX10 163 RX10 yX10_goOn wsX10_goOn) := goodIn_app (goodIn_of _ (by decide +kernel)) ggX10_waited_X10_goOn
theorem dX10_waited_0 : decode cX10_waited 0 = .ok (.aload_n 0, 1) := by decide +kernel
theorem dX10_waited_1 : decode cX10_waited 1 = .ok (.iload_n 1, 1) := by decide +kernel
theorem dX10_waited_2 : decode cX10_waited 2 = .ok (.invokevirtual 136, 3) := by decide +kernel
theorem dX10_waited_5 : decode cX10_waited 5 = .ok (.ifCond .ne 6, 3) := by decide +kernel
theorem dX10_waited_8 : decode cX10_waited 8 = .ok (.ldc 109, 2) := by decide +kernel
theorem dX10_waited_10 : decode cX10_waited 10 = .ok (.ireturn, 1) := by decide +kernel
theorem dX10_waited_11 : decode cX10_waited 11 = .ok (.aload_n 0, 1) := by decide +kernel
theorem dX10_waited_12 : decode cX10_waited 12 = .ok (.invokevirtual 163, 3) := by decide +kernel
theorem dX10_waited_15 : decode cX10_waited 15 = .ok (.iconst 0, 1) := by decide +kernel
theorem dX10_waited_16 : decode cX10_waited 16 = .ok (.istore_n 2, 1) := by decide +kernel
theorem dX10_waited_17 : decode cX10_waited 17 = .ok (.iconst 0, 1) := by decide +kernel
theorem dX10_waited_18 : decode cX10_waited 18 = .ok (.istore_n 3, 1) := by decide +kernel
theorem dX10_waited_19 : decode cX10_waited 19 = .ok (.iload_n 3, 1) := by decide +kernel
theorem dX10_waited_20 : decode cX10_waited 20 = .ok (.aload_n 0, 1) := by decide +kernel
theorem dX10_waited_21 : decode cX10_waited 21 = .ok (.getfield 106, 3) := by decide +kernel
theorem dX10_waited_24 : decode cX10_waited 24 = .ok (.if_icmp .ge 56, 3) := by decide +kernel
theorem dX10_waited_27 : decode cX10_waited 27 = .ok (.aload_n 0, 1) := by decide +kernel
theorem dX10_waited_28 : decode cX10_waited 28 = .ok (.getfield 84, 3) := by decide +kernel
theorem dX10_waited_31 : decode cX10_waited 31 = .ok (.bipush 8, 2) := by decide +kernel
theorem dX10_waited_33 : decode cX10_waited 33 = .ok (.iload_n 1, 1) := by decide +kernel
theorem dX10_waited_34 : decode cX10_waited 34 = .ok (.imul, 1) := by decide +kernel
theorem dX10_waited_35 : decode cX10_waited 35 = .ok (.iload_n 3, 1) := by decide +kernel
theorem dX10_waited_36 : decode cX10_waited 36 = .ok (.iadd, 1) := by decide +kernel
theorem dX10_waited_37 : decode cX10_waited 37 = .ok (.iaload, 1) := by decide +kernel
theorem dX10_waited_38 : decode cX10_waited 38 = .ok (.iload_n 3, 1) := by decide +kernel
theorem dX10_waited_39 : decode cX10_waited 39 = .ok (.ifCond .ne 7, 3) := by decide +kernel
theorem dX10_waited_42 : decode cX10_waited 42 = .ok (.iconst 0, 1) := by decide +kernel
theorem dX10_waited_43 : decode cX10_waited 43 = .ok (.goto 14, 3) := by decide +kernel
theorem dX10_waited_46 : decode cX10_waited 46 = .ok (.aload_n 0, 1) := by decide +kernel
theorem dX10_waited_47 : decode cX10_waited 47 = .ok (.getfield 16, 3) := by decide +kernel
theorem dX10_waited_50 : decode cX10_waited 50 = .ok (.aload_n 0, 1) := by decide +kernel
theorem dX10_waited_51 : decode cX10_waited 51 = .ok (.getfield 34, 3) := by decide +kernel
theorem dX10_waited_54 : decode cX10_waited 54 = .ok (.iload_n 1, 1) := by decide +kernel
theorem dX10_waited_55 : decode cX10_waited 55 = .ok (.iaload, 1) := by decide +kernel
theorem dX10_waited_56 : decode cX10_waited 56 = .ok (.iaload, 1) := by decide +kernel
theorem dX10_waited_57 : decode cX10_waited 57 = .ok (.isub, 1) := by decide +kernel
theorem dX10_waited_58 : decode cX10_waited 58 = .ok (.istore 4, 2) := by decide +kernel
theorem dX10_waited_60 : decode cX10_waited 60 = .ok (.iload_n 2, 1) := by decide +kernel
theorem dX10_waited_61 : decode cX10_waited 61 = .ok (.iload 4, 2) := by decide +kernel
theorem dX10_waited_63 : decode cX10_waited 63 = .ok (.ifCond .le 8, 3) := by decide +kernel
theorem dX10_waited_66 : decode cX10_waited 66 = .ok (.iload 4, 2) := by decide +kernel
theorem dX10_waited_68 : decode cX10_waited 68 = .ok (.goto 4, 3) := by decide +kernel
theorem dX10_waited_71 : decode cX10_waited 71 = .ok (.iconst 0, 1) := by decide +kernel
theorem dX10_waited_72 : decode cX10_waited 72 = .ok (.iadd, 1) := by decide +kernel
theorem dX10_waited_73 : decode cX10_waited 73 = .ok (.istore_n 2, 1) := by decide +kernel
theorem dX10_waited_74 : decode cX10_waited 74 = .ok (.iinc 3 1, 3) := by decide +kernel
theorem dX10_waited_77 : decode cX10_waited 77 = .ok (.goto (-58), 3) := by decide +kernel
theorem dX10_waited_80 : decode cX10_waited 80 = .ok (.iload_n 2, 1) := by decide +kernel
theorem dX10_waited_81 : decode cX10_waited 81 = .ok (.ireturn, 1) := by decide +kernel
theorem dX10_findCauses_0 : decode cX10_findCauses 0 = .ok (.iconst 0, 1) := by decide +kernel
theorem dX10_findCauses_1 : decode cX10_findCauses 1 = .ok (.istore_n 1, 1) := by decide +kernel
theorem dX10_findCauses_2 : decode cX10_findCauses 2 = .ok (.iload_n 1, 1) := by decide +kernel
theorem dX10_findCauses_3 : decode cX10_findCauses 3 = .ok (.aload_n 0, 1) := by decide +kernel
theorem dX10_findCauses_4 : decode cX10_findCauses 4 = .ok (.getfield 118, 3) := by decide +kernel
theorem dX10_findCauses_7 : decode cX10_findCauses 7 = .ok (.if_icmp .ge 129, 3) := by decide +kernel
theorem dX10_findCauses_10 : decode cX10_findCauses 10 = .ok (.iconst 0, 1) := by decide +kernel
theorem dX10_findCauses_11 : decode cX10_findCauses 11 = .ok (.istore_n 2, 1) := by decide +kernel
theorem dX10_findCauses_12 : decode cX10_findCauses 12 = .ok (.iload_n 2, 1) := by decide +kernel
theorem dX10_findCauses_13 : decode cX10_findCauses 13 = .ok (.aload_n 0, 1) := by decide +kernel
theorem dX10_findCauses_14 : decode cX10_findCauses 14 = .ok (.getfield 106, 3) := by decide +kernel
theorem dX10_findCauses_17 : decode cX10_findCauses 17 = .ok (.if_icmp .ge 113, 3) := by decide +kernel
theorem dX10_findCauses_20 : decode cX10_findCauses 20 = .ok (.bipush 8, 2) := by decide +kernel
theorem dX10_findCauses_22 : decode cX10_findCauses 22 = .ok (.iload_n 1, 1) := by decide +kernel
theorem dX10_findCauses_23 : decode cX10_findCauses 23 = .ok (.imul, 1) := by decide +kernel
theorem dX10_findCauses_24 : decode cX10_findCauses 24 = .ok (.iload_n 2, 1) := by decide +kernel
theorem dX10_findCauses_25 : decode cX10_findCauses 25 = .ok (.iadd, 1) := by decide +kernel
theorem dX10_findCauses_26 : decode cX10_findCauses 26 = .ok (.istore_n 3, 1) := by decide +kernel
theorem dX10_findCauses_27 : decode cX10_findCauses 27 = .ok (.aload_n 0, 1) := by decide +kernel
theorem dX10_findCauses_28 : decode cX10_findCauses 28 = .ok (.getfield 87, 3) := by decide +kernel
theorem dX10_findCauses_31 : decode cX10_findCauses 31 = .ok (.iload_n 3, 1) := by decide +kernel
theorem dX10_findCauses_32 : decode cX10_findCauses 32 = .ok (.iconst (-1), 1) := by decide +kernel
theorem dX10_findCauses_33 : decode cX10_findCauses 33 = .ok (.iastore, 1) := by decide +kernel
theorem dX10_findCauses_34 : decode cX10_findCauses 34 = .ok (.aload_n 0, 1) := by decide +kernel
theorem dX10_findCauses_35 : decode cX10_findCauses 35 = .ok (.getfield 84, 3) := by decide +kernel
theorem dX10_findCauses_38 : decode cX10_findCauses 38 = .ok (.iload_n 3, 1) := by decide +kernel
theorem dX10_findCauses_39 : decode cX10_findCauses 39 = .ok (.iaload, 1) := by decide +kernel
theorem dX10_findCauses_40 : decode cX10_findCauses 40 = .ok (.ifCond .le 84, 3) := by decide +kernel
theorem dX10_findCauses_43 : decode cX10_findCauses 43 = .ok (.iload_n 1, 1) := by decide +kernel
theorem dX10_findCauses_44 : decode cX10_findCauses 44 = .ok (.ifCond .le 80, 3) := by decide +kernel
theorem dX10_findCauses_47 : decode cX10_findCauses 47 = .ok (.iload_n 1, 1) := by decide +kernel
theorem dX10_findCauses_48 : decode cX10_findCauses 48 = .ok (.iconst 1, 1) := by decide +kernel
theorem dX10_findCauses_49 : decode cX10_findCauses 49 = .ok (.isub, 1) := by decide +kernel
theorem dX10_findCauses_50 : decode cX10_findCauses 50 = .ok (.aload_n 0, 1) := by decide +kernel
theorem dX10_findCauses_51 : decode cX10_findCauses 51 = .ok (.getfield 106, 3) := by decide +kernel
theorem dX10_findCauses_54 : decode cX10_findCauses 54 = .ok (.imul, 1) := by decide +kernel
theorem dX10_findCauses_55 : decode cX10_findCauses 55 = .ok (.iload_n 2, 1) := by decide +kernel
theorem dX10_findCauses_56 : decode cX10_findCauses 56 = .ok (.iadd, 1) := by decide +kernel
theorem dX10_findCauses_57 : decode cX10_findCauses 57 = .ok (.istore 4, 2) := by decide +kernel
theorem dX10_findCauses_59 : decode cX10_findCauses 59 = .ok (.aload_n 0, 1) := by decide +kernel
theorem dX10_findCauses_60 : decode cX10_findCauses 60 = .ok (.getfield 87, 3) := by decide +kernel
theorem dX10_findCauses_63 : decode cX10_findCauses 63 = .ok (.iload_n 3, 1) := by decide +kernel
theorem dX10_findCauses_64 : decode cX10_findCauses 64 = .ok (.aload_n 0, 1) := by decide +kernel
theorem dX10_findCauses_65 : decode cX10_findCauses 65 = .ok (.getfield 37, 3) := by decide +kernel
theorem dX10_findCauses_68 : decode cX10_findCauses 68 = .ok (.iload 4, 2) := by decide +kernel
theorem dX10_findCauses_70 : decode cX10_findCauses 70 = .ok (.iaload, 1) := by decide +kernel
theorem dX10_findCauses_71 : decode cX10_findCauses 71 = .ok (.ifCond .le 8, 3) := by decide +kernel
theorem dX10_findCauses_74 : decode cX10_findCauses 74 = .ok (.iload 4, 2) := by decide +kernel
theorem dX10_findCauses_76 : decode cX10_findCauses 76 = .ok (.goto 4, 3) := by decide +kernel
theorem dX10_findCauses_79 : decode cX10_findCauses 79 = .ok (.iconst (-1), 1) := by decide +kernel
theorem dX10_findCauses_80 : decode cX10_findCauses 80 = .ok (.iastore, 1) := by decide +kernel
theorem dX10_findCauses_81 : decode cX10_findCauses 81 = .ok (.iload_n 2, 1) := by decide +kernel
theorem dX10_findCauses_82 : decode cX10_findCauses 82 = .ok (.istore 5, 2) := by decide +kernel
theorem dX10_findCauses_84 : decode cX10_findCauses 84 = .ok (.iload 5, 2) := by decide +kernel
theorem dX10_findCauses_86 : decode cX10_findCauses 86 = .ok (.ifCond .lt 38, 3) := by decide +kernel
theorem dX10_findCauses_89 : decode cX10_findCauses 89 = .ok (.aload_n 0, 1) := by decide +kernel
theorem dX10_findCauses_90 : decode cX10_findCauses 90 = .ok (.getfield 87, 3) := by decide +kernel
theorem dX10_findCauses_93 : decode cX10_findCauses 93 = .ok (.iload_n 3, 1) := by decide +kernel
theorem dX10_findCauses_94 : decode cX10_findCauses 94 = .ok (.iaload, 1) := by decide +kernel
theorem dX10_findCauses_95 : decode cX10_findCauses 95 = .ok (.ifCond .ge 29, 3) := by decide +kernel
theorem dX10_findCauses_98 : decode cX10_findCauses 98 = .ok (.aload_n 0, 1) := by decide +kernel
theorem dX10_findCauses_99 : decode cX10_findCauses 99 = .ok (.getfield 87, 3) := by decide +kernel
theorem dX10_findCauses_102 : decode cX10_findCauses 102 = .ok (.iload_n 3, 1) := by decide +kernel
theorem dX10_findCauses_103 : decode cX10_findCauses 103 = .ok (.aload_n 0, 1) := by decide +kernel
theorem dX10_findCauses_104 : decode cX10_findCauses 104 = .ok (.getfield 87, 3) := by decide +kernel
theorem dX10_findCauses_107 : decode cX10_findCauses 107 = .ok (.bipush 8, 2) := by decide +kernel
theorem dX10_findCauses_109 : decode cX10_findCauses 109 = .ok (.iload_n 1, 1) := by decide +kernel
theorem dX10_findCauses_110 : decode cX10_findCauses 110 = .ok (.iconst 1, 1) := by decide +kernel
theorem dX10_findCauses_111 : decode cX10_findCauses 111 = .ok (.isub, 1) := by decide +kernel
theorem dX10_findCauses_112 : decode cX10_findCauses 112 = .ok (.imul, 1) := by decide +kernel
theorem dX10_findCauses_113 : decode cX10_findCauses 113 = .ok (.iload 5, 2) := by decide +kernel
theorem dX10_findCauses_115 : decode cX10_findCauses 115 = .ok (.iadd, 1) := by decide +kernel
theorem dX10_findCauses_116 : decode cX10_findCauses 116 = .ok (.iaload, 1) := by decide +kernel
theorem dX10_findCauses_117 : decode cX10_findCauses 117 = .ok (.iastore, 1) := by decide +kernel
theorem dX10_findCauses_118 : decode cX10_findCauses 118 = .ok (.iinc 5 (-1), 3) := by decide +kernel
theorem dX10_findCauses_121 : decode cX10_findCauses 121 = .ok (.goto (-37), 3) := by decide +kernel
theorem dX10_findCauses_124 : decode cX10_findCauses 124 = .ok (.iinc 2 1, 3) := by decide +kernel
theorem dX10_findCauses_127 : decode cX10_findCauses 127 = .ok (.goto (-115), 3) := by decide +kernel
theorem dX10_findCauses_130 : decode cX10_findCauses 130 = .ok (.iinc 1 1, 3) := by decide +kernel
theorem dX10_findCauses_133 : decode cX10_findCauses 133 = .ok (.goto (-131), 3) := by decide +kernel
theorem dX10_findCauses_136 : decode cX10_findCauses 136 = .ok (.return_, 1) := by decide +kernel
set_option maxRecDepth 20000 in
theorem ggX10_cause_X10_isPlace : GoodIn wsX10_cause wsX10_isPlace := goodIn_r _ [8, 9, 10, 11, 7, 12, 49, 50, 51, 52, 53, 54, 55, 56, 57, 58, 59, 60, 61, 62, 63, 64, 65, 66, 67, 68, 69, 70, 71, 72, 73, 74, 75, 76, 77, 78, 79, 80, 81, 82, 83, 84, 85] (by decide +kernel) (by decide +kernel)
set_option maxRecDepth 20000 in
theorem gX10_cause_X10_isPlace : GoodIn wsX10_cause (wsV RX10 136 RX10 yX10_isPlace wsX10_isPlace) := goodIn_app (goodIn_of _ (by decide +kernel)) ggX10_cause_X10_isPlace
set_option maxRecDepth 20000 in
theorem ggX10_cause_X10_isReel : GoodIn wsX10_cause wsX10_isReel := goodIn_r _ [16, 17, 10, 11, 7, 12, 49, 50, 51, 52, 53, 54, 55, 56, 57, 58, 59, 60, 61, 62, 63, 64, 65, 66, 67, 68, 69, 70, 71, 72, 73, 74, 75, 76, 77, 78, 79, 80, 81, 82, 83, 84, 85] (by decide +kernel) (by decide +kernel)
set_option maxRecDepth 20000 in
theorem gX10_cause_X10_isReel : GoodIn wsX10_cause (wsV RX10 121 RX10 yX10_isReel wsX10_isReel) := goodIn_app (goodIn_of _ (by decide +kernel)) ggX10_cause_X10_isReel
set_option maxRecDepth 20000 in
theorem ggX10_cause_X10_goOn : GoodIn wsX10_cause wsX10_goOn := goodIn_r _ [21, 9, 17, 22, 23, 24, 25, 26, 27, 28, 7, 29, 30, 31, 32, 33, 34, 35, 36, 37, 38, 39, 40, 41, 42, 43, 44, 49, 50, 51, 52, 53, 54, 55, 56, 57, 58, 59, 60, 61, 62, 63, 64, 65, 66, 67, 68, 69, 70, 71, 72, 73, 74, 75, 76, 77, 78, 79, 80, 81, 82, 83, 84, 85] (by decide +kernel) (by decide +kernel)
set_option maxRecDepth 20000 in
theorem gX10_cause_X10_goOn : GoodIn wsX10_cause (wsV RX10 163 RX10 yX10_goOn wsX10_goOn) := goodIn_app (goodIn_of _ (by decide +kernel)) ggX10_cause_X10_goOn
set_option maxRecDepth 20000 in
theorem ggX10_cause_X10_findCauses : GoodIn wsX10_cause wsX10_findCauses := goodIn_r _ [48, 9, 17, 2, 25, 24, 49, 50, 51, 52, 53, 54, 55, 56, 57, 58, 59, 60, 61, 62, 63, 64, 65, 66, 67, 68, 69, 70, 71, 72, 73, 74, 75, 76, 77, 78, 79, 80, 81, 82, 83, 84, 85] (by decide +kernel) (by decide +kernel)
set_option maxRecDepth 20000 in
theorem gX10_cause_X10_findCauses : GoodIn wsX10_cause (wsV RX10 166 RX10 yX10_findCauses wsX10_findCauses) := goodIn_app (goodIn_of _ (by decide +kernel)) ggX10_cause_X10_findCauses
theorem dX10_cause_0 : decode cX10_cause 0 = .ok (.aload_n 0, 1) := by decide +kernel
theorem dX10_cause_1 : decode cX10_cause 1 = .ok (.iload_n 1, 1) := by decide +kernel
theorem dX10_cause_2 : decode cX10_cause 2 = .ok (.invokevirtual 136, 3) := by decide +kernel
theorem dX10_cause_5 : decode cX10_cause 5 = .ok (.ifCond .eq 11, 3) := by decide +kernel
theorem dX10_cause_8 : decode cX10_cause 8 = .ok (.aload_n 0, 1) := by decide +kernel
theorem dX10_cause_9 : decode cX10_cause 9 = .ok (.iload_n 2, 1) := by decide +kernel
theorem dX10_cause_10 : decode cX10_cause 10 = .ok (.invokevirtual 121, 3) := by decide +kernel
theorem dX10_cause_13 : decode cX10_cause 13 = .ok (.ifCond .ne 6, 3) := by decide +kernel
theorem dX10_cause_16 : decode cX10_cause 16 = .ok (.ldc 109, 2) := by decide +kernel
theorem dX10_cause_18 : decode cX10_cause 18 = .ok (.ireturn, 1) := by decide +kernel
theorem dX10_cause_19 : decode cX10_cause 19 = .ok (.aload_n 0, 1) := by decide +kernel
theorem dX10_cause_20 : decode cX10_cause 20 = .ok (.invokevirtual 163, 3) := by decide +kernel
theorem dX10_cause_23 : decode cX10_cause 23 = .ok (.aload_n 0, 1) := by decide +kernel
theorem dX10_cause_24 : decode cX10_cause 24 = .ok (.invokevirtual 166, 3) := by decide +kernel
theorem dX10_cause_27 : decode cX10_cause 27 = .ok (.aload_n 0, 1) := by decide +kernel
theorem dX10_cause_28 : decode cX10_cause 28 = .ok (.getfield 87, 3) := by decide +kernel
theorem dX10_cause_31 : decode cX10_cause 31 = .ok (.bipush 8, 2) := by decide +kernel
theorem dX10_cause_33 : decode cX10_cause 33 = .ok (.iload_n 1, 1) := by decide +kernel
theorem dX10_cause_34 : decode cX10_cause 34 = .ok (.imul, 1) := by decide +kernel
theorem dX10_cause_35 : decode cX10_cause 35 = .ok (.iload_n 2, 1) := by decide +kernel
theorem dX10_cause_36 : decode cX10_cause 36 = .ok (.iadd, 1) := by decide +kernel
theorem dX10_cause_37 : decode cX10_cause 37 = .ok (.iaload, 1) := by decide +kernel
theorem dX10_cause_38 : decode cX10_cause 38 = .ok (.istore_n 3, 1) := by decide +kernel
theorem dX10_cause_39 : decode cX10_cause 39 = .ok (.iload_n 3, 1) := by decide +kernel
theorem dX10_cause_40 : decode cX10_cause 40 = .ok (.ifCond .ge 8, 3) := by decide +kernel
theorem dX10_cause_43 : decode cX10_cause 43 = .ok (.ldc 169, 2) := by decide +kernel
theorem dX10_cause_45 : decode cX10_cause 45 = .ok (.goto 4, 3) := by decide +kernel
theorem dX10_cause_48 : decode cX10_cause 48 = .ok (.iload_n 3, 1) := by decide +kernel
theorem dX10_cause_49 : decode cX10_cause 49 = .ok (.ireturn, 1) := by decide +kernel
set_option maxRecDepth 20000 in
theorem ggX10_where_X10_isReel : GoodIn wsX10_where wsX10_isReel := goodIn_r _ [12, 6, 13, 14, 11, 15, 40, 41, 42, 43, 44, 45, 46, 47, 48, 49, 50, 51, 52, 53, 54, 55, 56, 57, 58, 59, 60, 61, 62, 63, 64, 65, 66, 67, 68, 69, 70, 71, 72, 73, 74, 75, 76] (by decide +kernel) (by decide +kernel)
set_option maxRecDepth 20000 in
theorem gX10_where_X10_isReel : GoodIn wsX10_where (wsV RX10 121 RX10 yX10_isReel wsX10_isReel) := goodIn_app (goodIn_of _ (by decide +kernel)) ggX10_where_X10_isReel
set_option maxRecDepth 20000 in
theorem ggX10_where_X10_isIn : GoodIn wsX10_where wsX10_isIn := goodIn_r _ [15] (by decide +kernel) (by decide +kernel)
set_option maxRecDepth 20000 in
theorem gX10_where_X10_isIn : GoodIn wsX10_where (va_wsS RX10 102 yX10_isIn wsX10_isIn) := goodIn_app (goodIn_of _ (by decide +kernel)) ggX10_where_X10_isIn
set_option maxRecDepth 20000 in
theorem ggX10_where_X10_goOn : GoodIn wsX10_where wsX10_goOn := goodIn_r _ [19, 2, 6, 5, 4, 20, 21, 22, 23, 24, 11, 25, 26, 27, 28, 29, 30, 31, 32, 33, 34, 35, 36, 37, 38, 39, 7, 40, 41, 42, 43, 44, 45, 46, 47, 48, 49, 50, 51, 52, 53, 54, 55, 56, 57, 58, 59, 60, 61, 62, 63, 64, 65, 66, 67, 68, 69, 70, 71, 72, 73, 74, 75, 76] (by decide +kernel) (by decide +kernel)
set_option maxRecDepth 20000 in
theorem gX10_where_X10_goOn : GoodIn wsX10_where (wsV RX10 163 RX10 yX10_goOn wsX10_goOn) := goodIn_app (goodIn_of _ (by decide +kernel)) ggX10_where_X10_goOn
set_option maxRecDepth 20000 in
theorem ggX10_where_X10_minutes : GoodIn wsX10_where wsX10_minutes := goodIn_r _ [33, 34, 40, 41, 42, 43, 44, 45, 46, 47, 48, 49, 50, 51, 52, 53, 54, 55, 56, 57, 58, 59, 60, 61, 62, 63, 64, 65, 66, 67, 68, 69, 70, 71, 72, 73, 74, 75, 76] (by decide +kernel) (by decide +kernel)
set_option maxRecDepth 20000 in
theorem gX10_where_X10_minutes : GoodIn wsX10_where (wsV RX10 124 RX10 yX10_minutes wsX10_minutes) := goodIn_app (goodIn_of _ (by decide +kernel)) ggX10_where_X10_minutes
theorem dX10_where_0 : decode cX10_where 0 = .ok (.aload_n 0, 1) := by decide +kernel
theorem dX10_where_1 : decode cX10_where 1 = .ok (.iload_n 1, 1) := by decide +kernel
theorem dX10_where_2 : decode cX10_where 2 = .ok (.invokevirtual 121, 3) := by decide +kernel
theorem dX10_where_5 : decode cX10_where 5 = .ok (.ifCond .eq 14, 3) := by decide +kernel
theorem dX10_where_8 : decode cX10_where 8 = .ok (.iload_n 2, 1) := by decide +kernel
theorem dX10_where_9 : decode cX10_where 9 = .ok (.iconst 0, 1) := by decide +kernel
theorem dX10_where_10 : decode cX10_where 10 = .ok (.sipush 9999, 3) := by decide +kernel
theorem dX10_where_13 : decode cX10_where 13 = .ok (.invokestatic 102, 3) := by decide +kernel
theorem dX10_where_16 : decode cX10_where 16 = .ok (.ifCond .ne 6, 3) := by decide +kernel
theorem dX10_where_19 : decode cX10_where 19 = .ok (.ldc 109, 2) := by decide +kernel
theorem dX10_where_21 : decode cX10_where 21 = .ok (.ireturn, 1) := by decide +kernel
theorem dX10_where_22 : decode cX10_where 22 = .ok (.aload_n 0, 1) := by decide +kernel
theorem dX10_where_23 : decode cX10_where 23 = .ok (.getfield 118, 3) := by decide +kernel
theorem dX10_where_26 : decode cX10_where 26 = .ok (.ifCond .ne 6, 3) := by decide +kernel
theorem dX10_where_29 : decode cX10_where 29 = .ok (.ldc 169, 2) := by decide +kernel
theorem dX10_where_31 : decode cX10_where 31 = .ok (.ireturn, 1) := by decide +kernel
theorem dX10_where_32 : decode cX10_where 32 = .ok (.aload_n 0, 1) := by decide +kernel
theorem dX10_where_33 : decode cX10_where 33 = .ok (.invokevirtual 163, 3) := by decide +kernel
theorem dX10_where_36 : decode cX10_where 36 = .ok (.iconst 0, 1) := by decide +kernel
theorem dX10_where_37 : decode cX10_where 37 = .ok (.istore_n 3, 1) := by decide +kernel
theorem dX10_where_38 : decode cX10_where 38 = .ok (.iload_n 3, 1) := by decide +kernel
theorem dX10_where_39 : decode cX10_where 39 = .ok (.aload_n 0, 1) := by decide +kernel
theorem dX10_where_40 : decode cX10_where 40 = .ok (.getfield 118, 3) := by decide +kernel
theorem dX10_where_43 : decode cX10_where 43 = .ok (.iconst 1, 1) := by decide +kernel
theorem dX10_where_44 : decode cX10_where 44 = .ok (.isub, 1) := by decide +kernel
theorem dX10_where_45 : decode cX10_where 45 = .ok (.if_icmp .ge 59, 3) := by decide +kernel
theorem dX10_where_48 : decode cX10_where 48 = .ok (.iload_n 2, 1) := by decide +kernel
theorem dX10_where_49 : decode cX10_where 49 = .ok (.aload_n 0, 1) := by decide +kernel
theorem dX10_where_50 : decode cX10_where 50 = .ok (.getfield 81, 3) := by decide +kernel
theorem dX10_where_53 : decode cX10_where 53 = .ok (.bipush 8, 2) := by decide +kernel
theorem dX10_where_55 : decode cX10_where 55 = .ok (.iload_n 3, 1) := by decide +kernel
theorem dX10_where_56 : decode cX10_where 56 = .ok (.imul, 1) := by decide +kernel
theorem dX10_where_57 : decode cX10_where 57 = .ok (.iload_n 1, 1) := by decide +kernel
theorem dX10_where_58 : decode cX10_where 58 = .ok (.iadd, 1) := by decide +kernel
theorem dX10_where_59 : decode cX10_where 59 = .ok (.iaload, 1) := by decide +kernel
theorem dX10_where_60 : decode cX10_where 60 = .ok (.aload_n 0, 1) := by decide +kernel
theorem dX10_where_61 : decode cX10_where 61 = .ok (.iload_n 1, 1) := by decide +kernel
theorem dX10_where_62 : decode cX10_where 62 = .ok (.invokevirtual 124, 3) := by decide +kernel
theorem dX10_where_65 : decode cX10_where 65 = .ok (.iadd, 1) := by decide +kernel
theorem dX10_where_66 : decode cX10_where 66 = .ok (.if_icmp .lt 38, 3) := by decide +kernel
theorem dX10_where_69 : decode cX10_where 69 = .ok (.iload_n 2, 1) := by decide +kernel
theorem dX10_where_70 : decode cX10_where 70 = .ok (.aload_n 0, 1) := by decide +kernel
theorem dX10_where_71 : decode cX10_where 71 = .ok (.getfield 78, 3) := by decide +kernel
theorem dX10_where_74 : decode cX10_where 74 = .ok (.bipush 8, 2) := by decide +kernel
theorem dX10_where_76 : decode cX10_where 76 = .ok (.iload_n 3, 1) := by decide +kernel
theorem dX10_where_77 : decode cX10_where 77 = .ok (.iconst 1, 1) := by decide +kernel
theorem dX10_where_78 : decode cX10_where 78 = .ok (.iadd, 1) := by decide +kernel
theorem dX10_where_79 : decode cX10_where 79 = .ok (.imul, 1) := by decide +kernel
theorem dX10_where_80 : decode cX10_where 80 = .ok (.iload_n 1, 1) := by decide +kernel
theorem dX10_where_81 : decode cX10_where 81 = .ok (.iadd, 1) := by decide +kernel
theorem dX10_where_82 : decode cX10_where 82 = .ok (.iaload, 1) := by decide +kernel
theorem dX10_where_83 : decode cX10_where 83 = .ok (.if_icmp .ge 15, 3) := by decide +kernel
theorem dX10_where_86 : decode cX10_where 86 = .ok (.bipush 100, 2) := by decide +kernel
theorem dX10_where_88 : decode cX10_where 88 = .ok (.iload_n 3, 1) := by decide +kernel
theorem dX10_where_89 : decode cX10_where 89 = .ok (.aload_n 0, 1) := by decide +kernel
theorem dX10_where_90 : decode cX10_where 90 = .ok (.getfield 106, 3) := by decide +kernel
theorem dX10_where_93 : decode cX10_where 93 = .ok (.imul, 1) := by decide +kernel
theorem dX10_where_94 : decode cX10_where 94 = .ok (.iadd, 1) := by decide +kernel
theorem dX10_where_95 : decode cX10_where 95 = .ok (.iload_n 1, 1) := by decide +kernel
theorem dX10_where_96 : decode cX10_where 96 = .ok (.iadd, 1) := by decide +kernel
theorem dX10_where_97 : decode cX10_where 97 = .ok (.ireturn, 1) := by decide +kernel
theorem dX10_where_98 : decode cX10_where 98 = .ok (.iinc 3 1, 3) := by decide +kernel
theorem dX10_where_101 : decode cX10_where 101 = .ok (.goto (-63), 3) := by decide +kernel
theorem dX10_where_104 : decode cX10_where 104 = .ok (.aload_n 0, 1) := by decide +kernel
theorem dX10_where_105 : decode cX10_where 105 = .ok (.getfield 34, 3) := by decide +kernel
theorem dX10_where_108 : decode cX10_where 108 = .ok (.iload_n 3, 1) := by decide +kernel
theorem dX10_where_109 : decode cX10_where 109 = .ok (.iaload, 1) := by decide +kernel
theorem dX10_where_110 : decode cX10_where 110 = .ok (.ireturn, 1) := by decide +kernel
theorem dX10_film_0 : decode cX10_film 0 = .ok (.aload_n 0, 1) := by decide +kernel
theorem dX10_film_1 : decode cX10_film 1 = .ok (.getfield 170, 3) := by decide +kernel
theorem dX10_film_4 : decode cX10_film 4 = .ok (.iconst 5, 1) := by decide +kernel
theorem dX10_film_5 : decode cX10_film 5 = .ok (.if_icmp .ne 6, 3) := by decide +kernel
theorem dX10_film_8 : decode cX10_film 8 = .ok (.ldc 110, 2) := by decide +kernel
theorem dX10_film_10 : decode cX10_film 10 = .ok (.ireturn, 1) := by decide +kernel
theorem dX10_film_11 : decode cX10_film 11 = .ok (.aload_n 0, 1) := by decide +kernel
theorem dX10_film_12 : decode cX10_film 12 = .ok (.dup, 1) := by decide +kernel
theorem dX10_film_13 : decode cX10_film 13 = .ok (.getfield 170, 3) := by decide +kernel
theorem dX10_film_16 : decode cX10_film 16 = .ok (.iconst 1, 1) := by decide +kernel
theorem dX10_film_17 : decode cX10_film 17 = .ok (.iadd, 1) := by decide +kernel
theorem dX10_film_18 : decode cX10_film 18 = .ok (.putfield 170, 3) := by decide +kernel
theorem dX10_film_21 : decode cX10_film 21 = .ok (.aload_n 0, 1) := by decide +kernel
theorem dX10_film_22 : decode cX10_film 22 = .ok (.getfield 170, 3) := by decide +kernel
theorem dX10_film_25 : decode cX10_film 25 = .ok (.iconst 1, 1) := by decide +kernel
theorem dX10_film_26 : decode cX10_film 26 = .ok (.isub, 1) := by decide +kernel
theorem dX10_film_27 : decode cX10_film 27 = .ok (.ireturn, 1) := by decide +kernel
set_option maxRecDepth 20000 in
theorem ggX10_isFilm_X10_isIn : GoodIn wsX10_isFilm wsX10_isIn := goodIn_r _ [5] (by decide +kernel) (by decide +kernel)
set_option maxRecDepth 20000 in
theorem gX10_isFilm_X10_isIn : GoodIn wsX10_isFilm (va_wsS RX10 102 yX10_isIn wsX10_isIn) := goodIn_app (goodIn_of _ (by decide +kernel)) ggX10_isFilm_X10_isIn
theorem dX10_isFilm_0 : decode cX10_isFilm 0 = .ok (.iload_n 1, 1) := by decide +kernel
theorem dX10_isFilm_1 : decode cX10_isFilm 1 = .ok (.iconst 0, 1) := by decide +kernel
theorem dX10_isFilm_2 : decode cX10_isFilm 2 = .ok (.aload_n 0, 1) := by decide +kernel
theorem dX10_isFilm_3 : decode cX10_isFilm 3 = .ok (.getfield 170, 3) := by decide +kernel
theorem dX10_isFilm_6 : decode cX10_isFilm 6 = .ok (.iconst 1, 1) := by decide +kernel
theorem dX10_isFilm_7 : decode cX10_isFilm 7 = .ok (.isub, 1) := by decide +kernel
theorem dX10_isFilm_8 : decode cX10_isFilm 8 = .ok (.invokestatic 102, 3) := by decide +kernel
theorem dX10_isFilm_11 : decode cX10_isFilm 11 = .ok (.ireturn, 1) := by decide +kernel
set_option maxRecDepth 20000 in
theorem ggX10_worth_X10_isFilm : GoodIn wsX10_worth wsX10_isFilm := goodIn_r _ [7, 8, 9, 10, 6, 11, 17, 18, 19, 20, 21, 22, 23, 24, 25, 26, 27, 28, 29, 30, 31, 32, 33, 34, 35, 36, 37, 38, 39, 40, 41, 42, 43, 44, 45, 46, 47, 48, 49, 50, 51, 52, 53] (by decide +kernel) (by decide +kernel)
set_option maxRecDepth 20000 in
theorem gX10_worth_X10_isFilm : GoodIn wsX10_worth (wsV RX10 173 RX10 yX10_isFilm wsX10_isFilm) := goodIn_app (goodIn_of _ (by decide +kernel)) ggX10_worth_X10_isFilm
set_option maxRecDepth 20000 in
theorem ggX10_worth_X10_isHouse : GoodIn wsX10_worth wsX10_isHouse := goodIn_r _ [15, 16, 9, 10, 6, 11, 17, 18, 19, 20, 21, 22, 23, 24, 25, 26, 27, 28, 29, 30, 31, 32, 33, 34, 35, 36, 37, 38, 39, 40, 41, 42, 43, 44, 45, 46, 47, 48, 49, 50, 51, 52, 53] (by decide +kernel) (by decide +kernel)
set_option maxRecDepth 20000 in
theorem gX10_worth_X10_isHouse : GoodIn wsX10_worth (wsV RX10 111 RX10 yX10_isHouse wsX10_isHouse) := goodIn_app (goodIn_of _ (by decide +kernel)) ggX10_worth_X10_isHouse
set_option maxRecDepth 20000 in
theorem ggX10_worth_X10_isIn : GoodIn wsX10_worth wsX10_isIn := goodIn_r _ [11] (by decide +kernel) (by decide +kernel)
set_option maxRecDepth 20000 in
theorem gX10_worth_X10_isIn : GoodIn wsX10_worth (va_wsS RX10 102 yX10_isIn wsX10_isIn) := goodIn_app (goodIn_of _ (by decide +kernel)) ggX10_worth_X10_isIn
theorem dX10_worth_0 : decode cX10_worth 0 = .ok (.aload_n 0, 1) := by decide +kernel
theorem dX10_worth_1 : decode cX10_worth 1 = .ok (.iload_n 1, 1) := by decide +kernel
theorem dX10_worth_2 : decode cX10_worth 2 = .ok (.invokevirtual 173, 3) := by decide +kernel
theorem dX10_worth_5 : decode cX10_worth 5 = .ok (.ifCond .eq 22, 3) := by decide +kernel
theorem dX10_worth_8 : decode cX10_worth 8 = .ok (.aload_n 0, 1) := by decide +kernel
theorem dX10_worth_9 : decode cX10_worth 9 = .ok (.iload_n 2, 1) := by decide +kernel
theorem dX10_worth_10 : decode cX10_worth 10 = .ok (.invokevirtual 111, 3) := by decide +kernel
theorem dX10_worth_13 : decode cX10_worth 13 = .ok (.ifCond .eq 14, 3) := by decide +kernel
theorem dX10_worth_16 : decode cX10_worth 16 = .ok (.iload_n 3, 1) := by decide +kernel
theorem dX10_worth_17 : decode cX10_worth 17 = .ok (.iconst 0, 1) := by decide +kernel
theorem dX10_worth_18 : decode cX10_worth 18 = .ok (.sipush 999, 3) := by decide +kernel
theorem dX10_worth_21 : decode cX10_worth 21 = .ok (.invokestatic 102, 3) := by decide +kernel
theorem dX10_worth_24 : decode cX10_worth 24 = .ok (.ifCond .ne 6, 3) := by decide +kernel
theorem dX10_worth_27 : decode cX10_worth 27 = .ok (.ldc 109, 2) := by decide +kernel
theorem dX10_worth_29 : decode cX10_worth 29 = .ok (.ireturn, 1) := by decide +kernel
theorem dX10_worth_30 : decode cX10_worth 30 = .ok (.aload_n 0, 1) := by decide +kernel
theorem dX10_worth_31 : decode cX10_worth 31 = .ok (.getfield 40, 3) := by decide +kernel
theorem dX10_worth_34 : decode cX10_worth 34 = .ok (.bipush 6, 2) := by decide +kernel
theorem dX10_worth_36 : decode cX10_worth 36 = .ok (.iload_n 1, 1) := by decide +kernel
theorem dX10_worth_37 : decode cX10_worth 37 = .ok (.imul, 1) := by decide +kernel
theorem dX10_worth_38 : decode cX10_worth 38 = .ok (.iload_n 2, 1) := by decide +kernel
theorem dX10_worth_39 : decode cX10_worth 39 = .ok (.iadd, 1) := by decide +kernel
theorem dX10_worth_40 : decode cX10_worth 40 = .ok (.iaload, 1) := by decide +kernel
theorem dX10_worth_41 : decode cX10_worth 41 = .ok (.istore 4, 2) := by decide +kernel
theorem dX10_worth_43 : decode cX10_worth 43 = .ok (.aload_n 0, 1) := by decide +kernel
theorem dX10_worth_44 : decode cX10_worth 44 = .ok (.getfield 40, 3) := by decide +kernel
theorem dX10_worth_47 : decode cX10_worth 47 = .ok (.bipush 6, 2) := by decide +kernel
theorem dX10_worth_49 : decode cX10_worth 49 = .ok (.iload_n 1, 1) := by decide +kernel
theorem dX10_worth_50 : decode cX10_worth 50 = .ok (.imul, 1) := by decide +kernel
theorem dX10_worth_51 : decode cX10_worth 51 = .ok (.iload_n 2, 1) := by decide +kernel
theorem dX10_worth_52 : decode cX10_worth 52 = .ok (.iadd, 1) := by decide +kernel
theorem dX10_worth_53 : decode cX10_worth 53 = .ok (.iload_n 3, 1) := by decide +kernel
theorem dX10_worth_54 : decode cX10_worth 54 = .ok (.iastore, 1) := by decide +kernel
theorem dX10_worth_55 : decode cX10_worth 55 = .ok (.iload 4, 2) := by decide +kernel
theorem dX10_worth_57 : decode cX10_worth 57 = .ok (.ireturn, 1) := by decide +kernel
set_option maxRecDepth 20000 in
theorem ggX10_bar_X10_isHouse : GoodIn wsX10_bar wsX10_isHouse := goodIn_r _ [7, 8, 9, 10, 6, 11, 12, 13, 14, 15, 16, 17, 18, 19, 20, 21, 22, 23, 24, 25, 26, 27, 28, 29, 30, 31, 32, 33, 34, 35, 36, 37, 38, 39, 40, 41, 42, 43, 44, 45, 46, 47, 48] (by decide +kernel) (by decide +kernel)
set_option maxRecDepth 20000 in
theorem gX10_bar_X10_isHouse : GoodIn wsX10_bar (wsV RX10 111 RX10 yX10_isHouse wsX10_isHouse) := goodIn_app (goodIn_of _ (by decide +kernel)) ggX10_bar_X10_isHouse
set_option maxRecDepth 20000 in
theorem ggX10_bar_X10_isIn : GoodIn wsX10_bar wsX10_isIn := goodIn_r _ [11] (by decide +kernel) (by decide +kernel)
set_option maxRecDepth 20000 in
theorem gX10_bar_X10_isIn : GoodIn wsX10_bar (va_wsS RX10 102 yX10_isIn wsX10_isIn) := goodIn_app (goodIn_of _ (by decide +kernel)) ggX10_bar_X10_isIn
theorem dX10_bar_0 : decode cX10_bar 0 = .ok (.aload_n 0, 1) := by decide +kernel
theorem dX10_bar_1 : decode cX10_bar 1 = .ok (.iload_n 1, 1) := by decide +kernel
theorem dX10_bar_2 : decode cX10_bar 2 = .ok (.invokevirtual 111, 3) := by decide +kernel
theorem dX10_bar_5 : decode cX10_bar 5 = .ok (.ifCond .eq 25, 3) := by decide +kernel
theorem dX10_bar_8 : decode cX10_bar 8 = .ok (.aload_n 0, 1) := by decide +kernel
theorem dX10_bar_9 : decode cX10_bar 9 = .ok (.iload_n 2, 1) := by decide +kernel
theorem dX10_bar_10 : decode cX10_bar 10 = .ok (.invokevirtual 111, 3) := by decide +kernel
theorem dX10_bar_13 : decode cX10_bar 13 = .ok (.ifCond .eq 17, 3) := by decide +kernel
theorem dX10_bar_16 : decode cX10_bar 16 = .ok (.iload_n 1, 1) := by decide +kernel
theorem dX10_bar_17 : decode cX10_bar 17 = .ok (.iload_n 2, 1) := by decide +kernel
theorem dX10_bar_18 : decode cX10_bar 18 = .ok (.if_icmp .eq 12, 3) := by decide +kernel
theorem dX10_bar_21 : decode cX10_bar 21 = .ok (.iload_n 3, 1) := by decide +kernel
theorem dX10_bar_22 : decode cX10_bar 22 = .ok (.iconst 0, 1) := by decide +kernel
theorem dX10_bar_23 : decode cX10_bar 23 = .ok (.iconst 3, 1) := by decide +kernel
theorem dX10_bar_24 : decode cX10_bar 24 = .ok (.invokestatic 102, 3) := by decide +kernel
theorem dX10_bar_27 : decode cX10_bar 27 = .ok (.ifCond .ne 6, 3) := by decide +kernel
theorem dX10_bar_30 : decode cX10_bar 30 = .ok (.ldc 109, 2) := by decide +kernel
theorem dX10_bar_32 : decode cX10_bar 32 = .ok (.ireturn, 1) := by decide +kernel
theorem dX10_bar_33 : decode cX10_bar 33 = .ok (.aload_n 0, 1) := by decide +kernel
theorem dX10_bar_34 : decode cX10_bar 34 = .ok (.getfield 25, 3) := by decide +kernel
theorem dX10_bar_37 : decode cX10_bar 37 = .ok (.bipush 6, 2) := by decide +kernel
theorem dX10_bar_39 : decode cX10_bar 39 = .ok (.iload_n 1, 1) := by decide +kernel
theorem dX10_bar_40 : decode cX10_bar 40 = .ok (.imul, 1) := by decide +kernel
theorem dX10_bar_41 : decode cX10_bar 41 = .ok (.iload_n 2, 1) := by decide +kernel
theorem dX10_bar_42 : decode cX10_bar 42 = .ok (.iadd, 1) := by decide +kernel
theorem dX10_bar_43 : decode cX10_bar 43 = .ok (.iaload, 1) := by decide +kernel
theorem dX10_bar_44 : decode cX10_bar 44 = .ok (.istore 4, 2) := by decide +kernel
theorem dX10_bar_46 : decode cX10_bar 46 = .ok (.aload_n 0, 1) := by decide +kernel
theorem dX10_bar_47 : decode cX10_bar 47 = .ok (.getfield 25, 3) := by decide +kernel
theorem dX10_bar_50 : decode cX10_bar 50 = .ok (.bipush 6, 2) := by decide +kernel
theorem dX10_bar_52 : decode cX10_bar 52 = .ok (.iload_n 1, 1) := by decide +kernel
theorem dX10_bar_53 : decode cX10_bar 53 = .ok (.imul, 1) := by decide +kernel
theorem dX10_bar_54 : decode cX10_bar 54 = .ok (.iload_n 2, 1) := by decide +kernel
theorem dX10_bar_55 : decode cX10_bar 55 = .ok (.iadd, 1) := by decide +kernel
theorem dX10_bar_56 : decode cX10_bar 56 = .ok (.iload_n 3, 1) := by decide +kernel
theorem dX10_bar_57 : decode cX10_bar 57 = .ok (.iastore, 1) := by decide +kernel
theorem dX10_bar_58 : decode cX10_bar 58 = .ok (.aload_n 0, 1) := by decide +kernel
theorem dX10_bar_59 : decode cX10_bar 59 = .ok (.getfield 25, 3) := by decide +kernel
theorem dX10_bar_62 : decode cX10_bar 62 = .ok (.bipush 6, 2) := by decide +kernel
theorem dX10_bar_64 : decode cX10_bar 64 = .ok (.iload_n 2, 1) := by decide +kernel
theorem dX10_bar_65 : decode cX10_bar 65 = .ok (.imul, 1) := by decide +kernel
theorem dX10_bar_66 : decode cX10_bar 66 = .ok (.iload_n 1, 1) := by decide +kernel
theorem dX10_bar_67 : decode cX10_bar 67 = .ok (.iadd, 1) := by decide +kernel
theorem dX10_bar_68 : decode cX10_bar 68 = .ok (.iload_n 3, 1) := by decide +kernel
theorem dX10_bar_69 : decode cX10_bar 69 = .ok (.iastore, 1) := by decide +kernel
theorem dX10_bar_70 : decode cX10_bar 70 = .ok (.iload 4, 2) := by decide +kernel
theorem dX10_bar_72 : decode cX10_bar 72 = .ok (.ireturn, 1) := by decide +kernel
set_option maxRecDepth 20000 in
theorem ggX10_isWeek_X10_isIn : GoodIn wsX10_isWeek wsX10_isIn := goodIn_r _ [4] (by decide +kernel) (by decide +kernel)
set_option maxRecDepth 20000 in
theorem gX10_isWeek_X10_isIn : GoodIn wsX10_isWeek (va_wsS RX10 102 yX10_isIn wsX10_isIn) := goodIn_app (goodIn_of _ (by decide +kernel)) ggX10_isWeek_X10_isIn
theorem dX10_isWeek_0 : decode cX10_isWeek 0 = .ok (.iload_n 0, 1) := by decide +kernel
theorem dX10_isWeek_1 : decode cX10_isWeek 1 = .ok (.iconst 0, 1) := by decide +kernel
theorem dX10_isWeek_2 : decode cX10_isWeek 2 = .ok (.iconst 3, 1) := by decide +kernel
theorem dX10_isWeek_3 : decode cX10_isWeek 3 = .ok (.invokestatic 102, 3) := by decide +kernel
theorem dX10_isWeek_6 : decode cX10_isWeek 6 = .ok (.ireturn, 1) := by decide +kernel
set_option maxRecDepth 20000 in
theorem ggX10_pin_X10_isFilm : GoodIn wsX10_pin wsX10_isFilm := goodIn_r _ [8, 9, 10, 11, 7, 12, 21, 22, 23, 24, 25, 26, 27, 28, 29, 30, 31, 32, 33, 34, 35, 36, 37, 38, 39, 40, 41, 42, 43, 44, 45, 46, 47, 48, 49, 50, 51, 52, 53, 54, 55, 56, 57] (by decide +kernel) (by decide +kernel)
set_option maxRecDepth 20000 in
theorem gX10_pin_X10_isFilm : GoodIn wsX10_pin (wsV RX10 173 RX10 yX10_isFilm wsX10_isFilm) := goodIn_app (goodIn_of _ (by decide +kernel)) ggX10_pin_X10_isFilm
set_option maxRecDepth 20000 in
theorem ggX10_pin_X10_isHouse : GoodIn wsX10_pin wsX10_isHouse := goodIn_r _ [16, 17, 10, 11, 7, 12, 21, 22, 23, 24, 25, 26, 27, 28, 29, 30, 31, 32, 33, 34, 35, 36, 37, 38, 39, 40, 41, 42, 43, 44, 45, 46, 47, 48, 49, 50, 51, 52, 53, 54, 55, 56, 57] (by decide +kernel) (by decide +kernel)
set_option maxRecDepth 20000 in
theorem gX10_pin_X10_isHouse : GoodIn wsX10_pin (wsV RX10 111 RX10 yX10_isHouse wsX10_isHouse) := goodIn_app (goodIn_of _ (by decide +kernel)) ggX10_pin_X10_isHouse
set_option maxRecDepth 20000 in
theorem ggX10_pin_X10_isWeek : GoodIn wsX10_pin wsX10_isWeek := goodIn_r _ [20, 10, 11, 7, 12] (by decide +kernel) (by decide +kernel)
set_option maxRecDepth 20000 in
theorem gX10_pin_X10_isWeek : GoodIn wsX10_pin (va_wsS RX10 176 yX10_isWeek wsX10_isWeek) := goodIn_app (goodIn_of _ (by decide +kernel)) ggX10_pin_X10_isWeek
theorem dX10_pin_0 : decode cX10_pin 0 = .ok (.iload_n 1, 1) := by decide +kernel
theorem dX10_pin_1 : decode cX10_pin 1 = .ok (.ldc 169, 2) := by decide +kernel
theorem dX10_pin_3 : decode cX10_pin 3 = .ok (.if_icmp .eq 11, 3) := by decide +kernel
theorem dX10_pin_6 : decode cX10_pin 6 = .ok (.aload_n 0, 1) := by decide +kernel
theorem dX10_pin_7 : decode cX10_pin 7 = .ok (.iload_n 1, 1) := by decide +kernel
theorem dX10_pin_8 : decode cX10_pin 8 = .ok (.invokevirtual 173, 3) := by decide +kernel
theorem dX10_pin_11 : decode cX10_pin 11 = .ok (.ifCond .eq 18, 3) := by decide +kernel
theorem dX10_pin_14 : decode cX10_pin 14 = .ok (.aload_n 0, 1) := by decide +kernel
theorem dX10_pin_15 : decode cX10_pin 15 = .ok (.iload_n 2, 1) := by decide +kernel
theorem dX10_pin_16 : decode cX10_pin 16 = .ok (.invokevirtual 111, 3) := by decide +kernel
theorem dX10_pin_19 : decode cX10_pin 19 = .ok (.ifCond .eq 10, 3) := by decide +kernel
theorem dX10_pin_22 : decode cX10_pin 22 = .ok (.iload_n 3, 1) := by decide +kernel
theorem dX10_pin_23 : decode cX10_pin 23 = .ok (.invokestatic 176, 3) := by decide +kernel
theorem dX10_pin_26 : decode cX10_pin 26 = .ok (.ifCond .ne 6, 3) := by decide +kernel
theorem dX10_pin_29 : decode cX10_pin 29 = .ok (.ldc 109, 2) := by decide +kernel
theorem dX10_pin_31 : decode cX10_pin 31 = .ok (.ireturn, 1) := by decide +kernel
theorem dX10_pin_32 : decode cX10_pin 32 = .ok (.aload_n 0, 1) := by decide +kernel
theorem dX10_pin_33 : decode cX10_pin 33 = .ok (.getfield 43, 3) := by decide +kernel
theorem dX10_pin_36 : decode cX10_pin 36 = .ok (.bipush 6, 2) := by decide +kernel
theorem dX10_pin_38 : decode cX10_pin 38 = .ok (.iload_n 3, 1) := by decide +kernel
theorem dX10_pin_39 : decode cX10_pin 39 = .ok (.imul, 1) := by decide +kernel
theorem dX10_pin_40 : decode cX10_pin 40 = .ok (.iload_n 2, 1) := by decide +kernel
theorem dX10_pin_41 : decode cX10_pin 41 = .ok (.iadd, 1) := by decide +kernel
theorem dX10_pin_42 : decode cX10_pin 42 = .ok (.iaload, 1) := by decide +kernel
theorem dX10_pin_43 : decode cX10_pin 43 = .ok (.istore 4, 2) := by decide +kernel
theorem dX10_pin_45 : decode cX10_pin 45 = .ok (.aload_n 0, 1) := by decide +kernel
theorem dX10_pin_46 : decode cX10_pin 46 = .ok (.getfield 43, 3) := by decide +kernel
theorem dX10_pin_49 : decode cX10_pin 49 = .ok (.bipush 6, 2) := by decide +kernel
theorem dX10_pin_51 : decode cX10_pin 51 = .ok (.iload_n 3, 1) := by decide +kernel
theorem dX10_pin_52 : decode cX10_pin 52 = .ok (.imul, 1) := by decide +kernel
theorem dX10_pin_53 : decode cX10_pin 53 = .ok (.iload_n 2, 1) := by decide +kernel
theorem dX10_pin_54 : decode cX10_pin 54 = .ok (.iadd, 1) := by decide +kernel
theorem dX10_pin_55 : decode cX10_pin 55 = .ok (.iload_n 1, 1) := by decide +kernel
theorem dX10_pin_56 : decode cX10_pin 56 = .ok (.ldc 169, 2) := by decide +kernel
theorem dX10_pin_58 : decode cX10_pin 58 = .ok (.if_icmp .ne 7, 3) := by decide +kernel
theorem dX10_pin_61 : decode cX10_pin 61 = .ok (.iconst (-1), 1) := by decide +kernel
theorem dX10_pin_62 : decode cX10_pin 62 = .ok (.goto 4, 3) := by decide +kernel
theorem dX10_pin_65 : decode cX10_pin 65 = .ok (.iload_n 1, 1) := by decide +kernel
theorem dX10_pin_66 : decode cX10_pin 66 = .ok (.iastore, 1) := by decide +kernel
theorem dX10_pin_67 : decode cX10_pin 67 = .ok (.iload 4, 2) := by decide +kernel
theorem dX10_pin_69 : decode cX10_pin 69 = .ok (.ifCond .ge 8, 3) := by decide +kernel
theorem dX10_pin_72 : decode cX10_pin 72 = .ok (.ldc 169, 2) := by decide +kernel
theorem dX10_pin_74 : decode cX10_pin 74 = .ok (.goto 5, 3) := by decide +kernel
theorem dX10_pin_77 : decode cX10_pin 77 = .ok (.iload 4, 2) := by decide +kernel
theorem dX10_pin_79 : decode cX10_pin 79 = .ok (.ireturn, 1) := by decide +kernel
theorem dX10_mayBe_0 : decode cX10_mayBe 0 = .ok (.iconst 0, 1) := by decide +kernel
theorem dX10_mayBe_1 : decode cX10_mayBe 1 = .ok (.istore 4, 2) := by decide +kernel
theorem dX10_mayBe_3 : decode cX10_mayBe 3 = .ok (.iconst 0, 1) := by decide +kernel
theorem dX10_mayBe_4 : decode cX10_mayBe 4 = .ok (.istore 5, 2) := by decide +kernel
theorem dX10_mayBe_6 : decode cX10_mayBe 6 = .ok (.iload 5, 2) := by decide +kernel
theorem dX10_mayBe_8 : decode cX10_mayBe 8 = .ok (.iload_n 3, 1) := by decide +kernel
theorem dX10_mayBe_9 : decode cX10_mayBe 9 = .ok (.if_icmp .ge 35, 3) := by decide +kernel
theorem dX10_mayBe_12 : decode cX10_mayBe 12 = .ok (.iload 4, 2) := by decide +kernel
theorem dX10_mayBe_14 : decode cX10_mayBe 14 = .ok (.aload_n 0, 1) := by decide +kernel
theorem dX10_mayBe_15 : decode cX10_mayBe 15 = .ok (.getfield 90, 3) := by decide +kernel
theorem dX10_mayBe_18 : decode cX10_mayBe 18 = .ok (.bipush 6, 2) := by decide +kernel
theorem dX10_mayBe_20 : decode cX10_mayBe 20 = .ok (.iload 5, 2) := by decide +kernel
theorem dX10_mayBe_22 : decode cX10_mayBe 22 = .ok (.imul, 1) := by decide +kernel
theorem dX10_mayBe_23 : decode cX10_mayBe 23 = .ok (.iload_n 2, 1) := by decide +kernel
theorem dX10_mayBe_24 : decode cX10_mayBe 24 = .ok (.iadd, 1) := by decide +kernel
theorem dX10_mayBe_25 : decode cX10_mayBe 25 = .ok (.iaload, 1) := by decide +kernel
theorem dX10_mayBe_26 : decode cX10_mayBe 26 = .ok (.iload_n 1, 1) := by decide +kernel
theorem dX10_mayBe_27 : decode cX10_mayBe 27 = .ok (.if_icmp .ne 7, 3) := by decide +kernel
theorem dX10_mayBe_30 : decode cX10_mayBe 30 = .ok (.iconst 1, 1) := by decide +kernel
theorem dX10_mayBe_31 : decode cX10_mayBe 31 = .ok (.goto 4, 3) := by decide +kernel
theorem dX10_mayBe_34 : decode cX10_mayBe 34 = .ok (.iconst 0, 1) := by decide +kernel
theorem dX10_mayBe_35 : decode cX10_mayBe 35 = .ok (.iadd, 1) := by decide +kernel
theorem dX10_mayBe_36 : decode cX10_mayBe 36 = .ok (.istore 4, 2) := by decide +kernel
theorem dX10_mayBe_38 : decode cX10_mayBe 38 = .ok (.iinc 5 1, 3) := by decide +kernel
theorem dX10_mayBe_41 : decode cX10_mayBe 41 = .ok (.goto (-35), 3) := by decide +kernel
theorem dX10_mayBe_44 : decode cX10_mayBe 44 = .ok (.iload 4, 2) := by decide +kernel
theorem dX10_mayBe_46 : decode cX10_mayBe 46 = .ok (.iconst 1, 1) := by decide +kernel
theorem dX10_mayBe_47 : decode cX10_mayBe 47 = .ok (.if_icmp .gt 26, 3) := by decide +kernel
theorem dX10_mayBe_50 : decode cX10_mayBe 50 = .ok (.iload 4, 2) := by decide +kernel
theorem dX10_mayBe_52 : decode cX10_mayBe 52 = .ok (.iconst 1, 1) := by decide +kernel
theorem dX10_mayBe_53 : decode cX10_mayBe 53 = .ok (.if_icmp .ne 22, 3) := by decide +kernel
theorem dX10_mayBe_56 : decode cX10_mayBe 56 = .ok (.aload_n 0, 1) := by decide +kernel
theorem dX10_mayBe_57 : decode cX10_mayBe 57 = .ok (.getfield 90, 3) := by decide +kernel
theorem dX10_mayBe_60 : decode cX10_mayBe 60 = .ok (.bipush 6, 2) := by decide +kernel
theorem dX10_mayBe_62 : decode cX10_mayBe 62 = .ok (.iload_n 3, 1) := by decide +kernel
theorem dX10_mayBe_63 : decode cX10_mayBe 63 = .ok (.iconst 1, 1) := by decide +kernel
theorem dX10_mayBe_64 : decode cX10_mayBe 64 = .ok (.isub, 1) := by decide +kernel
theorem dX10_mayBe_65 : decode cX10_mayBe 65 = .ok (.imul, 1) := by decide +kernel
theorem dX10_mayBe_66 : decode cX10_mayBe 66 = .ok (.iload_n 2, 1) := by decide +kernel
theorem dX10_mayBe_67 : decode cX10_mayBe 67 = .ok (.iadd, 1) := by decide +kernel
theorem dX10_mayBe_68 : decode cX10_mayBe 68 = .ok (.iaload, 1) := by decide +kernel
theorem dX10_mayBe_69 : decode cX10_mayBe 69 = .ok (.iload_n 1, 1) := by decide +kernel
theorem dX10_mayBe_70 : decode cX10_mayBe 70 = .ok (.if_icmp .eq 5, 3) := by decide +kernel
theorem dX10_mayBe_73 : decode cX10_mayBe 73 = .ok (.iconst 0, 1) := by decide +kernel
theorem dX10_mayBe_74 : decode cX10_mayBe 74 = .ok (.ireturn, 1) := by decide +kernel
theorem dX10_mayBe_75 : decode cX10_mayBe 75 = .ok (.iconst 0, 1) := by decide +kernel
theorem dX10_mayBe_76 : decode cX10_mayBe 76 = .ok (.istore 5, 2) := by decide +kernel
theorem dX10_mayBe_78 : decode cX10_mayBe 78 = .ok (.iload 5, 2) := by decide +kernel
theorem dX10_mayBe_80 : decode cX10_mayBe 80 = .ok (.iload_n 3, 1) := by decide +kernel
theorem dX10_mayBe_81 : decode cX10_mayBe 81 = .ok (.if_icmp .gt 95, 3) := by decide +kernel
theorem dX10_mayBe_84 : decode cX10_mayBe 84 = .ok (.iconst 0, 1) := by decide +kernel
theorem dX10_mayBe_85 : decode cX10_mayBe 85 = .ok (.istore 6, 2) := by decide +kernel
theorem dX10_mayBe_87 : decode cX10_mayBe 87 = .ok (.iload 6, 2) := by decide +kernel
theorem dX10_mayBe_89 : decode cX10_mayBe 89 = .ok (.aload_n 0, 1) := by decide +kernel
theorem dX10_mayBe_90 : decode cX10_mayBe 90 = .ok (.getfield 99, 3) := by decide +kernel
theorem dX10_mayBe_93 : decode cX10_mayBe 93 = .ok (.if_icmp .ge 77, 3) := by decide +kernel
theorem dX10_mayBe_96 : decode cX10_mayBe 96 = .ok (.iload 5, 2) := by decide +kernel
theorem dX10_mayBe_98 : decode cX10_mayBe 98 = .ok (.iload_n 3, 1) := by decide +kernel
theorem dX10_mayBe_99 : decode cX10_mayBe 99 = .ok (.if_icmp .lt 9, 3) := by decide +kernel
theorem dX10_mayBe_102 : decode cX10_mayBe 102 = .ok (.iload 6, 2) := by decide +kernel
theorem dX10_mayBe_104 : decode cX10_mayBe 104 = .ok (.iload_n 2, 1) := by decide +kernel
theorem dX10_mayBe_105 : decode cX10_mayBe 105 = .ok (.if_icmp .ge 7, 3) := by decide +kernel
theorem dX10_mayBe_108 : decode cX10_mayBe 108 = .ok (.iconst 1, 1) := by decide +kernel
theorem dX10_mayBe_109 : decode cX10_mayBe 109 = .ok (.goto 4, 3) := by decide +kernel
theorem dX10_mayBe_112 : decode cX10_mayBe 112 = .ok (.iconst 0, 1) := by decide +kernel
theorem dX10_mayBe_113 : decode cX10_mayBe 113 = .ok (.istore 7, 2) := by decide +kernel
theorem dX10_mayBe_115 : decode cX10_mayBe 115 = .ok (.iload 6, 2) := by decide +kernel
theorem dX10_mayBe_117 : decode cX10_mayBe 117 = .ok (.iload_n 2, 1) := by decide +kernel
theorem dX10_mayBe_118 : decode cX10_mayBe 118 = .ok (.if_icmp .eq 46, 3) := by decide +kernel
theorem dX10_mayBe_121 : decode cX10_mayBe 121 = .ok (.iload 7, 2) := by decide +kernel
theorem dX10_mayBe_123 : decode cX10_mayBe 123 = .ok (.ifCond .eq 41, 3) := by decide +kernel
theorem dX10_mayBe_126 : decode cX10_mayBe 126 = .ok (.aload_n 0, 1) := by decide +kernel
theorem dX10_mayBe_127 : decode cX10_mayBe 127 = .ok (.getfield 90, 3) := by decide +kernel
theorem dX10_mayBe_130 : decode cX10_mayBe 130 = .ok (.bipush 6, 2) := by decide +kernel
theorem dX10_mayBe_132 : decode cX10_mayBe 132 = .ok (.iload 5, 2) := by decide +kernel
theorem dX10_mayBe_134 : decode cX10_mayBe 134 = .ok (.imul, 1) := by decide +kernel
theorem dX10_mayBe_135 : decode cX10_mayBe 135 = .ok (.iload 6, 2) := by decide +kernel
theorem dX10_mayBe_137 : decode cX10_mayBe 137 = .ok (.iadd, 1) := by decide +kernel
theorem dX10_mayBe_138 : decode cX10_mayBe 138 = .ok (.iaload, 1) := by decide +kernel
theorem dX10_mayBe_139 : decode cX10_mayBe 139 = .ok (.iload_n 1, 1) := by decide +kernel
theorem dX10_mayBe_140 : decode cX10_mayBe 140 = .ok (.if_icmp .ne 24, 3) := by decide +kernel
theorem dX10_mayBe_143 : decode cX10_mayBe 143 = .ok (.iload_n 3, 1) := by decide +kernel
theorem dX10_mayBe_144 : decode cX10_mayBe 144 = .ok (.iload 5, 2) := by decide +kernel
theorem dX10_mayBe_146 : decode cX10_mayBe 146 = .ok (.isub, 1) := by decide +kernel
theorem dX10_mayBe_147 : decode cX10_mayBe 147 = .ok (.aload_n 0, 1) := by decide +kernel
theorem dX10_mayBe_148 : decode cX10_mayBe 148 = .ok (.getfield 25, 3) := by decide +kernel
theorem dX10_mayBe_151 : decode cX10_mayBe 151 = .ok (.bipush 6, 2) := by decide +kernel
theorem dX10_mayBe_153 : decode cX10_mayBe 153 = .ok (.iload_n 2, 1) := by decide +kernel
theorem dX10_mayBe_154 : decode cX10_mayBe 154 = .ok (.imul, 1) := by decide +kernel
theorem dX10_mayBe_155 : decode cX10_mayBe 155 = .ok (.iload 6, 2) := by decide +kernel
theorem dX10_mayBe_157 : decode cX10_mayBe 157 = .ok (.iadd, 1) := by decide +kernel
theorem dX10_mayBe_158 : decode cX10_mayBe 158 = .ok (.iaload, 1) := by decide +kernel
theorem dX10_mayBe_159 : decode cX10_mayBe 159 = .ok (.if_icmp .ge 5, 3) := by decide +kernel
theorem dX10_mayBe_162 : decode cX10_mayBe 162 = .ok (.iconst 0, 1) := by decide +kernel
theorem dX10_mayBe_163 : decode cX10_mayBe 163 = .ok (.ireturn, 1) := by decide +kernel
theorem dX10_mayBe_164 : decode cX10_mayBe 164 = .ok (.iinc 6 1, 3) := by decide +kernel
theorem dX10_mayBe_167 : decode cX10_mayBe 167 = .ok (.goto (-80), 3) := by decide +kernel
theorem dX10_mayBe_170 : decode cX10_mayBe 170 = .ok (.iinc 5 1, 3) := by decide +kernel
theorem dX10_mayBe_173 : decode cX10_mayBe 173 = .ok (.goto (-95), 3) := by decide +kernel
theorem dX10_mayBe_176 : decode cX10_mayBe 176 = .ok (.iconst 1, 1) := by decide +kernel
theorem dX10_mayBe_177 : decode cX10_mayBe 177 = .ok (.ireturn, 1) := by decide +kernel
theorem dX10_worthOf_0 : decode cX10_worthOf 0 = .ok (.aload_n 0, 1) := by decide +kernel
theorem dX10_worthOf_1 : decode cX10_worthOf 1 = .ok (.getfield 40, 3) := by decide +kernel
theorem dX10_worthOf_4 : decode cX10_worthOf 4 = .ok (.bipush 6, 2) := by decide +kernel
theorem dX10_worthOf_6 : decode cX10_worthOf 6 = .ok (.iload_n 1, 1) := by decide +kernel
theorem dX10_worthOf_7 : decode cX10_worthOf 7 = .ok (.imul, 1) := by decide +kernel
theorem dX10_worthOf_8 : decode cX10_worthOf 8 = .ok (.iload_n 2, 1) := by decide +kernel
theorem dX10_worthOf_9 : decode cX10_worthOf 9 = .ok (.iadd, 1) := by decide +kernel
theorem dX10_worthOf_10 : decode cX10_worthOf 10 = .ok (.iaload, 1) := by decide +kernel
theorem dX10_worthOf_11 : decode cX10_worthOf 11 = .ok (.istore 4, 2) := by decide +kernel
theorem dX10_worthOf_13 : decode cX10_worthOf 13 = .ok (.iload_n 3, 1) := by decide +kernel
theorem dX10_worthOf_14 : decode cX10_worthOf 14 = .ok (.ifCond .le 27, 3) := by decide +kernel
theorem dX10_worthOf_17 : decode cX10_worthOf 17 = .ok (.aload_n 0, 1) := by decide +kernel
theorem dX10_worthOf_18 : decode cX10_worthOf 18 = .ok (.getfield 90, 3) := by decide +kernel
theorem dX10_worthOf_21 : decode cX10_worthOf 21 = .ok (.bipush 6, 2) := by decide +kernel
theorem dX10_worthOf_23 : decode cX10_worthOf 23 = .ok (.iload_n 3, 1) := by decide +kernel
theorem dX10_worthOf_24 : decode cX10_worthOf 24 = .ok (.iconst 1, 1) := by decide +kernel
theorem dX10_worthOf_25 : decode cX10_worthOf 25 = .ok (.isub, 1) := by decide +kernel
theorem dX10_worthOf_26 : decode cX10_worthOf 26 = .ok (.imul, 1) := by decide +kernel
theorem dX10_worthOf_27 : decode cX10_worthOf 27 = .ok (.iload_n 2, 1) := by decide +kernel
theorem dX10_worthOf_28 : decode cX10_worthOf 28 = .ok (.iadd, 1) := by decide +kernel
theorem dX10_worthOf_29 : decode cX10_worthOf 29 = .ok (.iaload, 1) := by decide +kernel
theorem dX10_worthOf_30 : decode cX10_worthOf 30 = .ok (.iload_n 1, 1) := by decide +kernel
theorem dX10_worthOf_31 : decode cX10_worthOf 31 = .ok (.if_icmp .ne 10, 3) := by decide +kernel
theorem dX10_worthOf_34 : decode cX10_worthOf 34 = .ok (.iload 4, 2) := by decide +kernel
theorem dX10_worthOf_36 : decode cX10_worthOf 36 = .ok (.iconst 2, 1) := by decide +kernel
theorem dX10_worthOf_37 : decode cX10_worthOf 37 = .ok (.idiv, 1) := by decide +kernel
theorem dX10_worthOf_38 : decode cX10_worthOf 38 = .ok (.goto 5, 3) := by decide +kernel
theorem dX10_worthOf_41 : decode cX10_worthOf 41 = .ok (.iload 4, 2) := by decide +kernel
theorem dX10_worthOf_43 : decode cX10_worthOf 43 = .ok (.ireturn, 1) := by decide +kernel
set_option maxRecDepth 20000 in
theorem ggX10_tryFrom_X10_tryFrom : GoodIn wsX10_tryFrom wsX10_tryFrom := goodIn_r _ [0, 1, 2, 3, 4, 5, 6, 7, 8, 9, 10, 11, 12, 13, 14, 15, 16, 17, 18, 19, 20, 21, 22, 23, 24, 25, 26, 27, 28, 29, 30, 31, 32, 33, 34, 35, 36, 37, 38, 39, 40, 41, 42, 43, 44, 45, 46, 47, 48, 49, 50, 51, 52, 53, 54, 55, 56, 57, 58, 59, 60] (by decide +kernel) (by decide +kernel)
set_option maxRecDepth 20000 in
theorem gX10_tryFrom_X10_tryFrom : GoodIn wsX10_tryFrom (wsV RX10 182 RX10 yX10_tryFrom wsX10_tryFrom) := goodIn_app (goodIn_of _ (by decide +kernel)) ggX10_tryFrom_X10_tryFrom
set_option maxRecDepth 20000 in
theorem ggX10_tryFrom_X10_mayBe : GoodIn wsX10_tryFrom wsX10_mayBe := goodIn_r _ [17, 5, 1, 18, 24, 25, 26, 27, 28, 29, 30, 31, 32, 33, 34, 35, 36, 37, 38, 39, 40, 41, 42, 43, 44, 45, 46, 47, 48, 49, 50, 51, 52, 53, 54, 55, 56, 57, 58, 59, 60] (by decide +kernel) (by decide +kernel)
set_option maxRecDepth 20000 in
theorem gX10_tryFrom_X10_mayBe : GoodIn wsX10_tryFrom (wsV RX10 193 RX10 yX10_mayBe wsX10_mayBe) := goodIn_app (goodIn_of _ (by decide +kernel)) ggX10_tryFrom_X10_mayBe
set_option maxRecDepth 20000 in
theorem ggX10_tryFrom_X10_worthOf : GoodIn wsX10_tryFrom wsX10_worthOf := goodIn_r _ [22, 23, 5, 24, 25, 26, 27, 28, 29, 30, 31, 32, 33, 34, 35, 36, 37, 38, 39, 40, 41, 42, 43, 44, 45, 46, 47, 48, 49, 50, 51, 52, 53, 54, 55, 56, 57, 58, 59, 60] (by decide +kernel) (by decide +kernel)
set_option maxRecDepth 20000 in
theorem gX10_tryFrom_X10_worthOf : GoodIn wsX10_tryFrom (wsV RX10 199 RX10 yX10_worthOf wsX10_worthOf) := goodIn_app (goodIn_of _ (by decide +kernel)) ggX10_tryFrom_X10_worthOf
theorem dX10_tryFrom_0 : decode cX10_tryFrom 0 = .ok (.iload_n 2, 1) := by decide +kernel
theorem dX10_tryFrom_1 : decode cX10_tryFrom 1 = .ok (.aload_n 0, 1) := by decide +kernel
theorem dX10_tryFrom_2 : decode cX10_tryFrom 2 = .ok (.getfield 99, 3) := by decide +kernel
theorem dX10_tryFrom_5 : decode cX10_tryFrom 5 = .ok (.if_icmp .ne 67, 3) := by decide +kernel
theorem dX10_tryFrom_8 : decode cX10_tryFrom 8 = .ok (.iload_n 1, 1) := by decide +kernel
theorem dX10_tryFrom_9 : decode cX10_tryFrom 9 = .ok (.aload_n 0, 1) := by decide +kernel
theorem dX10_tryFrom_10 : decode cX10_tryFrom 10 = .ok (.getfield 179, 3) := by decide +kernel
theorem dX10_tryFrom_13 : decode cX10_tryFrom 13 = .ok (.if_icmp .ge 15, 3) := by decide +kernel
theorem dX10_tryFrom_16 : decode cX10_tryFrom 16 = .ok (.aload_n 0, 1) := by decide +kernel
theorem dX10_tryFrom_17 : decode cX10_tryFrom 17 = .ok (.iload_n 1, 1) := by decide +kernel
theorem dX10_tryFrom_18 : decode cX10_tryFrom 18 = .ok (.iconst 1, 1) := by decide +kernel
theorem dX10_tryFrom_19 : decode cX10_tryFrom 19 = .ok (.iadd, 1) := by decide +kernel
theorem dX10_tryFrom_20 : decode cX10_tryFrom 20 = .ok (.iconst 0, 1) := by decide +kernel
theorem dX10_tryFrom_21 : decode cX10_tryFrom 21 = .ok (.iload_n 3, 1) := by decide +kernel
theorem dX10_tryFrom_22 : decode cX10_tryFrom 22 = .ok (.invokevirtual 182, 3) := by decide +kernel
theorem dX10_tryFrom_25 : decode cX10_tryFrom 25 = .ok (.goto 46, 3) := by decide +kernel
theorem dX10_tryFrom_28 : decode cX10_tryFrom 28 = .ok (.iload_n 3, 1) := by decide +kernel
theorem dX10_tryFrom_29 : decode cX10_tryFrom 29 = .ok (.aload_n 0, 1) := by decide +kernel
theorem dX10_tryFrom_30 : decode cX10_tryFrom 30 = .ok (.getfield 186, 3) := by decide +kernel
theorem dX10_tryFrom_33 : decode cX10_tryFrom 33 = .ok (.if_icmp .le 38, 3) := by decide +kernel
theorem dX10_tryFrom_36 : decode cX10_tryFrom 36 = .ok (.aload_n 0, 1) := by decide +kernel
theorem dX10_tryFrom_37 : decode cX10_tryFrom 37 = .ok (.iload_n 3, 1) := by decide +kernel
theorem dX10_tryFrom_38 : decode cX10_tryFrom 38 = .ok (.putfield 186, 3) := by decide +kernel
theorem dX10_tryFrom_41 : decode cX10_tryFrom 41 = .ok (.iconst 0, 1) := by decide +kernel
theorem dX10_tryFrom_42 : decode cX10_tryFrom 42 = .ok (.istore 4, 2) := by decide +kernel
theorem dX10_tryFrom_44 : decode cX10_tryFrom 44 = .ok (.iload 4, 2) := by decide +kernel
theorem dX10_tryFrom_46 : decode cX10_tryFrom 46 = .ok (.bipush 24, 2) := by decide +kernel
theorem dX10_tryFrom_48 : decode cX10_tryFrom 48 = .ok (.if_icmp .ge 23, 3) := by decide +kernel
theorem dX10_tryFrom_51 : decode cX10_tryFrom 51 = .ok (.aload_n 0, 1) := by decide +kernel
theorem dX10_tryFrom_52 : decode cX10_tryFrom 52 = .ok (.getfield 93, 3) := by decide +kernel
theorem dX10_tryFrom_55 : decode cX10_tryFrom 55 = .ok (.iload 4, 2) := by decide +kernel
theorem dX10_tryFrom_57 : decode cX10_tryFrom 57 = .ok (.aload_n 0, 1) := by decide +kernel
theorem dX10_tryFrom_58 : decode cX10_tryFrom 58 = .ok (.getfield 90, 3) := by decide +kernel
theorem dX10_tryFrom_61 : decode cX10_tryFrom 61 = .ok (.iload 4, 2) := by decide +kernel
theorem dX10_tryFrom_63 : decode cX10_tryFrom 63 = .ok (.iaload, 1) := by decide +kernel
theorem dX10_tryFrom_64 : decode cX10_tryFrom 64 = .ok (.iastore, 1) := by decide +kernel
theorem dX10_tryFrom_65 : decode cX10_tryFrom 65 = .ok (.iinc 4 1, 3) := by decide +kernel
theorem dX10_tryFrom_68 : decode cX10_tryFrom 68 = .ok (.goto (-24), 3) := by decide +kernel
theorem dX10_tryFrom_71 : decode cX10_tryFrom 71 = .ok (.return_, 1) := by decide +kernel
theorem dX10_tryFrom_72 : decode cX10_tryFrom 72 = .ok (.bipush 6, 2) := by decide +kernel
theorem dX10_tryFrom_74 : decode cX10_tryFrom 74 = .ok (.iload_n 1, 1) := by decide +kernel
theorem dX10_tryFrom_75 : decode cX10_tryFrom 75 = .ok (.imul, 1) := by decide +kernel
theorem dX10_tryFrom_76 : decode cX10_tryFrom 76 = .ok (.iload_n 2, 1) := by decide +kernel
theorem dX10_tryFrom_77 : decode cX10_tryFrom 77 = .ok (.iadd, 1) := by decide +kernel
theorem dX10_tryFrom_78 : decode cX10_tryFrom 78 = .ok (.istore 4, 2) := by decide +kernel
theorem dX10_tryFrom_80 : decode cX10_tryFrom 80 = .ok (.iconst 0, 1) := by decide +kernel
theorem dX10_tryFrom_81 : decode cX10_tryFrom 81 = .ok (.istore 5, 2) := by decide +kernel
theorem dX10_tryFrom_83 : decode cX10_tryFrom 83 = .ok (.iload 5, 2) := by decide +kernel
theorem dX10_tryFrom_85 : decode cX10_tryFrom 85 = .ok (.aload_n 0, 1) := by decide +kernel
theorem dX10_tryFrom_86 : decode cX10_tryFrom 86 = .ok (.getfield 170, 3) := by decide +kernel
theorem dX10_tryFrom_89 : decode cX10_tryFrom 89 = .ok (.if_icmp .ge 110, 3) := by decide +kernel
theorem dX10_tryFrom_92 : decode cX10_tryFrom 92 = .ok (.aload_n 0, 1) := by decide +kernel
theorem dX10_tryFrom_93 : decode cX10_tryFrom 93 = .ok (.getfield 189, 3) := by decide +kernel
theorem dX10_tryFrom_96 : decode cX10_tryFrom 96 = .ok (.ifCond .ne 103, 3) := by decide +kernel
theorem dX10_tryFrom_99 : decode cX10_tryFrom 99 = .ok (.aload_n 0, 1) := by decide +kernel
theorem dX10_tryFrom_100 : decode cX10_tryFrom 100 = .ok (.getfield 43, 3) := by decide +kernel
theorem dX10_tryFrom_103 : decode cX10_tryFrom 103 = .ok (.iload 4, 2) := by decide +kernel
theorem dX10_tryFrom_105 : decode cX10_tryFrom 105 = .ok (.iaload, 1) := by decide +kernel
theorem dX10_tryFrom_106 : decode cX10_tryFrom 106 = .ok (.ifCond .lt 15, 3) := by decide +kernel
theorem dX10_tryFrom_109 : decode cX10_tryFrom 109 = .ok (.aload_n 0, 1) := by decide +kernel
theorem dX10_tryFrom_110 : decode cX10_tryFrom 110 = .ok (.getfield 43, 3) := by decide +kernel
theorem dX10_tryFrom_113 : decode cX10_tryFrom 113 = .ok (.iload 4, 2) := by decide +kernel
theorem dX10_tryFrom_115 : decode cX10_tryFrom 115 = .ok (.iaload, 1) := by decide +kernel
theorem dX10_tryFrom_116 : decode cX10_tryFrom 116 = .ok (.iload 5, 2) := by decide +kernel
theorem dX10_tryFrom_118 : decode cX10_tryFrom 118 = .ok (.if_icmp .ne 75, 3) := by decide +kernel
theorem dX10_tryFrom_121 : decode cX10_tryFrom 121 = .ok (.aload_n 0, 1) := by decide +kernel
theorem dX10_tryFrom_122 : decode cX10_tryFrom 122 = .ok (.iload 5, 2) := by decide +kernel
theorem dX10_tryFrom_124 : decode cX10_tryFrom 124 = .ok (.iload_n 2, 1) := by decide +kernel
theorem dX10_tryFrom_125 : decode cX10_tryFrom 125 = .ok (.iload_n 1, 1) := by decide +kernel
theorem dX10_tryFrom_126 : decode cX10_tryFrom 126 = .ok (.invokevirtual 193, 3) := by decide +kernel
theorem dX10_tryFrom_129 : decode cX10_tryFrom 129 = .ok (.ifCond .ne 6, 3) := by decide +kernel
theorem dX10_tryFrom_132 : decode cX10_tryFrom 132 = .ok (.goto 61, 3) := by decide +kernel
theorem dX10_tryFrom_135 : decode cX10_tryFrom 135 = .ok (.aload_n 0, 1) := by decide +kernel
theorem dX10_tryFrom_136 : decode cX10_tryFrom 136 = .ok (.getfield 196, 3) := by decide +kernel
theorem dX10_tryFrom_139 : decode cX10_tryFrom 139 = .ok (.ifCond .ne 9, 3) := by decide +kernel
theorem dX10_tryFrom_142 : decode cX10_tryFrom 142 = .ok (.aload_n 0, 1) := by decide +kernel
theorem dX10_tryFrom_143 : decode cX10_tryFrom 143 = .ok (.iconst 1, 1) := by decide +kernel
theorem dX10_tryFrom_144 : decode cX10_tryFrom 144 = .ok (.putfield 189, 3) := by decide +kernel
theorem dX10_tryFrom_147 : decode cX10_tryFrom 147 = .ok (.return_, 1) := by decide +kernel
theorem dX10_tryFrom_148 : decode cX10_tryFrom 148 = .ok (.aload_n 0, 1) := by decide +kernel
theorem dX10_tryFrom_149 : decode cX10_tryFrom 149 = .ok (.dup, 1) := by decide +kernel
theorem dX10_tryFrom_150 : decode cX10_tryFrom 150 = .ok (.getfield 196, 3) := by decide +kernel
theorem dX10_tryFrom_153 : decode cX10_tryFrom 153 = .ok (.iconst 1, 1) := by decide +kernel
theorem dX10_tryFrom_154 : decode cX10_tryFrom 154 = .ok (.isub, 1) := by decide +kernel
theorem dX10_tryFrom_155 : decode cX10_tryFrom 155 = .ok (.putfield 196, 3) := by decide +kernel
theorem dX10_tryFrom_158 : decode cX10_tryFrom 158 = .ok (.aload_n 0, 1) := by decide +kernel
theorem dX10_tryFrom_159 : decode cX10_tryFrom 159 = .ok (.getfield 90, 3) := by decide +kernel
theorem dX10_tryFrom_162 : decode cX10_tryFrom 162 = .ok (.iload 4, 2) := by decide +kernel
theorem dX10_tryFrom_164 : decode cX10_tryFrom 164 = .ok (.iload 5, 2) := by decide +kernel
theorem dX10_tryFrom_166 : decode cX10_tryFrom 166 = .ok (.iastore, 1) := by decide +kernel
theorem dX10_tryFrom_167 : decode cX10_tryFrom 167 = .ok (.aload_n 0, 1) := by decide +kernel
theorem dX10_tryFrom_168 : decode cX10_tryFrom 168 = .ok (.iload_n 1, 1) := by decide +kernel
theorem dX10_tryFrom_169 : decode cX10_tryFrom 169 = .ok (.iload_n 2, 1) := by decide +kernel
theorem dX10_tryFrom_170 : decode cX10_tryFrom 170 = .ok (.iconst 1, 1) := by decide +kernel
theorem dX10_tryFrom_171 : decode cX10_tryFrom 171 = .ok (.iadd, 1) := by decide +kernel
theorem dX10_tryFrom_172 : decode cX10_tryFrom 172 = .ok (.iload_n 3, 1) := by decide +kernel
theorem dX10_tryFrom_173 : decode cX10_tryFrom 173 = .ok (.aload_n 0, 1) := by decide +kernel
theorem dX10_tryFrom_174 : decode cX10_tryFrom 174 = .ok (.iload 5, 2) := by decide +kernel
theorem dX10_tryFrom_176 : decode cX10_tryFrom 176 = .ok (.iload_n 2, 1) := by decide +kernel
theorem dX10_tryFrom_177 : decode cX10_tryFrom 177 = .ok (.iload_n 1, 1) := by decide +kernel
theorem dX10_tryFrom_178 : decode cX10_tryFrom 178 = .ok (.invokevirtual 199, 3) := by decide +kernel
theorem dX10_tryFrom_181 : decode cX10_tryFrom 181 = .ok (.iadd, 1) := by decide +kernel
theorem dX10_tryFrom_182 : decode cX10_tryFrom 182 = .ok (.invokevirtual 182, 3) := by decide +kernel
theorem dX10_tryFrom_185 : decode cX10_tryFrom 185 = .ok (.aload_n 0, 1) := by decide +kernel
theorem dX10_tryFrom_186 : decode cX10_tryFrom 186 = .ok (.getfield 90, 3) := by decide +kernel
theorem dX10_tryFrom_189 : decode cX10_tryFrom 189 = .ok (.iload 4, 2) := by decide +kernel
theorem dX10_tryFrom_191 : decode cX10_tryFrom 191 = .ok (.iconst (-1), 1) := by decide +kernel
theorem dX10_tryFrom_192 : decode cX10_tryFrom 192 = .ok (.iastore, 1) := by decide +kernel
theorem dX10_tryFrom_193 : decode cX10_tryFrom 193 = .ok (.iinc 5 1, 3) := by decide +kernel
theorem dX10_tryFrom_196 : decode cX10_tryFrom 196 = .ok (.goto (-113), 3) := by decide +kernel
theorem dX10_tryFrom_199 : decode cX10_tryFrom 199 = .ok (.aload_n 0, 1) := by decide +kernel
theorem dX10_tryFrom_200 : decode cX10_tryFrom 200 = .ok (.getfield 43, 3) := by decide +kernel
theorem dX10_tryFrom_203 : decode cX10_tryFrom 203 = .ok (.iload 4, 2) := by decide +kernel
theorem dX10_tryFrom_205 : decode cX10_tryFrom 205 = .ok (.iaload, 1) := by decide +kernel
theorem dX10_tryFrom_206 : decode cX10_tryFrom 206 = .ok (.ifCond .ge 27, 3) := by decide +kernel
theorem dX10_tryFrom_209 : decode cX10_tryFrom 209 = .ok (.aload_n 0, 1) := by decide +kernel
theorem dX10_tryFrom_210 : decode cX10_tryFrom 210 = .ok (.getfield 189, 3) := by decide +kernel
theorem dX10_tryFrom_213 : decode cX10_tryFrom 213 = .ok (.ifCond .ne 20, 3) := by decide +kernel
theorem dX10_tryFrom_216 : decode cX10_tryFrom 216 = .ok (.aload_n 0, 1) := by decide +kernel
theorem dX10_tryFrom_217 : decode cX10_tryFrom 217 = .ok (.getfield 90, 3) := by decide +kernel
theorem dX10_tryFrom_220 : decode cX10_tryFrom 220 = .ok (.iload 4, 2) := by decide +kernel
theorem dX10_tryFrom_222 : decode cX10_tryFrom 222 = .ok (.iconst (-1), 1) := by decide +kernel
theorem dX10_tryFrom_223 : decode cX10_tryFrom 223 = .ok (.iastore, 1) := by decide +kernel
theorem dX10_tryFrom_224 : decode cX10_tryFrom 224 = .ok (.aload_n 0, 1) := by decide +kernel
theorem dX10_tryFrom_225 : decode cX10_tryFrom 225 = .ok (.iload_n 1, 1) := by decide +kernel
theorem dX10_tryFrom_226 : decode cX10_tryFrom 226 = .ok (.iload_n 2, 1) := by decide +kernel
theorem dX10_tryFrom_227 : decode cX10_tryFrom 227 = .ok (.iconst 1, 1) := by decide +kernel
theorem dX10_tryFrom_228 : decode cX10_tryFrom 228 = .ok (.iadd, 1) := by decide +kernel
theorem dX10_tryFrom_229 : decode cX10_tryFrom 229 = .ok (.iload_n 3, 1) := by decide +kernel
theorem dX10_tryFrom_230 : decode cX10_tryFrom 230 = .ok (.invokevirtual 182, 3) := by decide +kernel
