theorem inJ6 : ∀ w ∈ wsJ60, w ∈ lw_tbl := by decide +kernel
theorem inJ9 : ∀ w ∈ wsJ90, w ∈ lw_tbl := by decide +kernel
theorem inJ0 : ∀ w ∈ wsJ00, w ∈ lw_tbl := by decide +kernel
theorem inJ10 : ∀ w ∈ wsJ100, w ∈ lw_tbl := by decide +kernel
theorem dX0_init_0 : decode cX0_init 0 = .ok (.aload_n 0, 1) := by decide +kernel
theorem dX0_init_1 : decode cX0_init 1 = .ok (.invokespecial 3, 3) := by decide +kernel
theorem dX0_init_4 : decode cX0_init 4 = .ok (.return_, 1) := by decide +kernel
theorem dX0_shut_0 : decode cX0_shut 0 = .ok (.aload_n 0, 1) := by decide +kernel
theorem dX0_shut_1 : decode cX0_shut 1 = .ok (.iconst 0, 1) := by decide +kernel
theorem dX0_shut_2 : decode cX0_shut 2 = .ok (.putfield 9, 3) := by decide +kernel
theorem dX0_shut_5 : decode cX0_shut 5 = .ok (.aload_n 0, 1) := by decide +kernel
theorem dX0_shut_6 : decode cX0_shut 6 = .ok (.iconst 0, 1) := by decide +kernel
theorem dX0_shut_7 : decode cX0_shut 7 = .ok (.putfield 15, 3) := by decide +kernel
theorem dX0_shut_10 : decode cX0_shut 10 = .ok (.aload_n 0, 1) := by decide +kernel
theorem dX0_shut_11 : decode cX0_shut 11 = .ok (.iconst 0, 1) := by decide +kernel
theorem dX0_shut_12 : decode cX0_shut 12 = .ok (.putfield 18, 3) := by decide +kernel
theorem dX0_shut_15 : decode cX0_shut 15 = .ok (.return_, 1) := by decide +kernel
theorem dX0_trip_0 : decode cX0_trip 0 = .ok (.aload_n 0, 1) := by decide +kernel
theorem dX0_trip_1 : decode cX0_trip 1 = .ok (.iconst 1, 1) := by decide +kernel
theorem dX0_trip_2 : decode cX0_trip 2 = .ok (.putfield 9, 3) := by decide +kernel
theorem dX0_trip_5 : decode cX0_trip 5 = .ok (.aload_n 0, 1) := by decide +kernel
theorem dX0_trip_6 : decode cX0_trip 6 = .ok (.iload_n 1, 1) := by decide +kernel
theorem dX0_trip_7 : decode cX0_trip 7 = .ok (.putfield 21, 3) := by decide +kernel
theorem dX0_trip_10 : decode cX0_trip 10 = .ok (.return_, 1) := by decide +kernel
theorem dX0_coolDown_0 : decode cX0_coolDown 0 = .ok (.aload_n 0, 1) := by decide +kernel
theorem dX0_coolDown_1 : decode cX0_coolDown 1 = .ok (.getfield 9, 3) := by decide +kernel
theorem dX0_coolDown_4 : decode cX0_coolDown 4 = .ok (.iconst 1, 1) := by decide +kernel
theorem dX0_coolDown_5 : decode cX0_coolDown 5 = .ok (.if_icmp .ne 23, 3) := by decide +kernel
theorem dX0_coolDown_8 : decode cX0_coolDown 8 = .ok (.iload_n 1, 1) := by decide +kernel
theorem dX0_coolDown_9 : decode cX0_coolDown 9 = .ok (.aload_n 0, 1) := by decide +kernel
theorem dX0_coolDown_10 : decode cX0_coolDown 10 = .ok (.getfield 21, 3) := by decide +kernel
theorem dX0_coolDown_13 : decode cX0_coolDown 13 = .ok (.isub, 1) := by decide +kernel
theorem dX0_coolDown_14 : decode cX0_coolDown 14 = .ok (.iload_n 2, 1) := by decide +kernel
theorem dX0_coolDown_15 : decode cX0_coolDown 15 = .ok (.if_icmp .lt 13, 3) := by decide +kernel
theorem dX0_coolDown_18 : decode cX0_coolDown 18 = .ok (.aload_n 0, 1) := by decide +kernel
theorem dX0_coolDown_19 : decode cX0_coolDown 19 = .ok (.iconst 2, 1) := by decide +kernel
theorem dX0_coolDown_20 : decode cX0_coolDown 20 = .ok (.putfield 9, 3) := by decide +kernel
theorem dX0_coolDown_23 : decode cX0_coolDown 23 = .ok (.aload_n 0, 1) := by decide +kernel
theorem dX0_coolDown_24 : decode cX0_coolDown 24 = .ok (.iconst (-1), 1) := by decide +kernel
theorem dX0_coolDown_25 : decode cX0_coolDown 25 = .ok (.putfield 24, 3) := by decide +kernel
theorem dX0_coolDown_28 : decode cX0_coolDown 28 = .ok (.return_, 1) := by decide +kernel
theorem dX0_letsThrough_0 : decode cX0_letsThrough 0 = .ok (.aload_n 0, 1) := by decide +kernel
theorem dX0_letsThrough_1 : decode cX0_letsThrough 1 = .ok (.getfield 9, 3) := by decide +kernel
theorem dX0_letsThrough_4 : decode cX0_letsThrough 4 = .ok (.ifCond .eq 19, 3) := by decide +kernel
theorem dX0_letsThrough_7 : decode cX0_letsThrough 7 = .ok (.aload_n 0, 1) := by decide +kernel
theorem dX0_letsThrough_8 : decode cX0_letsThrough 8 = .ok (.getfield 9, 3) := by decide +kernel
theorem dX0_letsThrough_11 : decode cX0_letsThrough 11 = .ok (.iconst 2, 1) := by decide +kernel
theorem dX0_letsThrough_12 : decode cX0_letsThrough 12 = .ok (.if_icmp .ne 15, 3) := by decide +kernel
theorem dX0_letsThrough_15 : decode cX0_letsThrough 15 = .ok (.aload_n 0, 1) := by decide +kernel
theorem dX0_letsThrough_16 : decode cX0_letsThrough 16 = .ok (.getfield 24, 3) := by decide +kernel
theorem dX0_letsThrough_19 : decode cX0_letsThrough 19 = .ok (.iconst (-1), 1) := by decide +kernel
theorem dX0_letsThrough_20 : decode cX0_letsThrough 20 = .ok (.if_icmp .ne 7, 3) := by decide +kernel
theorem dX0_letsThrough_23 : decode cX0_letsThrough 23 = .ok (.iconst 1, 1) := by decide +kernel
theorem dX0_letsThrough_24 : decode cX0_letsThrough 24 = .ok (.goto 4, 3) := by decide +kernel
theorem dX0_letsThrough_27 : decode cX0_letsThrough 27 = .ok (.iconst 0, 1) := by decide +kernel
theorem dX0_letsThrough_28 : decode cX0_letsThrough 28 = .ok (.ireturn, 1) := by decide +kernel
theorem dX0_noteBegin_0 : decode cX0_noteBegin 0 = .ok (.aload_n 0, 1) := by decide +kernel
theorem dX0_noteBegin_1 : decode cX0_noteBegin 1 = .ok (.getfield 9, 3) := by decide +kernel
theorem dX0_noteBegin_4 : decode cX0_noteBegin 4 = .ok (.iconst 2, 1) := by decide +kernel
theorem dX0_noteBegin_5 : decode cX0_noteBegin 5 = .ok (.if_icmp .ne 8, 3) := by decide +kernel
theorem dX0_noteBegin_8 : decode cX0_noteBegin 8 = .ok (.aload_n 0, 1) := by decide +kernel
theorem dX0_noteBegin_9 : decode cX0_noteBegin 9 = .ok (.iload_n 1, 1) := by decide +kernel
theorem dX0_noteBegin_10 : decode cX0_noteBegin 10 = .ok (.putfield 24, 3) := by decide +kernel
theorem dX0_noteBegin_13 : decode cX0_noteBegin 13 = .ok (.return_, 1) := by decide +kernel
set_option maxRecDepth 20000 in
theorem ggX0_noteEnd_X0_addResult : GoodIn wsX0_noteEnd wsX0_addResult := goodIn_r _ [7, 8, 9, 10, 11, 12, 13, 14, 15, 16, 17, 18, 19, 6, 20, 1, 21, 30, 31, 32, 33, 34] (by decide +kernel) (by decide +kernel)
set_option maxRecDepth 20000 in
theorem gX0_noteEnd_X0_addResult : GoodIn wsX0_noteEnd (wsV RX0 27 RX0 yX0_addResult wsX0_addResult) := goodIn_app (goodIn_of _ (by decide +kernel)) ggX0_noteEnd_X0_addResult
set_option maxRecDepth 20000 in
theorem ggX0_noteEnd_X0_endTrial : GoodIn wsX0_noteEnd wsX0_endTrial := goodIn_r _ [25, 26, 27, 28, 6, 29, 1, 9, 8, 17, 18, 19, 20, 21, 30, 31, 32, 33, 34] (by decide +kernel) (by decide +kernel)
set_option maxRecDepth 20000 in
theorem gX0_noteEnd_X0_endTrial : GoodIn wsX0_noteEnd (wsV RX0 31 RX0 yX0_endTrial wsX0_endTrial) := goodIn_app (goodIn_of _ (by decide +kernel)) ggX0_noteEnd_X0_endTrial
theorem dX0_noteEnd_0 : decode cX0_noteEnd 0 = .ok (.aload_n 0, 1) := by decide +kernel
theorem dX0_noteEnd_1 : decode cX0_noteEnd 1 = .ok (.getfield 9, 3) := by decide +kernel
theorem dX0_noteEnd_4 : decode cX0_noteEnd 4 = .ok (.ifCond .ne 12, 3) := by decide +kernel
theorem dX0_noteEnd_7 : decode cX0_noteEnd 7 = .ok (.aload_n 0, 1) := by decide +kernel
theorem dX0_noteEnd_8 : decode cX0_noteEnd 8 = .ok (.iload_n 2, 1) := by decide +kernel
theorem dX0_noteEnd_9 : decode cX0_noteEnd 9 = .ok (.iload_n 3, 1) := by decide +kernel
theorem dX0_noteEnd_10 : decode cX0_noteEnd 10 = .ok (.invokevirtual 27, 3) := by decide +kernel
theorem dX0_noteEnd_13 : decode cX0_noteEnd 13 = .ok (.goto 25, 3) := by decide +kernel
theorem dX0_noteEnd_16 : decode cX0_noteEnd 16 = .ok (.aload_n 0, 1) := by decide +kernel
theorem dX0_noteEnd_17 : decode cX0_noteEnd 17 = .ok (.getfield 9, 3) := by decide +kernel
theorem dX0_noteEnd_20 : decode cX0_noteEnd 20 = .ok (.iconst 2, 1) := by decide +kernel
theorem dX0_noteEnd_21 : decode cX0_noteEnd 21 = .ok (.if_icmp .ne 17, 3) := by decide +kernel
theorem dX0_noteEnd_24 : decode cX0_noteEnd 24 = .ok (.aload_n 0, 1) := by decide +kernel
theorem dX0_noteEnd_25 : decode cX0_noteEnd 25 = .ok (.getfield 24, 3) := by decide +kernel
theorem dX0_noteEnd_28 : decode cX0_noteEnd 28 = .ok (.iload_n 1, 1) := by decide +kernel
theorem dX0_noteEnd_29 : decode cX0_noteEnd 29 = .ok (.if_icmp .ne 9, 3) := by decide +kernel
theorem dX0_noteEnd_32 : decode cX0_noteEnd 32 = .ok (.aload_n 0, 1) := by decide +kernel
theorem dX0_noteEnd_33 : decode cX0_noteEnd 33 = .ok (.iload_n 2, 1) := by decide +kernel
theorem dX0_noteEnd_34 : decode cX0_noteEnd 34 = .ok (.iload_n 3, 1) := by decide +kernel
theorem dX0_noteEnd_35 : decode cX0_noteEnd 35 = .ok (.invokevirtual 31, 3) := by decide +kernel
theorem dX0_noteEnd_38 : decode cX0_noteEnd 38 = .ok (.return_, 1) := by decide +kernel
set_option maxRecDepth 20000 in
theorem ggX0_addResult_J6_bitCount_0f7a4 : GoodIn wsX0_addResult wsJ6_bitCount_0f7a4 := goodIn_r _ [6, 7, 8, 9] (by decide +kernel) (by decide +kernel)
set_option maxRecDepth 20000 in
theorem gX0_addResult_J6_bitCount_0f7a4 : GoodIn wsX0_addResult (va_wsS RX0 34 yJ6_bitCount_0f7a4 wsJ6_bitCount_0f7a4) := goodIn_app (goodIn_of _ (by decide +kernel)) ggX0_addResult_J6_bitCount_0f7a4
set_option maxRecDepth 20000 in
theorem ggX0_addResult_X0_trip : GoodIn wsX0_addResult wsX0_trip := goodIn_r _ [14, 15, 16, 17, 18, 19, 20, 21] (by decide +kernel) (by decide +kernel)
set_option maxRecDepth 20000 in
theorem gX0_addResult_X0_trip : GoodIn wsX0_addResult (wsV RX0 40 RX0 yX0_trip wsX0_trip) := goodIn_app (goodIn_of _ (by decide +kernel)) ggX0_addResult_X0_trip
theorem dX0_addResult_0 : decode cX0_addResult 0 = .ok (.aload_n 0, 1) := by decide +kernel
theorem dX0_addResult_1 : decode cX0_addResult 1 = .ok (.aload_n 0, 1) := by decide +kernel
theorem dX0_addResult_2 : decode cX0_addResult 2 = .ok (.getfield 18, 3) := by decide +kernel
theorem dX0_addResult_5 : decode cX0_addResult 5 = .ok (.iconst 1, 1) := by decide +kernel
theorem dX0_addResult_6 : decode cX0_addResult 6 = .ok (.ishl, 1) := by decide +kernel
theorem dX0_addResult_7 : decode cX0_addResult 7 = .ok (.iload_n 1, 1) := by decide +kernel
theorem dX0_addResult_8 : decode cX0_addResult 8 = .ok (.ifCond .eq 7, 3) := by decide +kernel
theorem dX0_addResult_11 : decode cX0_addResult 11 = .ok (.iconst 0, 1) := by decide +kernel
theorem dX0_addResult_12 : decode cX0_addResult 12 = .ok (.goto 4, 3) := by decide +kernel
theorem dX0_addResult_15 : decode cX0_addResult 15 = .ok (.iconst 1, 1) := by decide +kernel
theorem dX0_addResult_16 : decode cX0_addResult 16 = .ok (.ior, 1) := by decide +kernel
theorem dX0_addResult_17 : decode cX0_addResult 17 = .ok (.sipush 255, 3) := by decide +kernel
theorem dX0_addResult_20 : decode cX0_addResult 20 = .ok (.iand, 1) := by decide +kernel
theorem dX0_addResult_21 : decode cX0_addResult 21 = .ok (.putfield 18, 3) := by decide +kernel
theorem dX0_addResult_24 : decode cX0_addResult 24 = .ok (.aload_n 0, 1) := by decide +kernel
theorem dX0_addResult_25 : decode cX0_addResult 25 = .ok (.getfield 15, 3) := by decide +kernel
theorem dX0_addResult_28 : decode cX0_addResult 28 = .ok (.bipush 8, 2) := by decide +kernel
theorem dX0_addResult_30 : decode cX0_addResult 30 = .ok (.if_icmp .ge 13, 3) := by decide +kernel
theorem dX0_addResult_33 : decode cX0_addResult 33 = .ok (.aload_n 0, 1) := by decide +kernel
theorem dX0_addResult_34 : decode cX0_addResult 34 = .ok (.dup, 1) := by decide +kernel
theorem dX0_addResult_35 : decode cX0_addResult 35 = .ok (.getfield 15, 3) := by decide +kernel
theorem dX0_addResult_38 : decode cX0_addResult 38 = .ok (.iconst 1, 1) := by decide +kernel
theorem dX0_addResult_39 : decode cX0_addResult 39 = .ok (.iadd, 1) := by decide +kernel
theorem dX0_addResult_40 : decode cX0_addResult 40 = .ok (.putfield 15, 3) := by decide +kernel
theorem dX0_addResult_43 : decode cX0_addResult 43 = .ok (.aload_n 0, 1) := by decide +kernel
theorem dX0_addResult_44 : decode cX0_addResult 44 = .ok (.getfield 15, 3) := by decide +kernel
theorem dX0_addResult_47 : decode cX0_addResult 47 = .ok (.iconst 4, 1) := by decide +kernel
theorem dX0_addResult_48 : decode cX0_addResult 48 = .ok (.if_icmp .lt 24, 3) := by decide +kernel
theorem dX0_addResult_51 : decode cX0_addResult 51 = .ok (.iconst 2, 1) := by decide +kernel
theorem dX0_addResult_52 : decode cX0_addResult 52 = .ok (.aload_n 0, 1) := by decide +kernel
theorem dX0_addResult_53 : decode cX0_addResult 53 = .ok (.getfield 18, 3) := by decide +kernel
theorem dX0_addResult_56 : decode cX0_addResult 56 = .ok (.invokestatic 34, 3) := by decide +kernel
theorem dX0_addResult_59 : decode cX0_addResult 59 = .ok (.imul, 1) := by decide +kernel
theorem dX0_addResult_60 : decode cX0_addResult 60 = .ok (.aload_n 0, 1) := by decide +kernel
theorem dX0_addResult_61 : decode cX0_addResult 61 = .ok (.getfield 15, 3) := by decide +kernel
theorem dX0_addResult_64 : decode cX0_addResult 64 = .ok (.if_icmp .lt 8, 3) := by decide +kernel
theorem dX0_addResult_67 : decode cX0_addResult 67 = .ok (.aload_n 0, 1) := by decide +kernel
theorem dX0_addResult_68 : decode cX0_addResult 68 = .ok (.iload_n 2, 1) := by decide +kernel
theorem dX0_addResult_69 : decode cX0_addResult 69 = .ok (.invokevirtual 40, 3) := by decide +kernel
theorem dX0_addResult_72 : decode cX0_addResult 72 = .ok (.return_, 1) := by decide +kernel
set_option maxRecDepth 20000 in
theorem ggX0_endTrial_X0_shut : GoodIn wsX0_endTrial wsX0_shut := goodIn_r _ [5, 6, 7, 8, 14, 15, 16, 17, 18] (by decide +kernel) (by decide +kernel)
set_option maxRecDepth 20000 in
theorem gX0_endTrial_X0_shut : GoodIn wsX0_endTrial (wsV RX0 44 RX0 yX0_shut wsX0_shut) := goodIn_app (goodIn_of _ (by decide +kernel)) ggX0_endTrial_X0_shut
set_option maxRecDepth 20000 in
theorem ggX0_endTrial_X0_trip : GoodIn wsX0_endTrial wsX0_trip := goodIn_r _ [12, 6, 13, 14, 15, 16, 17, 18] (by decide +kernel) (by decide +kernel)
set_option maxRecDepth 20000 in
theorem gX0_endTrial_X0_trip : GoodIn wsX0_endTrial (wsV RX0 40 RX0 yX0_trip wsX0_trip) := goodIn_app (goodIn_of _ (by decide +kernel)) ggX0_endTrial_X0_trip
theorem dX0_endTrial_0 : decode cX0_endTrial 0 = .ok (.iload_n 1, 1) := by decide +kernel
theorem dX0_endTrial_1 : decode cX0_endTrial 1 = .ok (.ifCond .eq 10, 3) := by decide +kernel
theorem dX0_endTrial_4 : decode cX0_endTrial 4 = .ok (.aload_n 0, 1) := by decide +kernel
theorem dX0_endTrial_5 : decode cX0_endTrial 5 = .ok (.invokevirtual 44, 3) := by decide +kernel
theorem dX0_endTrial_8 : decode cX0_endTrial 8 = .ok (.goto 8, 3) := by decide +kernel
theorem dX0_endTrial_11 : decode cX0_endTrial 11 = .ok (.aload_n 0, 1) := by decide +kernel
theorem dX0_endTrial_12 : decode cX0_endTrial 12 = .ok (.iload_n 2, 1) := by decide +kernel
theorem dX0_endTrial_13 : decode cX0_endTrial 13 = .ok (.invokevirtual 40, 3) := by decide +kernel
theorem dX0_endTrial_16 : decode cX0_endTrial 16 = .ok (.return_, 1) := by decide +kernel
theorem dX0_copyFrom_0 : decode cX0_copyFrom 0 = .ok (.aload_n 0, 1) := by decide +kernel
theorem dX0_copyFrom_1 : decode cX0_copyFrom 1 = .ok (.aload_n 1, 1) := by decide +kernel
theorem dX0_copyFrom_2 : decode cX0_copyFrom 2 = .ok (.getfield 9, 3) := by decide +kernel
theorem dX0_copyFrom_5 : decode cX0_copyFrom 5 = .ok (.putfield 9, 3) := by decide +kernel
theorem dX0_copyFrom_8 : decode cX0_copyFrom 8 = .ok (.aload_n 0, 1) := by decide +kernel
theorem dX0_copyFrom_9 : decode cX0_copyFrom 9 = .ok (.aload_n 1, 1) := by decide +kernel
theorem dX0_copyFrom_10 : decode cX0_copyFrom 10 = .ok (.getfield 21, 3) := by decide +kernel
theorem dX0_copyFrom_13 : decode cX0_copyFrom 13 = .ok (.putfield 21, 3) := by decide +kernel
theorem dX0_copyFrom_16 : decode cX0_copyFrom 16 = .ok (.aload_n 0, 1) := by decide +kernel
theorem dX0_copyFrom_17 : decode cX0_copyFrom 17 = .ok (.aload_n 1, 1) := by decide +kernel
theorem dX0_copyFrom_18 : decode cX0_copyFrom 18 = .ok (.getfield 24, 3) := by decide +kernel
theorem dX0_copyFrom_21 : decode cX0_copyFrom 21 = .ok (.putfield 24, 3) := by decide +kernel
theorem dX0_copyFrom_24 : decode cX0_copyFrom 24 = .ok (.aload_n 0, 1) := by decide +kernel
theorem dX0_copyFrom_25 : decode cX0_copyFrom 25 = .ok (.aload_n 1, 1) := by decide +kernel
theorem dX0_copyFrom_26 : decode cX0_copyFrom 26 = .ok (.getfield 15, 3) := by decide +kernel
theorem dX0_copyFrom_29 : decode cX0_copyFrom 29 = .ok (.putfield 15, 3) := by decide +kernel
theorem dX0_copyFrom_32 : decode cX0_copyFrom 32 = .ok (.aload_n 0, 1) := by decide +kernel
theorem dX0_copyFrom_33 : decode cX0_copyFrom 33 = .ok (.aload_n 1, 1) := by decide +kernel
theorem dX0_copyFrom_34 : decode cX0_copyFrom 34 = .ok (.getfield 18, 3) := by decide +kernel
theorem dX0_copyFrom_37 : decode cX0_copyFrom 37 = .ok (.putfield 18, 3) := by decide +kernel
theorem dX0_copyFrom_40 : decode cX0_copyFrom 40 = .ok (.return_, 1) := by decide +kernel
theorem dX1_init_0 : decode cX1_init 0 = .ok (.aload_n 0, 1) := by decide +kernel
theorem dX1_init_1 : decode cX1_init 1 = .ok (.invokespecial 3, 3) := by decide +kernel
theorem dX1_init_4 : decode cX1_init 4 = .ok (.aload_n 0, 1) := by decide +kernel
theorem dX1_init_5 : decode cX1_init 5 = .ok (.bipush 40, 2) := by decide +kernel
theorem dX1_init_7 : decode cX1_init 7 = .ok (.newarray .int, 2) := by decide +kernel
theorem dX1_init_9 : decode cX1_init 9 = .ok (.putfield 9, 3) := by decide +kernel
theorem dX1_init_12 : decode cX1_init 12 = .ok (.aload_n 0, 1) := by decide +kernel
theorem dX1_init_13 : decode cX1_init 13 = .ok (.bipush 40, 2) := by decide +kernel
theorem dX1_init_15 : decode cX1_init 15 = .ok (.newarray .int, 2) := by decide +kernel
theorem dX1_init_17 : decode cX1_init 17 = .ok (.putfield 15, 3) := by decide +kernel
theorem dX1_init_20 : decode cX1_init 20 = .ok (.aload_n 0, 1) := by decide +kernel
theorem dX1_init_21 : decode cX1_init 21 = .ok (.bipush 40, 2) := by decide +kernel
theorem dX1_init_23 : decode cX1_init 23 = .ok (.newarray .int, 2) := by decide +kernel
theorem dX1_init_25 : decode cX1_init 25 = .ok (.putfield 18, 3) := by decide +kernel
theorem dX1_init_28 : decode cX1_init 28 = .ok (.return_, 1) := by decide +kernel
theorem dX1_placeOf_0 : decode cX1_placeOf 0 = .ok (.iconst 0, 1) := by decide +kernel
theorem dX1_placeOf_1 : decode cX1_placeOf 1 = .ok (.istore_n 2, 1) := by decide +kernel
theorem dX1_placeOf_2 : decode cX1_placeOf 2 = .ok (.iload_n 2, 1) := by decide +kernel
theorem dX1_placeOf_3 : decode cX1_placeOf 3 = .ok (.aload_n 0, 1) := by decide +kernel
theorem dX1_placeOf_4 : decode cX1_placeOf 4 = .ok (.getfield 21, 3) := by decide +kernel
theorem dX1_placeOf_7 : decode cX1_placeOf 7 = .ok (.if_icmp .ge 21, 3) := by decide +kernel
theorem dX1_placeOf_10 : decode cX1_placeOf 10 = .ok (.aload_n 0, 1) := by decide +kernel
theorem dX1_placeOf_11 : decode cX1_placeOf 11 = .ok (.getfield 9, 3) := by decide +kernel
theorem dX1_placeOf_14 : decode cX1_placeOf 14 = .ok (.iload_n 2, 1) := by decide +kernel
theorem dX1_placeOf_15 : decode cX1_placeOf 15 = .ok (.iaload, 1) := by decide +kernel
theorem dX1_placeOf_16 : decode cX1_placeOf 16 = .ok (.iload_n 1, 1) := by decide +kernel
theorem dX1_placeOf_17 : decode cX1_placeOf 17 = .ok (.if_icmp .ne 5, 3) := by decide +kernel
theorem dX1_placeOf_20 : decode cX1_placeOf 20 = .ok (.iload_n 2, 1) := by decide +kernel
theorem dX1_placeOf_21 : decode cX1_placeOf 21 = .ok (.ireturn, 1) := by decide +kernel
theorem dX1_placeOf_22 : decode cX1_placeOf 22 = .ok (.iinc 2 1, 3) := by decide +kernel
theorem dX1_placeOf_25 : decode cX1_placeOf 25 = .ok (.goto (-23), 3) := by decide +kernel
theorem dX1_placeOf_28 : decode cX1_placeOf 28 = .ok (.iconst (-1), 1) := by decide +kernel
theorem dX1_placeOf_29 : decode cX1_placeOf 29 = .ok (.ireturn, 1) := by decide +kernel
set_option maxRecDepth 20000 in
theorem ggX1_remember_X1_placeOf : GoodIn wsX1_remember wsX1_placeOf := goodIn_r _ [8, 9, 1, 22, 23, 24, 25] (by decide +kernel) (by decide +kernel)
set_option maxRecDepth 20000 in
theorem gX1_remember_X1_placeOf : GoodIn wsX1_remember (wsV RX1 25 RX1 yX1_placeOf wsX1_placeOf) := goodIn_app (goodIn_of _ (by decide +kernel)) ggX1_remember_X1_placeOf
set_option maxRecDepth 20000 in
theorem ggX1_remember_X1_newPlace : GoodIn wsX1_remember wsX1_newPlace := goodIn_r _ [13, 9, 14, 15, 16, 7, 17, 18, 19, 20, 21, 3, 1, 22, 23, 24, 25] (by decide +kernel) (by decide +kernel)
set_option maxRecDepth 20000 in
theorem gX1_remember_X1_newPlace : GoodIn wsX1_remember (wsV RX1 29 RX1 yX1_newPlace wsX1_newPlace) := goodIn_app (goodIn_of _ (by decide +kernel)) ggX1_remember_X1_newPlace
theorem dX1_remember_0 : decode cX1_remember 0 = .ok (.aload_n 0, 1) := by decide +kernel
theorem dX1_remember_1 : decode cX1_remember 1 = .ok (.iload_n 1, 1) := by decide +kernel
theorem dX1_remember_2 : decode cX1_remember 2 = .ok (.invokevirtual 25, 3) := by decide +kernel
theorem dX1_remember_5 : decode cX1_remember 5 = .ok (.istore 4, 2) := by decide +kernel
theorem dX1_remember_7 : decode cX1_remember 7 = .ok (.iload 4, 2) := by decide +kernel
theorem dX1_remember_9 : decode cX1_remember 9 = .ok (.iconst (-1), 1) := by decide +kernel
theorem dX1_remember_10 : decode cX1_remember 10 = .ok (.if_icmp .ne 9, 3) := by decide +kernel
theorem dX1_remember_13 : decode cX1_remember 13 = .ok (.aload_n 0, 1) := by decide +kernel
theorem dX1_remember_14 : decode cX1_remember 14 = .ok (.invokevirtual 29, 3) := by decide +kernel
theorem dX1_remember_17 : decode cX1_remember 17 = .ok (.istore 4, 2) := by decide +kernel
theorem dX1_remember_19 : decode cX1_remember 19 = .ok (.aload_n 0, 1) := by decide +kernel
theorem dX1_remember_20 : decode cX1_remember 20 = .ok (.getfield 9, 3) := by decide +kernel
theorem dX1_remember_23 : decode cX1_remember 23 = .ok (.iload 4, 2) := by decide +kernel
theorem dX1_remember_25 : decode cX1_remember 25 = .ok (.iload_n 1, 1) := by decide +kernel
theorem dX1_remember_26 : decode cX1_remember 26 = .ok (.iastore, 1) := by decide +kernel
theorem dX1_remember_27 : decode cX1_remember 27 = .ok (.aload_n 0, 1) := by decide +kernel
theorem dX1_remember_28 : decode cX1_remember 28 = .ok (.getfield 15, 3) := by decide +kernel
theorem dX1_remember_31 : decode cX1_remember 31 = .ok (.iload 4, 2) := by decide +kernel
theorem dX1_remember_33 : decode cX1_remember 33 = .ok (.iload_n 2, 1) := by decide +kernel
theorem dX1_remember_34 : decode cX1_remember 34 = .ok (.iastore, 1) := by decide +kernel
theorem dX1_remember_35 : decode cX1_remember 35 = .ok (.aload_n 0, 1) := by decide +kernel
theorem dX1_remember_36 : decode cX1_remember 36 = .ok (.getfield 18, 3) := by decide +kernel
theorem dX1_remember_39 : decode cX1_remember 39 = .ok (.iload 4, 2) := by decide +kernel
theorem dX1_remember_41 : decode cX1_remember 41 = .ok (.iload_n 3, 1) := by decide +kernel
theorem dX1_remember_42 : decode cX1_remember 42 = .ok (.iastore, 1) := by decide +kernel
theorem dX1_remember_43 : decode cX1_remember 43 = .ok (.return_, 1) := by decide +kernel
set_option maxRecDepth 20000 in
theorem ggX1_newPlace_X1_oldestPlace : GoodIn wsX1_newPlace wsX1_oldestPlace := goodIn_r _ [6, 1, 7, 8, 9, 5, 10, 11, 12, 13, 14, 15, 16] (by decide +kernel) (by decide +kernel)
set_option maxRecDepth 20000 in
theorem gX1_newPlace_X1_oldestPlace : GoodIn wsX1_newPlace (wsV RX1 33 RX1 yX1_oldestPlace wsX1_oldestPlace) := goodIn_app (goodIn_of _ (by decide +kernel)) ggX1_newPlace_X1_oldestPlace
theorem dX1_newPlace_0 : decode cX1_newPlace 0 = .ok (.aload_n 0, 1) := by decide +kernel
theorem dX1_newPlace_1 : decode cX1_newPlace 1 = .ok (.getfield 21, 3) := by decide +kernel
theorem dX1_newPlace_4 : decode cX1_newPlace 4 = .ok (.bipush 40, 2) := by decide +kernel
theorem dX1_newPlace_6 : decode cX1_newPlace 6 = .ok (.if_icmp .ge 20, 3) := by decide +kernel
theorem dX1_newPlace_9 : decode cX1_newPlace 9 = .ok (.aload_n 0, 1) := by decide +kernel
theorem dX1_newPlace_10 : decode cX1_newPlace 10 = .ok (.dup, 1) := by decide +kernel
theorem dX1_newPlace_11 : decode cX1_newPlace 11 = .ok (.getfield 21, 3) := by decide +kernel
theorem dX1_newPlace_14 : decode cX1_newPlace 14 = .ok (.iconst 1, 1) := by decide +kernel
theorem dX1_newPlace_15 : decode cX1_newPlace 15 = .ok (.iadd, 1) := by decide +kernel
theorem dX1_newPlace_16 : decode cX1_newPlace 16 = .ok (.putfield 21, 3) := by decide +kernel
theorem dX1_newPlace_19 : decode cX1_newPlace 19 = .ok (.aload_n 0, 1) := by decide +kernel
theorem dX1_newPlace_20 : decode cX1_newPlace 20 = .ok (.getfield 21, 3) := by decide +kernel
theorem dX1_newPlace_23 : decode cX1_newPlace 23 = .ok (.iconst 1, 1) := by decide +kernel
theorem dX1_newPlace_24 : decode cX1_newPlace 24 = .ok (.isub, 1) := by decide +kernel
theorem dX1_newPlace_25 : decode cX1_newPlace 25 = .ok (.ireturn, 1) := by decide +kernel
theorem dX1_newPlace_26 : decode cX1_newPlace 26 = .ok (.aload_n 0, 1) := by decide +kernel
theorem dX1_newPlace_27 : decode cX1_newPlace 27 = .ok (.invokevirtual 33, 3) := by decide +kernel
theorem dX1_newPlace_30 : decode cX1_newPlace 30 = .ok (.ireturn, 1) := by decide +kernel
set_option maxRecDepth 20000 in
theorem ggX1_oldestPlace_X1_isForgottenBefore : GoodIn wsX1_oldestPlace wsX1_isForgottenBefore := goodIn_r _ [6, 7, 8, 9, 10, 11, 12] (by decide +kernel) (by decide +kernel)
set_option maxRecDepth 20000 in
theorem gX1_oldestPlace_X1_isForgottenBefore : GoodIn wsX1_oldestPlace (wsV RX1 36 RX1 yX1_isForgottenBefore wsX1_isForgottenBefore) := goodIn_app (goodIn_of _ (by decide +kernel)) ggX1_oldestPlace_X1_isForgottenBefore
theorem dX1_oldestPlace_0 : decode cX1_oldestPlace 0 = .ok (.iconst 0, 1) := by decide +kernel
theorem dX1_oldestPlace_1 : decode cX1_oldestPlace 1 = .ok (.istore_n 1, 1) := by decide +kernel
theorem dX1_oldestPlace_2 : decode cX1_oldestPlace 2 = .ok (.iconst 1, 1) := by decide +kernel
theorem dX1_oldestPlace_3 : decode cX1_oldestPlace 3 = .ok (.istore_n 2, 1) := by decide +kernel
theorem dX1_oldestPlace_4 : decode cX1_oldestPlace 4 = .ok (.iload_n 2, 1) := by decide +kernel
theorem dX1_oldestPlace_5 : decode cX1_oldestPlace 5 = .ok (.aload_n 0, 1) := by decide +kernel
theorem dX1_oldestPlace_6 : decode cX1_oldestPlace 6 = .ok (.getfield 21, 3) := by decide +kernel
theorem dX1_oldestPlace_9 : decode cX1_oldestPlace 9 = .ok (.if_icmp .ge 20, 3) := by decide +kernel
theorem dX1_oldestPlace_12 : decode cX1_oldestPlace 12 = .ok (.aload_n 0, 1) := by decide +kernel
theorem dX1_oldestPlace_13 : decode cX1_oldestPlace 13 = .ok (.iload_n 2, 1) := by decide +kernel
theorem dX1_oldestPlace_14 : decode cX1_oldestPlace 14 = .ok (.iload_n 1, 1) := by decide +kernel
theorem dX1_oldestPlace_15 : decode cX1_oldestPlace 15 = .ok (.invokevirtual 36, 3) := by decide +kernel
theorem dX1_oldestPlace_18 : decode cX1_oldestPlace 18 = .ok (.ifCond .eq 5, 3) := by decide +kernel
theorem dX1_oldestPlace_21 : decode cX1_oldestPlace 21 = .ok (.iload_n 2, 1) := by decide +kernel
theorem dX1_oldestPlace_22 : decode cX1_oldestPlace 22 = .ok (.istore_n 1, 1) := by decide +kernel
theorem dX1_oldestPlace_23 : decode cX1_oldestPlace 23 = .ok (.iinc 2 1, 3) := by decide +kernel
theorem dX1_oldestPlace_26 : decode cX1_oldestPlace 26 = .ok (.goto (-22), 3) := by decide +kernel
theorem dX1_oldestPlace_29 : decode cX1_oldestPlace 29 = .ok (.iload_n 1, 1) := by decide +kernel
theorem dX1_oldestPlace_30 : decode cX1_oldestPlace 30 = .ok (.ireturn, 1) := by decide +kernel
theorem dX1_isForgottenBefore_0 : decode cX1_isForgottenBefore 0 = .ok (.aload_n 0, 1) := by decide +kernel
theorem dX1_isForgottenBefore_1 : decode cX1_isForgottenBefore 1 = .ok (.getfield 18, 3) := by decide +kernel
theorem dX1_isForgottenBefore_4 : decode cX1_isForgottenBefore 4 = .ok (.iload_n 1, 1) := by decide +kernel
theorem dX1_isForgottenBefore_5 : decode cX1_isForgottenBefore 5 = .ok (.iaload, 1) := by decide +kernel
theorem dX1_isForgottenBefore_6 : decode cX1_isForgottenBefore 6 = .ok (.aload_n 0, 1) := by decide +kernel
theorem dX1_isForgottenBefore_7 : decode cX1_isForgottenBefore 7 = .ok (.getfield 18, 3) := by decide +kernel
theorem dX1_isForgottenBefore_10 : decode cX1_isForgottenBefore 10 = .ok (.iload_n 2, 1) := by decide +kernel
theorem dX1_isForgottenBefore_11 : decode cX1_isForgottenBefore 11 = .ok (.iaload, 1) := by decide +kernel
theorem dX1_isForgottenBefore_12 : decode cX1_isForgottenBefore 12 = .ok (.if_icmp .lt 33, 3) := by decide +kernel
theorem dX1_isForgottenBefore_15 : decode cX1_isForgottenBefore 15 = .ok (.aload_n 0, 1) := by decide +kernel
theorem dX1_isForgottenBefore_16 : decode cX1_isForgottenBefore 16 = .ok (.getfield 18, 3) := by decide +kernel
theorem dX1_isForgottenBefore_19 : decode cX1_isForgottenBefore 19 = .ok (.iload_n 1, 1) := by decide +kernel
theorem dX1_isForgottenBefore_20 : decode cX1_isForgottenBefore 20 = .ok (.iaload, 1) := by decide +kernel
theorem dX1_isForgottenBefore_21 : decode cX1_isForgottenBefore 21 = .ok (.aload_n 0, 1) := by decide +kernel
theorem dX1_isForgottenBefore_22 : decode cX1_isForgottenBefore 22 = .ok (.getfield 18, 3) := by decide +kernel
theorem dX1_isForgottenBefore_25 : decode cX1_isForgottenBefore 25 = .ok (.iload_n 2, 1) := by decide +kernel
theorem dX1_isForgottenBefore_26 : decode cX1_isForgottenBefore 26 = .ok (.iaload, 1) := by decide +kernel
theorem dX1_isForgottenBefore_27 : decode cX1_isForgottenBefore 27 = .ok (.if_icmp .ne 22, 3) := by decide +kernel
theorem dX1_isForgottenBefore_30 : decode cX1_isForgottenBefore 30 = .ok (.aload_n 0, 1) := by decide +kernel
theorem dX1_isForgottenBefore_31 : decode cX1_isForgottenBefore 31 = .ok (.getfield 9, 3) := by decide +kernel
theorem dX1_isForgottenBefore_34 : decode cX1_isForgottenBefore 34 = .ok (.iload_n 1, 1) := by decide +kernel
theorem dX1_isForgottenBefore_35 : decode cX1_isForgottenBefore 35 = .ok (.iaload, 1) := by decide +kernel
theorem dX1_isForgottenBefore_36 : decode cX1_isForgottenBefore 36 = .ok (.aload_n 0, 1) := by decide +kernel
theorem dX1_isForgottenBefore_37 : decode cX1_isForgottenBefore 37 = .ok (.getfield 9, 3) := by decide +kernel
theorem dX1_isForgottenBefore_40 : decode cX1_isForgottenBefore 40 = .ok (.iload_n 2, 1) := by decide +kernel
theorem dX1_isForgottenBefore_41 : decode cX1_isForgottenBefore 41 = .ok (.iaload, 1) := by decide +kernel
theorem dX1_isForgottenBefore_42 : decode cX1_isForgottenBefore 42 = .ok (.if_icmp .ge 7, 3) := by decide +kernel
theorem dX1_isForgottenBefore_45 : decode cX1_isForgottenBefore 45 = .ok (.iconst 1, 1) := by decide +kernel
theorem dX1_isForgottenBefore_46 : decode cX1_isForgottenBefore 46 = .ok (.goto 4, 3) := by decide +kernel
theorem dX1_isForgottenBefore_49 : decode cX1_isForgottenBefore 49 = .ok (.iconst 0, 1) := by decide +kernel
theorem dX1_isForgottenBefore_50 : decode cX1_isForgottenBefore 50 = .ok (.ireturn, 1) := by decide +kernel
theorem dX1_forgetAll_0 : decode cX1_forgetAll 0 = .ok (.aload_n 0, 1) := by decide +kernel
theorem dX1_forgetAll_1 : decode cX1_forgetAll 1 = .ok (.iconst 0, 1) := by decide +kernel
theorem dX1_forgetAll_2 : decode cX1_forgetAll 2 = .ok (.putfield 21, 3) := by decide +kernel
theorem dX1_forgetAll_5 : decode cX1_forgetAll 5 = .ok (.return_, 1) := by decide +kernel
theorem dX1_copyFrom_0 : decode cX1_copyFrom 0 = .ok (.aload_n 0, 1) := by decide +kernel
theorem dX1_copyFrom_1 : decode cX1_copyFrom 1 = .ok (.aload_n 1, 1) := by decide +kernel
theorem dX1_copyFrom_2 : decode cX1_copyFrom 2 = .ok (.getfield 21, 3) := by decide +kernel
theorem dX1_copyFrom_5 : decode cX1_copyFrom 5 = .ok (.putfield 21, 3) := by decide +kernel
theorem dX1_copyFrom_8 : decode cX1_copyFrom 8 = .ok (.aload_n 1, 1) := by decide +kernel
theorem dX1_copyFrom_9 : decode cX1_copyFrom 9 = .ok (.getfield 9, 3) := by decide +kernel
theorem dX1_copyFrom_12 : decode cX1_copyFrom 12 = .ok (.iconst 0, 1) := by decide +kernel
theorem dX1_copyFrom_13 : decode cX1_copyFrom 13 = .ok (.aload_n 0, 1) := by decide +kernel
theorem dX1_copyFrom_14 : decode cX1_copyFrom 14 = .ok (.getfield 9, 3) := by decide +kernel
theorem dX1_copyFrom_17 : decode cX1_copyFrom 17 = .ok (.iconst 0, 1) := by decide +kernel
theorem dX1_copyFrom_18 : decode cX1_copyFrom 18 = .ok (.aload_n 0, 1) := by decide +kernel
theorem dX1_copyFrom_19 : decode cX1_copyFrom 19 = .ok (.getfield 21, 3) := by decide +kernel
theorem dX1_copyFrom_22 : decode cX1_copyFrom 22 = .ok (.invokestatic 40, 3) := by decide +kernel
theorem dX1_copyFrom_25 : decode cX1_copyFrom 25 = .ok (.aload_n 1, 1) := by decide +kernel
theorem dX1_copyFrom_26 : decode cX1_copyFrom 26 = .ok (.getfield 15, 3) := by decide +kernel
theorem dX1_copyFrom_29 : decode cX1_copyFrom 29 = .ok (.iconst 0, 1) := by decide +kernel
theorem dX1_copyFrom_30 : decode cX1_copyFrom 30 = .ok (.aload_n 0, 1) := by decide +kernel
theorem dX1_copyFrom_31 : decode cX1_copyFrom 31 = .ok (.getfield 15, 3) := by decide +kernel
theorem dX1_copyFrom_34 : decode cX1_copyFrom 34 = .ok (.iconst 0, 1) := by decide +kernel
theorem dX1_copyFrom_35 : decode cX1_copyFrom 35 = .ok (.aload_n 0, 1) := by decide +kernel
theorem dX1_copyFrom_36 : decode cX1_copyFrom 36 = .ok (.getfield 21, 3) := by decide +kernel
theorem dX1_copyFrom_39 : decode cX1_copyFrom 39 = .ok (.invokestatic 40, 3) := by decide +kernel
theorem dX1_copyFrom_42 : decode cX1_copyFrom 42 = .ok (.aload_n 1, 1) := by decide +kernel
theorem dX1_copyFrom_43 : decode cX1_copyFrom 43 = .ok (.getfield 18, 3) := by decide +kernel
theorem dX1_copyFrom_46 : decode cX1_copyFrom 46 = .ok (.iconst 0, 1) := by decide +kernel
theorem dX1_copyFrom_47 : decode cX1_copyFrom 47 = .ok (.aload_n 0, 1) := by decide +kernel
theorem dX1_copyFrom_48 : decode cX1_copyFrom 48 = .ok (.getfield 18, 3) := by decide +kernel
theorem dX1_copyFrom_51 : decode cX1_copyFrom 51 = .ok (.iconst 0, 1) := by decide +kernel
theorem dX1_copyFrom_52 : decode cX1_copyFrom 52 = .ok (.aload_n 0, 1) := by decide +kernel
theorem dX1_copyFrom_53 : decode cX1_copyFrom 53 = .ok (.getfield 21, 3) := by decide +kernel
theorem dX1_copyFrom_56 : decode cX1_copyFrom 56 = .ok (.invokestatic 40, 3) := by decide +kernel
theorem dX1_copyFrom_59 : decode cX1_copyFrom 59 = .ok (.return_, 1) := by decide +kernel
theorem dX2_init_0 : decode cX2_init 0 = .ok (.aload_n 0, 1) := by decide +kernel
theorem dX2_init_1 : decode cX2_init 1 = .ok (.invokespecial 3, 3) := by decide +kernel
theorem dX2_init_4 : decode cX2_init 4 = .ok (.aload_n 0, 1) := by decide +kernel
theorem dX2_init_5 : decode cX2_init 5 = .ok (.sipush 1000, 3) := by decide +kernel
theorem dX2_init_8 : decode cX2_init 8 = .ok (.newarray .int, 2) := by decide +kernel
theorem dX2_init_10 : decode cX2_init 10 = .ok (.putfield 9, 3) := by decide +kernel
theorem dX2_init_13 : decode cX2_init 13 = .ok (.aload_n 0, 1) := by decide +kernel
theorem dX2_init_14 : decode cX2_init 14 = .ok (.sipush 1000, 3) := by decide +kernel
theorem dX2_init_17 : decode cX2_init 17 = .ok (.newarray .int, 2) := by decide +kernel
theorem dX2_init_19 : decode cX2_init 19 = .ok (.putfield 15, 3) := by decide +kernel
theorem dX2_init_22 : decode cX2_init 22 = .ok (.aload_n 0, 1) := by decide +kernel
theorem dX2_init_23 : decode cX2_init 23 = .ok (.sipush 1000, 3) := by decide +kernel
theorem dX2_init_26 : decode cX2_init 26 = .ok (.newarray .boolean, 2) := by decide +kernel
theorem dX2_init_28 : decode cX2_init 28 = .ok (.putfield 18, 3) := by decide +kernel
theorem dX2_init_31 : decode cX2_init 31 = .ok (.return_, 1) := by decide +kernel
theorem dX2_isFull_0 : decode cX2_isFull 0 = .ok (.aload_n 0, 1) := by decide +kernel
theorem dX2_isFull_1 : decode cX2_isFull 1 = .ok (.getfield 22, 3) := by decide +kernel
theorem dX2_isFull_4 : decode cX2_isFull 4 = .ok (.sipush 1000, 3) := by decide +kernel
theorem dX2_isFull_7 : decode cX2_isFull 7 = .ok (.if_icmp .lt 7, 3) := by decide +kernel
theorem dX2_isFull_10 : decode cX2_isFull 10 = .ok (.iconst 1, 1) := by decide +kernel
theorem dX2_isFull_11 : decode cX2_isFull 11 = .ok (.goto 4, 3) := by decide +kernel
theorem dX2_isFull_14 : decode cX2_isFull 14 = .ok (.iconst 0, 1) := by decide +kernel
theorem dX2_isFull_15 : decode cX2_isFull 15 = .ok (.ireturn, 1) := by decide +kernel
theorem dX2_append_0 : decode cX2_append 0 = .ok (.aload_n 0, 1) := by decide +kernel
theorem dX2_append_1 : decode cX2_append 1 = .ok (.getfield 22, 3) := by decide +kernel
theorem dX2_append_4 : decode cX2_append 4 = .ok (.istore_n 3, 1) := by decide +kernel
theorem dX2_append_5 : decode cX2_append 5 = .ok (.aload_n 0, 1) := by decide +kernel
theorem dX2_append_6 : decode cX2_append 6 = .ok (.getfield 9, 3) := by decide +kernel
theorem dX2_append_9 : decode cX2_append 9 = .ok (.iload_n 3, 1) := by decide +kernel
theorem dX2_append_10 : decode cX2_append 10 = .ok (.iload_n 1, 1) := by decide +kernel
theorem dX2_append_11 : decode cX2_append 11 = .ok (.iastore, 1) := by decide +kernel
theorem dX2_append_12 : decode cX2_append 12 = .ok (.aload_n 0, 1) := by decide +kernel
theorem dX2_append_13 : decode cX2_append 13 = .ok (.getfield 15, 3) := by decide +kernel
theorem dX2_append_16 : decode cX2_append 16 = .ok (.iload_n 3, 1) := by decide +kernel
theorem dX2_append_17 : decode cX2_append 17 = .ok (.iload_n 2, 1) := by decide +kernel
theorem dX2_append_18 : decode cX2_append 18 = .ok (.iastore, 1) := by decide +kernel
theorem dX2_append_19 : decode cX2_append 19 = .ok (.aload_n 0, 1) := by decide +kernel
theorem dX2_append_20 : decode cX2_append 20 = .ok (.getfield 18, 3) := by decide +kernel
theorem dX2_append_23 : decode cX2_append 23 = .ok (.iload_n 3, 1) := by decide +kernel
theorem dX2_append_24 : decode cX2_append 24 = .ok (.iconst 1, 1) := by decide +kernel
theorem dX2_append_25 : decode cX2_append 25 = .ok (.bastore, 1) := by decide +kernel
theorem dX2_append_26 : decode cX2_append 26 = .ok (.aload_n 0, 1) := by decide +kernel
theorem dX2_append_27 : decode cX2_append 27 = .ok (.iload_n 3, 1) := by decide +kernel
theorem dX2_append_28 : decode cX2_append 28 = .ok (.iconst 1, 1) := by decide +kernel
theorem dX2_append_29 : decode cX2_append 29 = .ok (.iadd, 1) := by decide +kernel
theorem dX2_append_30 : decode cX2_append 30 = .ok (.putfield 22, 3) := by decide +kernel
theorem dX2_append_33 : decode cX2_append 33 = .ok (.iload_n 3, 1) := by decide +kernel
theorem dX2_append_34 : decode cX2_append 34 = .ok (.ireturn, 1) := by decide +kernel
theorem dX2_copyFrom_0 : decode cX2_copyFrom 0 = .ok (.aload_n 0, 1) := by decide +kernel
theorem dX2_copyFrom_1 : decode cX2_copyFrom 1 = .ok (.aload_n 1, 1) := by decide +kernel
theorem dX2_copyFrom_2 : decode cX2_copyFrom 2 = .ok (.getfield 22, 3) := by decide +kernel
theorem dX2_copyFrom_5 : decode cX2_copyFrom 5 = .ok (.putfield 22, 3) := by decide +kernel
theorem dX2_copyFrom_8 : decode cX2_copyFrom 8 = .ok (.aload_n 1, 1) := by decide +kernel
theorem dX2_copyFrom_9 : decode cX2_copyFrom 9 = .ok (.getfield 9, 3) := by decide +kernel
theorem dX2_copyFrom_12 : decode cX2_copyFrom 12 = .ok (.iconst 0, 1) := by decide +kernel
theorem dX2_copyFrom_13 : decode cX2_copyFrom 13 = .ok (.aload_n 0, 1) := by decide +kernel
theorem dX2_copyFrom_14 : decode cX2_copyFrom 14 = .ok (.getfield 9, 3) := by decide +kernel
theorem dX2_copyFrom_17 : decode cX2_copyFrom 17 = .ok (.iconst 0, 1) := by decide +kernel
theorem dX2_copyFrom_18 : decode cX2_copyFrom 18 = .ok (.aload_n 0, 1) := by decide +kernel
theorem dX2_copyFrom_19 : decode cX2_copyFrom 19 = .ok (.getfield 22, 3) := by decide +kernel
theorem dX2_copyFrom_22 : decode cX2_copyFrom 22 = .ok (.invokestatic 26, 3) := by decide +kernel
theorem dX2_copyFrom_25 : decode cX2_copyFrom 25 = .ok (.aload_n 1, 1) := by decide +kernel
theorem dX2_copyFrom_26 : decode cX2_copyFrom 26 = .ok (.getfield 15, 3) := by decide +kernel
theorem dX2_copyFrom_29 : decode cX2_copyFrom 29 = .ok (.iconst 0, 1) := by decide +kernel
theorem dX2_copyFrom_30 : decode cX2_copyFrom 30 = .ok (.aload_n 0, 1) := by decide +kernel
theorem dX2_copyFrom_31 : decode cX2_copyFrom 31 = .ok (.getfield 15, 3) := by decide +kernel
theorem dX2_copyFrom_34 : decode cX2_copyFrom 34 = .ok (.iconst 0, 1) := by decide +kernel
theorem dX2_copyFrom_35 : decode cX2_copyFrom 35 = .ok (.aload_n 0, 1) := by decide +kernel
theorem dX2_copyFrom_36 : decode cX2_copyFrom 36 = .ok (.getfield 22, 3) := by decide +kernel
theorem dX2_copyFrom_39 : decode cX2_copyFrom 39 = .ok (.invokestatic 26, 3) := by decide +kernel
theorem dX2_copyFrom_42 : decode cX2_copyFrom 42 = .ok (.iconst 0, 1) := by decide +kernel
theorem dX2_copyFrom_43 : decode cX2_copyFrom 43 = .ok (.istore_n 2, 1) := by decide +kernel
theorem dX2_copyFrom_44 : decode cX2_copyFrom 44 = .ok (.iload_n 2, 1) := by decide +kernel
theorem dX2_copyFrom_45 : decode cX2_copyFrom 45 = .ok (.aload_n 0, 1) := by decide +kernel
theorem dX2_copyFrom_46 : decode cX2_copyFrom 46 = .ok (.getfield 22, 3) := by decide +kernel
theorem dX2_copyFrom_49 : decode cX2_copyFrom 49 = .ok (.if_icmp .ge 21, 3) := by decide +kernel
theorem dX2_copyFrom_52 : decode cX2_copyFrom 52 = .ok (.aload_n 0, 1) := by decide +kernel
theorem dX2_copyFrom_53 : decode cX2_copyFrom 53 = .ok (.getfield 18, 3) := by decide +kernel
theorem dX2_copyFrom_56 : decode cX2_copyFrom 56 = .ok (.iload_n 2, 1) := by decide +kernel
theorem dX2_copyFrom_57 : decode cX2_copyFrom 57 = .ok (.aload_n 1, 1) := by decide +kernel
theorem dX2_copyFrom_58 : decode cX2_copyFrom 58 = .ok (.getfield 18, 3) := by decide +kernel
theorem dX2_copyFrom_61 : decode cX2_copyFrom 61 = .ok (.iload_n 2, 1) := by decide +kernel
theorem dX2_copyFrom_62 : decode cX2_copyFrom 62 = .ok (.baload, 1) := by decide +kernel
theorem dX2_copyFrom_63 : decode cX2_copyFrom 63 = .ok (.bastore, 1) := by decide +kernel
theorem dX2_copyFrom_64 : decode cX2_copyFrom 64 = .ok (.iinc 2 1, 3) := by decide +kernel
theorem dX2_copyFrom_67 : decode cX2_copyFrom 67 = .ok (.goto (-23), 3) := by decide +kernel
theorem dX2_copyFrom_70 : decode cX2_copyFrom 70 = .ok (.return_, 1) := by decide +kernel
set_option maxRecDepth 20000 in
theorem ggX3_init_X0_init : GoodIn wsX3_init wsX0_init := goodIn_r _ [9, 10, 2, 3] (by decide +kernel) (by decide +kernel)
set_option maxRecDepth 20000 in
theorem gX3_init_X0_init_n11 : GoodIn wsX3_init (wsX0_init) := ggX3_init_X0_init
theorem dX3_init_0 : decode cX3_init 0 = .ok (.aload_n 0, 1) := by decide +kernel
theorem dX3_init_1 : decode cX3_init 1 = .ok (.invokespecial 3, 3) := by decide +kernel
theorem dX3_init_4 : decode cX3_init 4 = .ok (.aload_n 0, 1) := by decide +kernel
theorem dX3_init_5 : decode cX3_init 5 = .ok (.new 9, 3) := by decide +kernel
theorem dX3_init_8 : decode cX3_init 8 = .ok (.dup, 1) := by decide +kernel
theorem dX3_init_9 : decode cX3_init 9 = .ok (.invokespecial 11, 3) := by decide +kernel
theorem dX3_init_12 : decode cX3_init 12 = .ok (.putfield 12, 3) := by decide +kernel
theorem dX3_init_15 : decode cX3_init 15 = .ok (.return_, 1) := by decide +kernel
set_option maxRecDepth 20000 in
theorem ggX3_begin_X0_shut : GoodIn wsX3_begin wsX0_shut := goodIn_r _ [14, 15, 16, 17, 28, 29, 30, 31, 32] (by decide +kernel) (by decide +kernel)
set_option maxRecDepth 20000 in
theorem gX3_begin_X0_shut : GoodIn wsX3_begin (wsV RX3 44 RX0 yX0_shut wsX0_shut) := goodIn_app (goodIn_of _ (by decide +kernel)) ggX3_begin_X0_shut
theorem dX3_begin_0 : decode cX3_begin 0 = .ok (.aload_n 0, 1) := by decide +kernel
theorem dX3_begin_1 : decode cX3_begin 1 = .ok (.iload_n 1, 1) := by decide +kernel
theorem dX3_begin_2 : decode cX3_begin 2 = .ok (.putfield 18, 3) := by decide +kernel
theorem dX3_begin_5 : decode cX3_begin 5 = .ok (.aload_n 0, 1) := by decide +kernel
theorem dX3_begin_6 : decode cX3_begin 6 = .ok (.iload_n 2, 1) := by decide +kernel
theorem dX3_begin_7 : decode cX3_begin 7 = .ok (.putfield 22, 3) := by decide +kernel
theorem dX3_begin_10 : decode cX3_begin 10 = .ok (.aload_n 0, 1) := by decide +kernel
theorem dX3_begin_11 : decode cX3_begin 11 = .ok (.iconst 0, 1) := by decide +kernel
theorem dX3_begin_12 : decode cX3_begin 12 = .ok (.putfield 25, 3) := by decide +kernel
theorem dX3_begin_15 : decode cX3_begin 15 = .ok (.aload_n 0, 1) := by decide +kernel
theorem dX3_begin_16 : decode cX3_begin 16 = .ok (.iconst 0, 1) := by decide +kernel
theorem dX3_begin_17 : decode cX3_begin 17 = .ok (.putfield 28, 3) := by decide +kernel
theorem dX3_begin_20 : decode cX3_begin 20 = .ok (.aload_n 0, 1) := by decide +kernel
theorem dX3_begin_21 : decode cX3_begin 21 = .ok (.iconst 1, 1) := by decide +kernel
theorem dX3_begin_22 : decode cX3_begin 22 = .ok (.putfield 31, 3) := by decide +kernel
theorem dX3_begin_25 : decode cX3_begin 25 = .ok (.aload_n 0, 1) := by decide +kernel
theorem dX3_begin_26 : decode cX3_begin 26 = .ok (.iconst 0, 1) := by decide +kernel
theorem dX3_begin_27 : decode cX3_begin 27 = .ok (.putfield 35, 3) := by decide +kernel
theorem dX3_begin_30 : decode cX3_begin 30 = .ok (.aload_n 0, 1) := by decide +kernel
theorem dX3_begin_31 : decode cX3_begin 31 = .ok (.iconst 0, 1) := by decide +kernel
theorem dX3_begin_32 : decode cX3_begin 32 = .ok (.putfield 38, 3) := by decide +kernel
theorem dX3_begin_35 : decode cX3_begin 35 = .ok (.aload_n 0, 1) := by decide +kernel
theorem dX3_begin_36 : decode cX3_begin 36 = .ok (.iconst 0, 1) := by decide +kernel
theorem dX3_begin_37 : decode cX3_begin 37 = .ok (.putfield 41, 3) := by decide +kernel
theorem dX3_begin_40 : decode cX3_begin 40 = .ok (.aload_n 0, 1) := by decide +kernel
theorem dX3_begin_41 : decode cX3_begin 41 = .ok (.getfield 12, 3) := by decide +kernel
theorem dX3_begin_44 : decode cX3_begin 44 = .ok (.invokevirtual 44, 3) := by decide +kernel
theorem dX3_begin_47 : decode cX3_begin 47 = .ok (.return_, 1) := by decide +kernel
theorem dX3_checkWhileHealthy_0 : decode cX3_checkWhileHealthy 0 = .ok (.aload_n 0, 1) := by decide +kernel
theorem dX3_checkWhileHealthy_1 : decode cX3_checkWhileHealthy 1 = .ok (.iload_n 1, 1) := by decide +kernel
theorem dX3_checkWhileHealthy_2 : decode cX3_checkWhileHealthy 2 = .ok (.ifCond .eq 7, 3) := by decide +kernel
theorem dX3_checkWhileHealthy_5 : decode cX3_checkWhileHealthy 5 = .ok (.iconst 0, 1) := by decide +kernel
theorem dX3_checkWhileHealthy_6 : decode cX3_checkWhileHealthy 6 = .ok (.goto 9, 3) := by decide +kernel
theorem dX3_checkWhileHealthy_9 : decode cX3_checkWhileHealthy 9 = .ok (.aload_n 0, 1) := by decide +kernel
theorem dX3_checkWhileHealthy_10 : decode cX3_checkWhileHealthy 10 = .ok (.getfield 38, 3) := by decide +kernel
theorem dX3_checkWhileHealthy_13 : decode cX3_checkWhileHealthy 13 = .ok (.iconst 1, 1) := by decide +kernel
theorem dX3_checkWhileHealthy_14 : decode cX3_checkWhileHealthy 14 = .ok (.iadd, 1) := by decide +kernel
theorem dX3_checkWhileHealthy_15 : decode cX3_checkWhileHealthy 15 = .ok (.putfield 38, 3) := by decide +kernel
theorem dX3_checkWhileHealthy_18 : decode cX3_checkWhileHealthy 18 = .ok (.aload_n 0, 1) := by decide +kernel
theorem dX3_checkWhileHealthy_19 : decode cX3_checkWhileHealthy 19 = .ok (.getfield 38, 3) := by decide +kernel
theorem dX3_checkWhileHealthy_22 : decode cX3_checkWhileHealthy 22 = .ok (.iload_n 2, 1) := by decide +kernel
theorem dX3_checkWhileHealthy_23 : decode cX3_checkWhileHealthy 23 = .ok (.if_icmp .lt 13, 3) := by decide +kernel
theorem dX3_checkWhileHealthy_26 : decode cX3_checkWhileHealthy 26 = .ok (.aload_n 0, 1) := by decide +kernel
theorem dX3_checkWhileHealthy_27 : decode cX3_checkWhileHealthy 27 = .ok (.iconst 0, 1) := by decide +kernel
theorem dX3_checkWhileHealthy_28 : decode cX3_checkWhileHealthy 28 = .ok (.putfield 31, 3) := by decide +kernel
theorem dX3_checkWhileHealthy_31 : decode cX3_checkWhileHealthy 31 = .ok (.aload_n 0, 1) := by decide +kernel
theorem dX3_checkWhileHealthy_32 : decode cX3_checkWhileHealthy 32 = .ok (.iconst 0, 1) := by decide +kernel
theorem dX3_checkWhileHealthy_33 : decode cX3_checkWhileHealthy 33 = .ok (.putfield 38, 3) := by decide +kernel
theorem dX3_checkWhileHealthy_36 : decode cX3_checkWhileHealthy 36 = .ok (.return_, 1) := by decide +kernel
theorem dX3_checkWhileUnhealthy_0 : decode cX3_checkWhileUnhealthy 0 = .ok (.aload_n 0, 1) := by decide +kernel
theorem dX3_checkWhileUnhealthy_1 : decode cX3_checkWhileUnhealthy 1 = .ok (.iload_n 1, 1) := by decide +kernel
theorem dX3_checkWhileUnhealthy_2 : decode cX3_checkWhileUnhealthy 2 = .ok (.ifCond .eq 12, 3) := by decide +kernel
theorem dX3_checkWhileUnhealthy_5 : decode cX3_checkWhileUnhealthy 5 = .ok (.aload_n 0, 1) := by decide +kernel
theorem dX3_checkWhileUnhealthy_6 : decode cX3_checkWhileUnhealthy 6 = .ok (.getfield 38, 3) := by decide +kernel
theorem dX3_checkWhileUnhealthy_9 : decode cX3_checkWhileUnhealthy 9 = .ok (.iconst 1, 1) := by decide +kernel
theorem dX3_checkWhileUnhealthy_10 : decode cX3_checkWhileUnhealthy 10 = .ok (.iadd, 1) := by decide +kernel
theorem dX3_checkWhileUnhealthy_11 : decode cX3_checkWhileUnhealthy 11 = .ok (.goto 4, 3) := by decide +kernel
theorem dX3_checkWhileUnhealthy_14 : decode cX3_checkWhileUnhealthy 14 = .ok (.iconst 0, 1) := by decide +kernel
theorem dX3_checkWhileUnhealthy_15 : decode cX3_checkWhileUnhealthy 15 = .ok (.putfield 38, 3) := by decide +kernel
theorem dX3_checkWhileUnhealthy_18 : decode cX3_checkWhileUnhealthy 18 = .ok (.aload_n 0, 1) := by decide +kernel
theorem dX3_checkWhileUnhealthy_19 : decode cX3_checkWhileUnhealthy 19 = .ok (.getfield 38, 3) := by decide +kernel
theorem dX3_checkWhileUnhealthy_22 : decode cX3_checkWhileUnhealthy 22 = .ok (.iload_n 2, 1) := by decide +kernel
theorem dX3_checkWhileUnhealthy_23 : decode cX3_checkWhileUnhealthy 23 = .ok (.if_icmp .lt 23, 3) := by decide +kernel
theorem dX3_checkWhileUnhealthy_26 : decode cX3_checkWhileUnhealthy 26 = .ok (.aload_n 0, 1) := by decide +kernel
theorem dX3_checkWhileUnhealthy_27 : decode cX3_checkWhileUnhealthy 27 = .ok (.iconst 1, 1) := by decide +kernel
theorem dX3_checkWhileUnhealthy_28 : decode cX3_checkWhileUnhealthy 28 = .ok (.putfield 31, 3) := by decide +kernel
theorem dX3_checkWhileUnhealthy_31 : decode cX3_checkWhileUnhealthy 31 = .ok (.aload_n 0, 1) := by decide +kernel
theorem dX3_checkWhileUnhealthy_32 : decode cX3_checkWhileUnhealthy 32 = .ok (.iconst 0, 1) := by decide +kernel
theorem dX3_checkWhileUnhealthy_33 : decode cX3_checkWhileUnhealthy 33 = .ok (.putfield 38, 3) := by decide +kernel
theorem dX3_checkWhileUnhealthy_36 : decode cX3_checkWhileUnhealthy 36 = .ok (.aload_n 0, 1) := by decide +kernel
theorem dX3_checkWhileUnhealthy_37 : decode cX3_checkWhileUnhealthy 37 = .ok (.iconst 1, 1) := by decide +kernel
theorem dX3_checkWhileUnhealthy_38 : decode cX3_checkWhileUnhealthy 38 = .ok (.putfield 41, 3) := by decide +kernel
theorem dX3_checkWhileUnhealthy_41 : decode cX3_checkWhileUnhealthy 41 = .ok (.aload_n 0, 1) := by decide +kernel
theorem dX3_checkWhileUnhealthy_42 : decode cX3_checkWhileUnhealthy 42 = .ok (.iload_n 3, 1) := by decide +kernel
theorem dX3_checkWhileUnhealthy_43 : decode cX3_checkWhileUnhealthy 43 = .ok (.putfield 47, 3) := by decide +kernel
theorem dX3_checkWhileUnhealthy_46 : decode cX3_checkWhileUnhealthy 46 = .ok (.return_, 1) := by decide +kernel
set_option maxRecDepth 20000 in
theorem ggX3_accepts_X0_letsThrough : GoodIn wsX3_accepts wsX0_letsThrough := goodIn_r _ [10, 11, 12, 23, 24, 25, 26, 27] (by decide +kernel) (by decide +kernel)
set_option maxRecDepth 20000 in
theorem gX3_accepts_X0_letsThrough : GoodIn wsX3_accepts (wsV RX3 50 RX0 yX0_letsThrough wsX0_letsThrough) := goodIn_app (goodIn_of _ (by decide +kernel)) ggX3_accepts_X0_letsThrough
theorem dX3_accepts_0 : decode cX3_accepts 0 = .ok (.aload_n 0, 1) := by decide +kernel
theorem dX3_accepts_1 : decode cX3_accepts 1 = .ok (.getfield 31, 3) := by decide +kernel
theorem dX3_accepts_4 : decode cX3_accepts 4 = .ok (.ifCond .eq 35, 3) := by decide +kernel
theorem dX3_accepts_7 : decode cX3_accepts 7 = .ok (.aload_n 0, 1) := by decide +kernel
theorem dX3_accepts_8 : decode cX3_accepts 8 = .ok (.getfield 35, 3) := by decide +kernel
theorem dX3_accepts_11 : decode cX3_accepts 11 = .ok (.ifCond .ne 28, 3) := by decide +kernel
theorem dX3_accepts_14 : decode cX3_accepts 14 = .ok (.aload_n 0, 1) := by decide +kernel
theorem dX3_accepts_15 : decode cX3_accepts 15 = .ok (.getfield 25, 3) := by decide +kernel
theorem dX3_accepts_18 : decode cX3_accepts 18 = .ok (.aload_n 0, 1) := by decide +kernel
theorem dX3_accepts_19 : decode cX3_accepts 19 = .ok (.getfield 22, 3) := by decide +kernel
theorem dX3_accepts_22 : decode cX3_accepts 22 = .ok (.if_icmp .ge 17, 3) := by decide +kernel
theorem dX3_accepts_25 : decode cX3_accepts 25 = .ok (.aload_n 0, 1) := by decide +kernel
theorem dX3_accepts_26 : decode cX3_accepts 26 = .ok (.getfield 12, 3) := by decide +kernel
theorem dX3_accepts_29 : decode cX3_accepts 29 = .ok (.invokevirtual 50, 3) := by decide +kernel
theorem dX3_accepts_32 : decode cX3_accepts 32 = .ok (.ifCond .eq 7, 3) := by decide +kernel
theorem dX3_accepts_35 : decode cX3_accepts 35 = .ok (.iconst 1, 1) := by decide +kernel
theorem dX3_accepts_36 : decode cX3_accepts 36 = .ok (.goto 4, 3) := by decide +kernel
theorem dX3_accepts_39 : decode cX3_accepts 39 = .ok (.iconst 0, 1) := by decide +kernel
theorem dX3_accepts_40 : decode cX3_accepts 40 = .ok (.ireturn, 1) := by decide +kernel
set_option maxRecDepth 20000 in
theorem ggX3_ringDistance_X5_mix : GoodIn wsX3_ringDistance wsX5_mix := goodIn_r _ [4, 5] (by decide +kernel) (by decide +kernel)
set_option maxRecDepth 20000 in
theorem gX3_ringDistance_X5_mix_n54 : GoodIn wsX3_ringDistance (wsX5_mix) := ggX3_ringDistance_X5_mix
set_option maxRecDepth 20000 in
theorem ggX3_ringDistance_X5_isBelowUnsigned : GoodIn wsX3_ringDistance wsX5_isBelowUnsigned := goodIn_r _ [7, 8] (by decide +kernel) (by decide +kernel)
set_option maxRecDepth 20000 in
theorem gX3_ringDistance_X5_isBelowUnsigned_n58 : GoodIn wsX3_ringDistance (wsX5_isBelowUnsigned) := ggX3_ringDistance_X5_isBelowUnsigned
theorem dX3_ringDistance_0 : decode cX3_ringDistance 0 = .ok (.sipush 1000, 3) := by decide +kernel
theorem dX3_ringDistance_3 : decode cX3_ringDistance 3 = .ok (.iload_n 1, 1) := by decide +kernel
theorem dX3_ringDistance_4 : decode cX3_ringDistance 4 = .ok (.imul, 1) := by decide +kernel
theorem dX3_ringDistance_5 : decode cX3_ringDistance 5 = .ok (.istore_n 3, 1) := by decide +kernel
theorem dX3_ringDistance_6 : decode cX3_ringDistance 6 = .ok (.iload_n 3, 1) := by decide +kernel
theorem dX3_ringDistance_7 : decode cX3_ringDistance 7 = .ok (.invokestatic 54, 3) := by decide +kernel
theorem dX3_ringDistance_10 : decode cX3_ringDistance 10 = .ok (.iload_n 2, 1) := by decide +kernel
theorem dX3_ringDistance_11 : decode cX3_ringDistance 11 = .ok (.isub, 1) := by decide +kernel
theorem dX3_ringDistance_12 : decode cX3_ringDistance 12 = .ok (.istore 4, 2) := by decide +kernel
theorem dX3_ringDistance_14 : decode cX3_ringDistance 14 = .ok (.iconst 1, 1) := by decide +kernel
theorem dX3_ringDistance_15 : decode cX3_ringDistance 15 = .ok (.istore 5, 2) := by decide +kernel
theorem dX3_ringDistance_17 : decode cX3_ringDistance 17 = .ok (.iload 5, 2) := by decide +kernel
theorem dX3_ringDistance_19 : decode cX3_ringDistance 19 = .ok (.iconst 4, 1) := by decide +kernel
theorem dX3_ringDistance_20 : decode cX3_ringDistance 20 = .ok (.aload_n 0, 1) := by decide +kernel
theorem dX3_ringDistance_21 : decode cX3_ringDistance 21 = .ok (.getfield 18, 3) := by decide +kernel
theorem dX3_ringDistance_24 : decode cX3_ringDistance 24 = .ok (.imul, 1) := by decide +kernel
theorem dX3_ringDistance_25 : decode cX3_ringDistance 25 = .ok (.if_icmp .ge 34, 3) := by decide +kernel
theorem dX3_ringDistance_28 : decode cX3_ringDistance 28 = .ok (.iload_n 3, 1) := by decide +kernel
theorem dX3_ringDistance_29 : decode cX3_ringDistance 29 = .ok (.iload 5, 2) := by decide +kernel
theorem dX3_ringDistance_31 : decode cX3_ringDistance 31 = .ok (.iadd, 1) := by decide +kernel
theorem dX3_ringDistance_32 : decode cX3_ringDistance 32 = .ok (.invokestatic 54, 3) := by decide +kernel
theorem dX3_ringDistance_35 : decode cX3_ringDistance 35 = .ok (.iload_n 2, 1) := by decide +kernel
theorem dX3_ringDistance_36 : decode cX3_ringDistance 36 = .ok (.isub, 1) := by decide +kernel
