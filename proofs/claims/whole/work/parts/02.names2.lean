theorem dX3_ringDistance_37 : decode cX3_ringDistance 37 = .ok (.istore 6, 2) := by decide +kernel
theorem dX3_ringDistance_39 : decode cX3_ringDistance 39 = .ok (.iload 6, 2) := by decide +kernel
theorem dX3_ringDistance_41 : decode cX3_ringDistance 41 = .ok (.iload 4, 2) := by decide +kernel
theorem dX3_ringDistance_43 : decode cX3_ringDistance 43 = .ok (.invokestatic 58, 3) := by decide +kernel
theorem dX3_ringDistance_46 : decode cX3_ringDistance 46 = .ok (.ifCond .eq 7, 3) := by decide +kernel
theorem dX3_ringDistance_49 : decode cX3_ringDistance 49 = .ok (.iload 6, 2) := by decide +kernel
theorem dX3_ringDistance_51 : decode cX3_ringDistance 51 = .ok (.istore 4, 2) := by decide +kernel
theorem dX3_ringDistance_53 : decode cX3_ringDistance 53 = .ok (.iinc 5 1, 3) := by decide +kernel
theorem dX3_ringDistance_56 : decode cX3_ringDistance 56 = .ok (.goto (-39), 3) := by decide +kernel
theorem dX3_ringDistance_59 : decode cX3_ringDistance 59 = .ok (.iload 4, 2) := by decide +kernel
theorem dX3_ringDistance_61 : decode cX3_ringDistance 61 = .ok (.ireturn, 1) := by decide +kernel
set_option maxRecDepth 20000 in
theorem ggX3_copyFrom_X0_copyFrom : GoodIn wsX3_copyFrom wsX0_copyFrom := goodIn_r _ [15, 16, 17, 18, 19, 20, 31, 32, 33, 34, 35] (by decide +kernel) (by decide +kernel)
set_option maxRecDepth 20000 in
theorem gX3_copyFrom_X0_copyFrom : GoodIn wsX3_copyFrom (wsV RX3 62 RX0 yX0_copyFrom wsX0_copyFrom) := goodIn_app (goodIn_of _ (by decide +kernel)) ggX3_copyFrom_X0_copyFrom
theorem dX3_copyFrom_0 : decode cX3_copyFrom 0 = .ok (.aload_n 0, 1) := by decide +kernel
theorem dX3_copyFrom_1 : decode cX3_copyFrom 1 = .ok (.aload_n 1, 1) := by decide +kernel
theorem dX3_copyFrom_2 : decode cX3_copyFrom 2 = .ok (.getfield 18, 3) := by decide +kernel
theorem dX3_copyFrom_5 : decode cX3_copyFrom 5 = .ok (.putfield 18, 3) := by decide +kernel
theorem dX3_copyFrom_8 : decode cX3_copyFrom 8 = .ok (.aload_n 0, 1) := by decide +kernel
theorem dX3_copyFrom_9 : decode cX3_copyFrom 9 = .ok (.aload_n 1, 1) := by decide +kernel
theorem dX3_copyFrom_10 : decode cX3_copyFrom 10 = .ok (.getfield 22, 3) := by decide +kernel
theorem dX3_copyFrom_13 : decode cX3_copyFrom 13 = .ok (.putfield 22, 3) := by decide +kernel
theorem dX3_copyFrom_16 : decode cX3_copyFrom 16 = .ok (.aload_n 0, 1) := by decide +kernel
theorem dX3_copyFrom_17 : decode cX3_copyFrom 17 = .ok (.aload_n 1, 1) := by decide +kernel
theorem dX3_copyFrom_18 : decode cX3_copyFrom 18 = .ok (.getfield 25, 3) := by decide +kernel
theorem dX3_copyFrom_21 : decode cX3_copyFrom 21 = .ok (.putfield 25, 3) := by decide +kernel
theorem dX3_copyFrom_24 : decode cX3_copyFrom 24 = .ok (.aload_n 0, 1) := by decide +kernel
theorem dX3_copyFrom_25 : decode cX3_copyFrom 25 = .ok (.aload_n 1, 1) := by decide +kernel
theorem dX3_copyFrom_26 : decode cX3_copyFrom 26 = .ok (.getfield 28, 3) := by decide +kernel
theorem dX3_copyFrom_29 : decode cX3_copyFrom 29 = .ok (.putfield 28, 3) := by decide +kernel
theorem dX3_copyFrom_32 : decode cX3_copyFrom 32 = .ok (.aload_n 0, 1) := by decide +kernel
theorem dX3_copyFrom_33 : decode cX3_copyFrom 33 = .ok (.aload_n 1, 1) := by decide +kernel
theorem dX3_copyFrom_34 : decode cX3_copyFrom 34 = .ok (.getfield 31, 3) := by decide +kernel
theorem dX3_copyFrom_37 : decode cX3_copyFrom 37 = .ok (.putfield 31, 3) := by decide +kernel
theorem dX3_copyFrom_40 : decode cX3_copyFrom 40 = .ok (.aload_n 0, 1) := by decide +kernel
theorem dX3_copyFrom_41 : decode cX3_copyFrom 41 = .ok (.aload_n 1, 1) := by decide +kernel
theorem dX3_copyFrom_42 : decode cX3_copyFrom 42 = .ok (.getfield 35, 3) := by decide +kernel
theorem dX3_copyFrom_45 : decode cX3_copyFrom 45 = .ok (.putfield 35, 3) := by decide +kernel
theorem dX3_copyFrom_48 : decode cX3_copyFrom 48 = .ok (.aload_n 0, 1) := by decide +kernel
theorem dX3_copyFrom_49 : decode cX3_copyFrom 49 = .ok (.aload_n 1, 1) := by decide +kernel
theorem dX3_copyFrom_50 : decode cX3_copyFrom 50 = .ok (.getfield 38, 3) := by decide +kernel
theorem dX3_copyFrom_53 : decode cX3_copyFrom 53 = .ok (.putfield 38, 3) := by decide +kernel
theorem dX3_copyFrom_56 : decode cX3_copyFrom 56 = .ok (.aload_n 0, 1) := by decide +kernel
theorem dX3_copyFrom_57 : decode cX3_copyFrom 57 = .ok (.aload_n 1, 1) := by decide +kernel
theorem dX3_copyFrom_58 : decode cX3_copyFrom 58 = .ok (.getfield 41, 3) := by decide +kernel
theorem dX3_copyFrom_61 : decode cX3_copyFrom 61 = .ok (.putfield 41, 3) := by decide +kernel
theorem dX3_copyFrom_64 : decode cX3_copyFrom 64 = .ok (.aload_n 0, 1) := by decide +kernel
theorem dX3_copyFrom_65 : decode cX3_copyFrom 65 = .ok (.aload_n 1, 1) := by decide +kernel
theorem dX3_copyFrom_66 : decode cX3_copyFrom 66 = .ok (.getfield 47, 3) := by decide +kernel
theorem dX3_copyFrom_69 : decode cX3_copyFrom 69 = .ok (.putfield 47, 3) := by decide +kernel
theorem dX3_copyFrom_72 : decode cX3_copyFrom 72 = .ok (.aload_n 0, 1) := by decide +kernel
theorem dX3_copyFrom_73 : decode cX3_copyFrom 73 = .ok (.getfield 12, 3) := by decide +kernel
theorem dX3_copyFrom_76 : decode cX3_copyFrom 76 = .ok (.aload_n 1, 1) := by decide +kernel
theorem dX3_copyFrom_77 : decode cX3_copyFrom 77 = .ok (.getfield 12, 3) := by decide +kernel
theorem dX3_copyFrom_80 : decode cX3_copyFrom 80 = .ok (.invokevirtual 62, 3) := by decide +kernel
theorem dX3_copyFrom_83 : decode cX3_copyFrom 83 = .ok (.return_, 1) := by decide +kernel
set_option maxRecDepth 20000 in
theorem ggX4_init_X3_init : GoodIn wsX4_init wsX3_init := goodIn_r _ [24, 25, 2, 3, 26, 27, 28, 29, 30, 31, 32, 81, 82, 83, 84, 85, 63, 64, 65, 66, 67, 68, 69, 70, 71, 72] (by decide +kernel) (by decide +kernel)
set_option maxRecDepth 20000 in
theorem gX4_init_X3_init : GoodIn wsX4_init (wsX3_init) := ggX4_init_X3_init
set_option maxRecDepth 20000 in
theorem ggX4_init_X2_init : GoodIn wsX4_init wsX2_init := goodIn_r _ [35, 36, 2, 3, 37, 38, 39, 40, 41, 73, 74, 75, 76] (by decide +kernel) (by decide +kernel)
set_option maxRecDepth 20000 in
theorem gX4_init_X2_init : GoodIn wsX4_init (wsX2_init) := ggX4_init_X2_init
set_option maxRecDepth 20000 in
theorem ggX4_init_X1_init : GoodIn wsX4_init wsX1_init := goodIn_r _ [44, 45, 2, 3, 37, 46, 47, 48, 77, 78, 79, 80] (by decide +kernel) (by decide +kernel)
set_option maxRecDepth 20000 in
theorem gX4_init_X1_init : GoodIn wsX4_init (wsX1_init) := ggX4_init_X1_init
theorem dX4_init_0 : decode cX4_init 0 = .ok (.aload_n 0, 1) := by decide +kernel
theorem dX4_init_1 : decode cX4_init 1 = .ok (.invokespecial 3, 3) := by decide +kernel
theorem dX4_init_4 : decode cX4_init 4 = .ok (.aload_n 0, 1) := by decide +kernel
theorem dX4_init_5 : decode cX4_init 5 = .ok (.bipush 10, 2) := by decide +kernel
theorem dX4_init_7 : decode cX4_init 7 = .ok (.anewarray 9, 3) := by decide +kernel
theorem dX4_init_10 : decode cX4_init 10 = .ok (.putfield 11, 3) := by decide +kernel
theorem dX4_init_13 : decode cX4_init 13 = .ok (.iconst 0, 1) := by decide +kernel
theorem dX4_init_14 : decode cX4_init 14 = .ok (.istore_n 1, 1) := by decide +kernel
theorem dX4_init_15 : decode cX4_init 15 = .ok (.iload_n 1, 1) := by decide +kernel
theorem dX4_init_16 : decode cX4_init 16 = .ok (.bipush 10, 2) := by decide +kernel
theorem dX4_init_18 : decode cX4_init 18 = .ok (.if_icmp .ge 22, 3) := by decide +kernel
theorem dX4_init_21 : decode cX4_init 21 = .ok (.aload_n 0, 1) := by decide +kernel
theorem dX4_init_22 : decode cX4_init 22 = .ok (.getfield 11, 3) := by decide +kernel
theorem dX4_init_25 : decode cX4_init 25 = .ok (.iload_n 1, 1) := by decide +kernel
theorem dX4_init_26 : decode cX4_init 26 = .ok (.new 9, 3) := by decide +kernel
theorem dX4_init_29 : decode cX4_init 29 = .ok (.dup, 1) := by decide +kernel
theorem dX4_init_30 : decode cX4_init 30 = .ok (.invokespecial 17, 3) := by decide +kernel
theorem dX4_init_33 : decode cX4_init 33 = .ok (.aastore, 1) := by decide +kernel
theorem dX4_init_34 : decode cX4_init 34 = .ok (.iinc 1 1, 3) := by decide +kernel
theorem dX4_init_37 : decode cX4_init 37 = .ok (.goto (-22), 3) := by decide +kernel
theorem dX4_init_40 : decode cX4_init 40 = .ok (.aload_n 0, 1) := by decide +kernel
theorem dX4_init_41 : decode cX4_init 41 = .ok (.new 18, 3) := by decide +kernel
theorem dX4_init_44 : decode cX4_init 44 = .ok (.dup, 1) := by decide +kernel
theorem dX4_init_45 : decode cX4_init 45 = .ok (.invokespecial 20, 3) := by decide +kernel
theorem dX4_init_48 : decode cX4_init 48 = .ok (.putfield 21, 3) := by decide +kernel
theorem dX4_init_51 : decode cX4_init 51 = .ok (.aload_n 0, 1) := by decide +kernel
theorem dX4_init_52 : decode cX4_init 52 = .ok (.new 25, 3) := by decide +kernel
theorem dX4_init_55 : decode cX4_init 55 = .ok (.dup, 1) := by decide +kernel
theorem dX4_init_56 : decode cX4_init 56 = .ok (.invokespecial 27, 3) := by decide +kernel
theorem dX4_init_59 : decode cX4_init 59 = .ok (.putfield 28, 3) := by decide +kernel
theorem dX4_init_62 : decode cX4_init 62 = .ok (.aload_n 0, 1) := by decide +kernel
theorem dX4_init_63 : decode cX4_init 63 = .ok (.iconst 2, 1) := by decide +kernel
theorem dX4_init_64 : decode cX4_init 64 = .ok (.putfield 32, 3) := by decide +kernel
theorem dX4_init_67 : decode cX4_init 67 = .ok (.aload_n 0, 1) := by decide +kernel
theorem dX4_init_68 : decode cX4_init 68 = .ok (.iconst 3, 1) := by decide +kernel
theorem dX4_init_69 : decode cX4_init 69 = .ok (.putfield 36, 3) := by decide +kernel
theorem dX4_init_72 : decode cX4_init 72 = .ok (.aload_n 0, 1) := by decide +kernel
theorem dX4_init_73 : decode cX4_init 73 = .ok (.iconst 5, 1) := by decide +kernel
theorem dX4_init_74 : decode cX4_init 74 = .ok (.putfield 39, 3) := by decide +kernel
theorem dX4_init_77 : decode cX4_init 77 = .ok (.aload_n 0, 1) := by decide +kernel
theorem dX4_init_78 : decode cX4_init 78 = .ok (.iconst 0, 1) := by decide +kernel
theorem dX4_init_79 : decode cX4_init 79 = .ok (.putfield 42, 3) := by decide +kernel
theorem dX4_init_82 : decode cX4_init 82 = .ok (.aload_n 0, 1) := by decide +kernel
theorem dX4_init_83 : decode cX4_init 83 = .ok (.iconst (-1), 1) := by decide +kernel
theorem dX4_init_84 : decode cX4_init 84 = .ok (.putfield 45, 3) := by decide +kernel
theorem dX4_init_87 : decode cX4_init 87 = .ok (.aload_n 0, 1) := by decide +kernel
theorem dX4_init_88 : decode cX4_init 88 = .ok (.iconst 1, 1) := by decide +kernel
theorem dX4_init_89 : decode cX4_init 89 = .ok (.putfield 48, 3) := by decide +kernel
theorem dX4_init_92 : decode cX4_init 92 = .ok (.return_, 1) := by decide +kernel
theorem dX4_serverAt_0 : decode cX4_serverAt 0 = .ok (.iload_n 1, 1) := by decide +kernel
theorem dX4_serverAt_1 : decode cX4_serverAt 1 = .ok (.ifCond .lt 11, 3) := by decide +kernel
theorem dX4_serverAt_4 : decode cX4_serverAt 4 = .ok (.iload_n 1, 1) := by decide +kernel
theorem dX4_serverAt_5 : decode cX4_serverAt 5 = .ok (.aload_n 0, 1) := by decide +kernel
theorem dX4_serverAt_6 : decode cX4_serverAt 6 = .ok (.getfield 51, 3) := by decide +kernel
theorem dX4_serverAt_9 : decode cX4_serverAt 9 = .ok (.if_icmp .lt 13, 3) := by decide +kernel
theorem dX4_serverAt_12 : decode cX4_serverAt 12 = .ok (.new 54, 3) := by decide +kernel
theorem dX4_serverAt_15 : decode cX4_serverAt 15 = .ok (.dup, 1) := by decide +kernel
theorem dX4_serverAt_16 : decode cX4_serverAt 16 = .ok (.ldc 56, 2) := by decide +kernel
theorem dX4_serverAt_18 : decode cX4_serverAt 18 = .ok (.invokespecial 58, 3) := by decide +kernel
theorem dX4_serverAt_21 : decode cX4_serverAt 21 = .ok (.athrow, 1) := by decide +kernel
theorem dX4_serverAt_22 : decode cX4_serverAt 22 = .ok (.aload_n 0, 1) := by decide +kernel
theorem dX4_serverAt_23 : decode cX4_serverAt 23 = .ok (.getfield 11, 3) := by decide +kernel
theorem dX4_serverAt_26 : decode cX4_serverAt 26 = .ok (.iload_n 1, 1) := by decide +kernel
theorem dX4_serverAt_27 : decode cX4_serverAt 27 = .ok (.aaload, 1) := by decide +kernel
theorem dX4_serverAt_28 : decode cX4_serverAt 28 = .ok (.areturn, 1) := by decide +kernel
set_option maxRecDepth 20000 in
theorem ggX4_append_X3_begin : GoodIn wsX4_append wsX3_begin := goodIn_r _ [7, 8, 9, 10, 11, 12, 13, 14, 15, 16, 17, 18, 19, 20, 21, 22, 23, 24, 39, 40, 41, 42, 43, 44, 45, 46, 47, 48, 49, 50, 51, 52, 53] (by decide +kernel) (by decide +kernel)
set_option maxRecDepth 20000 in
theorem gX4_append_X3_begin : GoodIn wsX4_append (wsV RX4 61 RX3 yX3_begin wsX3_begin) := goodIn_app (goodIn_of _ (by decide +kernel)) ggX4_append_X3_begin
theorem dX4_append_0 : decode cX4_append 0 = .ok (.aload_n 0, 1) := by decide +kernel
theorem dX4_append_1 : decode cX4_append 1 = .ok (.getfield 51, 3) := by decide +kernel
theorem dX4_append_4 : decode cX4_append 4 = .ok (.istore_n 3, 1) := by decide +kernel
theorem dX4_append_5 : decode cX4_append 5 = .ok (.aload_n 0, 1) := by decide +kernel
theorem dX4_append_6 : decode cX4_append 6 = .ok (.getfield 11, 3) := by decide +kernel
theorem dX4_append_9 : decode cX4_append 9 = .ok (.iload_n 3, 1) := by decide +kernel
theorem dX4_append_10 : decode cX4_append 10 = .ok (.aaload, 1) := by decide +kernel
theorem dX4_append_11 : decode cX4_append 11 = .ok (.iload_n 1, 1) := by decide +kernel
theorem dX4_append_12 : decode cX4_append 12 = .ok (.iload_n 2, 1) := by decide +kernel
theorem dX4_append_13 : decode cX4_append 13 = .ok (.invokevirtual 61, 3) := by decide +kernel
theorem dX4_append_16 : decode cX4_append 16 = .ok (.aload_n 0, 1) := by decide +kernel
theorem dX4_append_17 : decode cX4_append 17 = .ok (.iload_n 3, 1) := by decide +kernel
theorem dX4_append_18 : decode cX4_append 18 = .ok (.iconst 1, 1) := by decide +kernel
theorem dX4_append_19 : decode cX4_append 19 = .ok (.iadd, 1) := by decide +kernel
theorem dX4_append_20 : decode cX4_append 20 = .ok (.putfield 51, 3) := by decide +kernel
theorem dX4_append_23 : decode cX4_append 23 = .ok (.iload_n 3, 1) := by decide +kernel
theorem dX4_append_24 : decode cX4_append 24 = .ok (.ireturn, 1) := by decide +kernel
theorem dX4_forgetSelections_0 : decode cX4_forgetSelections 0 = .ok (.aload_n 0, 1) := by decide +kernel
theorem dX4_forgetSelections_1 : decode cX4_forgetSelections 1 = .ok (.iconst (-1), 1) := by decide +kernel
theorem dX4_forgetSelections_2 : decode cX4_forgetSelections 2 = .ok (.putfield 45, 3) := by decide +kernel
theorem dX4_forgetSelections_5 : decode cX4_forgetSelections 5 = .ok (.iconst 0, 1) := by decide +kernel
theorem dX4_forgetSelections_6 : decode cX4_forgetSelections 6 = .ok (.istore_n 1, 1) := by decide +kernel
theorem dX4_forgetSelections_7 : decode cX4_forgetSelections 7 = .ok (.iload_n 1, 1) := by decide +kernel
theorem dX4_forgetSelections_8 : decode cX4_forgetSelections 8 = .ok (.aload_n 0, 1) := by decide +kernel
theorem dX4_forgetSelections_9 : decode cX4_forgetSelections 9 = .ok (.getfield 51, 3) := by decide +kernel
theorem dX4_forgetSelections_12 : decode cX4_forgetSelections 12 = .ok (.if_icmp .ge 19, 3) := by decide +kernel
theorem dX4_forgetSelections_15 : decode cX4_forgetSelections 15 = .ok (.aload_n 0, 1) := by decide +kernel
theorem dX4_forgetSelections_16 : decode cX4_forgetSelections 16 = .ok (.getfield 11, 3) := by decide +kernel
theorem dX4_forgetSelections_19 : decode cX4_forgetSelections 19 = .ok (.iload_n 1, 1) := by decide +kernel
theorem dX4_forgetSelections_20 : decode cX4_forgetSelections 20 = .ok (.aaload, 1) := by decide +kernel
theorem dX4_forgetSelections_21 : decode cX4_forgetSelections 21 = .ok (.iconst 0, 1) := by decide +kernel
theorem dX4_forgetSelections_22 : decode cX4_forgetSelections 22 = .ok (.putfield 65, 3) := by decide +kernel
theorem dX4_forgetSelections_25 : decode cX4_forgetSelections 25 = .ok (.iinc 1 1, 3) := by decide +kernel
theorem dX4_forgetSelections_28 : decode cX4_forgetSelections 28 = .ok (.goto (-21), 3) := by decide +kernel
theorem dX4_forgetSelections_31 : decode cX4_forgetSelections 31 = .ok (.return_, 1) := by decide +kernel
set_option maxRecDepth 20000 in
theorem ggX4_coolBreakers_X0_coolDown : GoodIn wsX4_coolBreakers wsX0_coolDown := goodIn_r _ [10, 11, 12, 13, 38, 39, 40, 41, 42] (by decide +kernel) (by decide +kernel)
set_option maxRecDepth 20000 in
theorem gX4_coolBreakers_X0_coolDown : GoodIn wsX4_coolBreakers (wsV RX4 75 RX0 yX0_coolDown wsX0_coolDown) := goodIn_app (goodIn_of _ (by decide +kernel)) ggX4_coolBreakers_X0_coolDown
theorem dX4_coolBreakers_0 : decode cX4_coolBreakers 0 = .ok (.iconst 0, 1) := by decide +kernel
theorem dX4_coolBreakers_1 : decode cX4_coolBreakers 1 = .ok (.istore_n 1, 1) := by decide +kernel
theorem dX4_coolBreakers_2 : decode cX4_coolBreakers 2 = .ok (.iload_n 1, 1) := by decide +kernel
theorem dX4_coolBreakers_3 : decode cX4_coolBreakers 3 = .ok (.aload_n 0, 1) := by decide +kernel
theorem dX4_coolBreakers_4 : decode cX4_coolBreakers 4 = .ok (.getfield 51, 3) := by decide +kernel
theorem dX4_coolBreakers_7 : decode cX4_coolBreakers 7 = .ok (.if_icmp .ge 29, 3) := by decide +kernel
theorem dX4_coolBreakers_10 : decode cX4_coolBreakers 10 = .ok (.aload_n 0, 1) := by decide +kernel
theorem dX4_coolBreakers_11 : decode cX4_coolBreakers 11 = .ok (.getfield 11, 3) := by decide +kernel
theorem dX4_coolBreakers_14 : decode cX4_coolBreakers 14 = .ok (.iload_n 1, 1) := by decide +kernel
theorem dX4_coolBreakers_15 : decode cX4_coolBreakers 15 = .ok (.aaload, 1) := by decide +kernel
theorem dX4_coolBreakers_16 : decode cX4_coolBreakers 16 = .ok (.getfield 68, 3) := by decide +kernel
theorem dX4_coolBreakers_19 : decode cX4_coolBreakers 19 = .ok (.aload_n 0, 1) := by decide +kernel
theorem dX4_coolBreakers_20 : decode cX4_coolBreakers 20 = .ok (.getfield 72, 3) := by decide +kernel
theorem dX4_coolBreakers_23 : decode cX4_coolBreakers 23 = .ok (.aload_n 0, 1) := by decide +kernel
theorem dX4_coolBreakers_24 : decode cX4_coolBreakers 24 = .ok (.getfield 39, 3) := by decide +kernel
theorem dX4_coolBreakers_27 : decode cX4_coolBreakers 27 = .ok (.invokevirtual 75, 3) := by decide +kernel
theorem dX4_coolBreakers_30 : decode cX4_coolBreakers 30 = .ok (.iinc 1 1, 3) := by decide +kernel
theorem dX4_coolBreakers_33 : decode cX4_coolBreakers 33 = .ok (.goto (-31), 3) := by decide +kernel
theorem dX4_coolBreakers_36 : decode cX4_coolBreakers 36 = .ok (.return_, 1) := by decide +kernel
theorem dX4_totalLoad_0 : decode cX4_totalLoad 0 = .ok (.iconst 0, 1) := by decide +kernel
theorem dX4_totalLoad_1 : decode cX4_totalLoad 1 = .ok (.istore_n 1, 1) := by decide +kernel
theorem dX4_totalLoad_2 : decode cX4_totalLoad 2 = .ok (.iconst 0, 1) := by decide +kernel
theorem dX4_totalLoad_3 : decode cX4_totalLoad 3 = .ok (.istore_n 2, 1) := by decide +kernel
theorem dX4_totalLoad_4 : decode cX4_totalLoad 4 = .ok (.iload_n 2, 1) := by decide +kernel
theorem dX4_totalLoad_5 : decode cX4_totalLoad 5 = .ok (.aload_n 0, 1) := by decide +kernel
theorem dX4_totalLoad_6 : decode cX4_totalLoad 6 = .ok (.getfield 51, 3) := by decide +kernel
theorem dX4_totalLoad_9 : decode cX4_totalLoad 9 = .ok (.if_icmp .ge 21, 3) := by decide +kernel
theorem dX4_totalLoad_12 : decode cX4_totalLoad 12 = .ok (.iload_n 1, 1) := by decide +kernel
theorem dX4_totalLoad_13 : decode cX4_totalLoad 13 = .ok (.aload_n 0, 1) := by decide +kernel
theorem dX4_totalLoad_14 : decode cX4_totalLoad 14 = .ok (.getfield 11, 3) := by decide +kernel
theorem dX4_totalLoad_17 : decode cX4_totalLoad 17 = .ok (.iload_n 2, 1) := by decide +kernel
theorem dX4_totalLoad_18 : decode cX4_totalLoad 18 = .ok (.aaload, 1) := by decide +kernel
theorem dX4_totalLoad_19 : decode cX4_totalLoad 19 = .ok (.getfield 80, 3) := by decide +kernel
theorem dX4_totalLoad_22 : decode cX4_totalLoad 22 = .ok (.iadd, 1) := by decide +kernel
theorem dX4_totalLoad_23 : decode cX4_totalLoad 23 = .ok (.istore_n 1, 1) := by decide +kernel
theorem dX4_totalLoad_24 : decode cX4_totalLoad 24 = .ok (.iinc 2 1, 3) := by decide +kernel
theorem dX4_totalLoad_27 : decode cX4_totalLoad 27 = .ok (.goto (-23), 3) := by decide +kernel
theorem dX4_totalLoad_30 : decode cX4_totalLoad 30 = .ok (.iload_n 1, 1) := by decide +kernel
theorem dX4_totalLoad_31 : decode cX4_totalLoad 31 = .ok (.ireturn, 1) := by decide +kernel
theorem dX4_weightNow_0 : decode cX4_weightNow 0 = .ok (.aload_n 0, 1) := by decide +kernel
theorem dX4_weightNow_1 : decode cX4_weightNow 1 = .ok (.getfield 72, 3) := by decide +kernel
theorem dX4_weightNow_4 : decode cX4_weightNow 4 = .ok (.aload_n 1, 1) := by decide +kernel
theorem dX4_weightNow_5 : decode cX4_weightNow 5 = .ok (.getfield 83, 3) := by decide +kernel
theorem dX4_weightNow_8 : decode cX4_weightNow 8 = .ok (.isub, 1) := by decide +kernel
theorem dX4_weightNow_9 : decode cX4_weightNow 9 = .ok (.istore_n 2, 1) := by decide +kernel
theorem dX4_weightNow_10 : decode cX4_weightNow 10 = .ok (.aload_n 0, 1) := by decide +kernel
theorem dX4_weightNow_11 : decode cX4_weightNow 11 = .ok (.getfield 86, 3) := by decide +kernel
theorem dX4_weightNow_14 : decode cX4_weightNow 14 = .ok (.ifCond .eq 18, 3) := by decide +kernel
theorem dX4_weightNow_17 : decode cX4_weightNow 17 = .ok (.aload_n 1, 1) := by decide +kernel
theorem dX4_weightNow_18 : decode cX4_weightNow 18 = .ok (.getfield 89, 3) := by decide +kernel
theorem dX4_weightNow_21 : decode cX4_weightNow 21 = .ok (.ifCond .eq 11, 3) := by decide +kernel
theorem dX4_weightNow_24 : decode cX4_weightNow 24 = .ok (.iload_n 2, 1) := by decide +kernel
theorem dX4_weightNow_25 : decode cX4_weightNow 25 = .ok (.aload_n 0, 1) := by decide +kernel
theorem dX4_weightNow_26 : decode cX4_weightNow 26 = .ok (.getfield 86, 3) := by decide +kernel
theorem dX4_weightNow_29 : decode cX4_weightNow 29 = .ok (.if_icmp .lt 8, 3) := by decide +kernel
theorem dX4_weightNow_32 : decode cX4_weightNow 32 = .ok (.aload_n 1, 1) := by decide +kernel
theorem dX4_weightNow_33 : decode cX4_weightNow 33 = .ok (.getfield 93, 3) := by decide +kernel
theorem dX4_weightNow_36 : decode cX4_weightNow 36 = .ok (.ireturn, 1) := by decide +kernel
theorem dX4_weightNow_37 : decode cX4_weightNow 37 = .ok (.iconst 1, 1) := by decide +kernel
theorem dX4_weightNow_38 : decode cX4_weightNow 38 = .ok (.aload_n 1, 1) := by decide +kernel
theorem dX4_weightNow_39 : decode cX4_weightNow 39 = .ok (.getfield 93, 3) := by decide +kernel
theorem dX4_weightNow_42 : decode cX4_weightNow 42 = .ok (.iload_n 2, 1) := by decide +kernel
theorem dX4_weightNow_43 : decode cX4_weightNow 43 = .ok (.iconst 1, 1) := by decide +kernel
theorem dX4_weightNow_44 : decode cX4_weightNow 44 = .ok (.iadd, 1) := by decide +kernel
theorem dX4_weightNow_45 : decode cX4_weightNow 45 = .ok (.imul, 1) := by decide +kernel
theorem dX4_weightNow_46 : decode cX4_weightNow 46 = .ok (.aload_n 0, 1) := by decide +kernel
theorem dX4_weightNow_47 : decode cX4_weightNow 47 = .ok (.getfield 86, 3) := by decide +kernel
theorem dX4_weightNow_50 : decode cX4_weightNow 50 = .ok (.idiv, 1) := by decide +kernel
theorem dX4_weightNow_51 : decode cX4_weightNow 51 = .ok (.invokestatic 96, 3) := by decide +kernel
theorem dX4_weightNow_54 : decode cX4_weightNow 54 = .ok (.ireturn, 1) := by decide +kernel
set_option maxRecDepth 20000 in
theorem ggX4_serverFor_X2_isFull : GoodIn wsX4_serverFor wsX2_isFull := goodIn_r _ [6, 7, 136, 137, 138, 139] (by decide +kernel) (by decide +kernel)
set_option maxRecDepth 20000 in
theorem gX4_serverFor_X2_isFull : GoodIn wsX4_serverFor (wsV RX4 102 RX2 yX2_isFull wsX2_isFull) := goodIn_app (goodIn_of _ (by decide +kernel)) ggX4_serverFor_X2_isFull
set_option maxRecDepth 20000 in
theorem ggX4_serverFor_X4_stickyServer : GoodIn wsX4_serverFor wsX4_stickyServer := goodIn_ca (goodIn_r _ [12, 13, 14, 15, 16, 17, 18, 19, 20, 21, 22, 23, 24, 25, 26, 27, 11, 28, 29, 30, 31, 32, 33, 34, 35, 36, 37, 38, 39, 40, 41, 42, 43, 44, 45, 46, 47, 48, 49, 122, 123, 124, 125, 126, 127, 128, 129, 130, 131, 132, 133, 134, 135, 140, 141, 142, 143, 144, 145, 146, 147, 148, 149, 150, 151, 152, 153, 154, 155, 156, 157, 158] (by decide +kernel) (by decide +kernel)) (goodIn_sub (fun _ h => List.mem_cons_of_mem _ (List.mem_append_right _ h)) (by decide +kernel))
set_option maxRecDepth 20000 in
theorem gX4_serverFor_X4_stickyServer : GoodIn wsX4_serverFor (wsV RX4 106 RX4 yX4_stickyServer wsX4_stickyServer) := goodIn_app (goodIn_of _ (by decide +kernel)) ggX4_serverFor_X4_stickyServer
set_option maxRecDepth 20000 in
theorem ggX4_serverFor_X4_selectByPolicy : GoodIn wsX4_serverFor wsX4_selectByPolicy := goodIn_ca (goodIn_r _ [53, 54, 55, 56, 57, 11, 58, 59, 60, 61, 62, 63, 31, 25, 26, 27, 28, 29, 30, 32, 33, 34, 35, 36, 37, 38, 39, 40, 41, 42, 43, 44, 45, 46, 47, 48, 49, 64, 65, 66, 67, 68, 69, 70, 71, 72, 14, 73, 74, 75, 76, 77, 78, 79, 80, 81, 82, 83, 84, 85, 86, 87, 88, 89, 90, 91, 92, 93, 94, 95, 96, 97, 98, 99, 100, 101, 102, 103, 104, 105, 106, 107, 108, 109, 110, 111, 112, 113, 114, 115, 116, 117, 118, 119, 120, 121, 122, 123, 124, 125, 126, 127, 128, 129, 130, 131, 132, 133, 134, 135, 144, 145, 146, 147, 148, 149, 150, 151, 152, 153, 154, 155, 156, 157, 158] (by decide +kernel) (by decide +kernel)) (goodIn_sub (fun _ h => List.mem_cons_of_mem _ (List.mem_append_right _ h)) (by decide +kernel))
set_option maxRecDepth 20000 in
theorem gX4_serverFor_X4_selectByPolicy : GoodIn wsX4_serverFor (wsV RX4 110 RX4 yX4_selectByPolicy wsX4_selectByPolicy) := goodIn_app (goodIn_of _ (by decide +kernel)) ggX4_serverFor_X4_selectByPolicy
theorem dX4_serverFor_0 : decode cX4_serverFor 0 = .ok (.aload_n 0, 1) := by decide +kernel
theorem dX4_serverFor_1 : decode cX4_serverFor 1 = .ok (.getfield 21, 3) := by decide +kernel
theorem dX4_serverFor_4 : decode cX4_serverFor 4 = .ok (.invokevirtual 102, 3) := by decide +kernel
theorem dX4_serverFor_7 : decode cX4_serverFor 7 = .ok (.ifCond .eq 5, 3) := by decide +kernel
theorem dX4_serverFor_10 : decode cX4_serverFor 10 = .ok (.iconst (-1), 1) := by decide +kernel
theorem dX4_serverFor_11 : decode cX4_serverFor 11 = .ok (.ireturn, 1) := by decide +kernel
theorem dX4_serverFor_12 : decode cX4_serverFor 12 = .ok (.aload_n 0, 1) := by decide +kernel
theorem dX4_serverFor_13 : decode cX4_serverFor 13 = .ok (.iload_n 1, 1) := by decide +kernel
theorem dX4_serverFor_14 : decode cX4_serverFor 14 = .ok (.invokevirtual 106, 3) := by decide +kernel
theorem dX4_serverFor_17 : decode cX4_serverFor 17 = .ok (.istore_n 2, 1) := by decide +kernel
theorem dX4_serverFor_18 : decode cX4_serverFor 18 = .ok (.iload_n 2, 1) := by decide +kernel
theorem dX4_serverFor_19 : decode cX4_serverFor 19 = .ok (.iconst (-1), 1) := by decide +kernel
theorem dX4_serverFor_20 : decode cX4_serverFor 20 = .ok (.if_icmp .eq 7, 3) := by decide +kernel
theorem dX4_serverFor_23 : decode cX4_serverFor 23 = .ok (.iload_n 2, 1) := by decide +kernel
theorem dX4_serverFor_24 : decode cX4_serverFor 24 = .ok (.goto 8, 3) := by decide +kernel
theorem dX4_serverFor_27 : decode cX4_serverFor 27 = .ok (.aload_n 0, 1) := by decide +kernel
theorem dX4_serverFor_28 : decode cX4_serverFor 28 = .ok (.iload_n 1, 1) := by decide +kernel
theorem dX4_serverFor_29 : decode cX4_serverFor 29 = .ok (.invokevirtual 110, 3) := by decide +kernel
theorem dX4_serverFor_32 : decode cX4_serverFor 32 = .ok (.ireturn, 1) := by decide +kernel
set_option maxRecDepth 20000 in
theorem ggX4_stickyServer_X1_placeOf : GoodIn wsX4_stickyServer wsX1_placeOf := goodIn_r _ [10, 11, 12, 53, 54, 55, 56] (by decide +kernel) (by decide +kernel)
set_option maxRecDepth 20000 in
theorem gX4_stickyServer_X1_placeOf : GoodIn wsX4_stickyServer (wsV RX4 113 RX1 yX1_placeOf wsX1_placeOf) := goodIn_app (goodIn_of _ (by decide +kernel)) ggX4_stickyServer_X1_placeOf
set_option maxRecDepth 20000 in
theorem ggX4_stickyServer_X4_serverAt : GoodIn wsX4_stickyServer wsX4_serverAt := goodIn_ca (goodIn_r _ [17, 18, 19, 20, 21, 39, 40, 41, 42, 43, 44, 45, 46, 47, 48, 49, 50, 51, 52] (by decide +kernel) (by decide +kernel)) (goodIn_sub (fun _ h => List.mem_cons_of_mem _ (List.mem_append_right _ h)) (by decide +kernel))
set_option maxRecDepth 20000 in
theorem gX4_stickyServer_X4_serverAt : GoodIn wsX4_stickyServer (wsV RX4 126 RX4 yX4_serverAt wsX4_serverAt) := goodIn_app (goodIn_of _ (by decide +kernel)) ggX4_stickyServer_X4_serverAt
set_option maxRecDepth 20000 in
theorem ggX4_stickyServer_X3_accepts : GoodIn wsX4_stickyServer wsX3_accepts := goodIn_r _ [26, 27, 28, 29, 30, 31, 32, 33, 34, 35, 36, 37, 38, 57, 58, 59, 60, 61, 62, 63, 64, 65, 66, 67, 68, 69, 70, 71] (by decide +kernel) (by decide +kernel)
set_option maxRecDepth 20000 in
theorem gX4_stickyServer_X3_accepts : GoodIn wsX4_stickyServer (wsV RX4 130 RX3 yX3_accepts wsX3_accepts) := goodIn_app (goodIn_of _ (by decide +kernel)) ggX4_stickyServer_X3_accepts
theorem dX4_stickyServer_0 : decode cX4_stickyServer 0 = .ok (.aload_n 0, 1) := by decide +kernel
theorem dX4_stickyServer_1 : decode cX4_stickyServer 1 = .ok (.getfield 28, 3) := by decide +kernel
theorem dX4_stickyServer_4 : decode cX4_stickyServer 4 = .ok (.iload_n 1, 1) := by decide +kernel
theorem dX4_stickyServer_5 : decode cX4_stickyServer 5 = .ok (.invokevirtual 113, 3) := by decide +kernel
theorem dX4_stickyServer_8 : decode cX4_stickyServer 8 = .ok (.istore_n 2, 1) := by decide +kernel
theorem dX4_stickyServer_9 : decode cX4_stickyServer 9 = .ok (.iload_n 2, 1) := by decide +kernel
theorem dX4_stickyServer_10 : decode cX4_stickyServer 10 = .ok (.iconst (-1), 1) := by decide +kernel
theorem dX4_stickyServer_11 : decode cX4_stickyServer 11 = .ok (.if_icmp .eq 24, 3) := by decide +kernel
theorem dX4_stickyServer_14 : decode cX4_stickyServer 14 = .ok (.aload_n 0, 1) := by decide +kernel
theorem dX4_stickyServer_15 : decode cX4_stickyServer 15 = .ok (.getfield 72, 3) := by decide +kernel
theorem dX4_stickyServer_18 : decode cX4_stickyServer 18 = .ok (.aload_n 0, 1) := by decide +kernel
theorem dX4_stickyServer_19 : decode cX4_stickyServer 19 = .ok (.getfield 28, 3) := by decide +kernel
theorem dX4_stickyServer_22 : decode cX4_stickyServer 22 = .ok (.getfield 116, 3) := by decide +kernel
theorem dX4_stickyServer_25 : decode cX4_stickyServer 25 = .ok (.iload_n 2, 1) := by decide +kernel
theorem dX4_stickyServer_26 : decode cX4_stickyServer 26 = .ok (.iaload, 1) := by decide +kernel
theorem dX4_stickyServer_27 : decode cX4_stickyServer 27 = .ok (.isub, 1) := by decide +kernel
theorem dX4_stickyServer_28 : decode cX4_stickyServer 28 = .ok (.aload_n 0, 1) := by decide +kernel
theorem dX4_stickyServer_29 : decode cX4_stickyServer 29 = .ok (.getfield 120, 3) := by decide +kernel
theorem dX4_stickyServer_32 : decode cX4_stickyServer 32 = .ok (.if_icmp .lt 5, 3) := by decide +kernel
theorem dX4_stickyServer_35 : decode cX4_stickyServer 35 = .ok (.iconst (-1), 1) := by decide +kernel
theorem dX4_stickyServer_36 : decode cX4_stickyServer 36 = .ok (.ireturn, 1) := by decide +kernel
theorem dX4_stickyServer_37 : decode cX4_stickyServer 37 = .ok (.aload_n 0, 1) := by decide +kernel
theorem dX4_stickyServer_38 : decode cX4_stickyServer 38 = .ok (.getfield 28, 3) := by decide +kernel
theorem dX4_stickyServer_41 : decode cX4_stickyServer 41 = .ok (.getfield 123, 3) := by decide +kernel
theorem dX4_stickyServer_44 : decode cX4_stickyServer 44 = .ok (.iload_n 2, 1) := by decide +kernel
theorem dX4_stickyServer_45 : decode cX4_stickyServer 45 = .ok (.iaload, 1) := by decide +kernel
theorem dX4_stickyServer_46 : decode cX4_stickyServer 46 = .ok (.istore_n 3, 1) := by decide +kernel
theorem dX4_stickyServer_47 : decode cX4_stickyServer 47 = .ok (.aload_n 0, 1) := by decide +kernel
theorem dX4_stickyServer_48 : decode cX4_stickyServer 48 = .ok (.iload_n 3, 1) := by decide +kernel
theorem dX4_stickyServer_49 : decode cX4_stickyServer 49 = .ok (.invokevirtual 126, 3) := by decide +kernel
theorem dX4_stickyServer_52 : decode cX4_stickyServer 52 = .ok (.invokevirtual 130, 3) := by decide +kernel
theorem dX4_stickyServer_55 : decode cX4_stickyServer 55 = .ok (.ifCond .eq 7, 3) := by decide +kernel
theorem dX4_stickyServer_58 : decode cX4_stickyServer 58 = .ok (.iload_n 3, 1) := by decide +kernel
theorem dX4_stickyServer_59 : decode cX4_stickyServer 59 = .ok (.goto 4, 3) := by decide +kernel
theorem dX4_stickyServer_62 : decode cX4_stickyServer 62 = .ok (.iconst (-1), 1) := by decide +kernel
theorem dX4_stickyServer_63 : decode cX4_stickyServer 63 = .ok (.ireturn, 1) := by decide +kernel
set_option maxRecDepth 20000 in
theorem ggX4_selectByPolicy_X4_selectNext : GoodIn wsX4_selectByPolicy wsX4_selectNext := goodIn_ca (goodIn_r _ [6, 7, 8, 9, 10, 5, 11, 12, 13, 14, 15, 16, 17, 18, 19, 20, 21, 22, 23, 24, 25, 26, 27, 28, 29, 30, 31, 32, 33, 34, 35, 36, 96, 97, 98, 99, 100, 101, 102, 103, 104, 105, 106, 107, 108, 109, 110, 111, 112, 113, 114, 115, 116, 117, 118, 119, 120, 121, 122, 123, 124] (by decide +kernel) (by decide +kernel)) (goodIn_sub (fun _ h => List.mem_cons_of_mem _ (List.mem_append_right _ h)) (by decide +kernel))
set_option maxRecDepth 20000 in
theorem gX4_selectByPolicy_X4_selectNext : GoodIn wsX4_selectByPolicy (wsV RX4 133 RX4 yX4_selectNext wsX4_selectNext) := goodIn_app (goodIn_of _ (by decide +kernel)) ggX4_selectByPolicy_X4_selectNext
set_option maxRecDepth 20000 in
theorem ggX4_selectByPolicy_X4_selectByCredit : GoodIn wsX4_selectByPolicy wsX4_selectByCredit := goodIn_r _ [40, 12, 19, 41, 42, 43, 44, 5, 45, 46, 47, 48, 49, 50, 51, 52, 53, 54, 20, 21, 22, 23, 24, 25, 26, 27, 28, 29, 30, 31, 32, 33, 34, 35, 36, 96, 97, 98, 99, 100, 101, 102, 103, 104, 105, 106, 107, 108, 109, 110, 111, 112, 113, 114, 115, 116, 117, 118, 119, 120, 121, 122, 123, 124] (by decide +kernel) (by decide +kernel)
set_option maxRecDepth 20000 in
theorem gX4_selectByPolicy_X4_selectByCredit : GoodIn wsX4_selectByPolicy (wsV RX4 137 RX4 yX4_selectByCredit wsX4_selectByCredit) := goodIn_app (goodIn_of _ (by decide +kernel)) ggX4_selectByPolicy_X4_selectByCredit
set_option maxRecDepth 20000 in
theorem ggX4_selectByPolicy_X4_selectLeastLoaded : GoodIn wsX4_selectByPolicy wsX4_selectLeastLoaded := goodIn_ca (goodIn_r _ [58, 12, 19, 20, 21, 22, 23, 24, 25, 26, 27, 28, 29, 30, 31, 32, 33, 34, 35, 36, 13, 14, 15, 5, 16, 17, 18, 59, 60, 61, 62, 63, 42, 43, 44, 45, 46, 47, 48, 49, 50, 51, 52, 53, 54, 96, 97, 98, 99, 100, 101, 102, 103, 104, 105, 106, 107, 108, 109, 110, 111, 112, 113, 114, 115, 116, 117, 118, 119, 120, 121, 122, 123, 124] (by decide +kernel) (by decide +kernel)) (goodIn_sub (fun _ h => List.mem_cons_of_mem _ (List.mem_append_right _ h)) (by decide +kernel))
set_option maxRecDepth 20000 in
theorem gX4_selectByPolicy_X4_selectLeastLoaded : GoodIn wsX4_selectByPolicy (wsV RX4 140 RX4 yX4_selectLeastLoaded wsX4_selectLeastLoaded) := goodIn_app (goodIn_of _ (by decide +kernel)) ggX4_selectByPolicy_X4_selectLeastLoaded
set_option maxRecDepth 20000 in
theorem ggX4_selectByPolicy_X4_firstOnRing : GoodIn wsX4_selectByPolicy wsX4_firstOnRing := goodIn_r _ [67, 12, 19, 68, 69, 70, 71, 20, 21, 22, 23, 24, 25, 26, 27, 28, 29, 30, 31, 32, 33, 34, 35, 36, 72, 73, 74, 75, 76, 77, 78, 79, 96, 97, 98, 99, 100, 101, 102, 103, 104, 105, 106, 107, 108, 109, 110, 111, 112, 113, 114, 115, 116, 117, 118, 119, 120, 121, 122, 123, 124] (by decide +kernel) (by decide +kernel)
set_option maxRecDepth 20000 in
theorem gX4_selectByPolicy_X4_firstOnRing : GoodIn wsX4_selectByPolicy (wsV RX4 143 RX4 yX4_firstOnRing wsX4_firstOnRing) := goodIn_app (goodIn_of _ (by decide +kernel)) ggX4_selectByPolicy_X4_firstOnRing
set_option maxRecDepth 20000 in
theorem ggX4_selectByPolicy_X4_selectOfTwo : GoodIn wsX4_selectByPolicy wsX4_selectOfTwo := goodIn_ca (goodIn_r _ [83, 84, 63, 85, 86, 87, 5, 88, 12, 19, 20, 21, 22, 23, 24, 25, 26, 27, 28, 29, 30, 31, 32, 33, 34, 35, 36, 89, 69, 90, 91, 92, 93, 94, 95, 13, 14, 15, 16, 17, 18, 96, 97, 98, 99, 100, 101, 102, 103, 104, 105, 106, 107, 108, 109, 110, 111, 112, 113, 114, 115, 116, 117, 118, 119, 120, 121, 122, 123, 124] (by decide +kernel) (by decide +kernel)) (goodIn_sub (fun _ h => List.mem_cons_of_mem _ (List.mem_append_right _ h)) (by decide +kernel))
set_option maxRecDepth 20000 in
theorem gX4_selectByPolicy_X4_selectOfTwo : GoodIn wsX4_selectByPolicy (wsV RX4 147 RX4 yX4_selectOfTwo wsX4_selectOfTwo) := goodIn_app (goodIn_of _ (by decide +kernel)) ggX4_selectByPolicy_X4_selectOfTwo
theorem dX4_selectByPolicy_0 : decode cX4_selectByPolicy 0 = .ok (.aload_n 0, 1) := by decide +kernel
theorem dX4_selectByPolicy_1 : decode cX4_selectByPolicy 1 = .ok (.getfield 42, 3) := by decide +kernel
theorem dX4_selectByPolicy_4 : decode cX4_selectByPolicy 4 = .ok (.tableswitch 54 0 3 #[32, 37, 42, 47], 32) := by decide +kernel
theorem dX4_selectByPolicy_36 : decode cX4_selectByPolicy 36 = .ok (.aload_n 0, 1) := by decide +kernel
theorem dX4_selectByPolicy_37 : decode cX4_selectByPolicy 37 = .ok (.invokevirtual 133, 3) := by decide +kernel
theorem dX4_selectByPolicy_40 : decode cX4_selectByPolicy 40 = .ok (.ireturn, 1) := by decide +kernel
theorem dX4_selectByPolicy_41 : decode cX4_selectByPolicy 41 = .ok (.aload_n 0, 1) := by decide +kernel
theorem dX4_selectByPolicy_42 : decode cX4_selectByPolicy 42 = .ok (.invokevirtual 137, 3) := by decide +kernel
theorem dX4_selectByPolicy_45 : decode cX4_selectByPolicy 45 = .ok (.ireturn, 1) := by decide +kernel
theorem dX4_selectByPolicy_46 : decode cX4_selectByPolicy 46 = .ok (.aload_n 0, 1) := by decide +kernel
theorem dX4_selectByPolicy_47 : decode cX4_selectByPolicy 47 = .ok (.invokevirtual 140, 3) := by decide +kernel
theorem dX4_selectByPolicy_50 : decode cX4_selectByPolicy 50 = .ok (.ireturn, 1) := by decide +kernel
theorem dX4_selectByPolicy_51 : decode cX4_selectByPolicy 51 = .ok (.aload_n 0, 1) := by decide +kernel
theorem dX4_selectByPolicy_52 : decode cX4_selectByPolicy 52 = .ok (.iload_n 1, 1) := by decide +kernel
theorem dX4_selectByPolicy_53 : decode cX4_selectByPolicy 53 = .ok (.iconst 1, 1) := by decide +kernel
theorem dX4_selectByPolicy_54 : decode cX4_selectByPolicy 54 = .ok (.invokevirtual 143, 3) := by decide +kernel
theorem dX4_selectByPolicy_57 : decode cX4_selectByPolicy 57 = .ok (.ireturn, 1) := by decide +kernel
theorem dX4_selectByPolicy_58 : decode cX4_selectByPolicy 58 = .ok (.aload_n 0, 1) := by decide +kernel
theorem dX4_selectByPolicy_59 : decode cX4_selectByPolicy 59 = .ok (.invokevirtual 147, 3) := by decide +kernel
theorem dX4_selectByPolicy_62 : decode cX4_selectByPolicy 62 = .ok (.ireturn, 1) := by decide +kernel
set_option maxRecDepth 20000 in
theorem ggX4_selectNext_X4_firstAvailableFrom : GoodIn wsX4_selectNext wsX4_firstAvailableFrom := goodIn_ca (goodIn_r _ [6, 7, 8, 9, 10, 5, 11, 12, 13, 14, 15, 16, 17, 18, 19, 20, 21, 22, 23, 24, 25, 26, 27, 28, 29, 30, 31, 32, 33, 34, 35, 36, 37, 38, 39, 40, 41, 42, 43, 44, 45, 46, 47, 48, 49, 50, 51, 52, 53, 54, 55, 56, 57, 58, 59, 60] (by decide +kernel) (by decide +kernel)) (goodIn_sub (fun _ h => List.mem_cons_of_mem _ (List.mem_append_right _ h)) (by decide +kernel))
set_option maxRecDepth 20000 in
theorem gX4_selectNext_X4_firstAvailableFrom : GoodIn wsX4_selectNext (wsV RX4 150 RX4 yX4_firstAvailableFrom wsX4_firstAvailableFrom) := goodIn_app (goodIn_of _ (by decide +kernel)) ggX4_selectNext_X4_firstAvailableFrom
theorem dX4_selectNext_0 : decode cX4_selectNext 0 = .ok (.aload_n 0, 1) := by decide +kernel
theorem dX4_selectNext_1 : decode cX4_selectNext 1 = .ok (.aload_n 0, 1) := by decide +kernel
theorem dX4_selectNext_2 : decode cX4_selectNext 2 = .ok (.getfield 45, 3) := by decide +kernel
theorem dX4_selectNext_5 : decode cX4_selectNext 5 = .ok (.iconst 1, 1) := by decide +kernel
theorem dX4_selectNext_6 : decode cX4_selectNext 6 = .ok (.iadd, 1) := by decide +kernel
theorem dX4_selectNext_7 : decode cX4_selectNext 7 = .ok (.invokevirtual 150, 3) := by decide +kernel
theorem dX4_selectNext_10 : decode cX4_selectNext 10 = .ok (.istore_n 1, 1) := by decide +kernel
theorem dX4_selectNext_11 : decode cX4_selectNext 11 = .ok (.iload_n 1, 1) := by decide +kernel
theorem dX4_selectNext_12 : decode cX4_selectNext 12 = .ok (.iconst (-1), 1) := by decide +kernel
theorem dX4_selectNext_13 : decode cX4_selectNext 13 = .ok (.if_icmp .eq 7, 3) := by decide +kernel
theorem dX4_selectNext_16 : decode cX4_selectNext 16 = .ok (.iload_n 1, 1) := by decide +kernel
theorem dX4_selectNext_17 : decode cX4_selectNext 17 = .ok (.goto 8, 3) := by decide +kernel
theorem dX4_selectNext_20 : decode cX4_selectNext 20 = .ok (.aload_n 0, 1) := by decide +kernel
theorem dX4_selectNext_21 : decode cX4_selectNext 21 = .ok (.iconst 0, 1) := by decide +kernel
theorem dX4_selectNext_22 : decode cX4_selectNext 22 = .ok (.invokevirtual 150, 3) := by decide +kernel
theorem dX4_selectNext_25 : decode cX4_selectNext 25 = .ok (.ireturn, 1) := by decide +kernel
set_option maxRecDepth 20000 in
theorem ggX4_firstAvailableFrom_X4_serverAt : GoodIn wsX4_firstAvailableFrom wsX4_serverAt := goodIn_ca (goodIn_r _ [6, 7, 8, 1, 9, 27, 28, 29, 30, 31, 32, 33, 34, 35, 36, 37, 38, 39, 40] (by decide +kernel) (by decide +kernel)) (goodIn_sub (fun _ h => List.mem_cons_of_mem _ (List.mem_append_right _ h)) (by decide +kernel))
set_option maxRecDepth 20000 in
theorem gX4_firstAvailableFrom_X4_serverAt : GoodIn wsX4_firstAvailableFrom (wsV RX4 126 RX4 yX4_serverAt wsX4_serverAt) := goodIn_app (goodIn_of _ (by decide +kernel)) ggX4_firstAvailableFrom_X4_serverAt
set_option maxRecDepth 20000 in
theorem ggX4_firstAvailableFrom_X3_accepts : GoodIn wsX4_firstAvailableFrom wsX3_accepts := goodIn_r _ [14, 15, 16, 17, 18, 19, 20, 21, 22, 23, 24, 25, 26, 41, 42, 43, 44, 45, 46, 47, 48, 49, 50, 51, 52, 53, 54, 55] (by decide +kernel) (by decide +kernel)
set_option maxRecDepth 20000 in
theorem gX4_firstAvailableFrom_X3_accepts : GoodIn wsX4_firstAvailableFrom (wsV RX4 130 RX3 yX3_accepts wsX3_accepts) := goodIn_app (goodIn_of _ (by decide +kernel)) ggX4_firstAvailableFrom_X3_accepts
theorem dX4_firstAvailableFrom_0 : decode cX4_firstAvailableFrom 0 = .ok (.iload_n 1, 1) := by decide +kernel
theorem dX4_firstAvailableFrom_1 : decode cX4_firstAvailableFrom 1 = .ok (.istore_n 2, 1) := by decide +kernel
theorem dX4_firstAvailableFrom_2 : decode cX4_firstAvailableFrom 2 = .ok (.iload_n 2, 1) := by decide +kernel
theorem dX4_firstAvailableFrom_3 : decode cX4_firstAvailableFrom 3 = .ok (.aload_n 0, 1) := by decide +kernel
theorem dX4_firstAvailableFrom_4 : decode cX4_firstAvailableFrom 4 = .ok (.getfield 51, 3) := by decide +kernel
theorem dX4_firstAvailableFrom_7 : decode cX4_firstAvailableFrom 7 = .ok (.if_icmp .ge 22, 3) := by decide +kernel
theorem dX4_firstAvailableFrom_10 : decode cX4_firstAvailableFrom 10 = .ok (.aload_n 0, 1) := by decide +kernel
theorem dX4_firstAvailableFrom_11 : decode cX4_firstAvailableFrom 11 = .ok (.iload_n 2, 1) := by decide +kernel
theorem dX4_firstAvailableFrom_12 : decode cX4_firstAvailableFrom 12 = .ok (.invokevirtual 126, 3) := by decide +kernel
theorem dX4_firstAvailableFrom_15 : decode cX4_firstAvailableFrom 15 = .ok (.invokevirtual 130, 3) := by decide +kernel
theorem dX4_firstAvailableFrom_18 : decode cX4_firstAvailableFrom 18 = .ok (.ifCond .eq 5, 3) := by decide +kernel
theorem dX4_firstAvailableFrom_21 : decode cX4_firstAvailableFrom 21 = .ok (.iload_n 2, 1) := by decide +kernel
theorem dX4_firstAvailableFrom_22 : decode cX4_firstAvailableFrom 22 = .ok (.ireturn, 1) := by decide +kernel
theorem dX4_firstAvailableFrom_23 : decode cX4_firstAvailableFrom 23 = .ok (.iinc 2 1, 3) := by decide +kernel
theorem dX4_firstAvailableFrom_26 : decode cX4_firstAvailableFrom 26 = .ok (.goto (-24), 3) := by decide +kernel
theorem dX4_firstAvailableFrom_29 : decode cX4_firstAvailableFrom 29 = .ok (.iconst (-1), 1) := by decide +kernel
theorem dX4_firstAvailableFrom_30 : decode cX4_firstAvailableFrom 30 = .ok (.ireturn, 1) := by decide +kernel
set_option maxRecDepth 20000 in
theorem ggX4_selectByCredit_X4_weightNow : GoodIn wsX4_selectByCredit wsX4_weightNow := goodIn_r _ [8, 9, 10, 11, 12, 13, 14, 15, 16, 17, 35, 36, 37, 38, 39, 40, 41, 42, 43, 44, 45, 46, 47, 48, 49, 50, 51, 52, 53, 54, 55, 56, 57, 58] (by decide +kernel) (by decide +kernel)
set_option maxRecDepth 20000 in
theorem gX4_selectByCredit_X4_weightNow : GoodIn wsX4_selectByCredit (wsV RX4 153 RX4 yX4_weightNow wsX4_weightNow) := goodIn_app (goodIn_of _ (by decide +kernel)) ggX4_selectByCredit_X4_weightNow
set_option maxRecDepth 20000 in
theorem ggX4_selectByCredit_X3_accepts : GoodIn wsX4_selectByCredit wsX3_accepts := goodIn_r _ [22, 23, 24, 25, 26, 27, 28, 29, 30, 31, 32, 33, 34, 49, 50, 51, 52, 53, 54, 55, 56, 57, 58, 59, 60, 61, 62, 63] (by decide +kernel) (by decide +kernel)
set_option maxRecDepth 20000 in
theorem gX4_selectByCredit_X3_accepts : GoodIn wsX4_selectByCredit (wsV RX4 130 RX3 yX3_accepts wsX3_accepts) := goodIn_app (goodIn_of _ (by decide +kernel)) ggX4_selectByCredit_X3_accepts
theorem dX4_selectByCredit_0 : decode cX4_selectByCredit 0 = .ok (.iconst (-1), 1) := by decide +kernel
theorem dX4_selectByCredit_1 : decode cX4_selectByCredit 1 = .ok (.istore_n 1, 1) := by decide +kernel
theorem dX4_selectByCredit_2 : decode cX4_selectByCredit 2 = .ok (.iconst 0, 1) := by decide +kernel
theorem dX4_selectByCredit_3 : decode cX4_selectByCredit 3 = .ok (.istore_n 2, 1) := by decide +kernel
theorem dX4_selectByCredit_4 : decode cX4_selectByCredit 4 = .ok (.iconst 0, 1) := by decide +kernel
theorem dX4_selectByCredit_5 : decode cX4_selectByCredit 5 = .ok (.istore_n 3, 1) := by decide +kernel
theorem dX4_selectByCredit_6 : decode cX4_selectByCredit 6 = .ok (.iload_n 3, 1) := by decide +kernel
theorem dX4_selectByCredit_7 : decode cX4_selectByCredit 7 = .ok (.aload_n 0, 1) := by decide +kernel
theorem dX4_selectByCredit_8 : decode cX4_selectByCredit 8 = .ok (.getfield 51, 3) := by decide +kernel
theorem dX4_selectByCredit_11 : decode cX4_selectByCredit 11 = .ok (.if_icmp .ge 55, 3) := by decide +kernel
theorem dX4_selectByCredit_14 : decode cX4_selectByCredit 14 = .ok (.aload_n 0, 1) := by decide +kernel
theorem dX4_selectByCredit_15 : decode cX4_selectByCredit 15 = .ok (.getfield 11, 3) := by decide +kernel
theorem dX4_selectByCredit_18 : decode cX4_selectByCredit 18 = .ok (.iload_n 3, 1) := by decide +kernel
theorem dX4_selectByCredit_19 : decode cX4_selectByCredit 19 = .ok (.aaload, 1) := by decide +kernel
theorem dX4_selectByCredit_20 : decode cX4_selectByCredit 20 = .ok (.astore 4, 2) := by decide +kernel
theorem dX4_selectByCredit_22 : decode cX4_selectByCredit 22 = .ok (.aload 4, 2) := by decide +kernel
theorem dX4_selectByCredit_24 : decode cX4_selectByCredit 24 = .ok (.getfield 65, 3) := by decide +kernel
theorem dX4_selectByCredit_27 : decode cX4_selectByCredit 27 = .ok (.aload_n 0, 1) := by decide +kernel
theorem dX4_selectByCredit_28 : decode cX4_selectByCredit 28 = .ok (.aload 4, 2) := by decide +kernel
theorem dX4_selectByCredit_30 : decode cX4_selectByCredit 30 = .ok (.invokevirtual 153, 3) := by decide +kernel
theorem dX4_selectByCredit_33 : decode cX4_selectByCredit 33 = .ok (.iadd, 1) := by decide +kernel
theorem dX4_selectByCredit_34 : decode cX4_selectByCredit 34 = .ok (.istore 5, 2) := by decide +kernel
theorem dX4_selectByCredit_36 : decode cX4_selectByCredit 36 = .ok (.aload 4, 2) := by decide +kernel
theorem dX4_selectByCredit_38 : decode cX4_selectByCredit 38 = .ok (.invokevirtual 130, 3) := by decide +kernel
theorem dX4_selectByCredit_41 : decode cX4_selectByCredit 41 = .ok (.ifCond .eq 19, 3) := by decide +kernel
theorem dX4_selectByCredit_44 : decode cX4_selectByCredit 44 = .ok (.iload_n 1, 1) := by decide +kernel
theorem dX4_selectByCredit_45 : decode cX4_selectByCredit 45 = .ok (.iconst (-1), 1) := by decide +kernel
theorem dX4_selectByCredit_46 : decode cX4_selectByCredit 46 = .ok (.if_icmp .eq 9, 3) := by decide +kernel
theorem dX4_selectByCredit_49 : decode cX4_selectByCredit 49 = .ok (.iload 5, 2) := by decide +kernel
theorem dX4_selectByCredit_51 : decode cX4_selectByCredit 51 = .ok (.iload_n 2, 1) := by decide +kernel
theorem dX4_selectByCredit_52 : decode cX4_selectByCredit 52 = .ok (.if_icmp .le 8, 3) := by decide +kernel
theorem dX4_selectByCredit_55 : decode cX4_selectByCredit 55 = .ok (.iload_n 3, 1) := by decide +kernel
theorem dX4_selectByCredit_56 : decode cX4_selectByCredit 56 = .ok (.istore_n 1, 1) := by decide +kernel
theorem dX4_selectByCredit_57 : decode cX4_selectByCredit 57 = .ok (.iload 5, 2) := by decide +kernel
theorem dX4_selectByCredit_59 : decode cX4_selectByCredit 59 = .ok (.istore_n 2, 1) := by decide +kernel
theorem dX4_selectByCredit_60 : decode cX4_selectByCredit 60 = .ok (.iinc 3 1, 3) := by decide +kernel
theorem dX4_selectByCredit_63 : decode cX4_selectByCredit 63 = .ok (.goto (-57), 3) := by decide +kernel
theorem dX4_selectByCredit_66 : decode cX4_selectByCredit 66 = .ok (.iload_n 1, 1) := by decide +kernel
theorem dX4_selectByCredit_67 : decode cX4_selectByCredit 67 = .ok (.ireturn, 1) := by decide +kernel
set_option maxRecDepth 20000 in
theorem ggX4_selectLeastLoaded_X3_accepts : GoodIn wsX4_selectLeastLoaded wsX3_accepts := goodIn_r _ [7, 8, 9, 10, 11, 12, 13, 14, 15, 16, 17, 18, 19, 59, 60, 61, 62, 63, 64, 65, 66, 67, 68, 69, 70, 71, 72, 73] (by decide +kernel) (by decide +kernel)
set_option maxRecDepth 20000 in
theorem gX4_selectLeastLoaded_X3_accepts : GoodIn wsX4_selectLeastLoaded (wsV RX4 130 RX3 yX3_accepts wsX3_accepts) := goodIn_app (goodIn_of _ (by decide +kernel)) ggX4_selectLeastLoaded_X3_accepts
set_option maxRecDepth 20000 in
theorem ggX4_selectLeastLoaded_X4_serverAt : GoodIn wsX4_selectLeastLoaded wsX4_serverAt := goodIn_ca (goodIn_r _ [24, 25, 26, 1, 2, 45, 46, 47, 48, 49, 50, 51, 52, 53, 54, 55, 56, 57, 58] (by decide +kernel) (by decide +kernel)) (goodIn_sub (fun _ h => List.mem_cons_of_mem _ (List.mem_append_right _ h)) (by decide +kernel))
set_option maxRecDepth 20000 in
theorem gX4_selectLeastLoaded_X4_serverAt : GoodIn wsX4_selectLeastLoaded (wsV RX4 126 RX4 yX4_serverAt wsX4_serverAt) := goodIn_app (goodIn_of _ (by decide +kernel)) ggX4_selectLeastLoaded_X4_serverAt
set_option maxRecDepth 20000 in
theorem ggX4_selectLeastLoaded_X4_isLessLoaded : GoodIn wsX4_selectLeastLoaded wsX4_isLessLoaded := goodIn_r _ [30, 31, 32, 33, 34, 23, 35, 36, 37, 38, 39, 40, 41, 42, 43, 44, 59, 60, 61, 62, 63, 64, 65, 66, 67, 68, 45, 46, 47, 48, 49, 50, 51, 52, 53, 54, 55, 56, 57, 58] (by decide +kernel) (by decide +kernel)
set_option maxRecDepth 20000 in
theorem gX4_selectLeastLoaded_X4_isLessLoaded : GoodIn wsX4_selectLeastLoaded (wsV RX4 157 RX4 yX4_isLessLoaded wsX4_isLessLoaded) := goodIn_app (goodIn_of _ (by decide +kernel)) ggX4_selectLeastLoaded_X4_isLessLoaded
theorem dX4_selectLeastLoaded_0 : decode cX4_selectLeastLoaded 0 = .ok (.iconst (-1), 1) := by decide +kernel
theorem dX4_selectLeastLoaded_1 : decode cX4_selectLeastLoaded 1 = .ok (.istore_n 1, 1) := by decide +kernel
theorem dX4_selectLeastLoaded_2 : decode cX4_selectLeastLoaded 2 = .ok (.iconst 0, 1) := by decide +kernel
theorem dX4_selectLeastLoaded_3 : decode cX4_selectLeastLoaded 3 = .ok (.istore_n 2, 1) := by decide +kernel
theorem dX4_selectLeastLoaded_4 : decode cX4_selectLeastLoaded 4 = .ok (.iload_n 2, 1) := by decide +kernel
theorem dX4_selectLeastLoaded_5 : decode cX4_selectLeastLoaded 5 = .ok (.aload_n 0, 1) := by decide +kernel
theorem dX4_selectLeastLoaded_6 : decode cX4_selectLeastLoaded 6 = .ok (.getfield 51, 3) := by decide +kernel
theorem dX4_selectLeastLoaded_9 : decode cX4_selectLeastLoaded 9 = .ok (.if_icmp .ge 46, 3) := by decide +kernel
theorem dX4_selectLeastLoaded_12 : decode cX4_selectLeastLoaded 12 = .ok (.aload_n 0, 1) := by decide +kernel
theorem dX4_selectLeastLoaded_13 : decode cX4_selectLeastLoaded 13 = .ok (.getfield 11, 3) := by decide +kernel
theorem dX4_selectLeastLoaded_16 : decode cX4_selectLeastLoaded 16 = .ok (.iload_n 2, 1) := by decide +kernel
theorem dX4_selectLeastLoaded_17 : decode cX4_selectLeastLoaded 17 = .ok (.aaload, 1) := by decide +kernel
theorem dX4_selectLeastLoaded_18 : decode cX4_selectLeastLoaded 18 = .ok (.invokevirtual 130, 3) := by decide +kernel
theorem dX4_selectLeastLoaded_21 : decode cX4_selectLeastLoaded 21 = .ok (.ifCond .eq 28, 3) := by decide +kernel
theorem dX4_selectLeastLoaded_24 : decode cX4_selectLeastLoaded 24 = .ok (.iload_n 1, 1) := by decide +kernel
theorem dX4_selectLeastLoaded_25 : decode cX4_selectLeastLoaded 25 = .ok (.iconst (-1), 1) := by decide +kernel
theorem dX4_selectLeastLoaded_26 : decode cX4_selectLeastLoaded 26 = .ok (.if_icmp .eq 21, 3) := by decide +kernel
theorem dX4_selectLeastLoaded_29 : decode cX4_selectLeastLoaded 29 = .ok (.aload_n 0, 1) := by decide +kernel
theorem dX4_selectLeastLoaded_30 : decode cX4_selectLeastLoaded 30 = .ok (.aload_n 0, 1) := by decide +kernel
theorem dX4_selectLeastLoaded_31 : decode cX4_selectLeastLoaded 31 = .ok (.getfield 11, 3) := by decide +kernel
theorem dX4_selectLeastLoaded_34 : decode cX4_selectLeastLoaded 34 = .ok (.iload_n 2, 1) := by decide +kernel
theorem dX4_selectLeastLoaded_35 : decode cX4_selectLeastLoaded 35 = .ok (.aaload, 1) := by decide +kernel
theorem dX4_selectLeastLoaded_36 : decode cX4_selectLeastLoaded 36 = .ok (.aload_n 0, 1) := by decide +kernel
theorem dX4_selectLeastLoaded_37 : decode cX4_selectLeastLoaded 37 = .ok (.iload_n 1, 1) := by decide +kernel
theorem dX4_selectLeastLoaded_38 : decode cX4_selectLeastLoaded 38 = .ok (.invokevirtual 126, 3) := by decide +kernel
theorem dX4_selectLeastLoaded_41 : decode cX4_selectLeastLoaded 41 = .ok (.invokevirtual 157, 3) := by decide +kernel
theorem dX4_selectLeastLoaded_44 : decode cX4_selectLeastLoaded 44 = .ok (.ifCond .eq 5, 3) := by decide +kernel
theorem dX4_selectLeastLoaded_47 : decode cX4_selectLeastLoaded 47 = .ok (.iload_n 2, 1) := by decide +kernel
theorem dX4_selectLeastLoaded_48 : decode cX4_selectLeastLoaded 48 = .ok (.istore_n 1, 1) := by decide +kernel
theorem dX4_selectLeastLoaded_49 : decode cX4_selectLeastLoaded 49 = .ok (.iinc 2 1, 3) := by decide +kernel
theorem dX4_selectLeastLoaded_52 : decode cX4_selectLeastLoaded 52 = .ok (.goto (-48), 3) := by decide +kernel
theorem dX4_selectLeastLoaded_55 : decode cX4_selectLeastLoaded 55 = .ok (.iload_n 1, 1) := by decide +kernel
theorem dX4_selectLeastLoaded_56 : decode cX4_selectLeastLoaded 56 = .ok (.ireturn, 1) := by decide +kernel
set_option maxRecDepth 20000 in
theorem ggX4_isLessLoaded_X4_weightNow : GoodIn wsX4_isLessLoaded wsX4_weightNow := goodIn_r _ [6, 7, 8, 9, 10, 11, 12, 13, 14, 15, 26, 27, 28, 29, 30, 31, 32, 33, 34, 35, 36, 37, 38, 39, 16, 17, 18, 19, 20, 21, 22, 23, 24, 25] (by decide +kernel) (by decide +kernel)
set_option maxRecDepth 20000 in
theorem gX4_isLessLoaded_X4_weightNow : GoodIn wsX4_isLessLoaded (wsV RX4 153 RX4 yX4_weightNow wsX4_weightNow) := goodIn_app (goodIn_of _ (by decide +kernel)) ggX4_isLessLoaded_X4_weightNow
theorem dX4_isLessLoaded_0 : decode cX4_isLessLoaded 0 = .ok (.aload_n 1, 1) := by decide +kernel
theorem dX4_isLessLoaded_1 : decode cX4_isLessLoaded 1 = .ok (.getfield 80, 3) := by decide +kernel
theorem dX4_isLessLoaded_4 : decode cX4_isLessLoaded 4 = .ok (.aload_n 0, 1) := by decide +kernel
theorem dX4_isLessLoaded_5 : decode cX4_isLessLoaded 5 = .ok (.aload_n 2, 1) := by decide +kernel
theorem dX4_isLessLoaded_6 : decode cX4_isLessLoaded 6 = .ok (.invokevirtual 153, 3) := by decide +kernel
theorem dX4_isLessLoaded_9 : decode cX4_isLessLoaded 9 = .ok (.imul, 1) := by decide +kernel
theorem dX4_isLessLoaded_10 : decode cX4_isLessLoaded 10 = .ok (.aload_n 2, 1) := by decide +kernel
theorem dX4_isLessLoaded_11 : decode cX4_isLessLoaded 11 = .ok (.getfield 80, 3) := by decide +kernel
theorem dX4_isLessLoaded_14 : decode cX4_isLessLoaded 14 = .ok (.aload_n 0, 1) := by decide +kernel
theorem dX4_isLessLoaded_15 : decode cX4_isLessLoaded 15 = .ok (.aload_n 1, 1) := by decide +kernel
theorem dX4_isLessLoaded_16 : decode cX4_isLessLoaded 16 = .ok (.invokevirtual 153, 3) := by decide +kernel
theorem dX4_isLessLoaded_19 : decode cX4_isLessLoaded 19 = .ok (.imul, 1) := by decide +kernel
theorem dX4_isLessLoaded_20 : decode cX4_isLessLoaded 20 = .ok (.if_icmp .ge 7, 3) := by decide +kernel
theorem dX4_isLessLoaded_23 : decode cX4_isLessLoaded 23 = .ok (.iconst 1, 1) := by decide +kernel
theorem dX4_isLessLoaded_24 : decode cX4_isLessLoaded 24 = .ok (.goto 4, 3) := by decide +kernel
theorem dX4_isLessLoaded_27 : decode cX4_isLessLoaded 27 = .ok (.iconst 0, 1) := by decide +kernel
theorem dX4_isLessLoaded_28 : decode cX4_isLessLoaded 28 = .ok (.ireturn, 1) := by decide +kernel
set_option maxRecDepth 20000 in
theorem ggX4_firstOnRing_X5_mix : GoodIn wsX4_firstOnRing wsX5_mix := goodIn_r _ [5, 6] (by decide +kernel) (by decide +kernel)
set_option maxRecDepth 20000 in
theorem gX4_firstOnRing_X5_mix_n161 : GoodIn wsX4_firstOnRing (wsX5_mix) := ggX4_firstOnRing_X5_mix
set_option maxRecDepth 20000 in
theorem ggX4_firstOnRing_X3_accepts : GoodIn wsX4_firstOnRing wsX3_accepts := goodIn_r _ [11, 12, 13, 14, 15, 16, 17, 18, 19, 20, 21, 22, 23, 46, 47, 48, 49, 50, 51, 52, 53, 54, 55, 56, 57, 58, 59, 60] (by decide +kernel) (by decide +kernel)
set_option maxRecDepth 20000 in
theorem gX4_firstOnRing_X3_accepts : GoodIn wsX4_firstOnRing (wsV RX4 130 RX3 yX3_accepts wsX3_accepts) := goodIn_app (goodIn_of _ (by decide +kernel)) ggX4_firstOnRing_X3_accepts
set_option maxRecDepth 20000 in
theorem ggX4_firstOnRing_X3_ringDistance : GoodIn wsX4_firstOnRing wsX3_ringDistance := goodIn_r _ [27, 28, 3, 4, 5, 6, 29, 30, 31, 46, 47, 48, 49, 50, 51, 52, 53, 54, 55] (by decide +kernel) (by decide +kernel)
set_option maxRecDepth 20000 in
theorem gX4_firstOnRing_X3_ringDistance : GoodIn wsX4_firstOnRing (wsV RX4 164 RX3 yX3_ringDistance wsX3_ringDistance) := goodIn_app (goodIn_of _ (by decide +kernel)) ggX4_firstOnRing_X3_ringDistance
set_option maxRecDepth 20000 in
theorem ggX4_firstOnRing_X5_isBelowUnsigned : GoodIn wsX4_firstOnRing wsX5_isBelowUnsigned := goodIn_r _ [30, 31] (by decide +kernel) (by decide +kernel)
set_option maxRecDepth 20000 in
theorem gX4_firstOnRing_X5_isBelowUnsigned_n167 : GoodIn wsX4_firstOnRing (wsX5_isBelowUnsigned) := ggX4_firstOnRing_X5_isBelowUnsigned
theorem dX4_firstOnRing_0 : decode cX4_firstOnRing 0 = .ok (.iload_n 1, 1) := by decide +kernel
theorem dX4_firstOnRing_1 : decode cX4_firstOnRing 1 = .ok (.invokestatic 161, 3) := by decide +kernel
theorem dX4_firstOnRing_4 : decode cX4_firstOnRing 4 = .ok (.istore_n 3, 1) := by decide +kernel
theorem dX4_firstOnRing_5 : decode cX4_firstOnRing 5 = .ok (.iconst (-1), 1) := by decide +kernel
theorem dX4_firstOnRing_6 : decode cX4_firstOnRing 6 = .ok (.istore 4, 2) := by decide +kernel
theorem dX4_firstOnRing_8 : decode cX4_firstOnRing 8 = .ok (.iconst 0, 1) := by decide +kernel
theorem dX4_firstOnRing_9 : decode cX4_firstOnRing 9 = .ok (.istore 5, 2) := by decide +kernel
theorem dX4_firstOnRing_11 : decode cX4_firstOnRing 11 = .ok (.iconst 0, 1) := by decide +kernel
theorem dX4_firstOnRing_12 : decode cX4_firstOnRing 12 = .ok (.istore 6, 2) := by decide +kernel
theorem dX4_firstOnRing_14 : decode cX4_firstOnRing 14 = .ok (.iload 6, 2) := by decide +kernel
theorem dX4_firstOnRing_16 : decode cX4_firstOnRing 16 = .ok (.aload_n 0, 1) := by decide +kernel
theorem dX4_firstOnRing_17 : decode cX4_firstOnRing 17 = .ok (.getfield 51, 3) := by decide +kernel
theorem dX4_firstOnRing_20 : decode cX4_firstOnRing 20 = .ok (.if_icmp .ge 65, 3) := by decide +kernel
theorem dX4_firstOnRing_23 : decode cX4_firstOnRing 23 = .ok (.iload_n 2, 1) := by decide +kernel
theorem dX4_firstOnRing_24 : decode cX4_firstOnRing 24 = .ok (.ifCond .eq 16, 3) := by decide +kernel
theorem dX4_firstOnRing_27 : decode cX4_firstOnRing 27 = .ok (.aload_n 0, 1) := by decide +kernel
theorem dX4_firstOnRing_28 : decode cX4_firstOnRing 28 = .ok (.getfield 11, 3) := by decide +kernel
theorem dX4_firstOnRing_31 : decode cX4_firstOnRing 31 = .ok (.iload 6, 2) := by decide +kernel
theorem dX4_firstOnRing_33 : decode cX4_firstOnRing 33 = .ok (.aaload, 1) := by decide +kernel
theorem dX4_firstOnRing_34 : decode cX4_firstOnRing 34 = .ok (.invokevirtual 130, 3) := by decide +kernel
theorem dX4_firstOnRing_37 : decode cX4_firstOnRing 37 = .ok (.ifCond .eq 42, 3) := by decide +kernel
theorem dX4_firstOnRing_40 : decode cX4_firstOnRing 40 = .ok (.aload_n 0, 1) := by decide +kernel
theorem dX4_firstOnRing_41 : decode cX4_firstOnRing 41 = .ok (.getfield 11, 3) := by decide +kernel
theorem dX4_firstOnRing_44 : decode cX4_firstOnRing 44 = .ok (.iload 6, 2) := by decide +kernel
theorem dX4_firstOnRing_46 : decode cX4_firstOnRing 46 = .ok (.aaload, 1) := by decide +kernel
theorem dX4_firstOnRing_47 : decode cX4_firstOnRing 47 = .ok (.iload 6, 2) := by decide +kernel
theorem dX4_firstOnRing_49 : decode cX4_firstOnRing 49 = .ok (.iload_n 3, 1) := by decide +kernel
theorem dX4_firstOnRing_50 : decode cX4_firstOnRing 50 = .ok (.invokevirtual 164, 3) := by decide +kernel
theorem dX4_firstOnRing_53 : decode cX4_firstOnRing 53 = .ok (.istore 7, 2) := by decide +kernel
theorem dX4_firstOnRing_55 : decode cX4_firstOnRing 55 = .ok (.iload 4, 2) := by decide +kernel
theorem dX4_firstOnRing_57 : decode cX4_firstOnRing 57 = .ok (.iconst (-1), 1) := by decide +kernel
theorem dX4_firstOnRing_58 : decode cX4_firstOnRing 58 = .ok (.if_icmp .eq 13, 3) := by decide +kernel
theorem dX4_firstOnRing_61 : decode cX4_firstOnRing 61 = .ok (.iload 7, 2) := by decide +kernel
theorem dX4_firstOnRing_63 : decode cX4_firstOnRing 63 = .ok (.iload 5, 2) := by decide +kernel
theorem dX4_firstOnRing_65 : decode cX4_firstOnRing 65 = .ok (.invokestatic 167, 3) := by decide +kernel
theorem dX4_firstOnRing_68 : decode cX4_firstOnRing 68 = .ok (.ifCond .eq 11, 3) := by decide +kernel
theorem dX4_firstOnRing_71 : decode cX4_firstOnRing 71 = .ok (.iload 6, 2) := by decide +kernel
theorem dX4_firstOnRing_73 : decode cX4_firstOnRing 73 = .ok (.istore 4, 2) := by decide +kernel
theorem dX4_firstOnRing_75 : decode cX4_firstOnRing 75 = .ok (.iload 7, 2) := by decide +kernel
theorem dX4_firstOnRing_77 : decode cX4_firstOnRing 77 = .ok (.istore 5, 2) := by decide +kernel
theorem dX4_firstOnRing_79 : decode cX4_firstOnRing 79 = .ok (.iinc 6 1, 3) := by decide +kernel
theorem dX4_firstOnRing_82 : decode cX4_firstOnRing 82 = .ok (.goto (-68), 3) := by decide +kernel
theorem dX4_firstOnRing_85 : decode cX4_firstOnRing 85 = .ok (.iload 4, 2) := by decide +kernel
theorem dX4_firstOnRing_87 : decode cX4_firstOnRing 87 = .ok (.ireturn, 1) := by decide +kernel
set_option maxRecDepth 20000 in
theorem ggX4_selectOfTwo_X4_availableCount : GoodIn wsX4_selectOfTwo wsX4_availableCount := goodIn_r _ [7, 8, 9, 10, 11, 12, 13, 14, 15, 16, 17, 18, 19, 20, 21, 22, 23, 24, 25, 26, 41, 42, 43, 44, 45, 46, 47, 48, 49, 50, 51, 52, 53, 54, 55, 56, 57, 58, 59, 60, 61, 62, 63, 64, 65, 66, 67, 68, 69] (by decide +kernel) (by decide +kernel)
set_option maxRecDepth 20000 in
theorem gX4_selectOfTwo_X4_availableCount : GoodIn wsX4_selectOfTwo (wsV RX4 171 RX4 yX4_availableCount wsX4_availableCount) := goodIn_app (goodIn_of _ (by decide +kernel)) ggX4_selectOfTwo_X4_availableCount
set_option maxRecDepth 20000 in
theorem ggX4_selectOfTwo_X5_nextSeed : GoodIn wsX4_selectOfTwo wsX5_nextSeed := goodIn_r _ [29, 30] (by decide +kernel) (by decide +kernel)
set_option maxRecDepth 20000 in
theorem gX4_selectOfTwo_X5_nextSeed_n174 : GoodIn wsX4_selectOfTwo (wsX5_nextSeed) := ggX4_selectOfTwo_X5_nextSeed
set_option maxRecDepth 20000 in
theorem ggX4_selectOfTwo_X4_availableAt : GoodIn wsX4_selectOfTwo wsX4_availableAt := goodIn_r _ [34, 8, 9, 10, 11, 12, 13, 14, 15, 16, 17, 18, 19, 20, 21, 22, 23, 24, 25, 26, 41, 42, 43, 44, 45, 46, 47, 48, 49, 50, 51, 52, 53, 54, 55, 56, 57, 58, 59, 60, 61, 62, 63, 64, 65, 66, 67, 68, 69] (by decide +kernel) (by decide +kernel)
set_option maxRecDepth 20000 in
theorem gX4_selectOfTwo_X4_availableAt : GoodIn wsX4_selectOfTwo (wsV RX4 177 RX4 yX4_availableAt wsX4_availableAt) := goodIn_app (goodIn_of _ (by decide +kernel)) ggX4_selectOfTwo_X4_availableAt
set_option maxRecDepth 20000 in
theorem ggX4_selectOfTwo_X4_serverAt : GoodIn wsX4_selectOfTwo wsX4_serverAt := goodIn_ca (goodIn_r _ [38, 39, 40, 8, 9, 41, 42, 43, 44, 45, 46, 47, 48, 49, 50, 51, 52, 53, 54] (by decide +kernel) (by decide +kernel)) (goodIn_sub (fun _ h => List.mem_cons_of_mem _ (List.mem_append_right _ h)) (by decide +kernel))
set_option maxRecDepth 20000 in
theorem gX4_selectOfTwo_X4_serverAt : GoodIn wsX4_selectOfTwo (wsV RX4 126 RX4 yX4_serverAt wsX4_serverAt) := goodIn_app (goodIn_of _ (by decide +kernel)) ggX4_selectOfTwo_X4_serverAt
theorem dX4_selectOfTwo_0 : decode cX4_selectOfTwo 0 = .ok (.aload_n 0, 1) := by decide +kernel
theorem dX4_selectOfTwo_1 : decode cX4_selectOfTwo 1 = .ok (.invokevirtual 171, 3) := by decide +kernel
theorem dX4_selectOfTwo_4 : decode cX4_selectOfTwo 4 = .ok (.istore_n 1, 1) := by decide +kernel
theorem dX4_selectOfTwo_5 : decode cX4_selectOfTwo 5 = .ok (.iload_n 1, 1) := by decide +kernel
theorem dX4_selectOfTwo_6 : decode cX4_selectOfTwo 6 = .ok (.ifCond .ne 5, 3) := by decide +kernel
theorem dX4_selectOfTwo_9 : decode cX4_selectOfTwo 9 = .ok (.iconst (-1), 1) := by decide +kernel
theorem dX4_selectOfTwo_10 : decode cX4_selectOfTwo 10 = .ok (.ireturn, 1) := by decide +kernel
theorem dX4_selectOfTwo_11 : decode cX4_selectOfTwo 11 = .ok (.aload_n 0, 1) := by decide +kernel
theorem dX4_selectOfTwo_12 : decode cX4_selectOfTwo 12 = .ok (.getfield 48, 3) := by decide +kernel
theorem dX4_selectOfTwo_15 : decode cX4_selectOfTwo 15 = .ok (.invokestatic 174, 3) := by decide +kernel
theorem dX4_selectOfTwo_18 : decode cX4_selectOfTwo 18 = .ok (.istore_n 2, 1) := by decide +kernel
theorem dX4_selectOfTwo_19 : decode cX4_selectOfTwo 19 = .ok (.iload_n 2, 1) := by decide +kernel
theorem dX4_selectOfTwo_20 : decode cX4_selectOfTwo 20 = .ok (.invokestatic 174, 3) := by decide +kernel
theorem dX4_selectOfTwo_23 : decode cX4_selectOfTwo 23 = .ok (.istore_n 3, 1) := by decide +kernel
theorem dX4_selectOfTwo_24 : decode cX4_selectOfTwo 24 = .ok (.aload_n 0, 1) := by decide +kernel
theorem dX4_selectOfTwo_25 : decode cX4_selectOfTwo 25 = .ok (.iload_n 2, 1) := by decide +kernel
theorem dX4_selectOfTwo_26 : decode cX4_selectOfTwo 26 = .ok (.bipush 16, 2) := by decide +kernel
theorem dX4_selectOfTwo_28 : decode cX4_selectOfTwo 28 = .ok (.iushr, 1) := by decide +kernel
theorem dX4_selectOfTwo_29 : decode cX4_selectOfTwo 29 = .ok (.iload_n 1, 1) := by decide +kernel
theorem dX4_selectOfTwo_30 : decode cX4_selectOfTwo 30 = .ok (.irem, 1) := by decide +kernel
theorem dX4_selectOfTwo_31 : decode cX4_selectOfTwo 31 = .ok (.invokevirtual 177, 3) := by decide +kernel
theorem dX4_selectOfTwo_34 : decode cX4_selectOfTwo 34 = .ok (.istore 4, 2) := by decide +kernel
theorem dX4_selectOfTwo_36 : decode cX4_selectOfTwo 36 = .ok (.aload_n 0, 1) := by decide +kernel
theorem dX4_selectOfTwo_37 : decode cX4_selectOfTwo 37 = .ok (.iload_n 3, 1) := by decide +kernel
theorem dX4_selectOfTwo_38 : decode cX4_selectOfTwo 38 = .ok (.bipush 16, 2) := by decide +kernel
theorem dX4_selectOfTwo_40 : decode cX4_selectOfTwo 40 = .ok (.iushr, 1) := by decide +kernel
theorem dX4_selectOfTwo_41 : decode cX4_selectOfTwo 41 = .ok (.iload_n 1, 1) := by decide +kernel
theorem dX4_selectOfTwo_42 : decode cX4_selectOfTwo 42 = .ok (.irem, 1) := by decide +kernel
theorem dX4_selectOfTwo_43 : decode cX4_selectOfTwo 43 = .ok (.invokevirtual 177, 3) := by decide +kernel
theorem dX4_selectOfTwo_46 : decode cX4_selectOfTwo 46 = .ok (.istore 5, 2) := by decide +kernel
theorem dX4_selectOfTwo_48 : decode cX4_selectOfTwo 48 = .ok (.aload_n 0, 1) := by decide +kernel
theorem dX4_selectOfTwo_49 : decode cX4_selectOfTwo 49 = .ok (.iload 5, 2) := by decide +kernel
theorem dX4_selectOfTwo_51 : decode cX4_selectOfTwo 51 = .ok (.invokevirtual 126, 3) := by decide +kernel
theorem dX4_selectOfTwo_54 : decode cX4_selectOfTwo 54 = .ok (.getfield 80, 3) := by decide +kernel
theorem dX4_selectOfTwo_57 : decode cX4_selectOfTwo 57 = .ok (.aload_n 0, 1) := by decide +kernel
theorem dX4_selectOfTwo_58 : decode cX4_selectOfTwo 58 = .ok (.iload 4, 2) := by decide +kernel
theorem dX4_selectOfTwo_60 : decode cX4_selectOfTwo 60 = .ok (.invokevirtual 126, 3) := by decide +kernel
theorem dX4_selectOfTwo_63 : decode cX4_selectOfTwo 63 = .ok (.getfield 80, 3) := by decide +kernel
theorem dX4_selectOfTwo_66 : decode cX4_selectOfTwo 66 = .ok (.if_icmp .ge 8, 3) := by decide +kernel
theorem dX4_selectOfTwo_69 : decode cX4_selectOfTwo 69 = .ok (.iload 5, 2) := by decide +kernel
theorem dX4_selectOfTwo_71 : decode cX4_selectOfTwo 71 = .ok (.goto 5, 3) := by decide +kernel
theorem dX4_selectOfTwo_74 : decode cX4_selectOfTwo 74 = .ok (.iload 4, 2) := by decide +kernel
theorem dX4_selectOfTwo_76 : decode cX4_selectOfTwo 76 = .ok (.ireturn, 1) := by decide +kernel
set_option maxRecDepth 20000 in
theorem ggX4_availableCount_X3_accepts : GoodIn wsX4_availableCount wsX3_accepts := goodIn_r _ [7, 8, 9, 10, 11, 12, 13, 14, 15, 16, 17, 18, 19, 34, 35, 36, 37, 38, 39, 40, 41, 42, 43, 44, 45, 46, 47, 48] (by decide +kernel) (by decide +kernel)
set_option maxRecDepth 20000 in
theorem gX4_availableCount_X3_accepts : GoodIn wsX4_availableCount (wsV RX4 130 RX3 yX3_accepts wsX3_accepts) := goodIn_app (goodIn_of _ (by decide +kernel)) ggX4_availableCount_X3_accepts
theorem dX4_availableCount_0 : decode cX4_availableCount 0 = .ok (.iconst 0, 1) := by decide +kernel
theorem dX4_availableCount_1 : decode cX4_availableCount 1 = .ok (.istore_n 1, 1) := by decide +kernel
theorem dX4_availableCount_2 : decode cX4_availableCount 2 = .ok (.iconst 0, 1) := by decide +kernel
theorem dX4_availableCount_3 : decode cX4_availableCount 3 = .ok (.istore_n 2, 1) := by decide +kernel
theorem dX4_availableCount_4 : decode cX4_availableCount 4 = .ok (.iload_n 2, 1) := by decide +kernel
theorem dX4_availableCount_5 : decode cX4_availableCount 5 = .ok (.aload_n 0, 1) := by decide +kernel
theorem dX4_availableCount_6 : decode cX4_availableCount 6 = .ok (.getfield 51, 3) := by decide +kernel
theorem dX4_availableCount_9 : decode cX4_availableCount 9 = .ok (.if_icmp .ge 24, 3) := by decide +kernel
theorem dX4_availableCount_12 : decode cX4_availableCount 12 = .ok (.aload_n 0, 1) := by decide +kernel
theorem dX4_availableCount_13 : decode cX4_availableCount 13 = .ok (.getfield 11, 3) := by decide +kernel
theorem dX4_availableCount_16 : decode cX4_availableCount 16 = .ok (.iload_n 2, 1) := by decide +kernel
theorem dX4_availableCount_17 : decode cX4_availableCount 17 = .ok (.aaload, 1) := by decide +kernel
theorem dX4_availableCount_18 : decode cX4_availableCount 18 = .ok (.invokevirtual 130, 3) := by decide +kernel
theorem dX4_availableCount_21 : decode cX4_availableCount 21 = .ok (.ifCond .eq 6, 3) := by decide +kernel
theorem dX4_availableCount_24 : decode cX4_availableCount 24 = .ok (.iinc 1 1, 3) := by decide +kernel
theorem dX4_availableCount_27 : decode cX4_availableCount 27 = .ok (.iinc 2 1, 3) := by decide +kernel
theorem dX4_availableCount_30 : decode cX4_availableCount 30 = .ok (.goto (-26), 3) := by decide +kernel
theorem dX4_availableCount_33 : decode cX4_availableCount 33 = .ok (.iload_n 1, 1) := by decide +kernel
theorem dX4_availableCount_34 : decode cX4_availableCount 34 = .ok (.ireturn, 1) := by decide +kernel
set_option maxRecDepth 20000 in
theorem ggX4_availableAt_X3_accepts : GoodIn wsX4_availableAt wsX3_accepts := goodIn_r _ [7, 8, 9, 10, 11, 12, 13, 14, 15, 16, 17, 18, 19, 34, 35, 36, 37, 38, 39, 40, 41, 42, 43, 44, 45, 46, 47, 48] (by decide +kernel) (by decide +kernel)
set_option maxRecDepth 20000 in
theorem gX4_availableAt_X3_accepts : GoodIn wsX4_availableAt (wsV RX4 130 RX3 yX3_accepts wsX3_accepts) := goodIn_app (goodIn_of _ (by decide +kernel)) ggX4_availableAt_X3_accepts
theorem dX4_availableAt_0 : decode cX4_availableAt 0 = .ok (.iload_n 1, 1) := by decide +kernel
theorem dX4_availableAt_1 : decode cX4_availableAt 1 = .ok (.istore_n 2, 1) := by decide +kernel
theorem dX4_availableAt_2 : decode cX4_availableAt 2 = .ok (.iconst 0, 1) := by decide +kernel
theorem dX4_availableAt_3 : decode cX4_availableAt 3 = .ok (.istore_n 3, 1) := by decide +kernel
theorem dX4_availableAt_4 : decode cX4_availableAt 4 = .ok (.iload_n 3, 1) := by decide +kernel
theorem dX4_availableAt_5 : decode cX4_availableAt 5 = .ok (.aload_n 0, 1) := by decide +kernel
theorem dX4_availableAt_6 : decode cX4_availableAt 6 = .ok (.getfield 51, 3) := by decide +kernel
theorem dX4_availableAt_9 : decode cX4_availableAt 9 = .ok (.if_icmp .ge 30, 3) := by decide +kernel
theorem dX4_availableAt_12 : decode cX4_availableAt 12 = .ok (.aload_n 0, 1) := by decide +kernel
theorem dX4_availableAt_13 : decode cX4_availableAt 13 = .ok (.getfield 11, 3) := by decide +kernel
theorem dX4_availableAt_16 : decode cX4_availableAt 16 = .ok (.iload_n 3, 1) := by decide +kernel
theorem dX4_availableAt_17 : decode cX4_availableAt 17 = .ok (.aaload, 1) := by decide +kernel
theorem dX4_availableAt_18 : decode cX4_availableAt 18 = .ok (.invokevirtual 130, 3) := by decide +kernel
theorem dX4_availableAt_21 : decode cX4_availableAt 21 = .ok (.ifCond .eq 12, 3) := by decide +kernel
theorem dX4_availableAt_24 : decode cX4_availableAt 24 = .ok (.iload_n 2, 1) := by decide +kernel
theorem dX4_availableAt_25 : decode cX4_availableAt 25 = .ok (.ifCond .ne 5, 3) := by decide +kernel
theorem dX4_availableAt_28 : decode cX4_availableAt 28 = .ok (.iload_n 3, 1) := by decide +kernel
theorem dX4_availableAt_29 : decode cX4_availableAt 29 = .ok (.ireturn, 1) := by decide +kernel
theorem dX4_availableAt_30 : decode cX4_availableAt 30 = .ok (.iinc 2 (-1), 3) := by decide +kernel
theorem dX4_availableAt_33 : decode cX4_availableAt 33 = .ok (.iinc 3 1, 3) := by decide +kernel
theorem dX4_availableAt_36 : decode cX4_availableAt 36 = .ok (.goto (-32), 3) := by decide +kernel
theorem dX4_availableAt_39 : decode cX4_availableAt 39 = .ok (.iconst (-1), 1) := by decide +kernel
theorem dX4_availableAt_40 : decode cX4_availableAt 40 = .ok (.ireturn, 1) := by decide +kernel
set_option maxRecDepth 20000 in
theorem ggX4_noteSelection_X4_moveCredits : GoodIn wsX4_noteSelection wsX4_moveCredits := goodIn_ca (goodIn_r _ [8, 9, 10, 11, 12, 13, 14, 15, 16, 17, 18, 19, 20, 21, 22, 23, 24, 25, 26, 27, 28, 29, 30, 31, 7, 32, 33, 34, 35, 36, 37, 38, 39, 40, 41, 42, 43, 44, 45, 46, 47, 52, 53, 54, 55, 56, 57, 58, 59, 60, 61, 62, 63, 64, 65, 66, 67, 68, 69, 70, 71, 72, 73, 74, 75, 76, 77, 78, 79, 80] (by decide +kernel) (by decide +kernel)) (goodIn_sub (fun _ h => List.mem_cons_of_mem _ (List.mem_append_right _ h)) (by decide +kernel))
set_option maxRecDepth 20000 in
theorem gX4_noteSelection_X4_moveCredits : GoodIn wsX4_noteSelection (wsV RX4 180 RX4 yX4_moveCredits wsX4_moveCredits) := goodIn_app (goodIn_of _ (by decide +kernel)) ggX4_noteSelection_X4_moveCredits
set_option maxRecDepth 20000 in
theorem ggX4_noteSelection_X5_nextSeed : GoodIn wsX4_noteSelection wsX5_nextSeed := goodIn_r _ [50, 51] (by decide +kernel) (by decide +kernel)
set_option maxRecDepth 20000 in
theorem gX4_noteSelection_X5_nextSeed_n174 : GoodIn wsX4_noteSelection (wsX5_nextSeed) := ggX4_noteSelection_X5_nextSeed
theorem dX4_noteSelection_0 : decode cX4_noteSelection 0 = .ok (.aload_n 0, 1) := by decide +kernel
theorem dX4_noteSelection_1 : decode cX4_noteSelection 1 = .ok (.getfield 42, 3) := by decide +kernel
theorem dX4_noteSelection_4 : decode cX4_noteSelection 4 = .ok (.tableswitch 69 0 4 #[36, 44, 69, 69, 52], 36) := by decide +kernel
theorem dX4_noteSelection_40 : decode cX4_noteSelection 40 = .ok (.aload_n 0, 1) := by decide +kernel
theorem dX4_noteSelection_41 : decode cX4_noteSelection 41 = .ok (.iload_n 1, 1) := by decide +kernel
theorem dX4_noteSelection_42 : decode cX4_noteSelection 42 = .ok (.putfield 45, 3) := by decide +kernel
theorem dX4_noteSelection_45 : decode cX4_noteSelection 45 = .ok (.goto 28, 3) := by decide +kernel
theorem dX4_noteSelection_48 : decode cX4_noteSelection 48 = .ok (.aload_n 0, 1) := by decide +kernel
theorem dX4_noteSelection_49 : decode cX4_noteSelection 49 = .ok (.iload_n 1, 1) := by decide +kernel
theorem dX4_noteSelection_50 : decode cX4_noteSelection 50 = .ok (.invokevirtual 180, 3) := by decide +kernel
theorem dX4_noteSelection_53 : decode cX4_noteSelection 53 = .ok (.goto 20, 3) := by decide +kernel
theorem dX4_noteSelection_56 : decode cX4_noteSelection 56 = .ok (.aload_n 0, 1) := by decide +kernel
theorem dX4_noteSelection_57 : decode cX4_noteSelection 57 = .ok (.aload_n 0, 1) := by decide +kernel
theorem dX4_noteSelection_58 : decode cX4_noteSelection 58 = .ok (.getfield 48, 3) := by decide +kernel
theorem dX4_noteSelection_61 : decode cX4_noteSelection 61 = .ok (.invokestatic 174, 3) := by decide +kernel
theorem dX4_noteSelection_64 : decode cX4_noteSelection 64 = .ok (.invokestatic 174, 3) := by decide +kernel
theorem dX4_noteSelection_67 : decode cX4_noteSelection 67 = .ok (.putfield 48, 3) := by decide +kernel
theorem dX4_noteSelection_70 : decode cX4_noteSelection 70 = .ok (.goto 3, 3) := by decide +kernel
theorem dX4_noteSelection_73 : decode cX4_noteSelection 73 = .ok (.return_, 1) := by decide +kernel
set_option maxRecDepth 20000 in
theorem ggX4_moveCredits_X3_accepts : GoodIn wsX4_moveCredits wsX3_accepts := goodIn_r _ [8, 9, 10, 11, 12, 13, 14, 15, 16, 17, 18, 19, 20, 55, 56, 57, 58, 59, 60, 61, 62, 63, 64, 65, 66, 67, 68, 69] (by decide +kernel) (by decide +kernel)
set_option maxRecDepth 20000 in
theorem gX4_moveCredits_X3_accepts : GoodIn wsX4_moveCredits (wsV RX4 130 RX3 yX3_accepts wsX3_accepts) := goodIn_app (goodIn_of _ (by decide +kernel)) ggX4_moveCredits_X3_accepts
set_option maxRecDepth 20000 in
theorem ggX4_moveCredits_X4_weightNow : GoodIn wsX4_moveCredits wsX4_weightNow := goodIn_r _ [25, 26, 27, 28, 29, 30, 31, 32, 33, 34, 41, 42, 43, 44, 45, 46, 47, 48, 49, 50, 51, 52, 53, 54, 55, 56, 57, 58, 59, 60, 61, 62, 63, 64] (by decide +kernel) (by decide +kernel)
set_option maxRecDepth 20000 in
theorem gX4_moveCredits_X4_weightNow : GoodIn wsX4_moveCredits (wsV RX4 153 RX4 yX4_weightNow wsX4_weightNow) := goodIn_app (goodIn_of _ (by decide +kernel)) ggX4_moveCredits_X4_weightNow
set_option maxRecDepth 20000 in
theorem ggX4_moveCredits_X4_serverAt : GoodIn wsX4_moveCredits wsX4_serverAt := goodIn_ca (goodIn_r _ [38, 39, 40, 1, 2, 41, 42, 43, 44, 45, 46, 47, 48, 49, 50, 51, 52, 53, 54] (by decide +kernel) (by decide +kernel)) (goodIn_sub (fun _ h => List.mem_cons_of_mem _ (List.mem_append_right _ h)) (by decide +kernel))
set_option maxRecDepth 20000 in
theorem gX4_moveCredits_X4_serverAt : GoodIn wsX4_moveCredits (wsV RX4 126 RX4 yX4_serverAt wsX4_serverAt) := goodIn_app (goodIn_of _ (by decide +kernel)) ggX4_moveCredits_X4_serverAt
theorem dX4_moveCredits_0 : decode cX4_moveCredits 0 = .ok (.iconst 0, 1) := by decide +kernel
theorem dX4_moveCredits_1 : decode cX4_moveCredits 1 = .ok (.istore_n 2, 1) := by decide +kernel
theorem dX4_moveCredits_2 : decode cX4_moveCredits 2 = .ok (.iconst 0, 1) := by decide +kernel
theorem dX4_moveCredits_3 : decode cX4_moveCredits 3 = .ok (.istore_n 3, 1) := by decide +kernel
theorem dX4_moveCredits_4 : decode cX4_moveCredits 4 = .ok (.iload_n 3, 1) := by decide +kernel
theorem dX4_moveCredits_5 : decode cX4_moveCredits 5 = .ok (.aload_n 0, 1) := by decide +kernel
theorem dX4_moveCredits_6 : decode cX4_moveCredits 6 = .ok (.getfield 51, 3) := by decide +kernel
theorem dX4_moveCredits_9 : decode cX4_moveCredits 9 = .ok (.if_icmp .ge 50, 3) := by decide +kernel
theorem dX4_moveCredits_12 : decode cX4_moveCredits 12 = .ok (.aload_n 0, 1) := by decide +kernel
theorem dX4_moveCredits_13 : decode cX4_moveCredits 13 = .ok (.getfield 11, 3) := by decide +kernel
theorem dX4_moveCredits_16 : decode cX4_moveCredits 16 = .ok (.iload_n 3, 1) := by decide +kernel
theorem dX4_moveCredits_17 : decode cX4_moveCredits 17 = .ok (.aaload, 1) := by decide +kernel
theorem dX4_moveCredits_18 : decode cX4_moveCredits 18 = .ok (.astore 4, 2) := by decide +kernel
theorem dX4_moveCredits_20 : decode cX4_moveCredits 20 = .ok (.aload 4, 2) := by decide +kernel
theorem dX4_moveCredits_22 : decode cX4_moveCredits 22 = .ok (.invokevirtual 130, 3) := by decide +kernel
theorem dX4_moveCredits_25 : decode cX4_moveCredits 25 = .ok (.ifCond .eq 28, 3) := by decide +kernel
theorem dX4_moveCredits_28 : decode cX4_moveCredits 28 = .ok (.aload_n 0, 1) := by decide +kernel
theorem dX4_moveCredits_29 : decode cX4_moveCredits 29 = .ok (.aload 4, 2) := by decide +kernel
theorem dX4_moveCredits_31 : decode cX4_moveCredits 31 = .ok (.invokevirtual 153, 3) := by decide +kernel
theorem dX4_moveCredits_34 : decode cX4_moveCredits 34 = .ok (.istore 5, 2) := by decide +kernel
theorem dX4_moveCredits_36 : decode cX4_moveCredits 36 = .ok (.aload 4, 2) := by decide +kernel
theorem dX4_moveCredits_38 : decode cX4_moveCredits 38 = .ok (.dup, 1) := by decide +kernel
theorem dX4_moveCredits_39 : decode cX4_moveCredits 39 = .ok (.getfield 65, 3) := by decide +kernel
theorem dX4_moveCredits_42 : decode cX4_moveCredits 42 = .ok (.iload 5, 2) := by decide +kernel
theorem dX4_moveCredits_44 : decode cX4_moveCredits 44 = .ok (.iadd, 1) := by decide +kernel
theorem dX4_moveCredits_45 : decode cX4_moveCredits 45 = .ok (.putfield 65, 3) := by decide +kernel
theorem dX4_moveCredits_48 : decode cX4_moveCredits 48 = .ok (.iload_n 2, 1) := by decide +kernel
theorem dX4_moveCredits_49 : decode cX4_moveCredits 49 = .ok (.iload 5, 2) := by decide +kernel
theorem dX4_moveCredits_51 : decode cX4_moveCredits 51 = .ok (.iadd, 1) := by decide +kernel
theorem dX4_moveCredits_52 : decode cX4_moveCredits 52 = .ok (.istore_n 2, 1) := by decide +kernel
theorem dX4_moveCredits_53 : decode cX4_moveCredits 53 = .ok (.iinc 3 1, 3) := by decide +kernel
theorem dX4_moveCredits_56 : decode cX4_moveCredits 56 = .ok (.goto (-52), 3) := by decide +kernel
theorem dX4_moveCredits_59 : decode cX4_moveCredits 59 = .ok (.aload_n 0, 1) := by decide +kernel
theorem dX4_moveCredits_60 : decode cX4_moveCredits 60 = .ok (.iload_n 1, 1) := by decide +kernel
theorem dX4_moveCredits_61 : decode cX4_moveCredits 61 = .ok (.invokevirtual 126, 3) := by decide +kernel
theorem dX4_moveCredits_64 : decode cX4_moveCredits 64 = .ok (.dup, 1) := by decide +kernel
theorem dX4_moveCredits_65 : decode cX4_moveCredits 65 = .ok (.getfield 65, 3) := by decide +kernel
theorem dX4_moveCredits_68 : decode cX4_moveCredits 68 = .ok (.iload_n 2, 1) := by decide +kernel
theorem dX4_moveCredits_69 : decode cX4_moveCredits 69 = .ok (.isub, 1) := by decide +kernel
theorem dX4_moveCredits_70 : decode cX4_moveCredits 70 = .ok (.putfield 65, 3) := by decide +kernel
theorem dX4_moveCredits_73 : decode cX4_moveCredits 73 = .ok (.return_, 1) := by decide +kernel
set_option maxRecDepth 20000 in
theorem ggX4_connect_X2_append : GoodIn wsX4_connect wsX2_append := goodIn_r _ [11, 12, 13, 14, 15, 81, 82, 83, 84] (by decide +kernel) (by decide +kernel)
set_option maxRecDepth 20000 in
theorem gX4_connect_X2_append : GoodIn wsX4_connect (wsV RX4 184 RX2 yX2_append wsX2_append) := goodIn_app (goodIn_of _ (by decide +kernel)) ggX4_connect_X2_append
set_option maxRecDepth 20000 in
theorem ggX4_connect_X4_serverAt : GoodIn wsX4_connect wsX4_serverAt := goodIn_ca (goodIn_r _ [20, 21, 22, 23, 24, 57, 58, 59, 60, 61, 62, 63, 64, 65, 66, 67, 68, 69, 70] (by decide +kernel) (by decide +kernel)) (goodIn_sub (fun _ h => List.mem_cons_of_mem _ (List.mem_append_right _ h)) (by decide +kernel))
set_option maxRecDepth 20000 in
theorem gX4_connect_X4_serverAt : GoodIn wsX4_connect (wsV RX4 126 RX4 yX4_serverAt wsX4_serverAt) := goodIn_app (goodIn_of _ (by decide +kernel)) ggX4_connect_X4_serverAt
set_option maxRecDepth 20000 in
theorem ggX4_connect_X0_noteBegin : GoodIn wsX4_connect wsX0_noteBegin := goodIn_r _ [29, 30, 31, 85, 86, 87, 88, 89] (by decide +kernel) (by decide +kernel)
set_option maxRecDepth 20000 in
theorem gX4_connect_X0_noteBegin : GoodIn wsX4_connect (wsV RX4 187 RX0 yX0_noteBegin wsX0_noteBegin) := goodIn_app (goodIn_of _ (by decide +kernel)) ggX4_connect_X0_noteBegin
set_option maxRecDepth 20000 in
theorem ggX4_connect_X1_remember : GoodIn wsX4_connect wsX1_remember := goodIn_r _ [36, 37, 38, 39, 40, 41, 42, 35, 43, 44, 45, 46, 47, 48, 49, 50, 51, 52, 53, 54, 55, 56, 90, 91, 92, 93] (by decide +kernel) (by decide +kernel)
set_option maxRecDepth 20000 in
theorem gX4_connect_X1_remember : GoodIn wsX4_connect (wsV RX4 190 RX1 yX1_remember wsX1_remember) := goodIn_app (goodIn_of _ (by decide +kernel)) ggX4_connect_X1_remember
theorem dX4_connect_0 : decode cX4_connect 0 = .ok (.aload_n 0, 1) := by decide +kernel
theorem dX4_connect_1 : decode cX4_connect 1 = .ok (.getfield 21, 3) := by decide +kernel
theorem dX4_connect_4 : decode cX4_connect 4 = .ok (.iload_n 2, 1) := by decide +kernel
theorem dX4_connect_5 : decode cX4_connect 5 = .ok (.aload_n 0, 1) := by decide +kernel
theorem dX4_connect_6 : decode cX4_connect 6 = .ok (.getfield 72, 3) := by decide +kernel
theorem dX4_connect_9 : decode cX4_connect 9 = .ok (.invokevirtual 184, 3) := by decide +kernel
theorem dX4_connect_12 : decode cX4_connect 12 = .ok (.istore_n 3, 1) := by decide +kernel
theorem dX4_connect_13 : decode cX4_connect 13 = .ok (.aload_n 0, 1) := by decide +kernel
theorem dX4_connect_14 : decode cX4_connect 14 = .ok (.iload_n 2, 1) := by decide +kernel
theorem dX4_connect_15 : decode cX4_connect 15 = .ok (.invokevirtual 126, 3) := by decide +kernel
theorem dX4_connect_18 : decode cX4_connect 18 = .ok (.astore 4, 2) := by decide +kernel
theorem dX4_connect_20 : decode cX4_connect 20 = .ok (.aload 4, 2) := by decide +kernel
theorem dX4_connect_22 : decode cX4_connect 22 = .ok (.dup, 1) := by decide +kernel
theorem dX4_connect_23 : decode cX4_connect 23 = .ok (.getfield 80, 3) := by decide +kernel
theorem dX4_connect_26 : decode cX4_connect 26 = .ok (.iconst 1, 1) := by decide +kernel
theorem dX4_connect_27 : decode cX4_connect 27 = .ok (.iadd, 1) := by decide +kernel
theorem dX4_connect_28 : decode cX4_connect 28 = .ok (.putfield 80, 3) := by decide +kernel
theorem dX4_connect_31 : decode cX4_connect 31 = .ok (.aload 4, 2) := by decide +kernel
theorem dX4_connect_33 : decode cX4_connect 33 = .ok (.getfield 68, 3) := by decide +kernel
theorem dX4_connect_36 : decode cX4_connect 36 = .ok (.iload_n 3, 1) := by decide +kernel
theorem dX4_connect_37 : decode cX4_connect 37 = .ok (.invokevirtual 187, 3) := by decide +kernel
theorem dX4_connect_40 : decode cX4_connect 40 = .ok (.aload_n 0, 1) := by decide +kernel
theorem dX4_connect_41 : decode cX4_connect 41 = .ok (.getfield 120, 3) := by decide +kernel
theorem dX4_connect_44 : decode cX4_connect 44 = .ok (.ifCond .le 16, 3) := by decide +kernel
theorem dX4_connect_47 : decode cX4_connect 47 = .ok (.aload_n 0, 1) := by decide +kernel
theorem dX4_connect_48 : decode cX4_connect 48 = .ok (.getfield 28, 3) := by decide +kernel
theorem dX4_connect_51 : decode cX4_connect 51 = .ok (.iload_n 1, 1) := by decide +kernel
theorem dX4_connect_52 : decode cX4_connect 52 = .ok (.iload_n 2, 1) := by decide +kernel
theorem dX4_connect_53 : decode cX4_connect 53 = .ok (.aload_n 0, 1) := by decide +kernel
theorem dX4_connect_54 : decode cX4_connect 54 = .ok (.getfield 72, 3) := by decide +kernel
theorem dX4_connect_57 : decode cX4_connect 57 = .ok (.invokevirtual 190, 3) := by decide +kernel
theorem dX4_connect_60 : decode cX4_connect 60 = .ok (.iload_n 3, 1) := by decide +kernel
theorem dX4_connect_61 : decode cX4_connect 61 = .ok (.ireturn, 1) := by decide +kernel
set_option maxRecDepth 20000 in
theorem ggX4_disconnect_X4_serverAt : GoodIn wsX4_disconnect wsX4_serverAt := goodIn_ca (goodIn_r _ [12, 13, 14, 15, 16, 50, 51, 52, 53, 54, 55, 56, 57, 58, 59, 60, 61, 62, 63] (by decide +kernel) (by decide +kernel)) (goodIn_sub (fun _ h => List.mem_cons_of_mem _ (List.mem_append_right _ h)) (by decide +kernel))
set_option maxRecDepth 20000 in
theorem gX4_disconnect_X4_serverAt : GoodIn wsX4_disconnect (wsV RX4 126 RX4 yX4_serverAt wsX4_serverAt) := goodIn_app (goodIn_of _ (by decide +kernel)) ggX4_disconnect_X4_serverAt
set_option maxRecDepth 20000 in
theorem ggX4_disconnect_X0_noteEnd : GoodIn wsX4_disconnect wsX0_noteEnd := goodIn_r _ [21, 22, 23, 24, 25, 26, 20, 27, 28, 29, 30, 31, 32, 33, 34, 35, 36, 37, 38, 39, 40, 41, 42, 43, 44, 45, 46, 47, 48, 49, 78, 79, 80, 81, 82] (by decide +kernel) (by decide +kernel)
set_option maxRecDepth 20000 in
theorem gX4_disconnect_X0_noteEnd : GoodIn wsX4_disconnect (wsV RX4 199 RX0 yX0_noteEnd wsX0_noteEnd) := goodIn_app (goodIn_of _ (by decide +kernel)) ggX4_disconnect_X0_noteEnd
theorem dX4_disconnect_0 : decode cX4_disconnect 0 = .ok (.aload_n 0, 1) := by decide +kernel
theorem dX4_disconnect_1 : decode cX4_disconnect 1 = .ok (.aload_n 0, 1) := by decide +kernel
theorem dX4_disconnect_2 : decode cX4_disconnect 2 = .ok (.getfield 21, 3) := by decide +kernel
theorem dX4_disconnect_5 : decode cX4_disconnect 5 = .ok (.getfield 194, 3) := by decide +kernel
theorem dX4_disconnect_8 : decode cX4_disconnect 8 = .ok (.iload_n 1, 1) := by decide +kernel
theorem dX4_disconnect_9 : decode cX4_disconnect 9 = .ok (.iaload, 1) := by decide +kernel
theorem dX4_disconnect_10 : decode cX4_disconnect 10 = .ok (.invokevirtual 126, 3) := by decide +kernel
theorem dX4_disconnect_13 : decode cX4_disconnect 13 = .ok (.astore_n 3, 1) := by decide +kernel
theorem dX4_disconnect_14 : decode cX4_disconnect 14 = .ok (.aload_n 0, 1) := by decide +kernel
theorem dX4_disconnect_15 : decode cX4_disconnect 15 = .ok (.getfield 21, 3) := by decide +kernel
theorem dX4_disconnect_18 : decode cX4_disconnect 18 = .ok (.getfield 195, 3) := by decide +kernel
theorem dX4_disconnect_21 : decode cX4_disconnect 21 = .ok (.iload_n 1, 1) := by decide +kernel
theorem dX4_disconnect_22 : decode cX4_disconnect 22 = .ok (.iconst 0, 1) := by decide +kernel
theorem dX4_disconnect_23 : decode cX4_disconnect 23 = .ok (.bastore, 1) := by decide +kernel
theorem dX4_disconnect_24 : decode cX4_disconnect 24 = .ok (.aload_n 3, 1) := by decide +kernel
theorem dX4_disconnect_25 : decode cX4_disconnect 25 = .ok (.dup, 1) := by decide +kernel
theorem dX4_disconnect_26 : decode cX4_disconnect 26 = .ok (.getfield 80, 3) := by decide +kernel
theorem dX4_disconnect_29 : decode cX4_disconnect 29 = .ok (.iconst 1, 1) := by decide +kernel
theorem dX4_disconnect_30 : decode cX4_disconnect 30 = .ok (.isub, 1) := by decide +kernel
theorem dX4_disconnect_31 : decode cX4_disconnect 31 = .ok (.putfield 80, 3) := by decide +kernel
theorem dX4_disconnect_34 : decode cX4_disconnect 34 = .ok (.aload_n 3, 1) := by decide +kernel
theorem dX4_disconnect_35 : decode cX4_disconnect 35 = .ok (.getfield 68, 3) := by decide +kernel
theorem dX4_disconnect_38 : decode cX4_disconnect 38 = .ok (.iload_n 1, 1) := by decide +kernel
theorem dX4_disconnect_39 : decode cX4_disconnect 39 = .ok (.iload_n 2, 1) := by decide +kernel
theorem dX4_disconnect_40 : decode cX4_disconnect 40 = .ok (.aload_n 0, 1) := by decide +kernel
theorem dX4_disconnect_41 : decode cX4_disconnect 41 = .ok (.getfield 72, 3) := by decide +kernel
theorem dX4_disconnect_44 : decode cX4_disconnect 44 = .ok (.invokevirtual 199, 3) := by decide +kernel
theorem dX4_disconnect_47 : decode cX4_disconnect 47 = .ok (.aload_n 0, 1) := by decide +kernel
theorem dX4_disconnect_48 : decode cX4_disconnect 48 = .ok (.getfield 72, 3) := by decide +kernel
theorem dX4_disconnect_51 : decode cX4_disconnect 51 = .ok (.aload_n 0, 1) := by decide +kernel
theorem dX4_disconnect_52 : decode cX4_disconnect 52 = .ok (.getfield 21, 3) := by decide +kernel
theorem dX4_disconnect_55 : decode cX4_disconnect 55 = .ok (.getfield 203, 3) := by decide +kernel
theorem dX4_disconnect_58 : decode cX4_disconnect 58 = .ok (.iload_n 1, 1) := by decide +kernel
theorem dX4_disconnect_59 : decode cX4_disconnect 59 = .ok (.iaload, 1) := by decide +kernel
theorem dX4_disconnect_60 : decode cX4_disconnect 60 = .ok (.isub, 1) := by decide +kernel
theorem dX4_disconnect_61 : decode cX4_disconnect 61 = .ok (.ireturn, 1) := by decide +kernel
set_option maxRecDepth 20000 in
theorem ggX4_copyFrom_X3_copyFrom : GoodIn wsX4_copyFrom wsX3_copyFrom := goodIn_r _ [19, 20, 21, 22, 23, 24, 25, 26, 27, 28, 29, 30, 31, 32, 33, 34, 35, 36, 37, 38, 39, 77, 78, 79, 80, 81, 82, 83, 84, 85, 86, 87, 88, 89, 90, 91] (by decide +kernel) (by decide +kernel)
set_option maxRecDepth 20000 in
theorem gX4_copyFrom_X3_copyFrom : GoodIn wsX4_copyFrom (wsV RX4 207 RX3 yX3_copyFrom wsX3_copyFrom) := goodIn_app (goodIn_of _ (by decide +kernel)) ggX4_copyFrom_X3_copyFrom
set_option maxRecDepth 20000 in
theorem ggX4_copyFrom_X2_copyFrom : GoodIn wsX4_copyFrom wsX2_copyFrom := goodIn_r _ [44, 45, 46, 47, 48, 49, 50, 51, 52, 92, 93, 94, 95] (by decide +kernel) (by decide +kernel)
set_option maxRecDepth 20000 in
theorem gX4_copyFrom_X2_copyFrom : GoodIn wsX4_copyFrom (wsV RX4 211 RX2 yX2_copyFrom wsX2_copyFrom) := goodIn_app (goodIn_of _ (by decide +kernel)) ggX4_copyFrom_X2_copyFrom
set_option maxRecDepth 20000 in
theorem ggX4_copyFrom_X1_copyFrom : GoodIn wsX4_copyFrom wsX1_copyFrom := goodIn_r _ [57, 58, 59, 60, 48, 49, 50, 61, 62, 96, 97, 98, 99] (by decide +kernel) (by decide +kernel)
set_option maxRecDepth 20000 in
theorem gX4_copyFrom_X1_copyFrom : GoodIn wsX4_copyFrom (wsV RX4 214 RX1 yX1_copyFrom wsX1_copyFrom) := goodIn_app (goodIn_of _ (by decide +kernel)) ggX4_copyFrom_X1_copyFrom
theorem dX4_copyFrom_0 : decode cX4_copyFrom 0 = .ok (.aload_n 0, 1) := by decide +kernel
theorem dX4_copyFrom_1 : decode cX4_copyFrom 1 = .ok (.aload_n 1, 1) := by decide +kernel
theorem dX4_copyFrom_2 : decode cX4_copyFrom 2 = .ok (.getfield 51, 3) := by decide +kernel
theorem dX4_copyFrom_5 : decode cX4_copyFrom 5 = .ok (.putfield 51, 3) := by decide +kernel
theorem dX4_copyFrom_8 : decode cX4_copyFrom 8 = .ok (.aload_n 0, 1) := by decide +kernel
theorem dX4_copyFrom_9 : decode cX4_copyFrom 9 = .ok (.aload_n 1, 1) := by decide +kernel
theorem dX4_copyFrom_10 : decode cX4_copyFrom 10 = .ok (.getfield 32, 3) := by decide +kernel
theorem dX4_copyFrom_13 : decode cX4_copyFrom 13 = .ok (.putfield 32, 3) := by decide +kernel
theorem dX4_copyFrom_16 : decode cX4_copyFrom 16 = .ok (.aload_n 0, 1) := by decide +kernel
theorem dX4_copyFrom_17 : decode cX4_copyFrom 17 = .ok (.aload_n 1, 1) := by decide +kernel
theorem dX4_copyFrom_18 : decode cX4_copyFrom 18 = .ok (.getfield 36, 3) := by decide +kernel
theorem dX4_copyFrom_21 : decode cX4_copyFrom 21 = .ok (.putfield 36, 3) := by decide +kernel
theorem dX4_copyFrom_24 : decode cX4_copyFrom 24 = .ok (.aload_n 0, 1) := by decide +kernel
theorem dX4_copyFrom_25 : decode cX4_copyFrom 25 = .ok (.aload_n 1, 1) := by decide +kernel
theorem dX4_copyFrom_26 : decode cX4_copyFrom 26 = .ok (.getfield 86, 3) := by decide +kernel
theorem dX4_copyFrom_29 : decode cX4_copyFrom 29 = .ok (.putfield 86, 3) := by decide +kernel
theorem dX4_copyFrom_32 : decode cX4_copyFrom 32 = .ok (.aload_n 0, 1) := by decide +kernel
theorem dX4_copyFrom_33 : decode cX4_copyFrom 33 = .ok (.aload_n 1, 1) := by decide +kernel
theorem dX4_copyFrom_34 : decode cX4_copyFrom 34 = .ok (.getfield 39, 3) := by decide +kernel
theorem dX4_copyFrom_37 : decode cX4_copyFrom 37 = .ok (.putfield 39, 3) := by decide +kernel
theorem dX4_copyFrom_40 : decode cX4_copyFrom 40 = .ok (.aload_n 0, 1) := by decide +kernel
theorem dX4_copyFrom_41 : decode cX4_copyFrom 41 = .ok (.aload_n 1, 1) := by decide +kernel
theorem dX4_copyFrom_42 : decode cX4_copyFrom 42 = .ok (.getfield 120, 3) := by decide +kernel
theorem dX4_copyFrom_45 : decode cX4_copyFrom 45 = .ok (.putfield 120, 3) := by decide +kernel
theorem dX4_copyFrom_48 : decode cX4_copyFrom 48 = .ok (.aload_n 0, 1) := by decide +kernel
theorem dX4_copyFrom_49 : decode cX4_copyFrom 49 = .ok (.aload_n 1, 1) := by decide +kernel
theorem dX4_copyFrom_50 : decode cX4_copyFrom 50 = .ok (.getfield 42, 3) := by decide +kernel
theorem dX4_copyFrom_53 : decode cX4_copyFrom 53 = .ok (.putfield 42, 3) := by decide +kernel
theorem dX4_copyFrom_56 : decode cX4_copyFrom 56 = .ok (.aload_n 0, 1) := by decide +kernel
theorem dX4_copyFrom_57 : decode cX4_copyFrom 57 = .ok (.aload_n 1, 1) := by decide +kernel
theorem dX4_copyFrom_58 : decode cX4_copyFrom 58 = .ok (.getfield 45, 3) := by decide +kernel
theorem dX4_copyFrom_61 : decode cX4_copyFrom 61 = .ok (.putfield 45, 3) := by decide +kernel
theorem dX4_copyFrom_64 : decode cX4_copyFrom 64 = .ok (.aload_n 0, 1) := by decide +kernel
theorem dX4_copyFrom_65 : decode cX4_copyFrom 65 = .ok (.aload_n 1, 1) := by decide +kernel
theorem dX4_copyFrom_66 : decode cX4_copyFrom 66 = .ok (.getfield 48, 3) := by decide +kernel
theorem dX4_copyFrom_69 : decode cX4_copyFrom 69 = .ok (.putfield 48, 3) := by decide +kernel
theorem dX4_copyFrom_72 : decode cX4_copyFrom 72 = .ok (.aload_n 0, 1) := by decide +kernel
theorem dX4_copyFrom_73 : decode cX4_copyFrom 73 = .ok (.aload_n 1, 1) := by decide +kernel
theorem dX4_copyFrom_74 : decode cX4_copyFrom 74 = .ok (.getfield 72, 3) := by decide +kernel
theorem dX4_copyFrom_77 : decode cX4_copyFrom 77 = .ok (.putfield 72, 3) := by decide +kernel
theorem dX4_copyFrom_80 : decode cX4_copyFrom 80 = .ok (.aload_n 0, 1) := by decide +kernel
theorem dX4_copyFrom_81 : decode cX4_copyFrom 81 = .ok (.aload_n 1, 1) := by decide +kernel
theorem dX4_copyFrom_82 : decode cX4_copyFrom 82 = .ok (.getfield 204, 3) := by decide +kernel
theorem dX4_copyFrom_85 : decode cX4_copyFrom 85 = .ok (.putfield 204, 3) := by decide +kernel
theorem dX4_copyFrom_88 : decode cX4_copyFrom 88 = .ok (.iconst 0, 1) := by decide +kernel
theorem dX4_copyFrom_89 : decode cX4_copyFrom 89 = .ok (.istore_n 2, 1) := by decide +kernel
theorem dX4_copyFrom_90 : decode cX4_copyFrom 90 = .ok (.iload_n 2, 1) := by decide +kernel
theorem dX4_copyFrom_91 : decode cX4_copyFrom 91 = .ok (.aload_n 0, 1) := by decide +kernel
theorem dX4_copyFrom_92 : decode cX4_copyFrom 92 = .ok (.getfield 51, 3) := by decide +kernel
theorem dX4_copyFrom_95 : decode cX4_copyFrom 95 = .ok (.if_icmp .ge 24, 3) := by decide +kernel
theorem dX4_copyFrom_98 : decode cX4_copyFrom 98 = .ok (.aload_n 0, 1) := by decide +kernel
theorem dX4_copyFrom_99 : decode cX4_copyFrom 99 = .ok (.getfield 11, 3) := by decide +kernel
theorem dX4_copyFrom_102 : decode cX4_copyFrom 102 = .ok (.iload_n 2, 1) := by decide +kernel
theorem dX4_copyFrom_103 : decode cX4_copyFrom 103 = .ok (.aaload, 1) := by decide +kernel
theorem dX4_copyFrom_104 : decode cX4_copyFrom 104 = .ok (.aload_n 1, 1) := by decide +kernel
theorem dX4_copyFrom_105 : decode cX4_copyFrom 105 = .ok (.getfield 11, 3) := by decide +kernel
theorem dX4_copyFrom_108 : decode cX4_copyFrom 108 = .ok (.iload_n 2, 1) := by decide +kernel
theorem dX4_copyFrom_109 : decode cX4_copyFrom 109 = .ok (.aaload, 1) := by decide +kernel
theorem dX4_copyFrom_110 : decode cX4_copyFrom 110 = .ok (.invokevirtual 207, 3) := by decide +kernel
theorem dX4_copyFrom_113 : decode cX4_copyFrom 113 = .ok (.iinc 2 1, 3) := by decide +kernel
theorem dX4_copyFrom_116 : decode cX4_copyFrom 116 = .ok (.goto (-26), 3) := by decide +kernel
theorem dX4_copyFrom_119 : decode cX4_copyFrom 119 = .ok (.aload_n 0, 1) := by decide +kernel
theorem dX4_copyFrom_120 : decode cX4_copyFrom 120 = .ok (.getfield 21, 3) := by decide +kernel
theorem dX4_copyFrom_123 : decode cX4_copyFrom 123 = .ok (.aload_n 1, 1) := by decide +kernel
theorem dX4_copyFrom_124 : decode cX4_copyFrom 124 = .ok (.getfield 21, 3) := by decide +kernel
theorem dX4_copyFrom_127 : decode cX4_copyFrom 127 = .ok (.invokevirtual 211, 3) := by decide +kernel
theorem dX4_copyFrom_130 : decode cX4_copyFrom 130 = .ok (.aload_n 0, 1) := by decide +kernel
theorem dX4_copyFrom_131 : decode cX4_copyFrom 131 = .ok (.getfield 28, 3) := by decide +kernel
theorem dX4_copyFrom_134 : decode cX4_copyFrom 134 = .ok (.aload_n 1, 1) := by decide +kernel
theorem dX4_copyFrom_135 : decode cX4_copyFrom 135 = .ok (.getfield 28, 3) := by decide +kernel
theorem dX4_copyFrom_138 : decode cX4_copyFrom 138 = .ok (.invokevirtual 214, 3) := by decide +kernel
theorem dX4_copyFrom_141 : decode cX4_copyFrom 141 = .ok (.return_, 1) := by decide +kernel
set_option maxRecDepth 20000 in
theorem ggX5_init_X4_init : GoodIn wsX5_init wsX4_init := goodIn_r _ [11, 12, 2, 3, 13, 14, 15, 16, 17, 18, 19, 20, 21, 22, 23, 24, 25, 26, 27, 28, 29, 30, 31, 32, 33, 34, 35, 36, 37, 38, 39, 40, 41, 42, 43, 44, 45, 46, 47, 48, 49, 50, 51, 52, 53, 54, 55, 56, 57, 58, 59, 60, 61, 62, 63, 64, 65, 66, 67, 68, 69, 70, 71, 74, 75, 76, 77, 78, 79, 80, 81, 82, 83, 84, 85, 86, 87, 88, 89, 90, 91, 92, 93, 94, 95, 96] (by decide +kernel) (by decide +kernel)
set_option maxRecDepth 20000 in
theorem gX5_init_X4_init : GoodIn wsX5_init (wsX4_init) := ggX5_init_X4_init
theorem dX5_init_0 : decode cX5_init 0 = .ok (.aload_n 0, 1) := by decide +kernel
theorem dX5_init_1 : decode cX5_init 1 = .ok (.invokespecial 1, 3) := by decide +kernel
theorem dX5_init_4 : decode cX5_init 4 = .ok (.aload_n 0, 1) := by decide +kernel
theorem dX5_init_5 : decode cX5_init 5 = .ok (.new 7, 3) := by decide +kernel
theorem dX5_init_8 : decode cX5_init 8 = .ok (.dup, 1) := by decide +kernel
theorem dX5_init_9 : decode cX5_init 9 = .ok (.invokespecial 9, 3) := by decide +kernel
theorem dX5_init_12 : decode cX5_init 12 = .ok (.putfield 10, 3) := by decide +kernel
theorem dX5_init_15 : decode cX5_init 15 = .ok (.aload_n 0, 1) := by decide +kernel
theorem dX5_init_16 : decode cX5_init 16 = .ok (.iconst 2, 1) := by decide +kernel
theorem dX5_init_17 : decode cX5_init 17 = .ok (.anewarray 7, 3) := by decide +kernel
theorem dX5_init_20 : decode cX5_init 20 = .ok (.putfield 16, 3) := by decide +kernel
theorem dX5_init_23 : decode cX5_init 23 = .ok (.return_, 1) := by decide +kernel
set_option maxRecDepth 20000 in
theorem ggX5_addServer_X5_requireRange : GoodIn wsX5_addServer wsX5_requireRange := goodIn_ca (goodIn_r _ [8, 9, 10] (by decide +kernel) (by decide +kernel)) (goodIn_sub (fun _ h => List.mem_cons_of_mem _ (List.mem_append_right _ h)) (by decide +kernel))
set_option maxRecDepth 20000 in
theorem gX5_addServer_X5_requireRange : GoodIn wsX5_addServer (va_wsS RX5 20 yX5_requireRange wsX5_requireRange) := goodIn_app (goodIn_of _ (by decide +kernel)) ggX5_addServer_X5_requireRange
set_option maxRecDepth 20000 in
theorem ggX5_addServer_X4_append : GoodIn wsX5_addServer wsX4_append := goodIn_r _ [15, 16, 17, 18, 19, 20, 21, 22, 23, 24, 25, 26, 27, 28, 29, 30, 31, 32, 33, 34, 35, 36, 37, 38, 39, 42, 43, 44, 45, 46, 47, 48, 49, 50, 51, 52, 53, 54, 55, 56, 57, 58, 59, 60, 61, 62, 63, 64, 65, 66, 67, 68, 69, 70] (by decide +kernel) (by decide +kernel)
set_option maxRecDepth 20000 in
theorem gX5_addServer_X4_append : GoodIn wsX5_addServer (wsV RX5 35 RX4 yX4_append wsX4_append) := goodIn_app (goodIn_of _ (by decide +kernel)) ggX5_addServer_X4_append
theorem dX5_addServer_0 : decode cX5_addServer 0 = .ok (.iload_n 1, 1) := by decide +kernel
theorem dX5_addServer_1 : decode cX5_addServer 1 = .ok (.iconst 1, 1) := by decide +kernel
theorem dX5_addServer_2 : decode cX5_addServer 2 = .ok (.bipush 10, 2) := by decide +kernel
theorem dX5_addServer_4 : decode cX5_addServer 4 = .ok (.invokestatic 20, 3) := by decide +kernel
theorem dX5_addServer_7 : decode cX5_addServer 7 = .ok (.iload_n 2, 1) := by decide +kernel
theorem dX5_addServer_8 : decode cX5_addServer 8 = .ok (.iconst 1, 1) := by decide +kernel
theorem dX5_addServer_9 : decode cX5_addServer 9 = .ok (.bipush 20, 2) := by decide +kernel
theorem dX5_addServer_11 : decode cX5_addServer 11 = .ok (.invokestatic 20, 3) := by decide +kernel
theorem dX5_addServer_14 : decode cX5_addServer 14 = .ok (.aload_n 0, 1) := by decide +kernel
theorem dX5_addServer_15 : decode cX5_addServer 15 = .ok (.getfield 10, 3) := by decide +kernel
theorem dX5_addServer_18 : decode cX5_addServer 18 = .ok (.getfield 24, 3) := by decide +kernel
theorem dX5_addServer_21 : decode cX5_addServer 21 = .ok (.bipush 10, 2) := by decide +kernel
theorem dX5_addServer_23 : decode cX5_addServer 23 = .ok (.if_icmp .lt 13, 3) := by decide +kernel
theorem dX5_addServer_26 : decode cX5_addServer 26 = .ok (.new 28, 3) := by decide +kernel
theorem dX5_addServer_29 : decode cX5_addServer 29 = .ok (.dup, 1) := by decide +kernel
theorem dX5_addServer_30 : decode cX5_addServer 30 = .ok (.ldc 30, 2) := by decide +kernel
theorem dX5_addServer_32 : decode cX5_addServer 32 = .ok (.invokespecial 32, 3) := by decide +kernel
theorem dX5_addServer_35 : decode cX5_addServer 35 = .ok (.athrow, 1) := by decide +kernel
theorem dX5_addServer_36 : decode cX5_addServer 36 = .ok (.aload_n 0, 1) := by decide +kernel
theorem dX5_addServer_37 : decode cX5_addServer 37 = .ok (.getfield 10, 3) := by decide +kernel
theorem dX5_addServer_40 : decode cX5_addServer 40 = .ok (.iload_n 1, 1) := by decide +kernel
theorem dX5_addServer_41 : decode cX5_addServer 41 = .ok (.iload_n 2, 1) := by decide +kernel
theorem dX5_addServer_42 : decode cX5_addServer 42 = .ok (.invokevirtual 35, 3) := by decide +kernel
theorem dX5_addServer_45 : decode cX5_addServer 45 = .ok (.ireturn, 1) := by decide +kernel
set_option maxRecDepth 20000 in
theorem ggX5_setWeight_X4_serverAt : GoodIn wsX5_setWeight wsX4_serverAt := goodIn_ca (goodIn_r _ [7, 8, 9, 10, 11, 30, 31, 32, 33, 34, 35, 36, 37, 38, 39, 40, 41, 42, 43] (by decide +kernel) (by decide +kernel)) (goodIn_sub (fun _ h => List.mem_cons_of_mem _ (List.mem_append_left _ (List.mem_append_right _ h))) (by decide +kernel))
set_option maxRecDepth 20000 in
theorem gX5_setWeight_X4_serverAt : GoodIn wsX5_setWeight (wsV RX5 39 RX4 yX4_serverAt wsX4_serverAt) := goodIn_app (goodIn_of _ (by decide +kernel)) ggX5_setWeight_X4_serverAt
set_option maxRecDepth 20000 in
theorem ggX5_setWeight_X5_requireRange : GoodIn wsX5_setWeight wsX5_requireRange := goodIn_ca (goodIn_r _ [15, 16, 17] (by decide +kernel) (by decide +kernel)) (goodIn_sub (fun _ h => List.mem_cons_of_mem _ (List.mem_append_right _ h)) (by decide +kernel))
set_option maxRecDepth 20000 in
theorem gX5_setWeight_X5_requireRange : GoodIn wsX5_setWeight (va_wsS RX5 20 yX5_requireRange wsX5_requireRange) := goodIn_app (goodIn_of _ (by decide +kernel)) ggX5_setWeight_X5_requireRange
theorem dX5_setWeight_0 : decode cX5_setWeight 0 = .ok (.aload_n 0, 1) := by decide +kernel
theorem dX5_setWeight_1 : decode cX5_setWeight 1 = .ok (.getfield 10, 3) := by decide +kernel
theorem dX5_setWeight_4 : decode cX5_setWeight 4 = .ok (.iload_n 1, 1) := by decide +kernel
theorem dX5_setWeight_5 : decode cX5_setWeight 5 = .ok (.invokevirtual 39, 3) := by decide +kernel
theorem dX5_setWeight_8 : decode cX5_setWeight 8 = .ok (.astore_n 3, 1) := by decide +kernel
theorem dX5_setWeight_9 : decode cX5_setWeight 9 = .ok (.iload_n 2, 1) := by decide +kernel
theorem dX5_setWeight_10 : decode cX5_setWeight 10 = .ok (.iconst 1, 1) := by decide +kernel
theorem dX5_setWeight_11 : decode cX5_setWeight 11 = .ok (.bipush 10, 2) := by decide +kernel
theorem dX5_setWeight_13 : decode cX5_setWeight 13 = .ok (.invokestatic 20, 3) := by decide +kernel
theorem dX5_setWeight_16 : decode cX5_setWeight 16 = .ok (.aload_n 3, 1) := by decide +kernel
theorem dX5_setWeight_17 : decode cX5_setWeight 17 = .ok (.getfield 43, 3) := by decide +kernel
theorem dX5_setWeight_20 : decode cX5_setWeight 20 = .ok (.istore 4, 2) := by decide +kernel
theorem dX5_setWeight_22 : decode cX5_setWeight 22 = .ok (.aload_n 3, 1) := by decide +kernel
theorem dX5_setWeight_23 : decode cX5_setWeight 23 = .ok (.iload_n 2, 1) := by decide +kernel
theorem dX5_setWeight_24 : decode cX5_setWeight 24 = .ok (.putfield 43, 3) := by decide +kernel
theorem dX5_setWeight_27 : decode cX5_setWeight 27 = .ok (.iload 4, 2) := by decide +kernel
theorem dX5_setWeight_29 : decode cX5_setWeight 29 = .ok (.ireturn, 1) := by decide +kernel
set_option maxRecDepth 20000 in
theorem ggX5_setDraining_X4_serverAt : GoodIn wsX5_setDraining wsX4_serverAt := goodIn_ca (goodIn_r _ [7, 8, 9, 10, 11, 24, 25, 26, 27, 28, 29, 30, 31, 32, 33, 34, 35, 36, 37] (by decide +kernel) (by decide +kernel)) (goodIn_sub (fun _ h => List.mem_cons_of_mem _ (List.mem_append_right _ h)) (by decide +kernel))
set_option maxRecDepth 20000 in
theorem gX5_setDraining_X4_serverAt : GoodIn wsX5_setDraining (wsV RX5 39 RX4 yX4_serverAt wsX4_serverAt) := goodIn_app (goodIn_of _ (by decide +kernel)) ggX5_setDraining_X4_serverAt
theorem dX5_setDraining_0 : decode cX5_setDraining 0 = .ok (.aload_n 0, 1) := by decide +kernel
theorem dX5_setDraining_1 : decode cX5_setDraining 1 = .ok (.getfield 10, 3) := by decide +kernel
theorem dX5_setDraining_4 : decode cX5_setDraining 4 = .ok (.iload_n 1, 1) := by decide +kernel
theorem dX5_setDraining_5 : decode cX5_setDraining 5 = .ok (.invokevirtual 39, 3) := by decide +kernel
theorem dX5_setDraining_8 : decode cX5_setDraining 8 = .ok (.astore_n 3, 1) := by decide +kernel
theorem dX5_setDraining_9 : decode cX5_setDraining 9 = .ok (.aload_n 3, 1) := by decide +kernel
theorem dX5_setDraining_10 : decode cX5_setDraining 10 = .ok (.getfield 48, 3) := by decide +kernel
theorem dX5_setDraining_13 : decode cX5_setDraining 13 = .ok (.istore 4, 2) := by decide +kernel
theorem dX5_setDraining_15 : decode cX5_setDraining 15 = .ok (.aload_n 3, 1) := by decide +kernel
theorem dX5_setDraining_16 : decode cX5_setDraining 16 = .ok (.iload_n 2, 1) := by decide +kernel
theorem dX5_setDraining_17 : decode cX5_setDraining 17 = .ok (.putfield 48, 3) := by decide +kernel
theorem dX5_setDraining_20 : decode cX5_setDraining 20 = .ok (.iload 4, 2) := by decide +kernel
theorem dX5_setDraining_22 : decode cX5_setDraining 22 = .ok (.ireturn, 1) := by decide +kernel
set_option maxRecDepth 20000 in
theorem ggX5_report_X4_serverAt : GoodIn wsX5_report wsX4_serverAt := goodIn_ca (goodIn_r _ [10, 11, 12, 13, 14, 40, 41, 42, 43, 44, 45, 46, 47, 48, 49, 50, 51, 52, 53] (by decide +kernel) (by decide +kernel)) (goodIn_sub (fun _ h => List.mem_cons_of_mem _ (List.mem_append_right _ h)) (by decide +kernel))
set_option maxRecDepth 20000 in
theorem gX5_report_X4_serverAt : GoodIn wsX5_report (wsV RX5 39 RX4 yX4_serverAt wsX4_serverAt) := goodIn_app (goodIn_of _ (by decide +kernel)) ggX5_report_X4_serverAt
set_option maxRecDepth 20000 in
theorem ggX5_report_X3_checkWhileHealthy : GoodIn wsX5_report wsX3_checkWhileHealthy := goodIn_r _ [19, 20, 21, 30, 31, 32, 33, 34, 35, 36, 37, 38, 39] (by decide +kernel) (by decide +kernel)
set_option maxRecDepth 20000 in
theorem gX5_report_X3_checkWhileHealthy : GoodIn wsX5_report (wsV RX5 58 RX3 yX3_checkWhileHealthy wsX3_checkWhileHealthy) := goodIn_app (goodIn_of _ (by decide +kernel)) ggX5_report_X3_checkWhileHealthy
set_option maxRecDepth 20000 in
theorem ggX5_report_X3_checkWhileUnhealthy : GoodIn wsX5_report wsX3_checkWhileUnhealthy := goodIn_r _ [25, 20, 21, 26, 27, 30, 31, 32, 33, 34, 35, 36, 37, 38, 39] (by decide +kernel) (by decide +kernel)
set_option maxRecDepth 20000 in
theorem gX5_report_X3_checkWhileUnhealthy : GoodIn wsX5_report (wsV RX5 68 RX3 yX3_checkWhileUnhealthy wsX3_checkWhileUnhealthy) := goodIn_app (goodIn_of _ (by decide +kernel)) ggX5_report_X3_checkWhileUnhealthy
theorem dX5_report_0 : decode cX5_report 0 = .ok (.aload_n 0, 1) := by decide +kernel
theorem dX5_report_1 : decode cX5_report 1 = .ok (.getfield 10, 3) := by decide +kernel
theorem dX5_report_4 : decode cX5_report 4 = .ok (.iload_n 1, 1) := by decide +kernel
theorem dX5_report_5 : decode cX5_report 5 = .ok (.invokevirtual 39, 3) := by decide +kernel
theorem dX5_report_8 : decode cX5_report 8 = .ok (.astore_n 3, 1) := by decide +kernel
theorem dX5_report_9 : decode cX5_report 9 = .ok (.aload_n 3, 1) := by decide +kernel
theorem dX5_report_10 : decode cX5_report 10 = .ok (.getfield 52, 3) := by decide +kernel
theorem dX5_report_13 : decode cX5_report 13 = .ok (.ifCond .eq 18, 3) := by decide +kernel
theorem dX5_report_16 : decode cX5_report 16 = .ok (.aload_n 3, 1) := by decide +kernel
theorem dX5_report_17 : decode cX5_report 17 = .ok (.iload_n 2, 1) := by decide +kernel
theorem dX5_report_18 : decode cX5_report 18 = .ok (.aload_n 0, 1) := by decide +kernel
theorem dX5_report_19 : decode cX5_report 19 = .ok (.getfield 10, 3) := by decide +kernel
theorem dX5_report_22 : decode cX5_report 22 = .ok (.getfield 55, 3) := by decide +kernel
theorem dX5_report_25 : decode cX5_report 25 = .ok (.invokevirtual 58, 3) := by decide +kernel
theorem dX5_report_28 : decode cX5_report 28 = .ok (.goto 22, 3) := by decide +kernel
theorem dX5_report_31 : decode cX5_report 31 = .ok (.aload_n 3, 1) := by decide +kernel
theorem dX5_report_32 : decode cX5_report 32 = .ok (.iload_n 2, 1) := by decide +kernel
theorem dX5_report_33 : decode cX5_report 33 = .ok (.aload_n 0, 1) := by decide +kernel
theorem dX5_report_34 : decode cX5_report 34 = .ok (.getfield 10, 3) := by decide +kernel
theorem dX5_report_37 : decode cX5_report 37 = .ok (.getfield 62, 3) := by decide +kernel
theorem dX5_report_40 : decode cX5_report 40 = .ok (.aload_n 0, 1) := by decide +kernel
theorem dX5_report_41 : decode cX5_report 41 = .ok (.getfield 10, 3) := by decide +kernel
theorem dX5_report_44 : decode cX5_report 44 = .ok (.getfield 65, 3) := by decide +kernel
theorem dX5_report_47 : decode cX5_report 47 = .ok (.invokevirtual 68, 3) := by decide +kernel
theorem dX5_report_50 : decode cX5_report 50 = .ok (.aload_n 3, 1) := by decide +kernel
theorem dX5_report_51 : decode cX5_report 51 = .ok (.getfield 52, 3) := by decide +kernel
theorem dX5_report_54 : decode cX5_report 54 = .ok (.ireturn, 1) := by decide +kernel
theorem dX5_servers_0 : decode cX5_servers 0 = .ok (.aload_n 0, 1) := by decide +kernel
theorem dX5_servers_1 : decode cX5_servers 1 = .ok (.getfield 10, 3) := by decide +kernel
theorem dX5_servers_4 : decode cX5_servers 4 = .ok (.getfield 24, 3) := by decide +kernel
theorem dX5_servers_7 : decode cX5_servers 7 = .ok (.ireturn, 1) := by decide +kernel
set_option maxRecDepth 20000 in
theorem ggX5_setThresholds_X5_requireRange : GoodIn wsX5_setThresholds wsX5_requireRange := goodIn_ca (goodIn_r _ [7, 8, 9] (by decide +kernel) (by decide +kernel)) (goodIn_sub (fun _ h => List.mem_cons_of_mem _ (List.mem_append_right _ h)) (by decide +kernel))
set_option maxRecDepth 20000 in
theorem gX5_setThresholds_X5_requireRange : GoodIn wsX5_setThresholds (va_wsS RX5 20 yX5_requireRange wsX5_requireRange) := goodIn_app (goodIn_of _ (by decide +kernel)) ggX5_setThresholds_X5_requireRange
theorem dX5_setThresholds_0 : decode cX5_setThresholds 0 = .ok (.iload_n 1, 1) := by decide +kernel
theorem dX5_setThresholds_1 : decode cX5_setThresholds 1 = .ok (.iconst 1, 1) := by decide +kernel
theorem dX5_setThresholds_2 : decode cX5_setThresholds 2 = .ok (.bipush 9, 2) := by decide +kernel
theorem dX5_setThresholds_4 : decode cX5_setThresholds 4 = .ok (.invokestatic 20, 3) := by decide +kernel
theorem dX5_setThresholds_7 : decode cX5_setThresholds 7 = .ok (.iload_n 2, 1) := by decide +kernel
theorem dX5_setThresholds_8 : decode cX5_setThresholds 8 = .ok (.iconst 1, 1) := by decide +kernel
theorem dX5_setThresholds_9 : decode cX5_setThresholds 9 = .ok (.bipush 9, 2) := by decide +kernel
theorem dX5_setThresholds_11 : decode cX5_setThresholds 11 = .ok (.invokestatic 20, 3) := by decide +kernel
theorem dX5_setThresholds_14 : decode cX5_setThresholds 14 = .ok (.aload_n 0, 1) := by decide +kernel
theorem dX5_setThresholds_15 : decode cX5_setThresholds 15 = .ok (.getfield 10, 3) := by decide +kernel
theorem dX5_setThresholds_18 : decode cX5_setThresholds 18 = .ok (.iload_n 1, 1) := by decide +kernel
theorem dX5_setThresholds_19 : decode cX5_setThresholds 19 = .ok (.putfield 62, 3) := by decide +kernel
theorem dX5_setThresholds_22 : decode cX5_setThresholds 22 = .ok (.aload_n 0, 1) := by decide +kernel
theorem dX5_setThresholds_23 : decode cX5_setThresholds 23 = .ok (.getfield 10, 3) := by decide +kernel
theorem dX5_setThresholds_26 : decode cX5_setThresholds 26 = .ok (.iload_n 2, 1) := by decide +kernel
theorem dX5_setThresholds_27 : decode cX5_setThresholds 27 = .ok (.putfield 55, 3) := by decide +kernel
theorem dX5_setThresholds_30 : decode cX5_setThresholds 30 = .ok (.return_, 1) := by decide +kernel
set_option maxRecDepth 20000 in
theorem ggX5_setSlowStart_X5_requireRange : GoodIn wsX5_setSlowStart wsX5_requireRange := goodIn_ca (goodIn_r _ [6, 7, 8] (by decide +kernel) (by decide +kernel)) (goodIn_sub (fun _ h => List.mem_cons_of_mem _ (List.mem_append_right _ h)) (by decide +kernel))
set_option maxRecDepth 20000 in
theorem gX5_setSlowStart_X5_requireRange : GoodIn wsX5_setSlowStart (va_wsS RX5 20 yX5_requireRange wsX5_requireRange) := goodIn_app (goodIn_of _ (by decide +kernel)) ggX5_setSlowStart_X5_requireRange
theorem dX5_setSlowStart_0 : decode cX5_setSlowStart 0 = .ok (.iload_n 1, 1) := by decide +kernel
theorem dX5_setSlowStart_1 : decode cX5_setSlowStart 1 = .ok (.iconst 0, 1) := by decide +kernel
theorem dX5_setSlowStart_2 : decode cX5_setSlowStart 2 = .ok (.bipush 50, 2) := by decide +kernel
theorem dX5_setSlowStart_4 : decode cX5_setSlowStart 4 = .ok (.invokestatic 20, 3) := by decide +kernel
theorem dX5_setSlowStart_7 : decode cX5_setSlowStart 7 = .ok (.aload_n 0, 1) := by decide +kernel
theorem dX5_setSlowStart_8 : decode cX5_setSlowStart 8 = .ok (.getfield 10, 3) := by decide +kernel
theorem dX5_setSlowStart_11 : decode cX5_setSlowStart 11 = .ok (.getfield 72, 3) := by decide +kernel
theorem dX5_setSlowStart_14 : decode cX5_setSlowStart 14 = .ok (.istore_n 2, 1) := by decide +kernel
theorem dX5_setSlowStart_15 : decode cX5_setSlowStart 15 = .ok (.aload_n 0, 1) := by decide +kernel
theorem dX5_setSlowStart_16 : decode cX5_setSlowStart 16 = .ok (.getfield 10, 3) := by decide +kernel
theorem dX5_setSlowStart_19 : decode cX5_setSlowStart 19 = .ok (.iload_n 1, 1) := by decide +kernel
theorem dX5_setSlowStart_20 : decode cX5_setSlowStart 20 = .ok (.putfield 72, 3) := by decide +kernel
theorem dX5_setSlowStart_23 : decode cX5_setSlowStart 23 = .ok (.iload_n 2, 1) := by decide +kernel
theorem dX5_setSlowStart_24 : decode cX5_setSlowStart 24 = .ok (.ireturn, 1) := by decide +kernel
set_option maxRecDepth 20000 in
theorem ggX5_setCool_X5_requireRange : GoodIn wsX5_setCool wsX5_requireRange := goodIn_ca (goodIn_r _ [6, 7, 8] (by decide +kernel) (by decide +kernel)) (goodIn_sub (fun _ h => List.mem_cons_of_mem _ (List.mem_append_right _ h)) (by decide +kernel))
set_option maxRecDepth 20000 in
theorem gX5_setCool_X5_requireRange : GoodIn wsX5_setCool (va_wsS RX5 20 yX5_requireRange wsX5_requireRange) := goodIn_app (goodIn_of _ (by decide +kernel)) ggX5_setCool_X5_requireRange
theorem dX5_setCool_0 : decode cX5_setCool 0 = .ok (.iload_n 1, 1) := by decide +kernel
theorem dX5_setCool_1 : decode cX5_setCool 1 = .ok (.iconst 1, 1) := by decide +kernel
theorem dX5_setCool_2 : decode cX5_setCool 2 = .ok (.bipush 50, 2) := by decide +kernel
theorem dX5_setCool_4 : decode cX5_setCool 4 = .ok (.invokestatic 20, 3) := by decide +kernel
theorem dX5_setCool_7 : decode cX5_setCool 7 = .ok (.aload_n 0, 1) := by decide +kernel
theorem dX5_setCool_8 : decode cX5_setCool 8 = .ok (.getfield 10, 3) := by decide +kernel
theorem dX5_setCool_11 : decode cX5_setCool 11 = .ok (.getfield 75, 3) := by decide +kernel
theorem dX5_setCool_14 : decode cX5_setCool 14 = .ok (.istore_n 2, 1) := by decide +kernel
theorem dX5_setCool_15 : decode cX5_setCool 15 = .ok (.aload_n 0, 1) := by decide +kernel
theorem dX5_setCool_16 : decode cX5_setCool 16 = .ok (.getfield 10, 3) := by decide +kernel
theorem dX5_setCool_19 : decode cX5_setCool 19 = .ok (.iload_n 1, 1) := by decide +kernel
theorem dX5_setCool_20 : decode cX5_setCool 20 = .ok (.putfield 75, 3) := by decide +kernel
theorem dX5_setCool_23 : decode cX5_setCool 23 = .ok (.iload_n 2, 1) := by decide +kernel
theorem dX5_setCool_24 : decode cX5_setCool 24 = .ok (.ireturn, 1) := by decide +kernel
set_option maxRecDepth 20000 in
theorem ggX5_setSticky_X5_requireRange : GoodIn wsX5_setSticky wsX5_requireRange := goodIn_ca (goodIn_r _ [7, 8, 9] (by decide +kernel) (by decide +kernel)) (goodIn_sub (fun _ h => List.mem_cons_of_mem _ (List.mem_append_right _ h)) (by decide +kernel))
set_option maxRecDepth 20000 in
theorem gX5_setSticky_X5_requireRange : GoodIn wsX5_setSticky (va_wsS RX5 20 yX5_requireRange wsX5_requireRange) := goodIn_app (goodIn_of _ (by decide +kernel)) ggX5_setSticky_X5_requireRange
set_option maxRecDepth 20000 in
theorem ggX5_setSticky_X1_forgetAll : GoodIn wsX5_setSticky wsX1_forgetAll := goodIn_r _ [14, 15, 32, 33, 34, 35] (by decide +kernel) (by decide +kernel)
set_option maxRecDepth 20000 in
theorem gX5_setSticky_X1_forgetAll : GoodIn wsX5_setSticky (wsV RX5 85 RX1 yX1_forgetAll wsX1_forgetAll) := goodIn_app (goodIn_of _ (by decide +kernel)) ggX5_setSticky_X1_forgetAll
theorem dX5_setSticky_0 : decode cX5_setSticky 0 = .ok (.iload_n 1, 1) := by decide +kernel
theorem dX5_setSticky_1 : decode cX5_setSticky 1 = .ok (.iconst 0, 1) := by decide +kernel
theorem dX5_setSticky_2 : decode cX5_setSticky 2 = .ok (.bipush 100, 2) := by decide +kernel
theorem dX5_setSticky_4 : decode cX5_setSticky 4 = .ok (.invokestatic 20, 3) := by decide +kernel
theorem dX5_setSticky_7 : decode cX5_setSticky 7 = .ok (.aload_n 0, 1) := by decide +kernel
theorem dX5_setSticky_8 : decode cX5_setSticky 8 = .ok (.getfield 10, 3) := by decide +kernel
theorem dX5_setSticky_11 : decode cX5_setSticky 11 = .ok (.getfield 78, 3) := by decide +kernel
theorem dX5_setSticky_14 : decode cX5_setSticky 14 = .ok (.istore_n 2, 1) := by decide +kernel
theorem dX5_setSticky_15 : decode cX5_setSticky 15 = .ok (.aload_n 0, 1) := by decide +kernel
theorem dX5_setSticky_16 : decode cX5_setSticky 16 = .ok (.getfield 10, 3) := by decide +kernel
theorem dX5_setSticky_19 : decode cX5_setSticky 19 = .ok (.iload_n 1, 1) := by decide +kernel
theorem dX5_setSticky_20 : decode cX5_setSticky 20 = .ok (.putfield 78, 3) := by decide +kernel
theorem dX5_setSticky_23 : decode cX5_setSticky 23 = .ok (.iload_n 1, 1) := by decide +kernel
theorem dX5_setSticky_24 : decode cX5_setSticky 24 = .ok (.ifCond .ne 13, 3) := by decide +kernel
theorem dX5_setSticky_27 : decode cX5_setSticky 27 = .ok (.aload_n 0, 1) := by decide +kernel
theorem dX5_setSticky_28 : decode cX5_setSticky 28 = .ok (.getfield 10, 3) := by decide +kernel
theorem dX5_setSticky_31 : decode cX5_setSticky 31 = .ok (.getfield 81, 3) := by decide +kernel
theorem dX5_setSticky_34 : decode cX5_setSticky 34 = .ok (.invokevirtual 85, 3) := by decide +kernel
theorem dX5_setSticky_37 : decode cX5_setSticky 37 = .ok (.iload_n 2, 1) := by decide +kernel
theorem dX5_setSticky_38 : decode cX5_setSticky 38 = .ok (.ireturn, 1) := by decide +kernel
set_option maxRecDepth 20000 in
theorem ggX5_setPolicy_X5_requireRange : GoodIn wsX5_setPolicy wsX5_requireRange := goodIn_ca (goodIn_r _ [6, 7, 8] (by decide +kernel) (by decide +kernel)) (goodIn_sub (fun _ h => List.mem_cons_of_mem _ (List.mem_append_right _ h)) (by decide +kernel))
set_option maxRecDepth 20000 in
theorem gX5_setPolicy_X5_requireRange : GoodIn wsX5_setPolicy (va_wsS RX5 20 yX5_requireRange wsX5_requireRange) := goodIn_app (goodIn_of _ (by decide +kernel)) ggX5_setPolicy_X5_requireRange
set_option maxRecDepth 20000 in
theorem ggX5_setPolicy_X4_forgetSelections : GoodIn wsX5_setPolicy wsX4_forgetSelections := goodIn_r _ [13, 14, 15, 16, 17, 20, 21, 22, 23, 24, 25, 26, 27, 28, 29, 30, 31, 32, 33, 34, 35, 36, 37, 38, 39, 40, 41, 42, 43] (by decide +kernel) (by decide +kernel)
set_option maxRecDepth 20000 in
theorem gX5_setPolicy_X4_forgetSelections : GoodIn wsX5_setPolicy (wsV RX5 93 RX4 yX4_forgetSelections wsX4_forgetSelections) := goodIn_app (goodIn_of _ (by decide +kernel)) ggX5_setPolicy_X4_forgetSelections
theorem dX5_setPolicy_0 : decode cX5_setPolicy 0 = .ok (.iload_n 1, 1) := by decide +kernel
theorem dX5_setPolicy_1 : decode cX5_setPolicy 1 = .ok (.iconst 0, 1) := by decide +kernel
theorem dX5_setPolicy_2 : decode cX5_setPolicy 2 = .ok (.iconst 4, 1) := by decide +kernel
theorem dX5_setPolicy_3 : decode cX5_setPolicy 3 = .ok (.invokestatic 20, 3) := by decide +kernel
theorem dX5_setPolicy_6 : decode cX5_setPolicy 6 = .ok (.aload_n 0, 1) := by decide +kernel
theorem dX5_setPolicy_7 : decode cX5_setPolicy 7 = .ok (.getfield 10, 3) := by decide +kernel
theorem dX5_setPolicy_10 : decode cX5_setPolicy 10 = .ok (.getfield 90, 3) := by decide +kernel
theorem dX5_setPolicy_13 : decode cX5_setPolicy 13 = .ok (.istore_n 2, 1) := by decide +kernel
theorem dX5_setPolicy_14 : decode cX5_setPolicy 14 = .ok (.aload_n 0, 1) := by decide +kernel
theorem dX5_setPolicy_15 : decode cX5_setPolicy 15 = .ok (.getfield 10, 3) := by decide +kernel
theorem dX5_setPolicy_18 : decode cX5_setPolicy 18 = .ok (.iload_n 1, 1) := by decide +kernel
theorem dX5_setPolicy_19 : decode cX5_setPolicy 19 = .ok (.putfield 90, 3) := by decide +kernel
theorem dX5_setPolicy_22 : decode cX5_setPolicy 22 = .ok (.aload_n 0, 1) := by decide +kernel
theorem dX5_setPolicy_23 : decode cX5_setPolicy 23 = .ok (.getfield 10, 3) := by decide +kernel
theorem dX5_setPolicy_26 : decode cX5_setPolicy 26 = .ok (.invokevirtual 93, 3) := by decide +kernel
theorem dX5_setPolicy_29 : decode cX5_setPolicy 29 = .ok (.iload_n 2, 1) := by decide +kernel
theorem dX5_setPolicy_30 : decode cX5_setPolicy 30 = .ok (.ireturn, 1) := by decide +kernel
theorem dX5_setSeed_0 : decode cX5_setSeed 0 = .ok (.aload_n 0, 1) := by decide +kernel
theorem dX5_setSeed_1 : decode cX5_setSeed 1 = .ok (.getfield 10, 3) := by decide +kernel
theorem dX5_setSeed_4 : decode cX5_setSeed 4 = .ok (.getfield 96, 3) := by decide +kernel
theorem dX5_setSeed_7 : decode cX5_setSeed 7 = .ok (.istore_n 2, 1) := by decide +kernel
theorem dX5_setSeed_8 : decode cX5_setSeed 8 = .ok (.aload_n 0, 1) := by decide +kernel
theorem dX5_setSeed_9 : decode cX5_setSeed 9 = .ok (.getfield 10, 3) := by decide +kernel
theorem dX5_setSeed_12 : decode cX5_setSeed 12 = .ok (.iload_n 1, 1) := by decide +kernel
