theorem dX6_nextInTurn_45 : decode cX6_nextInTurn 45 = .ok (.ireturn, 1) := by decide +kernel
set_option maxRecDepth 20000 in
theorem ggX6_mostCredit_X6_weightNow : GoodIn wsX6_mostCredit wsX6_weightNow := goodIn_r _ [8, 3, 9, 10, 11, 12, 13, 14] (by decide +kernel) (by decide +kernel)
set_option maxRecDepth 20000 in
theorem gX6_mostCredit_X6_weightNow : GoodIn wsX6_mostCredit (wsV RX6 45 RX6 yX6_weightNow wsX6_weightNow) := goodIn_app (goodIn_of _ (by decide +kernel)) ggX6_mostCredit_X6_weightNow
theorem dX6_mostCredit_0 : decode cX6_mostCredit 0 = .ok (.aload_n 0, 1) := by decide +kernel
theorem dX6_mostCredit_1 : decode cX6_mostCredit 1 = .ok (.getfield 20, 3) := by decide +kernel
theorem dX6_mostCredit_4 : decode cX6_mostCredit 4 = .ok (.iconst 0, 1) := by decide +kernel
theorem dX6_mostCredit_5 : decode cX6_mostCredit 5 = .ok (.iaload, 1) := by decide +kernel
theorem dX6_mostCredit_6 : decode cX6_mostCredit 6 = .ok (.istore_n 1, 1) := by decide +kernel
theorem dX6_mostCredit_7 : decode cX6_mostCredit 7 = .ok (.iconst 1, 1) := by decide +kernel
theorem dX6_mostCredit_8 : decode cX6_mostCredit 8 = .ok (.istore_n 2, 1) := by decide +kernel
theorem dX6_mostCredit_9 : decode cX6_mostCredit 9 = .ok (.iload_n 2, 1) := by decide +kernel
theorem dX6_mostCredit_10 : decode cX6_mostCredit 10 = .ok (.aload_n 0, 1) := by decide +kernel
theorem dX6_mostCredit_11 : decode cX6_mostCredit 11 = .ok (.getfield 39, 3) := by decide +kernel
theorem dX6_mostCredit_14 : decode cX6_mostCredit 14 = .ok (.if_icmp .ge 55, 3) := by decide +kernel
theorem dX6_mostCredit_17 : decode cX6_mostCredit 17 = .ok (.aload_n 0, 1) := by decide +kernel
theorem dX6_mostCredit_18 : decode cX6_mostCredit 18 = .ok (.getfield 20, 3) := by decide +kernel
theorem dX6_mostCredit_21 : decode cX6_mostCredit 21 = .ok (.iload_n 2, 1) := by decide +kernel
theorem dX6_mostCredit_22 : decode cX6_mostCredit 22 = .ok (.iaload, 1) := by decide +kernel
theorem dX6_mostCredit_23 : decode cX6_mostCredit 23 = .ok (.istore_n 3, 1) := by decide +kernel
theorem dX6_mostCredit_24 : decode cX6_mostCredit 24 = .ok (.aload_n 0, 1) := by decide +kernel
theorem dX6_mostCredit_25 : decode cX6_mostCredit 25 = .ok (.getfield 7, 3) := by decide +kernel
theorem dX6_mostCredit_28 : decode cX6_mostCredit 28 = .ok (.bipush 113, 2) := by decide +kernel
theorem dX6_mostCredit_30 : decode cX6_mostCredit 30 = .ok (.iload_n 3, 1) := by decide +kernel
theorem dX6_mostCredit_31 : decode cX6_mostCredit 31 = .ok (.iadd, 1) := by decide +kernel
theorem dX6_mostCredit_32 : decode cX6_mostCredit 32 = .ok (.iaload, 1) := by decide +kernel
theorem dX6_mostCredit_33 : decode cX6_mostCredit 33 = .ok (.aload_n 0, 1) := by decide +kernel
theorem dX6_mostCredit_34 : decode cX6_mostCredit 34 = .ok (.iload_n 3, 1) := by decide +kernel
theorem dX6_mostCredit_35 : decode cX6_mostCredit 35 = .ok (.invokevirtual 45, 3) := by decide +kernel
theorem dX6_mostCredit_38 : decode cX6_mostCredit 38 = .ok (.iadd, 1) := by decide +kernel
theorem dX6_mostCredit_39 : decode cX6_mostCredit 39 = .ok (.aload_n 0, 1) := by decide +kernel
theorem dX6_mostCredit_40 : decode cX6_mostCredit 40 = .ok (.getfield 7, 3) := by decide +kernel
theorem dX6_mostCredit_43 : decode cX6_mostCredit 43 = .ok (.bipush 113, 2) := by decide +kernel
theorem dX6_mostCredit_45 : decode cX6_mostCredit 45 = .ok (.iload_n 1, 1) := by decide +kernel
theorem dX6_mostCredit_46 : decode cX6_mostCredit 46 = .ok (.iadd, 1) := by decide +kernel
theorem dX6_mostCredit_47 : decode cX6_mostCredit 47 = .ok (.iaload, 1) := by decide +kernel
theorem dX6_mostCredit_48 : decode cX6_mostCredit 48 = .ok (.aload_n 0, 1) := by decide +kernel
theorem dX6_mostCredit_49 : decode cX6_mostCredit 49 = .ok (.iload_n 1, 1) := by decide +kernel
theorem dX6_mostCredit_50 : decode cX6_mostCredit 50 = .ok (.invokevirtual 45, 3) := by decide +kernel
theorem dX6_mostCredit_53 : decode cX6_mostCredit 53 = .ok (.iadd, 1) := by decide +kernel
theorem dX6_mostCredit_54 : decode cX6_mostCredit 54 = .ok (.if_icmp .le 7, 3) := by decide +kernel
theorem dX6_mostCredit_57 : decode cX6_mostCredit 57 = .ok (.iload_n 3, 1) := by decide +kernel
theorem dX6_mostCredit_58 : decode cX6_mostCredit 58 = .ok (.goto 4, 3) := by decide +kernel
theorem dX6_mostCredit_61 : decode cX6_mostCredit 61 = .ok (.iload_n 1, 1) := by decide +kernel
theorem dX6_mostCredit_62 : decode cX6_mostCredit 62 = .ok (.istore_n 1, 1) := by decide +kernel
theorem dX6_mostCredit_63 : decode cX6_mostCredit 63 = .ok (.iinc 2 1, 3) := by decide +kernel
theorem dX6_mostCredit_66 : decode cX6_mostCredit 66 = .ok (.goto (-57), 3) := by decide +kernel
theorem dX6_mostCredit_69 : decode cX6_mostCredit 69 = .ok (.iload_n 1, 1) := by decide +kernel
theorem dX6_mostCredit_70 : decode cX6_mostCredit 70 = .ok (.ireturn, 1) := by decide +kernel
set_option maxRecDepth 20000 in
theorem ggX6_leastBusy_X6_weightNow : GoodIn wsX6_leastBusy wsX6_weightNow := goodIn_r _ [8, 3, 9, 10, 11, 12, 13, 14] (by decide +kernel) (by decide +kernel)
set_option maxRecDepth 20000 in
theorem gX6_leastBusy_X6_weightNow : GoodIn wsX6_leastBusy (wsV RX6 45 RX6 yX6_weightNow wsX6_weightNow) := goodIn_app (goodIn_of _ (by decide +kernel)) ggX6_leastBusy_X6_weightNow
theorem dX6_leastBusy_0 : decode cX6_leastBusy 0 = .ok (.aload_n 0, 1) := by decide +kernel
theorem dX6_leastBusy_1 : decode cX6_leastBusy 1 = .ok (.getfield 20, 3) := by decide +kernel
theorem dX6_leastBusy_4 : decode cX6_leastBusy 4 = .ok (.iconst 0, 1) := by decide +kernel
theorem dX6_leastBusy_5 : decode cX6_leastBusy 5 = .ok (.iaload, 1) := by decide +kernel
theorem dX6_leastBusy_6 : decode cX6_leastBusy 6 = .ok (.istore_n 1, 1) := by decide +kernel
theorem dX6_leastBusy_7 : decode cX6_leastBusy 7 = .ok (.iconst 1, 1) := by decide +kernel
theorem dX6_leastBusy_8 : decode cX6_leastBusy 8 = .ok (.istore_n 2, 1) := by decide +kernel
theorem dX6_leastBusy_9 : decode cX6_leastBusy 9 = .ok (.iload_n 2, 1) := by decide +kernel
theorem dX6_leastBusy_10 : decode cX6_leastBusy 10 = .ok (.aload_n 0, 1) := by decide +kernel
theorem dX6_leastBusy_11 : decode cX6_leastBusy 11 = .ok (.getfield 39, 3) := by decide +kernel
theorem dX6_leastBusy_14 : decode cX6_leastBusy 14 = .ok (.if_icmp .ge 55, 3) := by decide +kernel
theorem dX6_leastBusy_17 : decode cX6_leastBusy 17 = .ok (.aload_n 0, 1) := by decide +kernel
theorem dX6_leastBusy_18 : decode cX6_leastBusy 18 = .ok (.getfield 20, 3) := by decide +kernel
theorem dX6_leastBusy_21 : decode cX6_leastBusy 21 = .ok (.iload_n 2, 1) := by decide +kernel
theorem dX6_leastBusy_22 : decode cX6_leastBusy 22 = .ok (.iaload, 1) := by decide +kernel
theorem dX6_leastBusy_23 : decode cX6_leastBusy 23 = .ok (.istore_n 3, 1) := by decide +kernel
theorem dX6_leastBusy_24 : decode cX6_leastBusy 24 = .ok (.aload_n 0, 1) := by decide +kernel
theorem dX6_leastBusy_25 : decode cX6_leastBusy 25 = .ok (.getfield 7, 3) := by decide +kernel
theorem dX6_leastBusy_28 : decode cX6_leastBusy 28 = .ok (.bipush 33, 2) := by decide +kernel
theorem dX6_leastBusy_30 : decode cX6_leastBusy 30 = .ok (.iload_n 3, 1) := by decide +kernel
theorem dX6_leastBusy_31 : decode cX6_leastBusy 31 = .ok (.iadd, 1) := by decide +kernel
theorem dX6_leastBusy_32 : decode cX6_leastBusy 32 = .ok (.iaload, 1) := by decide +kernel
theorem dX6_leastBusy_33 : decode cX6_leastBusy 33 = .ok (.aload_n 0, 1) := by decide +kernel
theorem dX6_leastBusy_34 : decode cX6_leastBusy 34 = .ok (.iload_n 1, 1) := by decide +kernel
theorem dX6_leastBusy_35 : decode cX6_leastBusy 35 = .ok (.invokevirtual 45, 3) := by decide +kernel
theorem dX6_leastBusy_38 : decode cX6_leastBusy 38 = .ok (.imul, 1) := by decide +kernel
theorem dX6_leastBusy_39 : decode cX6_leastBusy 39 = .ok (.aload_n 0, 1) := by decide +kernel
theorem dX6_leastBusy_40 : decode cX6_leastBusy 40 = .ok (.getfield 7, 3) := by decide +kernel
theorem dX6_leastBusy_43 : decode cX6_leastBusy 43 = .ok (.bipush 33, 2) := by decide +kernel
theorem dX6_leastBusy_45 : decode cX6_leastBusy 45 = .ok (.iload_n 1, 1) := by decide +kernel
theorem dX6_leastBusy_46 : decode cX6_leastBusy 46 = .ok (.iadd, 1) := by decide +kernel
theorem dX6_leastBusy_47 : decode cX6_leastBusy 47 = .ok (.iaload, 1) := by decide +kernel
theorem dX6_leastBusy_48 : decode cX6_leastBusy 48 = .ok (.aload_n 0, 1) := by decide +kernel
theorem dX6_leastBusy_49 : decode cX6_leastBusy 49 = .ok (.iload_n 3, 1) := by decide +kernel
theorem dX6_leastBusy_50 : decode cX6_leastBusy 50 = .ok (.invokevirtual 45, 3) := by decide +kernel
theorem dX6_leastBusy_53 : decode cX6_leastBusy 53 = .ok (.imul, 1) := by decide +kernel
theorem dX6_leastBusy_54 : decode cX6_leastBusy 54 = .ok (.if_icmp .ge 7, 3) := by decide +kernel
theorem dX6_leastBusy_57 : decode cX6_leastBusy 57 = .ok (.iload_n 3, 1) := by decide +kernel
theorem dX6_leastBusy_58 : decode cX6_leastBusy 58 = .ok (.goto 4, 3) := by decide +kernel
theorem dX6_leastBusy_61 : decode cX6_leastBusy 61 = .ok (.iload_n 1, 1) := by decide +kernel
theorem dX6_leastBusy_62 : decode cX6_leastBusy 62 = .ok (.istore_n 1, 1) := by decide +kernel
theorem dX6_leastBusy_63 : decode cX6_leastBusy 63 = .ok (.iinc 2 1, 3) := by decide +kernel
theorem dX6_leastBusy_66 : decode cX6_leastBusy 66 = .ok (.goto (-57), 3) := by decide +kernel
theorem dX6_leastBusy_69 : decode cX6_leastBusy 69 = .ok (.iload_n 1, 1) := by decide +kernel
theorem dX6_leastBusy_70 : decode cX6_leastBusy 70 = .ok (.ireturn, 1) := by decide +kernel
theorem dX6_mix_0 : decode cX6_mix 0 = .ok (.iload_n 0, 1) := by decide +kernel
theorem dX6_mix_1 : decode cX6_mix 1 = .ok (.istore_n 1, 1) := by decide +kernel
theorem dX6_mix_2 : decode cX6_mix 2 = .ok (.iload_n 1, 1) := by decide +kernel
theorem dX6_mix_3 : decode cX6_mix 3 = .ok (.iload_n 1, 1) := by decide +kernel
theorem dX6_mix_4 : decode cX6_mix 4 = .ok (.bipush 16, 2) := by decide +kernel
theorem dX6_mix_6 : decode cX6_mix 6 = .ok (.iushr, 1) := by decide +kernel
theorem dX6_mix_7 : decode cX6_mix 7 = .ok (.ixor, 1) := by decide +kernel
theorem dX6_mix_8 : decode cX6_mix 8 = .ok (.istore_n 1, 1) := by decide +kernel
theorem dX6_mix_9 : decode cX6_mix 9 = .ok (.iload_n 1, 1) := by decide +kernel
theorem dX6_mix_10 : decode cX6_mix 10 = .ok (.ldc 49, 2) := by decide +kernel
theorem dX6_mix_12 : decode cX6_mix 12 = .ok (.imul, 1) := by decide +kernel
theorem dX6_mix_13 : decode cX6_mix 13 = .ok (.istore_n 1, 1) := by decide +kernel
theorem dX6_mix_14 : decode cX6_mix 14 = .ok (.iload_n 1, 1) := by decide +kernel
theorem dX6_mix_15 : decode cX6_mix 15 = .ok (.iload_n 1, 1) := by decide +kernel
theorem dX6_mix_16 : decode cX6_mix 16 = .ok (.bipush 16, 2) := by decide +kernel
theorem dX6_mix_18 : decode cX6_mix 18 = .ok (.iushr, 1) := by decide +kernel
theorem dX6_mix_19 : decode cX6_mix 19 = .ok (.ixor, 1) := by decide +kernel
theorem dX6_mix_20 : decode cX6_mix 20 = .ok (.istore_n 1, 1) := by decide +kernel
theorem dX6_mix_21 : decode cX6_mix 21 = .ok (.iload_n 1, 1) := by decide +kernel
theorem dX6_mix_22 : decode cX6_mix 22 = .ok (.ldc 49, 2) := by decide +kernel
theorem dX6_mix_24 : decode cX6_mix 24 = .ok (.imul, 1) := by decide +kernel
theorem dX6_mix_25 : decode cX6_mix 25 = .ok (.istore_n 1, 1) := by decide +kernel
theorem dX6_mix_26 : decode cX6_mix 26 = .ok (.iload_n 1, 1) := by decide +kernel
theorem dX6_mix_27 : decode cX6_mix 27 = .ok (.iload_n 1, 1) := by decide +kernel
theorem dX6_mix_28 : decode cX6_mix 28 = .ok (.bipush 16, 2) := by decide +kernel
theorem dX6_mix_30 : decode cX6_mix 30 = .ok (.iushr, 1) := by decide +kernel
theorem dX6_mix_31 : decode cX6_mix 31 = .ok (.ixor, 1) := by decide +kernel
theorem dX6_mix_32 : decode cX6_mix 32 = .ok (.istore_n 1, 1) := by decide +kernel
theorem dX6_mix_33 : decode cX6_mix 33 = .ok (.iload_n 1, 1) := by decide +kernel
theorem dX6_mix_34 : decode cX6_mix 34 = .ok (.ireturn, 1) := by decide +kernel
set_option maxRecDepth 20000 in
theorem ggX6_placeOf_X6_mix : GoodIn wsX6_placeOf wsX6_mix := goodIn_r _ [5, 6] (by decide +kernel) (by decide +kernel)
set_option maxRecDepth 20000 in
theorem gX6_placeOf_X6_mix : GoodIn wsX6_placeOf (va_wsS RX6 50 yX6_mix wsX6_mix) := goodIn_app (goodIn_of _ (by decide +kernel)) ggX6_placeOf_X6_mix
theorem dX6_placeOf_0 : decode cX6_placeOf 0 = .ok (.iload_n 0, 1) := by decide +kernel
theorem dX6_placeOf_1 : decode cX6_placeOf 1 = .ok (.invokestatic 50, 3) := by decide +kernel
theorem dX6_placeOf_4 : decode cX6_placeOf 4 = .ok (.i2l, 1) := by decide +kernel
theorem dX6_placeOf_5 : decode cX6_placeOf 5 = .ok (.ldc2_w 53, 3) := by decide +kernel
theorem dX6_placeOf_8 : decode cX6_placeOf 8 = .ok (.land, 1) := by decide +kernel
theorem dX6_placeOf_9 : decode cX6_placeOf 9 = .ok (.lreturn, 1) := by decide +kernel
set_option maxRecDepth 20000 in
theorem ggX6_byPoints_X6_placeOf : GoodIn wsX6_byPoints wsX6_placeOf := goodIn_r _ [6, 2, 7, 8, 5, 9, 10] (by decide +kernel) (by decide +kernel)
set_option maxRecDepth 20000 in
theorem gX6_byPoints_X6_placeOf : GoodIn wsX6_byPoints (va_wsS RX6 55 yX6_placeOf wsX6_placeOf) := goodIn_app (goodIn_of _ (by decide +kernel)) ggX6_byPoints_X6_placeOf
set_option maxRecDepth 20000 in
theorem ggX6_byPoints_X6_mayTake : GoodIn wsX6_byPoints wsX6_mayTake := goodIn_r _ [14, 1, 15, 16, 17, 18, 19, 20] (by decide +kernel) (by decide +kernel)
set_option maxRecDepth 20000 in
theorem gX6_byPoints_X6_mayTake : GoodIn wsX6_byPoints (wsV RX6 42 RX6 yX6_mayTake wsX6_mayTake) := goodIn_app (goodIn_of _ (by decide +kernel)) ggX6_byPoints_X6_mayTake
theorem dX6_byPoints_0 : decode cX6_byPoints 0 = .ok (.iload_n 1, 1) := by decide +kernel
theorem dX6_byPoints_1 : decode cX6_byPoints 1 = .ok (.invokestatic 55, 3) := by decide +kernel
theorem dX6_byPoints_4 : decode cX6_byPoints 4 = .ok (.lstore_n 3, 1) := by decide +kernel
theorem dX6_byPoints_5 : decode cX6_byPoints 5 = .ok (.lconst 0, 1) := by decide +kernel
theorem dX6_byPoints_6 : decode cX6_byPoints 6 = .ok (.lstore 5, 2) := by decide +kernel
theorem dX6_byPoints_8 : decode cX6_byPoints 8 = .ok (.iconst (-1), 1) := by decide +kernel
theorem dX6_byPoints_9 : decode cX6_byPoints 9 = .ok (.istore 7, 2) := by decide +kernel
theorem dX6_byPoints_11 : decode cX6_byPoints 11 = .ok (.iconst 0, 1) := by decide +kernel
theorem dX6_byPoints_12 : decode cX6_byPoints 12 = .ok (.istore 8, 2) := by decide +kernel
theorem dX6_byPoints_14 : decode cX6_byPoints 14 = .ok (.iload 8, 2) := by decide +kernel
theorem dX6_byPoints_16 : decode cX6_byPoints 16 = .ok (.aload_n 0, 1) := by decide +kernel
theorem dX6_byPoints_17 : decode cX6_byPoints 17 = .ok (.getfield 7, 3) := by decide +kernel
theorem dX6_byPoints_20 : decode cX6_byPoints 20 = .ok (.iconst 0, 1) := by decide +kernel
theorem dX6_byPoints_21 : decode cX6_byPoints 21 = .ok (.iaload, 1) := by decide +kernel
theorem dX6_byPoints_22 : decode cX6_byPoints 22 = .ok (.if_icmp .ge 89, 3) := by decide +kernel
theorem dX6_byPoints_25 : decode cX6_byPoints 25 = .ok (.iconst 0, 1) := by decide +kernel
theorem dX6_byPoints_26 : decode cX6_byPoints 26 = .ok (.istore 9, 2) := by decide +kernel
theorem dX6_byPoints_28 : decode cX6_byPoints 28 = .ok (.iload 9, 2) := by decide +kernel
theorem dX6_byPoints_30 : decode cX6_byPoints 30 = .ok (.iconst 4, 1) := by decide +kernel
theorem dX6_byPoints_31 : decode cX6_byPoints 31 = .ok (.aload_n 0, 1) := by decide +kernel
theorem dX6_byPoints_32 : decode cX6_byPoints 32 = .ok (.getfield 7, 3) := by decide +kernel
theorem dX6_byPoints_35 : decode cX6_byPoints 35 = .ok (.bipush 13, 2) := by decide +kernel
theorem dX6_byPoints_37 : decode cX6_byPoints 37 = .ok (.iload 8, 2) := by decide +kernel
theorem dX6_byPoints_39 : decode cX6_byPoints 39 = .ok (.iadd, 1) := by decide +kernel
theorem dX6_byPoints_40 : decode cX6_byPoints 40 = .ok (.iaload, 1) := by decide +kernel
theorem dX6_byPoints_41 : decode cX6_byPoints 41 = .ok (.imul, 1) := by decide +kernel
theorem dX6_byPoints_42 : decode cX6_byPoints 42 = .ok (.if_icmp .ge 63, 3) := by decide +kernel
theorem dX6_byPoints_45 : decode cX6_byPoints 45 = .ok (.iload_n 2, 1) := by decide +kernel
theorem dX6_byPoints_46 : decode cX6_byPoints 46 = .ok (.ifCond .ne 12, 3) := by decide +kernel
theorem dX6_byPoints_49 : decode cX6_byPoints 49 = .ok (.aload_n 0, 1) := by decide +kernel
theorem dX6_byPoints_50 : decode cX6_byPoints 50 = .ok (.iload 8, 2) := by decide +kernel
theorem dX6_byPoints_52 : decode cX6_byPoints 52 = .ok (.invokevirtual 42, 3) := by decide +kernel
theorem dX6_byPoints_55 : decode cX6_byPoints 55 = .ok (.ifCond .eq 50, 3) := by decide +kernel
theorem dX6_byPoints_58 : decode cX6_byPoints 58 = .ok (.sipush 1000, 3) := by decide +kernel
theorem dX6_byPoints_61 : decode cX6_byPoints 61 = .ok (.iload 8, 2) := by decide +kernel
theorem dX6_byPoints_63 : decode cX6_byPoints 63 = .ok (.imul, 1) := by decide +kernel
theorem dX6_byPoints_64 : decode cX6_byPoints 64 = .ok (.iload 9, 2) := by decide +kernel
theorem dX6_byPoints_66 : decode cX6_byPoints 66 = .ok (.iadd, 1) := by decide +kernel
theorem dX6_byPoints_67 : decode cX6_byPoints 67 = .ok (.invokestatic 55, 3) := by decide +kernel
theorem dX6_byPoints_70 : decode cX6_byPoints 70 = .ok (.lload_n 3, 1) := by decide +kernel
theorem dX6_byPoints_71 : decode cX6_byPoints 71 = .ok (.lsub, 1) := by decide +kernel
theorem dX6_byPoints_72 : decode cX6_byPoints 72 = .ok (.ldc2_w 53, 3) := by decide +kernel
theorem dX6_byPoints_75 : decode cX6_byPoints 75 = .ok (.land, 1) := by decide +kernel
theorem dX6_byPoints_76 : decode cX6_byPoints 76 = .ok (.lstore 10, 2) := by decide +kernel
theorem dX6_byPoints_78 : decode cX6_byPoints 78 = .ok (.iload 7, 2) := by decide +kernel
theorem dX6_byPoints_80 : decode cX6_byPoints 80 = .ok (.ifCond .lt 11, 3) := by decide +kernel
theorem dX6_byPoints_83 : decode cX6_byPoints 83 = .ok (.lload 10, 2) := by decide +kernel
theorem dX6_byPoints_85 : decode cX6_byPoints 85 = .ok (.lload 5, 2) := by decide +kernel
theorem dX6_byPoints_87 : decode cX6_byPoints 87 = .ok (.lcmp, 1) := by decide +kernel
theorem dX6_byPoints_88 : decode cX6_byPoints 88 = .ok (.ifCond .ge 11, 3) := by decide +kernel
theorem dX6_byPoints_91 : decode cX6_byPoints 91 = .ok (.iload 8, 2) := by decide +kernel
theorem dX6_byPoints_93 : decode cX6_byPoints 93 = .ok (.istore 7, 2) := by decide +kernel
theorem dX6_byPoints_95 : decode cX6_byPoints 95 = .ok (.lload 10, 2) := by decide +kernel
theorem dX6_byPoints_97 : decode cX6_byPoints 97 = .ok (.lstore 5, 2) := by decide +kernel
theorem dX6_byPoints_99 : decode cX6_byPoints 99 = .ok (.iinc 9 1, 3) := by decide +kernel
theorem dX6_byPoints_102 : decode cX6_byPoints 102 = .ok (.goto (-74), 3) := by decide +kernel
theorem dX6_byPoints_105 : decode cX6_byPoints 105 = .ok (.iinc 8 1, 3) := by decide +kernel
theorem dX6_byPoints_108 : decode cX6_byPoints 108 = .ok (.goto (-94), 3) := by decide +kernel
theorem dX6_byPoints_111 : decode cX6_byPoints 111 = .ok (.iload 7, 2) := by decide +kernel
theorem dX6_byPoints_113 : decode cX6_byPoints 113 = .ok (.ireturn, 1) := by decide +kernel
theorem dX6_nextSeed_0 : decode cX6_nextSeed 0 = .ok (.iload_n 0, 1) := by decide +kernel
theorem dX6_nextSeed_1 : decode cX6_nextSeed 1 = .ok (.ldc 59, 2) := by decide +kernel
theorem dX6_nextSeed_3 : decode cX6_nextSeed 3 = .ok (.imul, 1) := by decide +kernel
theorem dX6_nextSeed_4 : decode cX6_nextSeed 4 = .ok (.sipush 12345, 3) := by decide +kernel
theorem dX6_nextSeed_7 : decode cX6_nextSeed 7 = .ok (.iadd, 1) := by decide +kernel
theorem dX6_nextSeed_8 : decode cX6_nextSeed 8 = .ok (.ireturn, 1) := by decide +kernel
set_option maxRecDepth 20000 in
theorem ggX6_ofTwo_X6_nextSeed : GoodIn wsX6_ofTwo wsX6_nextSeed := goodIn_r _ [7, 8] (by decide +kernel) (by decide +kernel)
set_option maxRecDepth 20000 in
theorem gX6_ofTwo_X6_nextSeed : GoodIn wsX6_ofTwo (va_wsS RX6 60 yX6_nextSeed wsX6_nextSeed) := goodIn_app (goodIn_of _ (by decide +kernel)) ggX6_ofTwo_X6_nextSeed
theorem dX6_ofTwo_0 : decode cX6_ofTwo 0 = .ok (.aload_n 0, 1) := by decide +kernel
theorem dX6_ofTwo_1 : decode cX6_ofTwo 1 = .ok (.getfield 7, 3) := by decide +kernel
theorem dX6_ofTwo_4 : decode cX6_ofTwo 4 = .ok (.bipush 8, 2) := by decide +kernel
theorem dX6_ofTwo_6 : decode cX6_ofTwo 6 = .ok (.iaload, 1) := by decide +kernel
theorem dX6_ofTwo_7 : decode cX6_ofTwo 7 = .ok (.invokestatic 60, 3) := by decide +kernel
theorem dX6_ofTwo_10 : decode cX6_ofTwo 10 = .ok (.istore_n 1, 1) := by decide +kernel
theorem dX6_ofTwo_11 : decode cX6_ofTwo 11 = .ok (.iload_n 1, 1) := by decide +kernel
theorem dX6_ofTwo_12 : decode cX6_ofTwo 12 = .ok (.invokestatic 60, 3) := by decide +kernel
theorem dX6_ofTwo_15 : decode cX6_ofTwo 15 = .ok (.istore_n 2, 1) := by decide +kernel
theorem dX6_ofTwo_16 : decode cX6_ofTwo 16 = .ok (.aload_n 0, 1) := by decide +kernel
theorem dX6_ofTwo_17 : decode cX6_ofTwo 17 = .ok (.getfield 20, 3) := by decide +kernel
theorem dX6_ofTwo_20 : decode cX6_ofTwo 20 = .ok (.iload_n 1, 1) := by decide +kernel
theorem dX6_ofTwo_21 : decode cX6_ofTwo 21 = .ok (.bipush 16, 2) := by decide +kernel
theorem dX6_ofTwo_23 : decode cX6_ofTwo 23 = .ok (.iushr, 1) := by decide +kernel
theorem dX6_ofTwo_24 : decode cX6_ofTwo 24 = .ok (.aload_n 0, 1) := by decide +kernel
theorem dX6_ofTwo_25 : decode cX6_ofTwo 25 = .ok (.getfield 39, 3) := by decide +kernel
theorem dX6_ofTwo_28 : decode cX6_ofTwo 28 = .ok (.irem, 1) := by decide +kernel
theorem dX6_ofTwo_29 : decode cX6_ofTwo 29 = .ok (.iaload, 1) := by decide +kernel
theorem dX6_ofTwo_30 : decode cX6_ofTwo 30 = .ok (.istore_n 3, 1) := by decide +kernel
theorem dX6_ofTwo_31 : decode cX6_ofTwo 31 = .ok (.aload_n 0, 1) := by decide +kernel
theorem dX6_ofTwo_32 : decode cX6_ofTwo 32 = .ok (.getfield 20, 3) := by decide +kernel
theorem dX6_ofTwo_35 : decode cX6_ofTwo 35 = .ok (.iload_n 2, 1) := by decide +kernel
theorem dX6_ofTwo_36 : decode cX6_ofTwo 36 = .ok (.bipush 16, 2) := by decide +kernel
theorem dX6_ofTwo_38 : decode cX6_ofTwo 38 = .ok (.iushr, 1) := by decide +kernel
theorem dX6_ofTwo_39 : decode cX6_ofTwo 39 = .ok (.aload_n 0, 1) := by decide +kernel
theorem dX6_ofTwo_40 : decode cX6_ofTwo 40 = .ok (.getfield 39, 3) := by decide +kernel
theorem dX6_ofTwo_43 : decode cX6_ofTwo 43 = .ok (.irem, 1) := by decide +kernel
theorem dX6_ofTwo_44 : decode cX6_ofTwo 44 = .ok (.iaload, 1) := by decide +kernel
theorem dX6_ofTwo_45 : decode cX6_ofTwo 45 = .ok (.istore 4, 2) := by decide +kernel
theorem dX6_ofTwo_47 : decode cX6_ofTwo 47 = .ok (.aload_n 0, 1) := by decide +kernel
theorem dX6_ofTwo_48 : decode cX6_ofTwo 48 = .ok (.getfield 7, 3) := by decide +kernel
theorem dX6_ofTwo_51 : decode cX6_ofTwo 51 = .ok (.bipush 33, 2) := by decide +kernel
theorem dX6_ofTwo_53 : decode cX6_ofTwo 53 = .ok (.iload 4, 2) := by decide +kernel
theorem dX6_ofTwo_55 : decode cX6_ofTwo 55 = .ok (.iadd, 1) := by decide +kernel
theorem dX6_ofTwo_56 : decode cX6_ofTwo 56 = .ok (.iaload, 1) := by decide +kernel
theorem dX6_ofTwo_57 : decode cX6_ofTwo 57 = .ok (.aload_n 0, 1) := by decide +kernel
theorem dX6_ofTwo_58 : decode cX6_ofTwo 58 = .ok (.getfield 7, 3) := by decide +kernel
theorem dX6_ofTwo_61 : decode cX6_ofTwo 61 = .ok (.bipush 33, 2) := by decide +kernel
theorem dX6_ofTwo_63 : decode cX6_ofTwo 63 = .ok (.iload_n 3, 1) := by decide +kernel
theorem dX6_ofTwo_64 : decode cX6_ofTwo 64 = .ok (.iadd, 1) := by decide +kernel
theorem dX6_ofTwo_65 : decode cX6_ofTwo 65 = .ok (.iaload, 1) := by decide +kernel
theorem dX6_ofTwo_66 : decode cX6_ofTwo 66 = .ok (.if_icmp .ge 8, 3) := by decide +kernel
theorem dX6_ofTwo_69 : decode cX6_ofTwo 69 = .ok (.iload 4, 2) := by decide +kernel
theorem dX6_ofTwo_71 : decode cX6_ofTwo 71 = .ok (.goto 4, 3) := by decide +kernel
theorem dX6_ofTwo_74 : decode cX6_ofTwo 74 = .ok (.iload_n 3, 1) := by decide +kernel
theorem dX6_ofTwo_75 : decode cX6_ofTwo 75 = .ok (.ireturn, 1) := by decide +kernel
set_option maxRecDepth 20000 in
theorem ggX6_byPolicy_X6_nextInTurn : GoodIn wsX6_byPolicy wsX6_nextInTurn := goodIn_r _ [6, 7, 8, 1, 45, 46, 47, 48, 49, 50] (by decide +kernel) (by decide +kernel)
set_option maxRecDepth 20000 in
theorem gX6_byPolicy_X6_nextInTurn : GoodIn wsX6_byPolicy (wsV RX6 63 RX6 yX6_nextInTurn wsX6_nextInTurn) := goodIn_app (goodIn_of _ (by decide +kernel)) ggX6_byPolicy_X6_nextInTurn
set_option maxRecDepth 20000 in
theorem ggX6_byPolicy_X6_mostCredit : GoodIn wsX6_byPolicy wsX6_mostCredit := goodIn_r _ [12, 8, 7, 1, 13, 14, 15, 5, 16, 45, 46, 47, 48, 49, 50] (by decide +kernel) (by decide +kernel)
set_option maxRecDepth 20000 in
theorem gX6_byPolicy_X6_mostCredit : GoodIn wsX6_byPolicy (wsV RX6 67 RX6 yX6_mostCredit wsX6_mostCredit) := goodIn_app (goodIn_of _ (by decide +kernel)) ggX6_byPolicy_X6_mostCredit
set_option maxRecDepth 20000 in
theorem ggX6_byPolicy_X6_leastBusy : GoodIn wsX6_byPolicy wsX6_leastBusy := goodIn_r _ [20, 8, 7, 1, 13, 14, 15, 5, 16, 45, 46, 47, 48, 49, 50] (by decide +kernel) (by decide +kernel)
set_option maxRecDepth 20000 in
theorem gX6_byPolicy_X6_leastBusy : GoodIn wsX6_byPolicy (wsV RX6 70 RX6 yX6_leastBusy wsX6_leastBusy) := goodIn_app (goodIn_of _ (by decide +kernel)) ggX6_byPolicy_X6_leastBusy
set_option maxRecDepth 20000 in
theorem ggX6_byPolicy_X6_byPoints : GoodIn wsX6_byPolicy wsX6_byPoints := goodIn_r _ [24, 1, 25, 26, 27, 5, 28, 29, 30, 31, 32, 33, 34, 35, 36, 45, 46, 47, 48, 49, 50] (by decide +kernel) (by decide +kernel)
set_option maxRecDepth 20000 in
theorem gX6_byPolicy_X6_byPoints : GoodIn wsX6_byPolicy (wsV RX6 73 RX6 yX6_byPoints wsX6_byPoints) := goodIn_app (goodIn_of _ (by decide +kernel)) ggX6_byPolicy_X6_byPoints
set_option maxRecDepth 20000 in
theorem ggX6_byPolicy_X6_ofTwo : GoodIn wsX6_byPolicy wsX6_ofTwo := goodIn_r _ [40, 1, 8, 7, 41, 42, 5, 43, 44, 45, 46, 47, 48, 49, 50] (by decide +kernel) (by decide +kernel)
set_option maxRecDepth 20000 in
theorem gX6_byPolicy_X6_ofTwo : GoodIn wsX6_byPolicy (wsV RX6 77 RX6 yX6_ofTwo wsX6_ofTwo) := goodIn_app (goodIn_of _ (by decide +kernel)) ggX6_byPolicy_X6_ofTwo
theorem dX6_byPolicy_0 : decode cX6_byPolicy 0 = .ok (.aload_n 0, 1) := by decide +kernel
theorem dX6_byPolicy_1 : decode cX6_byPolicy 1 = .ok (.getfield 7, 3) := by decide +kernel
theorem dX6_byPolicy_4 : decode cX6_byPolicy 4 = .ok (.bipush 7, 2) := by decide +kernel
theorem dX6_byPolicy_6 : decode cX6_byPolicy 6 = .ok (.iaload, 1) := by decide +kernel
theorem dX6_byPolicy_7 : decode cX6_byPolicy 7 = .ok (.tableswitch 51 0 3 #[29, 34, 39, 44], 29) := by decide +kernel
theorem dX6_byPolicy_36 : decode cX6_byPolicy 36 = .ok (.aload_n 0, 1) := by decide +kernel
theorem dX6_byPolicy_37 : decode cX6_byPolicy 37 = .ok (.invokevirtual 63, 3) := by decide +kernel
theorem dX6_byPolicy_40 : decode cX6_byPolicy 40 = .ok (.ireturn, 1) := by decide +kernel
theorem dX6_byPolicy_41 : decode cX6_byPolicy 41 = .ok (.aload_n 0, 1) := by decide +kernel
theorem dX6_byPolicy_42 : decode cX6_byPolicy 42 = .ok (.invokevirtual 67, 3) := by decide +kernel
theorem dX6_byPolicy_45 : decode cX6_byPolicy 45 = .ok (.ireturn, 1) := by decide +kernel
theorem dX6_byPolicy_46 : decode cX6_byPolicy 46 = .ok (.aload_n 0, 1) := by decide +kernel
theorem dX6_byPolicy_47 : decode cX6_byPolicy 47 = .ok (.invokevirtual 70, 3) := by decide +kernel
theorem dX6_byPolicy_50 : decode cX6_byPolicy 50 = .ok (.ireturn, 1) := by decide +kernel
theorem dX6_byPolicy_51 : decode cX6_byPolicy 51 = .ok (.aload_n 0, 1) := by decide +kernel
theorem dX6_byPolicy_52 : decode cX6_byPolicy 52 = .ok (.iload_n 1, 1) := by decide +kernel
theorem dX6_byPolicy_53 : decode cX6_byPolicy 53 = .ok (.iconst 0, 1) := by decide +kernel
theorem dX6_byPolicy_54 : decode cX6_byPolicy 54 = .ok (.invokevirtual 73, 3) := by decide +kernel
theorem dX6_byPolicy_57 : decode cX6_byPolicy 57 = .ok (.ireturn, 1) := by decide +kernel
theorem dX6_byPolicy_58 : decode cX6_byPolicy 58 = .ok (.aload_n 0, 1) := by decide +kernel
theorem dX6_byPolicy_59 : decode cX6_byPolicy 59 = .ok (.invokevirtual 77, 3) := by decide +kernel
theorem dX6_byPolicy_62 : decode cX6_byPolicy 62 = .ok (.ireturn, 1) := by decide +kernel
set_option maxRecDepth 20000 in
theorem ggX6_note_X6_weightNow : GoodIn wsX6_note wsX6_weightNow := goodIn_r _ [8, 1, 13, 14, 15, 16, 17, 18] (by decide +kernel) (by decide +kernel)
set_option maxRecDepth 20000 in
theorem gX6_note_X6_weightNow : GoodIn wsX6_note (wsV RX6 45 RX6 yX6_weightNow wsX6_weightNow) := goodIn_app (goodIn_of _ (by decide +kernel)) ggX6_note_X6_weightNow
set_option maxRecDepth 20000 in
theorem ggX6_note_X6_nextSeed : GoodIn wsX6_note wsX6_nextSeed := goodIn_r _ [11, 12] (by decide +kernel) (by decide +kernel)
set_option maxRecDepth 20000 in
theorem gX6_note_X6_nextSeed : GoodIn wsX6_note (va_wsS RX6 60 yX6_nextSeed wsX6_nextSeed) := goodIn_app (goodIn_of _ (by decide +kernel)) ggX6_note_X6_nextSeed
theorem dX6_note_0 : decode cX6_note 0 = .ok (.aload_n 0, 1) := by decide +kernel
theorem dX6_note_1 : decode cX6_note 1 = .ok (.getfield 7, 3) := by decide +kernel
theorem dX6_note_4 : decode cX6_note 4 = .ok (.bipush 7, 2) := by decide +kernel
theorem dX6_note_6 : decode cX6_note 6 = .ok (.iaload, 1) := by decide +kernel
theorem dX6_note_7 : decode cX6_note 7 = .ok (.ifCond .ne 14, 3) := by decide +kernel
theorem dX6_note_10 : decode cX6_note 10 = .ok (.aload_n 0, 1) := by decide +kernel
theorem dX6_note_11 : decode cX6_note 11 = .ok (.getfield 7, 3) := by decide +kernel
theorem dX6_note_14 : decode cX6_note 14 = .ok (.bipush 9, 2) := by decide +kernel
theorem dX6_note_16 : decode cX6_note 16 = .ok (.iload_n 1, 1) := by decide +kernel
theorem dX6_note_17 : decode cX6_note 17 = .ok (.iastore, 1) := by decide +kernel
theorem dX6_note_18 : decode cX6_note 18 = .ok (.goto 119, 3) := by decide +kernel
theorem dX6_note_21 : decode cX6_note 21 = .ok (.aload_n 0, 1) := by decide +kernel
theorem dX6_note_22 : decode cX6_note 22 = .ok (.getfield 7, 3) := by decide +kernel
theorem dX6_note_25 : decode cX6_note 25 = .ok (.bipush 7, 2) := by decide +kernel
theorem dX6_note_27 : decode cX6_note 27 = .ok (.iaload, 1) := by decide +kernel
theorem dX6_note_28 : decode cX6_note 28 = .ok (.iconst 1, 1) := by decide +kernel
theorem dX6_note_29 : decode cX6_note 29 = .ok (.if_icmp .ne 77, 3) := by decide +kernel
theorem dX6_note_32 : decode cX6_note 32 = .ok (.iconst 0, 1) := by decide +kernel
theorem dX6_note_33 : decode cX6_note 33 = .ok (.istore_n 2, 1) := by decide +kernel
theorem dX6_note_34 : decode cX6_note 34 = .ok (.iconst 0, 1) := by decide +kernel
theorem dX6_note_35 : decode cX6_note 35 = .ok (.istore_n 3, 1) := by decide +kernel
theorem dX6_note_36 : decode cX6_note 36 = .ok (.iload_n 3, 1) := by decide +kernel
theorem dX6_note_37 : decode cX6_note 37 = .ok (.aload_n 0, 1) := by decide +kernel
theorem dX6_note_38 : decode cX6_note 38 = .ok (.getfield 39, 3) := by decide +kernel
theorem dX6_note_41 : decode cX6_note 41 = .ok (.if_icmp .ge 49, 3) := by decide +kernel
theorem dX6_note_44 : decode cX6_note 44 = .ok (.aload_n 0, 1) := by decide +kernel
theorem dX6_note_45 : decode cX6_note 45 = .ok (.getfield 7, 3) := by decide +kernel
theorem dX6_note_48 : decode cX6_note 48 = .ok (.bipush 113, 2) := by decide +kernel
theorem dX6_note_50 : decode cX6_note 50 = .ok (.aload_n 0, 1) := by decide +kernel
theorem dX6_note_51 : decode cX6_note 51 = .ok (.getfield 20, 3) := by decide +kernel
theorem dX6_note_54 : decode cX6_note 54 = .ok (.iload_n 3, 1) := by decide +kernel
theorem dX6_note_55 : decode cX6_note 55 = .ok (.iaload, 1) := by decide +kernel
theorem dX6_note_56 : decode cX6_note 56 = .ok (.iadd, 1) := by decide +kernel
theorem dX6_note_57 : decode cX6_note 57 = .ok (.dup2, 1) := by decide +kernel
theorem dX6_note_58 : decode cX6_note 58 = .ok (.iaload, 1) := by decide +kernel
theorem dX6_note_59 : decode cX6_note 59 = .ok (.aload_n 0, 1) := by decide +kernel
theorem dX6_note_60 : decode cX6_note 60 = .ok (.aload_n 0, 1) := by decide +kernel
theorem dX6_note_61 : decode cX6_note 61 = .ok (.getfield 20, 3) := by decide +kernel
theorem dX6_note_64 : decode cX6_note 64 = .ok (.iload_n 3, 1) := by decide +kernel
theorem dX6_note_65 : decode cX6_note 65 = .ok (.iaload, 1) := by decide +kernel
theorem dX6_note_66 : decode cX6_note 66 = .ok (.invokevirtual 45, 3) := by decide +kernel
theorem dX6_note_69 : decode cX6_note 69 = .ok (.iadd, 1) := by decide +kernel
theorem dX6_note_70 : decode cX6_note 70 = .ok (.iastore, 1) := by decide +kernel
theorem dX6_note_71 : decode cX6_note 71 = .ok (.iload_n 2, 1) := by decide +kernel
theorem dX6_note_72 : decode cX6_note 72 = .ok (.aload_n 0, 1) := by decide +kernel
theorem dX6_note_73 : decode cX6_note 73 = .ok (.aload_n 0, 1) := by decide +kernel
theorem dX6_note_74 : decode cX6_note 74 = .ok (.getfield 20, 3) := by decide +kernel
theorem dX6_note_77 : decode cX6_note 77 = .ok (.iload_n 3, 1) := by decide +kernel
theorem dX6_note_78 : decode cX6_note 78 = .ok (.iaload, 1) := by decide +kernel
theorem dX6_note_79 : decode cX6_note 79 = .ok (.invokevirtual 45, 3) := by decide +kernel
theorem dX6_note_82 : decode cX6_note 82 = .ok (.iadd, 1) := by decide +kernel
theorem dX6_note_83 : decode cX6_note 83 = .ok (.istore_n 2, 1) := by decide +kernel
theorem dX6_note_84 : decode cX6_note 84 = .ok (.iinc 3 1, 3) := by decide +kernel
theorem dX6_note_87 : decode cX6_note 87 = .ok (.goto (-51), 3) := by decide +kernel
theorem dX6_note_90 : decode cX6_note 90 = .ok (.aload_n 0, 1) := by decide +kernel
theorem dX6_note_91 : decode cX6_note 91 = .ok (.getfield 7, 3) := by decide +kernel
theorem dX6_note_94 : decode cX6_note 94 = .ok (.bipush 113, 2) := by decide +kernel
theorem dX6_note_96 : decode cX6_note 96 = .ok (.iload_n 1, 1) := by decide +kernel
theorem dX6_note_97 : decode cX6_note 97 = .ok (.iadd, 1) := by decide +kernel
theorem dX6_note_98 : decode cX6_note 98 = .ok (.dup2, 1) := by decide +kernel
theorem dX6_note_99 : decode cX6_note 99 = .ok (.iaload, 1) := by decide +kernel
theorem dX6_note_100 : decode cX6_note 100 = .ok (.iload_n 2, 1) := by decide +kernel
theorem dX6_note_101 : decode cX6_note 101 = .ok (.isub, 1) := by decide +kernel
theorem dX6_note_102 : decode cX6_note 102 = .ok (.iastore, 1) := by decide +kernel
theorem dX6_note_103 : decode cX6_note 103 = .ok (.goto 34, 3) := by decide +kernel
theorem dX6_note_106 : decode cX6_note 106 = .ok (.aload_n 0, 1) := by decide +kernel
theorem dX6_note_107 : decode cX6_note 107 = .ok (.getfield 7, 3) := by decide +kernel
theorem dX6_note_110 : decode cX6_note 110 = .ok (.bipush 7, 2) := by decide +kernel
theorem dX6_note_112 : decode cX6_note 112 = .ok (.iaload, 1) := by decide +kernel
theorem dX6_note_113 : decode cX6_note 113 = .ok (.iconst 3, 1) := by decide +kernel
theorem dX6_note_114 : decode cX6_note 114 = .ok (.if_icmp .le 23, 3) := by decide +kernel
theorem dX6_note_117 : decode cX6_note 117 = .ok (.aload_n 0, 1) := by decide +kernel
theorem dX6_note_118 : decode cX6_note 118 = .ok (.getfield 7, 3) := by decide +kernel
theorem dX6_note_121 : decode cX6_note 121 = .ok (.bipush 8, 2) := by decide +kernel
theorem dX6_note_123 : decode cX6_note 123 = .ok (.aload_n 0, 1) := by decide +kernel
theorem dX6_note_124 : decode cX6_note 124 = .ok (.getfield 7, 3) := by decide +kernel
theorem dX6_note_127 : decode cX6_note 127 = .ok (.bipush 8, 2) := by decide +kernel
theorem dX6_note_129 : decode cX6_note 129 = .ok (.iaload, 1) := by decide +kernel
theorem dX6_note_130 : decode cX6_note 130 = .ok (.invokestatic 60, 3) := by decide +kernel
theorem dX6_note_133 : decode cX6_note 133 = .ok (.invokestatic 60, 3) := by decide +kernel
theorem dX6_note_136 : decode cX6_note 136 = .ok (.iastore, 1) := by decide +kernel
theorem dX6_note_137 : decode cX6_note 137 = .ok (.return_, 1) := by decide +kernel
theorem dX6_placeOfClient_0 : decode cX6_placeOfClient 0 = .ok (.iconst 0, 1) := by decide +kernel
theorem dX6_placeOfClient_1 : decode cX6_placeOfClient 1 = .ok (.istore_n 2, 1) := by decide +kernel
theorem dX6_placeOfClient_2 : decode cX6_placeOfClient 2 = .ok (.iload_n 2, 1) := by decide +kernel
theorem dX6_placeOfClient_3 : decode cX6_placeOfClient 3 = .ok (.aload_n 0, 1) := by decide +kernel
theorem dX6_placeOfClient_4 : decode cX6_placeOfClient 4 = .ok (.getfield 7, 3) := by decide +kernel
theorem dX6_placeOfClient_7 : decode cX6_placeOfClient 7 = .ok (.bipush 12, 2) := by decide +kernel
theorem dX6_placeOfClient_9 : decode cX6_placeOfClient 9 = .ok (.iaload, 1) := by decide +kernel
theorem dX6_placeOfClient_10 : decode cX6_placeOfClient 10 = .ok (.if_icmp .ge 25, 3) := by decide +kernel
theorem dX6_placeOfClient_13 : decode cX6_placeOfClient 13 = .ok (.aload_n 0, 1) := by decide +kernel
theorem dX6_placeOfClient_14 : decode cX6_placeOfClient 14 = .ok (.getfield 7, 3) := by decide +kernel
theorem dX6_placeOfClient_17 : decode cX6_placeOfClient 17 = .ok (.sipush 143, 3) := by decide +kernel
theorem dX6_placeOfClient_20 : decode cX6_placeOfClient 20 = .ok (.iload_n 2, 1) := by decide +kernel
theorem dX6_placeOfClient_21 : decode cX6_placeOfClient 21 = .ok (.iadd, 1) := by decide +kernel
theorem dX6_placeOfClient_22 : decode cX6_placeOfClient 22 = .ok (.iaload, 1) := by decide +kernel
theorem dX6_placeOfClient_23 : decode cX6_placeOfClient 23 = .ok (.iload_n 1, 1) := by decide +kernel
theorem dX6_placeOfClient_24 : decode cX6_placeOfClient 24 = .ok (.if_icmp .ne 5, 3) := by decide +kernel
theorem dX6_placeOfClient_27 : decode cX6_placeOfClient 27 = .ok (.iload_n 2, 1) := by decide +kernel
theorem dX6_placeOfClient_28 : decode cX6_placeOfClient 28 = .ok (.ireturn, 1) := by decide +kernel
theorem dX6_placeOfClient_29 : decode cX6_placeOfClient 29 = .ok (.iinc 2 1, 3) := by decide +kernel
theorem dX6_placeOfClient_32 : decode cX6_placeOfClient 32 = .ok (.goto (-30), 3) := by decide +kernel
theorem dX6_placeOfClient_35 : decode cX6_placeOfClient 35 = .ok (.iconst (-1), 1) := by decide +kernel
theorem dX6_placeOfClient_36 : decode cX6_placeOfClient 36 = .ok (.ireturn, 1) := by decide +kernel
set_option maxRecDepth 20000 in
theorem ggX6_stuckTo_X6_placeOfClient : GoodIn wsX6_stuckTo wsX6_placeOfClient := goodIn_r _ [6, 1, 11, 12, 13, 14, 15, 16] (by decide +kernel) (by decide +kernel)
set_option maxRecDepth 20000 in
theorem gX6_stuckTo_X6_placeOfClient : GoodIn wsX6_stuckTo (wsV RX6 80 RX6 yX6_placeOfClient wsX6_placeOfClient) := goodIn_app (goodIn_of _ (by decide +kernel)) ggX6_stuckTo_X6_placeOfClient
set_option maxRecDepth 20000 in
theorem ggX6_stuckTo_X6_mayTake : GoodIn wsX6_stuckTo wsX6_mayTake := goodIn_r _ [10, 1, 11, 12, 13, 14, 15, 16] (by decide +kernel) (by decide +kernel)
set_option maxRecDepth 20000 in
theorem gX6_stuckTo_X6_mayTake : GoodIn wsX6_stuckTo (wsV RX6 42 RX6 yX6_mayTake wsX6_mayTake) := goodIn_app (goodIn_of _ (by decide +kernel)) ggX6_stuckTo_X6_mayTake
theorem dX6_stuckTo_0 : decode cX6_stuckTo 0 = .ok (.aload_n 0, 1) := by decide +kernel
theorem dX6_stuckTo_1 : decode cX6_stuckTo 1 = .ok (.iload_n 1, 1) := by decide +kernel
theorem dX6_stuckTo_2 : decode cX6_stuckTo 2 = .ok (.invokevirtual 80, 3) := by decide +kernel
theorem dX6_stuckTo_5 : decode cX6_stuckTo 5 = .ok (.istore_n 2, 1) := by decide +kernel
theorem dX6_stuckTo_6 : decode cX6_stuckTo 6 = .ok (.iload_n 2, 1) := by decide +kernel
theorem dX6_stuckTo_7 : decode cX6_stuckTo 7 = .ok (.ifCond .lt 47, 3) := by decide +kernel
theorem dX6_stuckTo_10 : decode cX6_stuckTo 10 = .ok (.aload_n 0, 1) := by decide +kernel
theorem dX6_stuckTo_11 : decode cX6_stuckTo 11 = .ok (.getfield 7, 3) := by decide +kernel
theorem dX6_stuckTo_14 : decode cX6_stuckTo 14 = .ok (.iconst 1, 1) := by decide +kernel
theorem dX6_stuckTo_15 : decode cX6_stuckTo 15 = .ok (.iaload, 1) := by decide +kernel
theorem dX6_stuckTo_16 : decode cX6_stuckTo 16 = .ok (.aload_n 0, 1) := by decide +kernel
theorem dX6_stuckTo_17 : decode cX6_stuckTo 17 = .ok (.getfield 7, 3) := by decide +kernel
theorem dX6_stuckTo_20 : decode cX6_stuckTo 20 = .ok (.sipush 183, 3) := by decide +kernel
theorem dX6_stuckTo_23 : decode cX6_stuckTo 23 = .ok (.iload_n 2, 1) := by decide +kernel
theorem dX6_stuckTo_24 : decode cX6_stuckTo 24 = .ok (.iadd, 1) := by decide +kernel
theorem dX6_stuckTo_25 : decode cX6_stuckTo 25 = .ok (.iaload, 1) := by decide +kernel
theorem dX6_stuckTo_26 : decode cX6_stuckTo 26 = .ok (.isub, 1) := by decide +kernel
theorem dX6_stuckTo_27 : decode cX6_stuckTo 27 = .ok (.aload_n 0, 1) := by decide +kernel
theorem dX6_stuckTo_28 : decode cX6_stuckTo 28 = .ok (.getfield 7, 3) := by decide +kernel
theorem dX6_stuckTo_31 : decode cX6_stuckTo 31 = .ok (.bipush 6, 2) := by decide +kernel
theorem dX6_stuckTo_33 : decode cX6_stuckTo 33 = .ok (.iaload, 1) := by decide +kernel
theorem dX6_stuckTo_34 : decode cX6_stuckTo 34 = .ok (.if_icmp .ge 20, 3) := by decide +kernel
theorem dX6_stuckTo_37 : decode cX6_stuckTo 37 = .ok (.aload_n 0, 1) := by decide +kernel
theorem dX6_stuckTo_38 : decode cX6_stuckTo 38 = .ok (.aload_n 0, 1) := by decide +kernel
theorem dX6_stuckTo_39 : decode cX6_stuckTo 39 = .ok (.getfield 7, 3) := by decide +kernel
theorem dX6_stuckTo_42 : decode cX6_stuckTo 42 = .ok (.sipush 223, 3) := by decide +kernel
theorem dX6_stuckTo_45 : decode cX6_stuckTo 45 = .ok (.iload_n 2, 1) := by decide +kernel
theorem dX6_stuckTo_46 : decode cX6_stuckTo 46 = .ok (.iadd, 1) := by decide +kernel
theorem dX6_stuckTo_47 : decode cX6_stuckTo 47 = .ok (.iaload, 1) := by decide +kernel
theorem dX6_stuckTo_48 : decode cX6_stuckTo 48 = .ok (.invokevirtual 42, 3) := by decide +kernel
theorem dX6_stuckTo_51 : decode cX6_stuckTo 51 = .ok (.ifCond .ne 5, 3) := by decide +kernel
theorem dX6_stuckTo_54 : decode cX6_stuckTo 54 = .ok (.iconst (-1), 1) := by decide +kernel
theorem dX6_stuckTo_55 : decode cX6_stuckTo 55 = .ok (.ireturn, 1) := by decide +kernel
theorem dX6_stuckTo_56 : decode cX6_stuckTo 56 = .ok (.aload_n 0, 1) := by decide +kernel
theorem dX6_stuckTo_57 : decode cX6_stuckTo 57 = .ok (.getfield 7, 3) := by decide +kernel
theorem dX6_stuckTo_60 : decode cX6_stuckTo 60 = .ok (.sipush 223, 3) := by decide +kernel
theorem dX6_stuckTo_63 : decode cX6_stuckTo 63 = .ok (.iload_n 2, 1) := by decide +kernel
theorem dX6_stuckTo_64 : decode cX6_stuckTo 64 = .ok (.iadd, 1) := by decide +kernel
theorem dX6_stuckTo_65 : decode cX6_stuckTo 65 = .ok (.iaload, 1) := by decide +kernel
theorem dX6_stuckTo_66 : decode cX6_stuckTo 66 = .ok (.ireturn, 1) := by decide +kernel
set_option maxRecDepth 20000 in
theorem ggX6_choice_X6_layRow : GoodIn wsX6_choice wsX6_layRow := goodIn_r _ [7, 2, 1, 8, 9, 10, 11, 6, 12, 61, 62, 63, 64, 65, 66] (by decide +kernel) (by decide +kernel)
set_option maxRecDepth 20000 in
theorem gX6_choice_X6_layRow : GoodIn wsX6_choice (wsV RX6 83 RX6 yX6_layRow wsX6_layRow) := goodIn_app (goodIn_of _ (by decide +kernel)) ggX6_choice_X6_layRow
set_option maxRecDepth 20000 in
theorem ggX6_choice_X6_stuckTo : GoodIn wsX6_choice wsX6_stuckTo := goodIn_r _ [16, 1, 17, 18, 19, 6, 20, 9, 10, 11, 12, 61, 62, 63, 64, 65, 66] (by decide +kernel) (by decide +kernel)
set_option maxRecDepth 20000 in
theorem gX6_choice_X6_stuckTo : GoodIn wsX6_choice (wsV RX6 86 RX6 yX6_stuckTo wsX6_stuckTo) := goodIn_app (goodIn_of _ (by decide +kernel)) ggX6_choice_X6_stuckTo
set_option maxRecDepth 20000 in
theorem ggX6_choice_X6_byPolicy : GoodIn wsX6_choice wsX6_byPolicy := goodIn_r _ [24, 1, 25, 26, 27, 6, 28, 2, 8, 29, 30, 31, 32, 33, 34, 35, 36, 37, 38, 39, 40, 41, 42, 43, 44, 45, 46, 47, 48, 49, 50, 51, 52, 9, 10, 11, 12, 53, 54, 55, 56, 57, 58, 59, 60, 61, 62, 63, 64, 65, 66] (by decide +kernel) (by decide +kernel)
set_option maxRecDepth 20000 in
theorem gX6_choice_X6_byPolicy : GoodIn wsX6_choice (wsV RX6 89 RX6 yX6_byPolicy wsX6_byPolicy) := goodIn_app (goodIn_of _ (by decide +kernel)) ggX6_choice_X6_byPolicy
theorem dX6_choice_0 : decode cX6_choice 0 = .ok (.aload_n 0, 1) := by decide +kernel
theorem dX6_choice_1 : decode cX6_choice 1 = .ok (.invokevirtual 83, 3) := by decide +kernel
theorem dX6_choice_4 : decode cX6_choice 4 = .ok (.aload_n 0, 1) := by decide +kernel
theorem dX6_choice_5 : decode cX6_choice 5 = .ok (.getfield 7, 3) := by decide +kernel
theorem dX6_choice_8 : decode cX6_choice 8 = .ok (.bipush 10, 2) := by decide +kernel
theorem dX6_choice_10 : decode cX6_choice 10 = .ok (.iaload, 1) := by decide +kernel
theorem dX6_choice_11 : decode cX6_choice 11 = .ok (.sipush 1000, 3) := by decide +kernel
theorem dX6_choice_14 : decode cX6_choice 14 = .ok (.if_icmp .eq 10, 3) := by decide +kernel
theorem dX6_choice_17 : decode cX6_choice 17 = .ok (.aload_n 0, 1) := by decide +kernel
theorem dX6_choice_18 : decode cX6_choice 18 = .ok (.getfield 39, 3) := by decide +kernel
theorem dX6_choice_21 : decode cX6_choice 21 = .ok (.ifCond .ne 5, 3) := by decide +kernel
theorem dX6_choice_24 : decode cX6_choice 24 = .ok (.iconst (-1), 1) := by decide +kernel
theorem dX6_choice_25 : decode cX6_choice 25 = .ok (.ireturn, 1) := by decide +kernel
theorem dX6_choice_26 : decode cX6_choice 26 = .ok (.aload_n 0, 1) := by decide +kernel
theorem dX6_choice_27 : decode cX6_choice 27 = .ok (.iload_n 1, 1) := by decide +kernel
theorem dX6_choice_28 : decode cX6_choice 28 = .ok (.invokevirtual 86, 3) := by decide +kernel
theorem dX6_choice_31 : decode cX6_choice 31 = .ok (.istore_n 2, 1) := by decide +kernel
theorem dX6_choice_32 : decode cX6_choice 32 = .ok (.iload_n 2, 1) := by decide +kernel
theorem dX6_choice_33 : decode cX6_choice 33 = .ok (.ifCond .lt 7, 3) := by decide +kernel
theorem dX6_choice_36 : decode cX6_choice 36 = .ok (.iload_n 2, 1) := by decide +kernel
theorem dX6_choice_37 : decode cX6_choice 37 = .ok (.goto 8, 3) := by decide +kernel
theorem dX6_choice_40 : decode cX6_choice 40 = .ok (.aload_n 0, 1) := by decide +kernel
theorem dX6_choice_41 : decode cX6_choice 41 = .ok (.iload_n 1, 1) := by decide +kernel
theorem dX6_choice_42 : decode cX6_choice 42 = .ok (.invokevirtual 89, 3) := by decide +kernel
theorem dX6_choice_45 : decode cX6_choice 45 = .ok (.ireturn, 1) := by decide +kernel
set_option maxRecDepth 20000 in
theorem ggX6_preview_X6_choice : GoodIn wsX6_preview wsX6_choice := goodIn_r _ [6, 7, 8, 9, 10, 11, 5, 12, 13, 14, 15, 16, 17, 18, 19, 20, 21, 22, 23, 24, 25, 26, 27, 28, 29, 30, 31, 32, 33, 34, 35, 36, 37, 38, 39, 40, 41, 42, 43, 44, 45, 46, 47, 48, 49, 50, 51, 52, 53, 54, 55, 56, 57, 58, 59, 60, 61, 62, 63, 64, 65, 66, 67, 68, 69, 70, 71] (by decide +kernel) (by decide +kernel)
set_option maxRecDepth 20000 in
theorem gX6_preview_X6_choice : GoodIn wsX6_preview (wsV RX6 92 RX6 yX6_choice wsX6_choice) := goodIn_app (goodIn_of _ (by decide +kernel)) ggX6_preview_X6_choice
theorem dX6_preview_0 : decode cX6_preview 0 = .ok (.aload_n 0, 1) := by decide +kernel
theorem dX6_preview_1 : decode cX6_preview 1 = .ok (.iconst 0, 1) := by decide +kernel
theorem dX6_preview_2 : decode cX6_preview 2 = .ok (.putfield 23, 3) := by decide +kernel
theorem dX6_preview_5 : decode cX6_preview 5 = .ok (.aload_n 0, 1) := by decide +kernel
theorem dX6_preview_6 : decode cX6_preview 6 = .ok (.iload_n 1, 1) := by decide +kernel
theorem dX6_preview_7 : decode cX6_preview 7 = .ok (.invokevirtual 92, 3) := by decide +kernel
theorem dX6_preview_10 : decode cX6_preview 10 = .ok (.ireturn, 1) := by decide +kernel
theorem dX6_goesFirst_0 : decode cX6_goesFirst 0 = .ok (.aload_n 0, 1) := by decide +kernel
theorem dX6_goesFirst_1 : decode cX6_goesFirst 1 = .ok (.getfield 7, 3) := by decide +kernel
theorem dX6_goesFirst_4 : decode cX6_goesFirst 4 = .ok (.sipush 183, 3) := by decide +kernel
theorem dX6_goesFirst_7 : decode cX6_goesFirst 7 = .ok (.iload_n 1, 1) := by decide +kernel
theorem dX6_goesFirst_8 : decode cX6_goesFirst 8 = .ok (.iadd, 1) := by decide +kernel
theorem dX6_goesFirst_9 : decode cX6_goesFirst 9 = .ok (.iaload, 1) := by decide +kernel
theorem dX6_goesFirst_10 : decode cX6_goesFirst 10 = .ok (.aload_n 0, 1) := by decide +kernel
theorem dX6_goesFirst_11 : decode cX6_goesFirst 11 = .ok (.getfield 7, 3) := by decide +kernel
theorem dX6_goesFirst_14 : decode cX6_goesFirst 14 = .ok (.sipush 183, 3) := by decide +kernel
theorem dX6_goesFirst_17 : decode cX6_goesFirst 17 = .ok (.iload_n 2, 1) := by decide +kernel
theorem dX6_goesFirst_18 : decode cX6_goesFirst 18 = .ok (.iadd, 1) := by decide +kernel
theorem dX6_goesFirst_19 : decode cX6_goesFirst 19 = .ok (.iaload, 1) := by decide +kernel
theorem dX6_goesFirst_20 : decode cX6_goesFirst 20 = .ok (.isub, 1) := by decide +kernel
theorem dX6_goesFirst_21 : decode cX6_goesFirst 21 = .ok (.istore_n 3, 1) := by decide +kernel
theorem dX6_goesFirst_22 : decode cX6_goesFirst 22 = .ok (.iload_n 3, 1) := by decide +kernel
theorem dX6_goesFirst_23 : decode cX6_goesFirst 23 = .ok (.ifCond .lt 30, 3) := by decide +kernel
theorem dX6_goesFirst_26 : decode cX6_goesFirst 26 = .ok (.iload_n 3, 1) := by decide +kernel
theorem dX6_goesFirst_27 : decode cX6_goesFirst 27 = .ok (.ifCond .ne 30, 3) := by decide +kernel
theorem dX6_goesFirst_30 : decode cX6_goesFirst 30 = .ok (.aload_n 0, 1) := by decide +kernel
theorem dX6_goesFirst_31 : decode cX6_goesFirst 31 = .ok (.getfield 7, 3) := by decide +kernel
theorem dX6_goesFirst_34 : decode cX6_goesFirst 34 = .ok (.sipush 143, 3) := by decide +kernel
theorem dX6_goesFirst_37 : decode cX6_goesFirst 37 = .ok (.iload_n 1, 1) := by decide +kernel
theorem dX6_goesFirst_38 : decode cX6_goesFirst 38 = .ok (.iadd, 1) := by decide +kernel
theorem dX6_goesFirst_39 : decode cX6_goesFirst 39 = .ok (.iaload, 1) := by decide +kernel
theorem dX6_goesFirst_40 : decode cX6_goesFirst 40 = .ok (.aload_n 0, 1) := by decide +kernel
theorem dX6_goesFirst_41 : decode cX6_goesFirst 41 = .ok (.getfield 7, 3) := by decide +kernel
theorem dX6_goesFirst_44 : decode cX6_goesFirst 44 = .ok (.sipush 143, 3) := by decide +kernel
theorem dX6_goesFirst_47 : decode cX6_goesFirst 47 = .ok (.iload_n 2, 1) := by decide +kernel
theorem dX6_goesFirst_48 : decode cX6_goesFirst 48 = .ok (.iadd, 1) := by decide +kernel
theorem dX6_goesFirst_49 : decode cX6_goesFirst 49 = .ok (.iaload, 1) := by decide +kernel
theorem dX6_goesFirst_50 : decode cX6_goesFirst 50 = .ok (.if_icmp .ge 7, 3) := by decide +kernel
theorem dX6_goesFirst_53 : decode cX6_goesFirst 53 = .ok (.iconst 1, 1) := by decide +kernel
theorem dX6_goesFirst_54 : decode cX6_goesFirst 54 = .ok (.goto 4, 3) := by decide +kernel
theorem dX6_goesFirst_57 : decode cX6_goesFirst 57 = .ok (.iconst 0, 1) := by decide +kernel
theorem dX6_goesFirst_58 : decode cX6_goesFirst 58 = .ok (.ireturn, 1) := by decide +kernel
set_option maxRecDepth 20000 in
theorem ggX6_remember_X6_placeOfClient : GoodIn wsX6_remember wsX6_placeOfClient := goodIn_r _ [6, 1, 11, 12, 13, 14, 15, 16] (by decide +kernel) (by decide +kernel)
set_option maxRecDepth 20000 in
theorem gX6_remember_X6_placeOfClient : GoodIn wsX6_remember (wsV RX6 80 RX6 yX6_placeOfClient wsX6_placeOfClient) := goodIn_app (goodIn_of _ (by decide +kernel)) ggX6_remember_X6_placeOfClient
set_option maxRecDepth 20000 in
theorem ggX6_remember_X6_goesFirst : GoodIn wsX6_remember wsX6_goesFirst := goodIn_r _ [10, 1, 11, 12, 13, 14, 15, 16] (by decide +kernel) (by decide +kernel)
set_option maxRecDepth 20000 in
theorem gX6_remember_X6_goesFirst : GoodIn wsX6_remember (wsV RX6 95 RX6 yX6_goesFirst wsX6_goesFirst) := goodIn_app (goodIn_of _ (by decide +kernel)) ggX6_remember_X6_goesFirst
theorem dX6_remember_0 : decode cX6_remember 0 = .ok (.aload_n 0, 1) := by decide +kernel
theorem dX6_remember_1 : decode cX6_remember 1 = .ok (.iload_n 1, 1) := by decide +kernel
theorem dX6_remember_2 : decode cX6_remember 2 = .ok (.invokevirtual 80, 3) := by decide +kernel
theorem dX6_remember_5 : decode cX6_remember 5 = .ok (.istore_n 3, 1) := by decide +kernel
theorem dX6_remember_6 : decode cX6_remember 6 = .ok (.iload_n 3, 1) := by decide +kernel
theorem dX6_remember_7 : decode cX6_remember 7 = .ok (.ifCond .ge 37, 3) := by decide +kernel
theorem dX6_remember_10 : decode cX6_remember 10 = .ok (.aload_n 0, 1) := by decide +kernel
theorem dX6_remember_11 : decode cX6_remember 11 = .ok (.getfield 7, 3) := by decide +kernel
theorem dX6_remember_14 : decode cX6_remember 14 = .ok (.bipush 12, 2) := by decide +kernel
theorem dX6_remember_16 : decode cX6_remember 16 = .ok (.iaload, 1) := by decide +kernel
theorem dX6_remember_17 : decode cX6_remember 17 = .ok (.bipush 40, 2) := by decide +kernel
theorem dX6_remember_19 : decode cX6_remember 19 = .ok (.if_icmp .ge 25, 3) := by decide +kernel
theorem dX6_remember_22 : decode cX6_remember 22 = .ok (.aload_n 0, 1) := by decide +kernel
theorem dX6_remember_23 : decode cX6_remember 23 = .ok (.getfield 7, 3) := by decide +kernel
theorem dX6_remember_26 : decode cX6_remember 26 = .ok (.bipush 12, 2) := by decide +kernel
theorem dX6_remember_28 : decode cX6_remember 28 = .ok (.iaload, 1) := by decide +kernel
theorem dX6_remember_29 : decode cX6_remember 29 = .ok (.istore_n 3, 1) := by decide +kernel
theorem dX6_remember_30 : decode cX6_remember 30 = .ok (.aload_n 0, 1) := by decide +kernel
theorem dX6_remember_31 : decode cX6_remember 31 = .ok (.getfield 7, 3) := by decide +kernel
theorem dX6_remember_34 : decode cX6_remember 34 = .ok (.bipush 12, 2) := by decide +kernel
theorem dX6_remember_36 : decode cX6_remember 36 = .ok (.dup2, 1) := by decide +kernel
theorem dX6_remember_37 : decode cX6_remember 37 = .ok (.iaload, 1) := by decide +kernel
theorem dX6_remember_38 : decode cX6_remember 38 = .ok (.iconst 1, 1) := by decide +kernel
theorem dX6_remember_39 : decode cX6_remember 39 = .ok (.iadd, 1) := by decide +kernel
theorem dX6_remember_40 : decode cX6_remember 40 = .ok (.iastore, 1) := by decide +kernel
theorem dX6_remember_41 : decode cX6_remember 41 = .ok (.goto 42, 3) := by decide +kernel
theorem dX6_remember_44 : decode cX6_remember 44 = .ok (.iload_n 3, 1) := by decide +kernel
theorem dX6_remember_45 : decode cX6_remember 45 = .ok (.ifCond .ge 38, 3) := by decide +kernel
theorem dX6_remember_48 : decode cX6_remember 48 = .ok (.iconst 0, 1) := by decide +kernel
theorem dX6_remember_49 : decode cX6_remember 49 = .ok (.istore_n 3, 1) := by decide +kernel
theorem dX6_remember_50 : decode cX6_remember 50 = .ok (.iconst 1, 1) := by decide +kernel
theorem dX6_remember_51 : decode cX6_remember 51 = .ok (.istore 4, 2) := by decide +kernel
theorem dX6_remember_53 : decode cX6_remember 53 = .ok (.iload 4, 2) := by decide +kernel
theorem dX6_remember_55 : decode cX6_remember 55 = .ok (.bipush 40, 2) := by decide +kernel
theorem dX6_remember_57 : decode cX6_remember 57 = .ok (.if_icmp .ge 26, 3) := by decide +kernel
theorem dX6_remember_60 : decode cX6_remember 60 = .ok (.aload_n 0, 1) := by decide +kernel
theorem dX6_remember_61 : decode cX6_remember 61 = .ok (.iload 4, 2) := by decide +kernel
theorem dX6_remember_63 : decode cX6_remember 63 = .ok (.iload_n 3, 1) := by decide +kernel
theorem dX6_remember_64 : decode cX6_remember 64 = .ok (.invokevirtual 95, 3) := by decide +kernel
theorem dX6_remember_67 : decode cX6_remember 67 = .ok (.ifCond .eq 8, 3) := by decide +kernel
theorem dX6_remember_70 : decode cX6_remember 70 = .ok (.iload 4, 2) := by decide +kernel
theorem dX6_remember_72 : decode cX6_remember 72 = .ok (.goto 4, 3) := by decide +kernel
theorem dX6_remember_75 : decode cX6_remember 75 = .ok (.iload_n 3, 1) := by decide +kernel
theorem dX6_remember_76 : decode cX6_remember 76 = .ok (.istore_n 3, 1) := by decide +kernel
theorem dX6_remember_77 : decode cX6_remember 77 = .ok (.iinc 4 1, 3) := by decide +kernel
theorem dX6_remember_80 : decode cX6_remember 80 = .ok (.goto (-27), 3) := by decide +kernel
theorem dX6_remember_83 : decode cX6_remember 83 = .ok (.aload_n 0, 1) := by decide +kernel
theorem dX6_remember_84 : decode cX6_remember 84 = .ok (.getfield 7, 3) := by decide +kernel
theorem dX6_remember_87 : decode cX6_remember 87 = .ok (.sipush 143, 3) := by decide +kernel
theorem dX6_remember_90 : decode cX6_remember 90 = .ok (.iload_n 3, 1) := by decide +kernel
theorem dX6_remember_91 : decode cX6_remember 91 = .ok (.iadd, 1) := by decide +kernel
theorem dX6_remember_92 : decode cX6_remember 92 = .ok (.iload_n 1, 1) := by decide +kernel
theorem dX6_remember_93 : decode cX6_remember 93 = .ok (.iastore, 1) := by decide +kernel
theorem dX6_remember_94 : decode cX6_remember 94 = .ok (.aload_n 0, 1) := by decide +kernel
theorem dX6_remember_95 : decode cX6_remember 95 = .ok (.getfield 7, 3) := by decide +kernel
theorem dX6_remember_98 : decode cX6_remember 98 = .ok (.sipush 183, 3) := by decide +kernel
theorem dX6_remember_101 : decode cX6_remember 101 = .ok (.iload_n 3, 1) := by decide +kernel
theorem dX6_remember_102 : decode cX6_remember 102 = .ok (.iadd, 1) := by decide +kernel
theorem dX6_remember_103 : decode cX6_remember 103 = .ok (.aload_n 0, 1) := by decide +kernel
theorem dX6_remember_104 : decode cX6_remember 104 = .ok (.getfield 7, 3) := by decide +kernel
theorem dX6_remember_107 : decode cX6_remember 107 = .ok (.iconst 1, 1) := by decide +kernel
theorem dX6_remember_108 : decode cX6_remember 108 = .ok (.iaload, 1) := by decide +kernel
theorem dX6_remember_109 : decode cX6_remember 109 = .ok (.iastore, 1) := by decide +kernel
theorem dX6_remember_110 : decode cX6_remember 110 = .ok (.aload_n 0, 1) := by decide +kernel
theorem dX6_remember_111 : decode cX6_remember 111 = .ok (.getfield 7, 3) := by decide +kernel
theorem dX6_remember_114 : decode cX6_remember 114 = .ok (.sipush 223, 3) := by decide +kernel
theorem dX6_remember_117 : decode cX6_remember 117 = .ok (.iload_n 3, 1) := by decide +kernel
theorem dX6_remember_118 : decode cX6_remember 118 = .ok (.iadd, 1) := by decide +kernel
theorem dX6_remember_119 : decode cX6_remember 119 = .ok (.iload_n 2, 1) := by decide +kernel
theorem dX6_remember_120 : decode cX6_remember 120 = .ok (.iastore, 1) := by decide +kernel
theorem dX6_remember_121 : decode cX6_remember 121 = .ok (.return_, 1) := by decide +kernel
set_option maxRecDepth 20000 in
theorem ggX6_open_X6_choice : GoodIn wsX6_open wsX6_choice := goodIn_r _ [7, 2, 8, 9, 10, 11, 6, 12, 13, 14, 15, 16, 17, 18, 19, 20, 21, 22, 23, 24, 25, 26, 27, 28, 29, 30, 31, 32, 33, 34, 35, 36, 37, 38, 39, 40, 41, 42, 43, 44, 45, 46, 47, 48, 49, 50, 51, 52, 53, 54, 55, 56, 57, 58, 59, 60, 61, 62, 63, 64, 65, 78, 79, 80, 81, 82, 83] (by decide +kernel) (by decide +kernel)
set_option maxRecDepth 20000 in
theorem gX6_open_X6_choice : GoodIn wsX6_open (wsV RX6 92 RX6 yX6_choice wsX6_choice) := goodIn_app (goodIn_of _ (by decide +kernel)) ggX6_open_X6_choice
set_option maxRecDepth 20000 in
theorem ggX6_open_X6_stuckTo : GoodIn wsX6_open wsX6_stuckTo := goodIn_r _ [21, 2, 22, 23, 24, 6, 25, 14, 15, 16, 17, 78, 79, 80, 81, 82, 83] (by decide +kernel) (by decide +kernel)
set_option maxRecDepth 20000 in
theorem gX6_open_X6_stuckTo : GoodIn wsX6_open (wsV RX6 86 RX6 yX6_stuckTo wsX6_stuckTo) := goodIn_app (goodIn_of _ (by decide +kernel)) ggX6_open_X6_stuckTo
set_option maxRecDepth 20000 in
theorem ggX6_open_X6_note : GoodIn wsX6_open wsX6_note := goodIn_r _ [69, 2, 8, 13, 38, 39, 40, 6, 41, 62, 63, 64, 65, 78, 79, 80, 81, 82, 83] (by decide +kernel) (by decide +kernel)
set_option maxRecDepth 20000 in
theorem gX6_open_X6_note : GoodIn wsX6_open (wsV RX6 99 RX6 yX6_note wsX6_note) := goodIn_app (goodIn_of _ (by decide +kernel)) ggX6_open_X6_note
set_option maxRecDepth 20000 in
theorem ggX6_open_X6_remember : GoodIn wsX6_open wsX6_remember := goodIn_r _ [73, 2, 22, 23, 24, 6, 25, 74, 75, 76, 77, 78, 79, 80, 81, 82, 83] (by decide +kernel) (by decide +kernel)
set_option maxRecDepth 20000 in
theorem gX6_open_X6_remember : GoodIn wsX6_open (wsV RX6 103 RX6 yX6_remember wsX6_remember) := goodIn_app (goodIn_of _ (by decide +kernel)) ggX6_open_X6_remember
theorem dX6_open_0 : decode cX6_open 0 = .ok (.aload_n 0, 1) := by decide +kernel
theorem dX6_open_1 : decode cX6_open 1 = .ok (.iload_n 1, 1) := by decide +kernel
theorem dX6_open_2 : decode cX6_open 2 = .ok (.invokevirtual 92, 3) := by decide +kernel
theorem dX6_open_5 : decode cX6_open 5 = .ok (.istore_n 2, 1) := by decide +kernel
theorem dX6_open_6 : decode cX6_open 6 = .ok (.aload_n 0, 1) := by decide +kernel
theorem dX6_open_7 : decode cX6_open 7 = .ok (.iload_n 2, 1) := by decide +kernel
theorem dX6_open_8 : decode cX6_open 8 = .ok (.ifCond .ge 7, 3) := by decide +kernel
theorem dX6_open_11 : decode cX6_open 11 = .ok (.iconst 1, 1) := by decide +kernel
theorem dX6_open_12 : decode cX6_open 12 = .ok (.goto 4, 3) := by decide +kernel
theorem dX6_open_15 : decode cX6_open 15 = .ok (.iconst 0, 1) := by decide +kernel
theorem dX6_open_16 : decode cX6_open 16 = .ok (.putfield 23, 3) := by decide +kernel
theorem dX6_open_19 : decode cX6_open 19 = .ok (.aload_n 0, 1) := by decide +kernel
theorem dX6_open_20 : decode cX6_open 20 = .ok (.getfield 23, 3) := by decide +kernel
theorem dX6_open_23 : decode cX6_open 23 = .ok (.ifCond .eq 16, 3) := by decide +kernel
theorem dX6_open_26 : decode cX6_open 26 = .ok (.aload_n 0, 1) := by decide +kernel
theorem dX6_open_27 : decode cX6_open 27 = .ok (.getfield 7, 3) := by decide +kernel
theorem dX6_open_30 : decode cX6_open 30 = .ok (.bipush 11, 2) := by decide +kernel
theorem dX6_open_32 : decode cX6_open 32 = .ok (.dup2, 1) := by decide +kernel
theorem dX6_open_33 : decode cX6_open 33 = .ok (.iaload, 1) := by decide +kernel
theorem dX6_open_34 : decode cX6_open 34 = .ok (.iconst 1, 1) := by decide +kernel
theorem dX6_open_35 : decode cX6_open 35 = .ok (.iadd, 1) := by decide +kernel
theorem dX6_open_36 : decode cX6_open 36 = .ok (.iastore, 1) := by decide +kernel
theorem dX6_open_37 : decode cX6_open 37 = .ok (.iconst 0, 1) := by decide +kernel
theorem dX6_open_38 : decode cX6_open 38 = .ok (.ireturn, 1) := by decide +kernel
theorem dX6_open_39 : decode cX6_open 39 = .ok (.aload_n 0, 1) := by decide +kernel
theorem dX6_open_40 : decode cX6_open 40 = .ok (.iload_n 1, 1) := by decide +kernel
theorem dX6_open_41 : decode cX6_open 41 = .ok (.invokevirtual 86, 3) := by decide +kernel
theorem dX6_open_44 : decode cX6_open 44 = .ok (.ifCond .ge 8, 3) := by decide +kernel
theorem dX6_open_47 : decode cX6_open 47 = .ok (.aload_n 0, 1) := by decide +kernel
theorem dX6_open_48 : decode cX6_open 48 = .ok (.iload_n 2, 1) := by decide +kernel
theorem dX6_open_49 : decode cX6_open 49 = .ok (.invokevirtual 99, 3) := by decide +kernel
theorem dX6_open_52 : decode cX6_open 52 = .ok (.aload_n 0, 1) := by decide +kernel
theorem dX6_open_53 : decode cX6_open 53 = .ok (.getfield 7, 3) := by decide +kernel
theorem dX6_open_56 : decode cX6_open 56 = .ok (.bipush 10, 2) := by decide +kernel
theorem dX6_open_58 : decode cX6_open 58 = .ok (.iaload, 1) := by decide +kernel
theorem dX6_open_59 : decode cX6_open 59 = .ok (.istore_n 3, 1) := by decide +kernel
theorem dX6_open_60 : decode cX6_open 60 = .ok (.aload_n 0, 1) := by decide +kernel
theorem dX6_open_61 : decode cX6_open 61 = .ok (.getfield 7, 3) := by decide +kernel
theorem dX6_open_64 : decode cX6_open 64 = .ok (.sipush 263, 3) := by decide +kernel
theorem dX6_open_67 : decode cX6_open 67 = .ok (.iload_n 3, 1) := by decide +kernel
theorem dX6_open_68 : decode cX6_open 68 = .ok (.iadd, 1) := by decide +kernel
theorem dX6_open_69 : decode cX6_open 69 = .ok (.iload_n 2, 1) := by decide +kernel
theorem dX6_open_70 : decode cX6_open 70 = .ok (.iastore, 1) := by decide +kernel
theorem dX6_open_71 : decode cX6_open 71 = .ok (.aload_n 0, 1) := by decide +kernel
theorem dX6_open_72 : decode cX6_open 72 = .ok (.getfield 7, 3) := by decide +kernel
theorem dX6_open_75 : decode cX6_open 75 = .ok (.sipush 1263, 3) := by decide +kernel
theorem dX6_open_78 : decode cX6_open 78 = .ok (.iload_n 3, 1) := by decide +kernel
theorem dX6_open_79 : decode cX6_open 79 = .ok (.iadd, 1) := by decide +kernel
theorem dX6_open_80 : decode cX6_open 80 = .ok (.aload_n 0, 1) := by decide +kernel
theorem dX6_open_81 : decode cX6_open 81 = .ok (.getfield 7, 3) := by decide +kernel
theorem dX6_open_84 : decode cX6_open 84 = .ok (.iconst 1, 1) := by decide +kernel
theorem dX6_open_85 : decode cX6_open 85 = .ok (.iaload, 1) := by decide +kernel
theorem dX6_open_86 : decode cX6_open 86 = .ok (.iastore, 1) := by decide +kernel
theorem dX6_open_87 : decode cX6_open 87 = .ok (.aload_n 0, 1) := by decide +kernel
theorem dX6_open_88 : decode cX6_open 88 = .ok (.getfield 7, 3) := by decide +kernel
theorem dX6_open_91 : decode cX6_open 91 = .ok (.bipush 33, 2) := by decide +kernel
theorem dX6_open_93 : decode cX6_open 93 = .ok (.iload_n 2, 1) := by decide +kernel
theorem dX6_open_94 : decode cX6_open 94 = .ok (.iadd, 1) := by decide +kernel
theorem dX6_open_95 : decode cX6_open 95 = .ok (.dup2, 1) := by decide +kernel
theorem dX6_open_96 : decode cX6_open 96 = .ok (.iaload, 1) := by decide +kernel
theorem dX6_open_97 : decode cX6_open 97 = .ok (.iconst 1, 1) := by decide +kernel
theorem dX6_open_98 : decode cX6_open 98 = .ok (.iadd, 1) := by decide +kernel
theorem dX6_open_99 : decode cX6_open 99 = .ok (.iastore, 1) := by decide +kernel
theorem dX6_open_100 : decode cX6_open 100 = .ok (.aload_n 0, 1) := by decide +kernel
theorem dX6_open_101 : decode cX6_open 101 = .ok (.getfield 7, 3) := by decide +kernel
theorem dX6_open_104 : decode cX6_open 104 = .ok (.bipush 10, 2) := by decide +kernel
theorem dX6_open_106 : decode cX6_open 106 = .ok (.dup2, 1) := by decide +kernel
theorem dX6_open_107 : decode cX6_open 107 = .ok (.iaload, 1) := by decide +kernel
theorem dX6_open_108 : decode cX6_open 108 = .ok (.iconst 1, 1) := by decide +kernel
theorem dX6_open_109 : decode cX6_open 109 = .ok (.iadd, 1) := by decide +kernel
theorem dX6_open_110 : decode cX6_open 110 = .ok (.iastore, 1) := by decide +kernel
theorem dX6_open_111 : decode cX6_open 111 = .ok (.aload_n 0, 1) := by decide +kernel
theorem dX6_open_112 : decode cX6_open 112 = .ok (.getfield 7, 3) := by decide +kernel
theorem dX6_open_115 : decode cX6_open 115 = .ok (.bipush 83, 2) := by decide +kernel
theorem dX6_open_117 : decode cX6_open 117 = .ok (.iload_n 2, 1) := by decide +kernel
theorem dX6_open_118 : decode cX6_open 118 = .ok (.iadd, 1) := by decide +kernel
theorem dX6_open_119 : decode cX6_open 119 = .ok (.iaload, 1) := by decide +kernel
theorem dX6_open_120 : decode cX6_open 120 = .ok (.iconst 2, 1) := by decide +kernel
theorem dX6_open_121 : decode cX6_open 121 = .ok (.if_icmp .ne 13, 3) := by decide +kernel
theorem dX6_open_124 : decode cX6_open 124 = .ok (.aload_n 0, 1) := by decide +kernel
theorem dX6_open_125 : decode cX6_open 125 = .ok (.getfield 7, 3) := by decide +kernel
theorem dX6_open_128 : decode cX6_open 128 = .ok (.bipush 103, 2) := by decide +kernel
theorem dX6_open_130 : decode cX6_open 130 = .ok (.iload_n 2, 1) := by decide +kernel
theorem dX6_open_131 : decode cX6_open 131 = .ok (.iadd, 1) := by decide +kernel
theorem dX6_open_132 : decode cX6_open 132 = .ok (.iload_n 3, 1) := by decide +kernel
theorem dX6_open_133 : decode cX6_open 133 = .ok (.iastore, 1) := by decide +kernel
theorem dX6_open_134 : decode cX6_open 134 = .ok (.aload_n 0, 1) := by decide +kernel
theorem dX6_open_135 : decode cX6_open 135 = .ok (.getfield 7, 3) := by decide +kernel
theorem dX6_open_138 : decode cX6_open 138 = .ok (.bipush 6, 2) := by decide +kernel
theorem dX6_open_140 : decode cX6_open 140 = .ok (.iaload, 1) := by decide +kernel
theorem dX6_open_141 : decode cX6_open 141 = .ok (.ifCond .le 9, 3) := by decide +kernel
theorem dX6_open_144 : decode cX6_open 144 = .ok (.aload_n 0, 1) := by decide +kernel
theorem dX6_open_145 : decode cX6_open 145 = .ok (.iload_n 1, 1) := by decide +kernel
theorem dX6_open_146 : decode cX6_open 146 = .ok (.iload_n 2, 1) := by decide +kernel
theorem dX6_open_147 : decode cX6_open 147 = .ok (.invokevirtual 103, 3) := by decide +kernel
theorem dX6_open_150 : decode cX6_open 150 = .ok (.iload_n 3, 1) := by decide +kernel
theorem dX6_open_151 : decode cX6_open 151 = .ok (.ireturn, 1) := by decide +kernel
theorem dX6_trip_0 : decode cX6_trip 0 = .ok (.aload_n 0, 1) := by decide +kernel
theorem dX6_trip_1 : decode cX6_trip 1 = .ok (.getfield 7, 3) := by decide +kernel
theorem dX6_trip_4 : decode cX6_trip 4 = .ok (.bipush 83, 2) := by decide +kernel
theorem dX6_trip_6 : decode cX6_trip 6 = .ok (.iload_n 1, 1) := by decide +kernel
theorem dX6_trip_7 : decode cX6_trip 7 = .ok (.iadd, 1) := by decide +kernel
theorem dX6_trip_8 : decode cX6_trip 8 = .ok (.iconst 1, 1) := by decide +kernel
theorem dX6_trip_9 : decode cX6_trip 9 = .ok (.iastore, 1) := by decide +kernel
theorem dX6_trip_10 : decode cX6_trip 10 = .ok (.aload_n 0, 1) := by decide +kernel
theorem dX6_trip_11 : decode cX6_trip 11 = .ok (.getfield 7, 3) := by decide +kernel
theorem dX6_trip_14 : decode cX6_trip 14 = .ok (.bipush 93, 2) := by decide +kernel
theorem dX6_trip_16 : decode cX6_trip 16 = .ok (.iload_n 1, 1) := by decide +kernel
theorem dX6_trip_17 : decode cX6_trip 17 = .ok (.iadd, 1) := by decide +kernel
theorem dX6_trip_18 : decode cX6_trip 18 = .ok (.aload_n 0, 1) := by decide +kernel
theorem dX6_trip_19 : decode cX6_trip 19 = .ok (.getfield 7, 3) := by decide +kernel
theorem dX6_trip_22 : decode cX6_trip 22 = .ok (.iconst 1, 1) := by decide +kernel
theorem dX6_trip_23 : decode cX6_trip 23 = .ok (.iaload, 1) := by decide +kernel
theorem dX6_trip_24 : decode cX6_trip 24 = .ok (.iastore, 1) := by decide +kernel
theorem dX6_trip_25 : decode cX6_trip 25 = .ok (.aload_n 0, 1) := by decide +kernel
theorem dX6_trip_26 : decode cX6_trip 26 = .ok (.getfield 7, 3) := by decide +kernel
theorem dX6_trip_29 : decode cX6_trip 29 = .ok (.bipush 103, 2) := by decide +kernel
theorem dX6_trip_31 : decode cX6_trip 31 = .ok (.iload_n 1, 1) := by decide +kernel
theorem dX6_trip_32 : decode cX6_trip 32 = .ok (.iadd, 1) := by decide +kernel
theorem dX6_trip_33 : decode cX6_trip 33 = .ok (.iconst (-1), 1) := by decide +kernel
theorem dX6_trip_34 : decode cX6_trip 34 = .ok (.iastore, 1) := by decide +kernel
theorem dX6_trip_35 : decode cX6_trip 35 = .ok (.return_, 1) := by decide +kernel
theorem dX6_ones_0 : decode cX6_ones 0 = .ok (.iconst 0, 1) := by decide +kernel
theorem dX6_ones_1 : decode cX6_ones 1 = .ok (.istore_n 1, 1) := by decide +kernel
theorem dX6_ones_2 : decode cX6_ones 2 = .ok (.iconst 0, 1) := by decide +kernel
theorem dX6_ones_3 : decode cX6_ones 3 = .ok (.istore_n 2, 1) := by decide +kernel
theorem dX6_ones_4 : decode cX6_ones 4 = .ok (.iload_n 2, 1) := by decide +kernel
theorem dX6_ones_5 : decode cX6_ones 5 = .ok (.bipush 8, 2) := by decide +kernel
theorem dX6_ones_7 : decode cX6_ones 7 = .ok (.if_icmp .ge 17, 3) := by decide +kernel
theorem dX6_ones_10 : decode cX6_ones 10 = .ok (.iload_n 1, 1) := by decide +kernel
theorem dX6_ones_11 : decode cX6_ones 11 = .ok (.iload_n 0, 1) := by decide +kernel
theorem dX6_ones_12 : decode cX6_ones 12 = .ok (.iload_n 2, 1) := by decide +kernel
theorem dX6_ones_13 : decode cX6_ones 13 = .ok (.ishr, 1) := by decide +kernel
theorem dX6_ones_14 : decode cX6_ones 14 = .ok (.iconst 1, 1) := by decide +kernel
theorem dX6_ones_15 : decode cX6_ones 15 = .ok (.iand, 1) := by decide +kernel
theorem dX6_ones_16 : decode cX6_ones 16 = .ok (.iadd, 1) := by decide +kernel
theorem dX6_ones_17 : decode cX6_ones 17 = .ok (.istore_n 1, 1) := by decide +kernel
theorem dX6_ones_18 : decode cX6_ones 18 = .ok (.iinc 2 1, 3) := by decide +kernel
theorem dX6_ones_21 : decode cX6_ones 21 = .ok (.goto (-17), 3) := by decide +kernel
theorem dX6_ones_24 : decode cX6_ones 24 = .ok (.iload_n 1, 1) := by decide +kernel
theorem dX6_ones_25 : decode cX6_ones 25 = .ok (.ireturn, 1) := by decide +kernel
set_option maxRecDepth 20000 in
theorem ggX6_addResult_X6_ones : GoodIn wsX6_addResult wsX6_ones := goodIn_r _ [5] (by decide +kernel) (by decide +kernel)
set_option maxRecDepth 20000 in
theorem gX6_addResult_X6_ones : GoodIn wsX6_addResult (va_wsS RX6 107 yX6_ones wsX6_ones) := goodIn_app (goodIn_of _ (by decide +kernel)) ggX6_addResult_X6_ones
set_option maxRecDepth 20000 in
theorem ggX6_addResult_X6_trip : GoodIn wsX6_addResult wsX6_trip := goodIn_r _ [9, 1, 10, 11, 12, 13, 14, 15] (by decide +kernel) (by decide +kernel)
set_option maxRecDepth 20000 in
theorem gX6_addResult_X6_trip : GoodIn wsX6_addResult (wsV RX6 110 RX6 yX6_trip wsX6_trip) := goodIn_app (goodIn_of _ (by decide +kernel)) ggX6_addResult_X6_trip
theorem dX6_addResult_0 : decode cX6_addResult 0 = .ok (.aload_n 0, 1) := by decide +kernel
theorem dX6_addResult_1 : decode cX6_addResult 1 = .ok (.getfield 7, 3) := by decide +kernel
theorem dX6_addResult_4 : decode cX6_addResult 4 = .ok (.bipush 123, 2) := by decide +kernel
theorem dX6_addResult_6 : decode cX6_addResult 6 = .ok (.iload_n 1, 1) := by decide +kernel
theorem dX6_addResult_7 : decode cX6_addResult 7 = .ok (.iadd, 1) := by decide +kernel
theorem dX6_addResult_8 : decode cX6_addResult 8 = .ok (.aload_n 0, 1) := by decide +kernel
theorem dX6_addResult_9 : decode cX6_addResult 9 = .ok (.getfield 7, 3) := by decide +kernel
theorem dX6_addResult_12 : decode cX6_addResult 12 = .ok (.bipush 123, 2) := by decide +kernel
theorem dX6_addResult_14 : decode cX6_addResult 14 = .ok (.iload_n 1, 1) := by decide +kernel
theorem dX6_addResult_15 : decode cX6_addResult 15 = .ok (.iadd, 1) := by decide +kernel
theorem dX6_addResult_16 : decode cX6_addResult 16 = .ok (.iaload, 1) := by decide +kernel
theorem dX6_addResult_17 : decode cX6_addResult 17 = .ok (.iconst 1, 1) := by decide +kernel
theorem dX6_addResult_18 : decode cX6_addResult 18 = .ok (.ishl, 1) := by decide +kernel
theorem dX6_addResult_19 : decode cX6_addResult 19 = .ok (.iload_n 2, 1) := by decide +kernel
theorem dX6_addResult_20 : decode cX6_addResult 20 = .ok (.ifCond .eq 7, 3) := by decide +kernel
theorem dX6_addResult_23 : decode cX6_addResult 23 = .ok (.iconst 0, 1) := by decide +kernel
theorem dX6_addResult_24 : decode cX6_addResult 24 = .ok (.goto 4, 3) := by decide +kernel
theorem dX6_addResult_27 : decode cX6_addResult 27 = .ok (.iconst 1, 1) := by decide +kernel
theorem dX6_addResult_28 : decode cX6_addResult 28 = .ok (.ior, 1) := by decide +kernel
theorem dX6_addResult_29 : decode cX6_addResult 29 = .ok (.sipush 255, 3) := by decide +kernel
theorem dX6_addResult_32 : decode cX6_addResult 32 = .ok (.iand, 1) := by decide +kernel
theorem dX6_addResult_33 : decode cX6_addResult 33 = .ok (.iastore, 1) := by decide +kernel
theorem dX6_addResult_34 : decode cX6_addResult 34 = .ok (.aload_n 0, 1) := by decide +kernel
theorem dX6_addResult_35 : decode cX6_addResult 35 = .ok (.getfield 7, 3) := by decide +kernel
theorem dX6_addResult_38 : decode cX6_addResult 38 = .ok (.sipush 133, 3) := by decide +kernel
theorem dX6_addResult_41 : decode cX6_addResult 41 = .ok (.iload_n 1, 1) := by decide +kernel
theorem dX6_addResult_42 : decode cX6_addResult 42 = .ok (.iadd, 1) := by decide +kernel
theorem dX6_addResult_43 : decode cX6_addResult 43 = .ok (.dup2, 1) := by decide +kernel
theorem dX6_addResult_44 : decode cX6_addResult 44 = .ok (.iaload, 1) := by decide +kernel
theorem dX6_addResult_45 : decode cX6_addResult 45 = .ok (.aload_n 0, 1) := by decide +kernel
theorem dX6_addResult_46 : decode cX6_addResult 46 = .ok (.getfield 7, 3) := by decide +kernel
theorem dX6_addResult_49 : decode cX6_addResult 49 = .ok (.sipush 133, 3) := by decide +kernel
theorem dX6_addResult_52 : decode cX6_addResult 52 = .ok (.iload_n 1, 1) := by decide +kernel
theorem dX6_addResult_53 : decode cX6_addResult 53 = .ok (.iadd, 1) := by decide +kernel
theorem dX6_addResult_54 : decode cX6_addResult 54 = .ok (.iaload, 1) := by decide +kernel
theorem dX6_addResult_55 : decode cX6_addResult 55 = .ok (.bipush 8, 2) := by decide +kernel
theorem dX6_addResult_57 : decode cX6_addResult 57 = .ok (.if_icmp .ge 7, 3) := by decide +kernel
theorem dX6_addResult_60 : decode cX6_addResult 60 = .ok (.iconst 1, 1) := by decide +kernel
theorem dX6_addResult_61 : decode cX6_addResult 61 = .ok (.goto 4, 3) := by decide +kernel
theorem dX6_addResult_64 : decode cX6_addResult 64 = .ok (.iconst 0, 1) := by decide +kernel
theorem dX6_addResult_65 : decode cX6_addResult 65 = .ok (.iadd, 1) := by decide +kernel
theorem dX6_addResult_66 : decode cX6_addResult 66 = .ok (.iastore, 1) := by decide +kernel
theorem dX6_addResult_67 : decode cX6_addResult 67 = .ok (.aload_n 0, 1) := by decide +kernel
theorem dX6_addResult_68 : decode cX6_addResult 68 = .ok (.getfield 7, 3) := by decide +kernel
theorem dX6_addResult_71 : decode cX6_addResult 71 = .ok (.sipush 133, 3) := by decide +kernel
theorem dX6_addResult_74 : decode cX6_addResult 74 = .ok (.iload_n 1, 1) := by decide +kernel
theorem dX6_addResult_75 : decode cX6_addResult 75 = .ok (.iadd, 1) := by decide +kernel
theorem dX6_addResult_76 : decode cX6_addResult 76 = .ok (.iaload, 1) := by decide +kernel
theorem dX6_addResult_77 : decode cX6_addResult 77 = .ok (.istore_n 3, 1) := by decide +kernel
theorem dX6_addResult_78 : decode cX6_addResult 78 = .ok (.iload_n 3, 1) := by decide +kernel
theorem dX6_addResult_79 : decode cX6_addResult 79 = .ok (.iconst 4, 1) := by decide +kernel
theorem dX6_addResult_80 : decode cX6_addResult 80 = .ok (.if_icmp .lt 26, 3) := by decide +kernel
theorem dX6_addResult_83 : decode cX6_addResult 83 = .ok (.iconst 2, 1) := by decide +kernel
theorem dX6_addResult_84 : decode cX6_addResult 84 = .ok (.aload_n 0, 1) := by decide +kernel
theorem dX6_addResult_85 : decode cX6_addResult 85 = .ok (.getfield 7, 3) := by decide +kernel
theorem dX6_addResult_88 : decode cX6_addResult 88 = .ok (.bipush 123, 2) := by decide +kernel
theorem dX6_addResult_90 : decode cX6_addResult 90 = .ok (.iload_n 1, 1) := by decide +kernel
theorem dX6_addResult_91 : decode cX6_addResult 91 = .ok (.iadd, 1) := by decide +kernel
theorem dX6_addResult_92 : decode cX6_addResult 92 = .ok (.iaload, 1) := by decide +kernel
theorem dX6_addResult_93 : decode cX6_addResult 93 = .ok (.invokestatic 107, 3) := by decide +kernel
theorem dX6_addResult_96 : decode cX6_addResult 96 = .ok (.imul, 1) := by decide +kernel
theorem dX6_addResult_97 : decode cX6_addResult 97 = .ok (.iload_n 3, 1) := by decide +kernel
theorem dX6_addResult_98 : decode cX6_addResult 98 = .ok (.if_icmp .lt 8, 3) := by decide +kernel
theorem dX6_addResult_101 : decode cX6_addResult 101 = .ok (.aload_n 0, 1) := by decide +kernel
theorem dX6_addResult_102 : decode cX6_addResult 102 = .ok (.iload_n 1, 1) := by decide +kernel
theorem dX6_addResult_103 : decode cX6_addResult 103 = .ok (.invokevirtual 110, 3) := by decide +kernel
theorem dX6_addResult_106 : decode cX6_addResult 106 = .ok (.return_, 1) := by decide +kernel
set_option maxRecDepth 20000 in
theorem ggX6_wasOpened_X6_in : GoodIn wsX6_wasOpened wsX6_in := goodIn_r _ [5] (by decide +kernel) (by decide +kernel)
set_option maxRecDepth 20000 in
theorem gX6_wasOpened_X6_in : GoodIn wsX6_wasOpened (va_wsS RX6 27 yX6_in wsX6_in) := goodIn_app (goodIn_of _ (by decide +kernel)) ggX6_wasOpened_X6_in
theorem dX6_wasOpened_0 : decode cX6_wasOpened 0 = .ok (.iload_n 1, 1) := by decide +kernel
theorem dX6_wasOpened_1 : decode cX6_wasOpened 1 = .ok (.iconst 0, 1) := by decide +kernel
theorem dX6_wasOpened_2 : decode cX6_wasOpened 2 = .ok (.aload_n 0, 1) := by decide +kernel
theorem dX6_wasOpened_3 : decode cX6_wasOpened 3 = .ok (.getfield 7, 3) := by decide +kernel
theorem dX6_wasOpened_6 : decode cX6_wasOpened 6 = .ok (.bipush 10, 2) := by decide +kernel
theorem dX6_wasOpened_8 : decode cX6_wasOpened 8 = .ok (.iaload, 1) := by decide +kernel
theorem dX6_wasOpened_9 : decode cX6_wasOpened 9 = .ok (.iconst 1, 1) := by decide +kernel
theorem dX6_wasOpened_10 : decode cX6_wasOpened 10 = .ok (.isub, 1) := by decide +kernel
theorem dX6_wasOpened_11 : decode cX6_wasOpened 11 = .ok (.invokestatic 27, 3) := by decide +kernel
theorem dX6_wasOpened_14 : decode cX6_wasOpened 14 = .ok (.ireturn, 1) := by decide +kernel
set_option maxRecDepth 20000 in
theorem ggX6_close_X6_wasOpened : GoodIn wsX6_close wsX6_wasOpened := goodIn_r _ [7, 1, 8, 9, 6, 10, 22, 23, 24, 25, 26, 27] (by decide +kernel) (by decide +kernel)
set_option maxRecDepth 20000 in
theorem gX6_close_X6_wasOpened : GoodIn wsX6_close (wsV RX6 113 RX6 yX6_wasOpened wsX6_wasOpened) := goodIn_app (goodIn_of _ (by decide +kernel)) ggX6_close_X6_wasOpened
set_option maxRecDepth 20000 in
theorem ggX6_close_X6_addResult : GoodIn wsX6_close wsX6_addResult := goodIn_r _ [14, 1, 15, 16, 6, 17, 18, 19, 20, 21, 22, 23, 24, 25, 26, 27] (by decide +kernel) (by decide +kernel)
set_option maxRecDepth 20000 in
theorem gX6_close_X6_addResult : GoodIn wsX6_close (wsV RX6 116 RX6 yX6_addResult wsX6_addResult) := goodIn_app (goodIn_of _ (by decide +kernel)) ggX6_close_X6_addResult
set_option maxRecDepth 20000 in
theorem ggX6_close_X6_trip : GoodIn wsX6_close wsX6_trip := goodIn_r _ [21, 1, 22, 23, 24, 25, 26, 27] (by decide +kernel) (by decide +kernel)
set_option maxRecDepth 20000 in
theorem gX6_close_X6_trip : GoodIn wsX6_close (wsV RX6 110 RX6 yX6_trip wsX6_trip) := goodIn_app (goodIn_of _ (by decide +kernel)) ggX6_close_X6_trip
theorem dX6_close_0 : decode cX6_close 0 = .ok (.aload_n 0, 1) := by decide +kernel
theorem dX6_close_1 : decode cX6_close 1 = .ok (.aload_n 0, 1) := by decide +kernel
theorem dX6_close_2 : decode cX6_close 2 = .ok (.iload_n 1, 1) := by decide +kernel
theorem dX6_close_3 : decode cX6_close 3 = .ok (.invokevirtual 113, 3) := by decide +kernel
theorem dX6_close_6 : decode cX6_close 6 = .ok (.ifCond .ne 7, 3) := by decide +kernel
theorem dX6_close_9 : decode cX6_close 9 = .ok (.iconst 1, 1) := by decide +kernel
theorem dX6_close_10 : decode cX6_close 10 = .ok (.goto 22, 3) := by decide +kernel
theorem dX6_close_13 : decode cX6_close 13 = .ok (.aload_n 0, 1) := by decide +kernel
theorem dX6_close_14 : decode cX6_close 14 = .ok (.getfield 7, 3) := by decide +kernel
theorem dX6_close_17 : decode cX6_close 17 = .ok (.sipush 2263, 3) := by decide +kernel
theorem dX6_close_20 : decode cX6_close 20 = .ok (.iload_n 1, 1) := by decide +kernel
theorem dX6_close_21 : decode cX6_close 21 = .ok (.iadd, 1) := by decide +kernel
theorem dX6_close_22 : decode cX6_close 22 = .ok (.iaload, 1) := by decide +kernel
theorem dX6_close_23 : decode cX6_close 23 = .ok (.iconst 1, 1) := by decide +kernel
theorem dX6_close_24 : decode cX6_close 24 = .ok (.if_icmp .ne 7, 3) := by decide +kernel
theorem dX6_close_27 : decode cX6_close 27 = .ok (.iconst 2, 1) := by decide +kernel
theorem dX6_close_28 : decode cX6_close 28 = .ok (.goto 4, 3) := by decide +kernel
theorem dX6_close_31 : decode cX6_close 31 = .ok (.iconst 0, 1) := by decide +kernel
theorem dX6_close_32 : decode cX6_close 32 = .ok (.putfield 23, 3) := by decide +kernel
theorem dX6_close_35 : decode cX6_close 35 = .ok (.aload_n 0, 1) := by decide +kernel
theorem dX6_close_36 : decode cX6_close 36 = .ok (.getfield 23, 3) := by decide +kernel
theorem dX6_close_39 : decode cX6_close 39 = .ok (.ifCond .eq 5, 3) := by decide +kernel
theorem dX6_close_42 : decode cX6_close 42 = .ok (.iconst 0, 1) := by decide +kernel
theorem dX6_close_43 : decode cX6_close 43 = .ok (.ireturn, 1) := by decide +kernel
theorem dX6_close_44 : decode cX6_close 44 = .ok (.aload_n 0, 1) := by decide +kernel
theorem dX6_close_45 : decode cX6_close 45 = .ok (.getfield 7, 3) := by decide +kernel
theorem dX6_close_48 : decode cX6_close 48 = .ok (.sipush 263, 3) := by decide +kernel
theorem dX6_close_51 : decode cX6_close 51 = .ok (.iload_n 1, 1) := by decide +kernel
theorem dX6_close_52 : decode cX6_close 52 = .ok (.iadd, 1) := by decide +kernel
theorem dX6_close_53 : decode cX6_close 53 = .ok (.iaload, 1) := by decide +kernel
theorem dX6_close_54 : decode cX6_close 54 = .ok (.istore_n 3, 1) := by decide +kernel
theorem dX6_close_55 : decode cX6_close 55 = .ok (.aload_n 0, 1) := by decide +kernel
theorem dX6_close_56 : decode cX6_close 56 = .ok (.getfield 7, 3) := by decide +kernel
theorem dX6_close_59 : decode cX6_close 59 = .ok (.sipush 2263, 3) := by decide +kernel
theorem dX6_close_62 : decode cX6_close 62 = .ok (.iload_n 1, 1) := by decide +kernel
theorem dX6_close_63 : decode cX6_close 63 = .ok (.iadd, 1) := by decide +kernel
theorem dX6_close_64 : decode cX6_close 64 = .ok (.iconst 1, 1) := by decide +kernel
theorem dX6_close_65 : decode cX6_close 65 = .ok (.iastore, 1) := by decide +kernel
theorem dX6_close_66 : decode cX6_close 66 = .ok (.aload_n 0, 1) := by decide +kernel
theorem dX6_close_67 : decode cX6_close 67 = .ok (.getfield 7, 3) := by decide +kernel
theorem dX6_close_70 : decode cX6_close 70 = .ok (.bipush 33, 2) := by decide +kernel
theorem dX6_close_72 : decode cX6_close 72 = .ok (.iload_n 3, 1) := by decide +kernel
theorem dX6_close_73 : decode cX6_close 73 = .ok (.iadd, 1) := by decide +kernel
theorem dX6_close_74 : decode cX6_close 74 = .ok (.dup2, 1) := by decide +kernel
theorem dX6_close_75 : decode cX6_close 75 = .ok (.iaload, 1) := by decide +kernel
theorem dX6_close_76 : decode cX6_close 76 = .ok (.iconst 1, 1) := by decide +kernel
theorem dX6_close_77 : decode cX6_close 77 = .ok (.isub, 1) := by decide +kernel
theorem dX6_close_78 : decode cX6_close 78 = .ok (.iastore, 1) := by decide +kernel
theorem dX6_close_79 : decode cX6_close 79 = .ok (.aload_n 0, 1) := by decide +kernel
theorem dX6_close_80 : decode cX6_close 80 = .ok (.getfield 7, 3) := by decide +kernel
theorem dX6_close_83 : decode cX6_close 83 = .ok (.bipush 83, 2) := by decide +kernel
theorem dX6_close_85 : decode cX6_close 85 = .ok (.iload_n 3, 1) := by decide +kernel
theorem dX6_close_86 : decode cX6_close 86 = .ok (.iadd, 1) := by decide +kernel
theorem dX6_close_87 : decode cX6_close 87 = .ok (.iaload, 1) := by decide +kernel
theorem dX6_close_88 : decode cX6_close 88 = .ok (.ifCond .ne 12, 3) := by decide +kernel
theorem dX6_close_91 : decode cX6_close 91 = .ok (.aload_n 0, 1) := by decide +kernel
theorem dX6_close_92 : decode cX6_close 92 = .ok (.iload_n 3, 1) := by decide +kernel
theorem dX6_close_93 : decode cX6_close 93 = .ok (.iload_n 2, 1) := by decide +kernel
theorem dX6_close_94 : decode cX6_close 94 = .ok (.invokevirtual 116, 3) := by decide +kernel
theorem dX6_close_97 : decode cX6_close 97 = .ok (.goto 82, 3) := by decide +kernel
theorem dX6_close_100 : decode cX6_close 100 = .ok (.aload_n 0, 1) := by decide +kernel
theorem dX6_close_101 : decode cX6_close 101 = .ok (.getfield 7, 3) := by decide +kernel
theorem dX6_close_104 : decode cX6_close 104 = .ok (.bipush 83, 2) := by decide +kernel
theorem dX6_close_106 : decode cX6_close 106 = .ok (.iload_n 3, 1) := by decide +kernel
theorem dX6_close_107 : decode cX6_close 107 = .ok (.iadd, 1) := by decide +kernel
theorem dX6_close_108 : decode cX6_close 108 = .ok (.iaload, 1) := by decide +kernel
theorem dX6_close_109 : decode cX6_close 109 = .ok (.iconst 2, 1) := by decide +kernel
theorem dX6_close_110 : decode cX6_close 110 = .ok (.if_icmp .ne 69, 3) := by decide +kernel
theorem dX6_close_113 : decode cX6_close 113 = .ok (.aload_n 0, 1) := by decide +kernel
theorem dX6_close_114 : decode cX6_close 114 = .ok (.getfield 7, 3) := by decide +kernel
theorem dX6_close_117 : decode cX6_close 117 = .ok (.bipush 103, 2) := by decide +kernel
theorem dX6_close_119 : decode cX6_close 119 = .ok (.iload_n 3, 1) := by decide +kernel
theorem dX6_close_120 : decode cX6_close 120 = .ok (.iadd, 1) := by decide +kernel
theorem dX6_close_121 : decode cX6_close 121 = .ok (.iaload, 1) := by decide +kernel
theorem dX6_close_122 : decode cX6_close 122 = .ok (.iload_n 1, 1) := by decide +kernel
theorem dX6_close_123 : decode cX6_close 123 = .ok (.if_icmp .ne 56, 3) := by decide +kernel
theorem dX6_close_126 : decode cX6_close 126 = .ok (.iload_n 2, 1) := by decide +kernel
theorem dX6_close_127 : decode cX6_close 127 = .ok (.ifCond .eq 47, 3) := by decide +kernel
theorem dX6_close_130 : decode cX6_close 130 = .ok (.aload_n 0, 1) := by decide +kernel
theorem dX6_close_131 : decode cX6_close 131 = .ok (.getfield 7, 3) := by decide +kernel
theorem dX6_close_134 : decode cX6_close 134 = .ok (.bipush 83, 2) := by decide +kernel
theorem dX6_close_136 : decode cX6_close 136 = .ok (.iload_n 3, 1) := by decide +kernel
theorem dX6_close_137 : decode cX6_close 137 = .ok (.iadd, 1) := by decide +kernel
theorem dX6_close_138 : decode cX6_close 138 = .ok (.iconst 0, 1) := by decide +kernel
theorem dX6_close_139 : decode cX6_close 139 = .ok (.iastore, 1) := by decide +kernel
theorem dX6_close_140 : decode cX6_close 140 = .ok (.aload_n 0, 1) := by decide +kernel
theorem dX6_close_141 : decode cX6_close 141 = .ok (.getfield 7, 3) := by decide +kernel
theorem dX6_close_144 : decode cX6_close 144 = .ok (.bipush 103, 2) := by decide +kernel
theorem dX6_close_146 : decode cX6_close 146 = .ok (.iload_n 3, 1) := by decide +kernel
theorem dX6_close_147 : decode cX6_close 147 = .ok (.iadd, 1) := by decide +kernel
theorem dX6_close_148 : decode cX6_close 148 = .ok (.iconst (-1), 1) := by decide +kernel
theorem dX6_close_149 : decode cX6_close 149 = .ok (.iastore, 1) := by decide +kernel
theorem dX6_close_150 : decode cX6_close 150 = .ok (.aload_n 0, 1) := by decide +kernel
theorem dX6_close_151 : decode cX6_close 151 = .ok (.getfield 7, 3) := by decide +kernel
theorem dX6_close_154 : decode cX6_close 154 = .ok (.bipush 123, 2) := by decide +kernel
theorem dX6_close_156 : decode cX6_close 156 = .ok (.iload_n 3, 1) := by decide +kernel
theorem dX6_close_157 : decode cX6_close 157 = .ok (.iadd, 1) := by decide +kernel
theorem dX6_close_158 : decode cX6_close 158 = .ok (.iconst 0, 1) := by decide +kernel
theorem dX6_close_159 : decode cX6_close 159 = .ok (.iastore, 1) := by decide +kernel
theorem dX6_close_160 : decode cX6_close 160 = .ok (.aload_n 0, 1) := by decide +kernel
theorem dX6_close_161 : decode cX6_close 161 = .ok (.getfield 7, 3) := by decide +kernel
theorem dX6_close_164 : decode cX6_close 164 = .ok (.sipush 133, 3) := by decide +kernel
theorem dX6_close_167 : decode cX6_close 167 = .ok (.iload_n 3, 1) := by decide +kernel
theorem dX6_close_168 : decode cX6_close 168 = .ok (.iadd, 1) := by decide +kernel
theorem dX6_close_169 : decode cX6_close 169 = .ok (.iconst 0, 1) := by decide +kernel
theorem dX6_close_170 : decode cX6_close 170 = .ok (.iastore, 1) := by decide +kernel
theorem dX6_close_171 : decode cX6_close 171 = .ok (.goto 8, 3) := by decide +kernel
theorem dX6_close_174 : decode cX6_close 174 = .ok (.aload_n 0, 1) := by decide +kernel
theorem dX6_close_175 : decode cX6_close 175 = .ok (.iload_n 3, 1) := by decide +kernel
theorem dX6_close_176 : decode cX6_close 176 = .ok (.invokevirtual 110, 3) := by decide +kernel
theorem dX6_close_179 : decode cX6_close 179 = .ok (.aload_n 0, 1) := by decide +kernel
theorem dX6_close_180 : decode cX6_close 180 = .ok (.getfield 7, 3) := by decide +kernel
theorem dX6_close_183 : decode cX6_close 183 = .ok (.iconst 1, 1) := by decide +kernel
theorem dX6_close_184 : decode cX6_close 184 = .ok (.iaload, 1) := by decide +kernel
theorem dX6_close_185 : decode cX6_close 185 = .ok (.aload_n 0, 1) := by decide +kernel
theorem dX6_close_186 : decode cX6_close 186 = .ok (.getfield 7, 3) := by decide +kernel
theorem dX6_close_189 : decode cX6_close 189 = .ok (.sipush 1263, 3) := by decide +kernel
theorem dX6_close_192 : decode cX6_close 192 = .ok (.iload_n 1, 1) := by decide +kernel
theorem dX6_close_193 : decode cX6_close 193 = .ok (.iadd, 1) := by decide +kernel
theorem dX6_close_194 : decode cX6_close 194 = .ok (.iaload, 1) := by decide +kernel
theorem dX6_close_195 : decode cX6_close 195 = .ok (.isub, 1) := by decide +kernel
theorem dX6_close_196 : decode cX6_close 196 = .ok (.ireturn, 1) := by decide +kernel
set_option maxRecDepth 20000 in
theorem ggX6_serverOf_X6_wasOpened : GoodIn wsX6_serverOf wsX6_wasOpened := goodIn_r _ [7, 2, 8, 9, 6, 10, 11, 12, 13, 14, 15, 16] (by decide +kernel) (by decide +kernel)
set_option maxRecDepth 20000 in
theorem gX6_serverOf_X6_wasOpened : GoodIn wsX6_serverOf (wsV RX6 113 RX6 yX6_wasOpened wsX6_wasOpened) := goodIn_app (goodIn_of _ (by decide +kernel)) ggX6_serverOf_X6_wasOpened
theorem dX6_serverOf_0 : decode cX6_serverOf 0 = .ok (.aload_n 0, 1) := by decide +kernel
theorem dX6_serverOf_1 : decode cX6_serverOf 1 = .ok (.aload_n 0, 1) := by decide +kernel
theorem dX6_serverOf_2 : decode cX6_serverOf 2 = .ok (.iload_n 1, 1) := by decide +kernel
theorem dX6_serverOf_3 : decode cX6_serverOf 3 = .ok (.invokevirtual 113, 3) := by decide +kernel
theorem dX6_serverOf_6 : decode cX6_serverOf 6 = .ok (.ifCond .eq 7, 3) := by decide +kernel
theorem dX6_serverOf_9 : decode cX6_serverOf 9 = .ok (.iconst 0, 1) := by decide +kernel
theorem dX6_serverOf_10 : decode cX6_serverOf 10 = .ok (.goto 4, 3) := by decide +kernel
theorem dX6_serverOf_13 : decode cX6_serverOf 13 = .ok (.iconst 1, 1) := by decide +kernel
theorem dX6_serverOf_14 : decode cX6_serverOf 14 = .ok (.putfield 23, 3) := by decide +kernel
theorem dX6_serverOf_17 : decode cX6_serverOf 17 = .ok (.aload_n 0, 1) := by decide +kernel
theorem dX6_serverOf_18 : decode cX6_serverOf 18 = .ok (.getfield 23, 3) := by decide +kernel
theorem dX6_serverOf_21 : decode cX6_serverOf 21 = .ok (.ifCond .eq 7, 3) := by decide +kernel
theorem dX6_serverOf_24 : decode cX6_serverOf 24 = .ok (.iconst 0, 1) := by decide +kernel
theorem dX6_serverOf_25 : decode cX6_serverOf 25 = .ok (.goto 13, 3) := by decide +kernel
theorem dX6_serverOf_28 : decode cX6_serverOf 28 = .ok (.aload_n 0, 1) := by decide +kernel
theorem dX6_serverOf_29 : decode cX6_serverOf 29 = .ok (.getfield 7, 3) := by decide +kernel
theorem dX6_serverOf_32 : decode cX6_serverOf 32 = .ok (.sipush 263, 3) := by decide +kernel
theorem dX6_serverOf_35 : decode cX6_serverOf 35 = .ok (.iload_n 1, 1) := by decide +kernel
theorem dX6_serverOf_36 : decode cX6_serverOf 36 = .ok (.iadd, 1) := by decide +kernel
theorem dX6_serverOf_37 : decode cX6_serverOf 37 = .ok (.iaload, 1) := by decide +kernel
theorem dX6_serverOf_38 : decode cX6_serverOf 38 = .ok (.ireturn, 1) := by decide +kernel
set_option maxRecDepth 20000 in
theorem ggX6_isAvailable_X6_isServer : GoodIn wsX6_isAvailable wsX6_isServer := goodIn_r _ [6, 7, 8, 9, 5, 10, 15, 16, 17, 18, 19, 20] (by decide +kernel) (by decide +kernel)
set_option maxRecDepth 20000 in
theorem gX6_isAvailable_X6_isServer : GoodIn wsX6_isAvailable (wsV RX6 31 RX6 yX6_isServer wsX6_isServer) := goodIn_app (goodIn_of _ (by decide +kernel)) ggX6_isAvailable_X6_isServer
set_option maxRecDepth 20000 in
theorem ggX6_isAvailable_X6_mayTake : GoodIn wsX6_isAvailable wsX6_mayTake := goodIn_r _ [14, 7, 15, 16, 17, 18, 19, 20] (by decide +kernel) (by decide +kernel)
set_option maxRecDepth 20000 in
theorem gX6_isAvailable_X6_mayTake : GoodIn wsX6_isAvailable (wsV RX6 42 RX6 yX6_mayTake wsX6_mayTake) := goodIn_app (goodIn_of _ (by decide +kernel)) ggX6_isAvailable_X6_mayTake
theorem dX6_isAvailable_0 : decode cX6_isAvailable 0 = .ok (.aload_n 0, 1) := by decide +kernel
theorem dX6_isAvailable_1 : decode cX6_isAvailable 1 = .ok (.aload_n 0, 1) := by decide +kernel
theorem dX6_isAvailable_2 : decode cX6_isAvailable 2 = .ok (.iload_n 1, 1) := by decide +kernel
theorem dX6_isAvailable_3 : decode cX6_isAvailable 3 = .ok (.invokevirtual 31, 3) := by decide +kernel
theorem dX6_isAvailable_6 : decode cX6_isAvailable 6 = .ok (.ifCond .eq 7, 3) := by decide +kernel
theorem dX6_isAvailable_9 : decode cX6_isAvailable 9 = .ok (.iconst 0, 1) := by decide +kernel
theorem dX6_isAvailable_10 : decode cX6_isAvailable 10 = .ok (.goto 4, 3) := by decide +kernel
theorem dX6_isAvailable_13 : decode cX6_isAvailable 13 = .ok (.iconst 1, 1) := by decide +kernel
theorem dX6_isAvailable_14 : decode cX6_isAvailable 14 = .ok (.putfield 23, 3) := by decide +kernel
theorem dX6_isAvailable_17 : decode cX6_isAvailable 17 = .ok (.aload_n 0, 1) := by decide +kernel
theorem dX6_isAvailable_18 : decode cX6_isAvailable 18 = .ok (.getfield 23, 3) := by decide +kernel
theorem dX6_isAvailable_21 : decode cX6_isAvailable 21 = .ok (.ifCond .ne 15, 3) := by decide +kernel
theorem dX6_isAvailable_24 : decode cX6_isAvailable 24 = .ok (.aload_n 0, 1) := by decide +kernel
theorem dX6_isAvailable_25 : decode cX6_isAvailable 25 = .ok (.iload_n 1, 1) := by decide +kernel
theorem dX6_isAvailable_26 : decode cX6_isAvailable 26 = .ok (.invokevirtual 42, 3) := by decide +kernel
theorem dX6_isAvailable_29 : decode cX6_isAvailable 29 = .ok (.ifCond .eq 7, 3) := by decide +kernel
theorem dX6_isAvailable_32 : decode cX6_isAvailable 32 = .ok (.iconst 1, 1) := by decide +kernel
theorem dX6_isAvailable_33 : decode cX6_isAvailable 33 = .ok (.goto 4, 3) := by decide +kernel
theorem dX6_isAvailable_36 : decode cX6_isAvailable 36 = .ok (.iconst 0, 1) := by decide +kernel
theorem dX6_isAvailable_37 : decode cX6_isAvailable 37 = .ok (.ireturn, 1) := by decide +kernel
set_option maxRecDepth 20000 in
theorem ggX6_effectiveWeight_X6_isServer : GoodIn wsX6_effectiveWeight wsX6_isServer := goodIn_r _ [6, 7, 8, 9, 5, 10, 15, 16, 17, 18, 19, 20] (by decide +kernel) (by decide +kernel)
set_option maxRecDepth 20000 in
theorem gX6_effectiveWeight_X6_isServer : GoodIn wsX6_effectiveWeight (wsV RX6 31 RX6 yX6_isServer wsX6_isServer) := goodIn_app (goodIn_of _ (by decide +kernel)) ggX6_effectiveWeight_X6_isServer
set_option maxRecDepth 20000 in
theorem ggX6_effectiveWeight_X6_weightNow : GoodIn wsX6_effectiveWeight wsX6_weightNow := goodIn_r _ [14, 7, 15, 16, 17, 18, 19, 20] (by decide +kernel) (by decide +kernel)
set_option maxRecDepth 20000 in
theorem gX6_effectiveWeight_X6_weightNow : GoodIn wsX6_effectiveWeight (wsV RX6 45 RX6 yX6_weightNow wsX6_weightNow) := goodIn_app (goodIn_of _ (by decide +kernel)) ggX6_effectiveWeight_X6_weightNow
theorem dX6_effectiveWeight_0 : decode cX6_effectiveWeight 0 = .ok (.aload_n 0, 1) := by decide +kernel
theorem dX6_effectiveWeight_1 : decode cX6_effectiveWeight 1 = .ok (.aload_n 0, 1) := by decide +kernel
theorem dX6_effectiveWeight_2 : decode cX6_effectiveWeight 2 = .ok (.iload_n 1, 1) := by decide +kernel
theorem dX6_effectiveWeight_3 : decode cX6_effectiveWeight 3 = .ok (.invokevirtual 31, 3) := by decide +kernel
theorem dX6_effectiveWeight_6 : decode cX6_effectiveWeight 6 = .ok (.ifCond .eq 7, 3) := by decide +kernel
theorem dX6_effectiveWeight_9 : decode cX6_effectiveWeight 9 = .ok (.iconst 0, 1) := by decide +kernel
theorem dX6_effectiveWeight_10 : decode cX6_effectiveWeight 10 = .ok (.goto 4, 3) := by decide +kernel
theorem dX6_effectiveWeight_13 : decode cX6_effectiveWeight 13 = .ok (.iconst 1, 1) := by decide +kernel
theorem dX6_effectiveWeight_14 : decode cX6_effectiveWeight 14 = .ok (.putfield 23, 3) := by decide +kernel
theorem dX6_effectiveWeight_17 : decode cX6_effectiveWeight 17 = .ok (.aload_n 0, 1) := by decide +kernel
theorem dX6_effectiveWeight_18 : decode cX6_effectiveWeight 18 = .ok (.getfield 23, 3) := by decide +kernel
theorem dX6_effectiveWeight_21 : decode cX6_effectiveWeight 21 = .ok (.ifCond .eq 7, 3) := by decide +kernel
theorem dX6_effectiveWeight_24 : decode cX6_effectiveWeight 24 = .ok (.iconst 0, 1) := by decide +kernel
theorem dX6_effectiveWeight_25 : decode cX6_effectiveWeight 25 = .ok (.goto 8, 3) := by decide +kernel
theorem dX6_effectiveWeight_28 : decode cX6_effectiveWeight 28 = .ok (.aload_n 0, 1) := by decide +kernel
theorem dX6_effectiveWeight_29 : decode cX6_effectiveWeight 29 = .ok (.iload_n 1, 1) := by decide +kernel
theorem dX6_effectiveWeight_30 : decode cX6_effectiveWeight 30 = .ok (.invokevirtual 45, 3) := by decide +kernel
theorem dX6_effectiveWeight_33 : decode cX6_effectiveWeight 33 = .ok (.ireturn, 1) := by decide +kernel
set_option maxRecDepth 20000 in
theorem ggX6_active_X6_isServer : GoodIn wsX6_active wsX6_isServer := goodIn_r _ [7, 2, 8, 9, 6, 10, 11, 12, 13, 14, 15, 16] (by decide +kernel) (by decide +kernel)
set_option maxRecDepth 20000 in
theorem gX6_active_X6_isServer : GoodIn wsX6_active (wsV RX6 31 RX6 yX6_isServer wsX6_isServer) := goodIn_app (goodIn_of _ (by decide +kernel)) ggX6_active_X6_isServer
theorem dX6_active_0 : decode cX6_active 0 = .ok (.aload_n 0, 1) := by decide +kernel
theorem dX6_active_1 : decode cX6_active 1 = .ok (.aload_n 0, 1) := by decide +kernel
theorem dX6_active_2 : decode cX6_active 2 = .ok (.iload_n 1, 1) := by decide +kernel
theorem dX6_active_3 : decode cX6_active 3 = .ok (.invokevirtual 31, 3) := by decide +kernel
theorem dX6_active_6 : decode cX6_active 6 = .ok (.ifCond .eq 7, 3) := by decide +kernel
theorem dX6_active_9 : decode cX6_active 9 = .ok (.iconst 0, 1) := by decide +kernel
theorem dX6_active_10 : decode cX6_active 10 = .ok (.goto 4, 3) := by decide +kernel
theorem dX6_active_13 : decode cX6_active 13 = .ok (.iconst 1, 1) := by decide +kernel
theorem dX6_active_14 : decode cX6_active 14 = .ok (.putfield 23, 3) := by decide +kernel
theorem dX6_active_17 : decode cX6_active 17 = .ok (.aload_n 0, 1) := by decide +kernel
theorem dX6_active_18 : decode cX6_active 18 = .ok (.getfield 23, 3) := by decide +kernel
theorem dX6_active_21 : decode cX6_active 21 = .ok (.ifCond .eq 7, 3) := by decide +kernel
theorem dX6_active_24 : decode cX6_active 24 = .ok (.iconst 0, 1) := by decide +kernel
theorem dX6_active_25 : decode cX6_active 25 = .ok (.goto 12, 3) := by decide +kernel
theorem dX6_active_28 : decode cX6_active 28 = .ok (.aload_n 0, 1) := by decide +kernel
theorem dX6_active_29 : decode cX6_active 29 = .ok (.getfield 7, 3) := by decide +kernel
theorem dX6_active_32 : decode cX6_active 32 = .ok (.bipush 33, 2) := by decide +kernel
theorem dX6_active_34 : decode cX6_active 34 = .ok (.iload_n 1, 1) := by decide +kernel
theorem dX6_active_35 : decode cX6_active 35 = .ok (.iadd, 1) := by decide +kernel
theorem dX6_active_36 : decode cX6_active 36 = .ok (.iaload, 1) := by decide +kernel
theorem dX6_active_37 : decode cX6_active 37 = .ok (.ireturn, 1) := by decide +kernel
set_option maxRecDepth 20000 in
theorem ggX6_utilization_X6_isServer : GoodIn wsX6_utilization wsX6_isServer := goodIn_r _ [7, 2, 8, 9, 6, 10, 11, 12, 13, 14, 15, 16] (by decide +kernel) (by decide +kernel)
set_option maxRecDepth 20000 in
theorem gX6_utilization_X6_isServer : GoodIn wsX6_utilization (wsV RX6 31 RX6 yX6_isServer wsX6_isServer) := goodIn_app (goodIn_of _ (by decide +kernel)) ggX6_utilization_X6_isServer
theorem dX6_utilization_0 : decode cX6_utilization 0 = .ok (.aload_n 0, 1) := by decide +kernel
theorem dX6_utilization_1 : decode cX6_utilization 1 = .ok (.aload_n 0, 1) := by decide +kernel
theorem dX6_utilization_2 : decode cX6_utilization 2 = .ok (.iload_n 1, 1) := by decide +kernel
theorem dX6_utilization_3 : decode cX6_utilization 3 = .ok (.invokevirtual 31, 3) := by decide +kernel
theorem dX6_utilization_6 : decode cX6_utilization 6 = .ok (.ifCond .eq 7, 3) := by decide +kernel
theorem dX6_utilization_9 : decode cX6_utilization 9 = .ok (.iconst 0, 1) := by decide +kernel
theorem dX6_utilization_10 : decode cX6_utilization 10 = .ok (.goto 4, 3) := by decide +kernel
theorem dX6_utilization_13 : decode cX6_utilization 13 = .ok (.iconst 1, 1) := by decide +kernel
theorem dX6_utilization_14 : decode cX6_utilization 14 = .ok (.putfield 23, 3) := by decide +kernel
theorem dX6_utilization_17 : decode cX6_utilization 17 = .ok (.aload_n 0, 1) := by decide +kernel
theorem dX6_utilization_18 : decode cX6_utilization 18 = .ok (.getfield 23, 3) := by decide +kernel
theorem dX6_utilization_21 : decode cX6_utilization 21 = .ok (.ifCond .eq 7, 3) := by decide +kernel
theorem dX6_utilization_24 : decode cX6_utilization 24 = .ok (.dconst 0, 1) := by decide +kernel
theorem dX6_utilization_25 : decode cX6_utilization 25 = .ok (.goto 24, 3) := by decide +kernel
theorem dX6_utilization_28 : decode cX6_utilization 28 = .ok (.aload_n 0, 1) := by decide +kernel
theorem dX6_utilization_29 : decode cX6_utilization 29 = .ok (.getfield 7, 3) := by decide +kernel
theorem dX6_utilization_32 : decode cX6_utilization 32 = .ok (.bipush 33, 2) := by decide +kernel
theorem dX6_utilization_34 : decode cX6_utilization 34 = .ok (.iload_n 1, 1) := by decide +kernel
theorem dX6_utilization_35 : decode cX6_utilization 35 = .ok (.iadd, 1) := by decide +kernel
theorem dX6_utilization_36 : decode cX6_utilization 36 = .ok (.iaload, 1) := by decide +kernel
theorem dX6_utilization_37 : decode cX6_utilization 37 = .ok (.i2d, 1) := by decide +kernel
theorem dX6_utilization_38 : decode cX6_utilization 38 = .ok (.aload_n 0, 1) := by decide +kernel
theorem dX6_utilization_39 : decode cX6_utilization 39 = .ok (.getfield 7, 3) := by decide +kernel
theorem dX6_utilization_42 : decode cX6_utilization 42 = .ok (.bipush 23, 2) := by decide +kernel
theorem dX6_utilization_44 : decode cX6_utilization 44 = .ok (.iload_n 1, 1) := by decide +kernel
theorem dX6_utilization_45 : decode cX6_utilization 45 = .ok (.iadd, 1) := by decide +kernel
theorem dX6_utilization_46 : decode cX6_utilization 46 = .ok (.iaload, 1) := by decide +kernel
theorem dX6_utilization_47 : decode cX6_utilization 47 = .ok (.i2d, 1) := by decide +kernel
theorem dX6_utilization_48 : decode cX6_utilization 48 = .ok (.ddiv, 1) := by decide +kernel
theorem dX6_utilization_49 : decode cX6_utilization 49 = .ok (.dreturn, 1) := by decide +kernel
set_option maxRecDepth 20000 in
theorem ggX6_breaker_X6_isServer : GoodIn wsX6_breaker wsX6_isServer := goodIn_r _ [7, 2, 8, 9, 6, 10, 11, 12, 13, 14, 15, 16] (by decide +kernel) (by decide +kernel)
set_option maxRecDepth 20000 in
theorem gX6_breaker_X6_isServer : GoodIn wsX6_breaker (wsV RX6 31 RX6 yX6_isServer wsX6_isServer) := goodIn_app (goodIn_of _ (by decide +kernel)) ggX6_breaker_X6_isServer
theorem dX6_breaker_0 : decode cX6_breaker 0 = .ok (.aload_n 0, 1) := by decide +kernel
theorem dX6_breaker_1 : decode cX6_breaker 1 = .ok (.aload_n 0, 1) := by decide +kernel
theorem dX6_breaker_2 : decode cX6_breaker 2 = .ok (.iload_n 1, 1) := by decide +kernel
theorem dX6_breaker_3 : decode cX6_breaker 3 = .ok (.invokevirtual 31, 3) := by decide +kernel
theorem dX6_breaker_6 : decode cX6_breaker 6 = .ok (.ifCond .eq 7, 3) := by decide +kernel
theorem dX6_breaker_9 : decode cX6_breaker 9 = .ok (.iconst 0, 1) := by decide +kernel
theorem dX6_breaker_10 : decode cX6_breaker 10 = .ok (.goto 4, 3) := by decide +kernel
theorem dX6_breaker_13 : decode cX6_breaker 13 = .ok (.iconst 1, 1) := by decide +kernel
theorem dX6_breaker_14 : decode cX6_breaker 14 = .ok (.putfield 23, 3) := by decide +kernel
theorem dX6_breaker_17 : decode cX6_breaker 17 = .ok (.aload_n 0, 1) := by decide +kernel
theorem dX6_breaker_18 : decode cX6_breaker 18 = .ok (.getfield 23, 3) := by decide +kernel
theorem dX6_breaker_21 : decode cX6_breaker 21 = .ok (.ifCond .eq 7, 3) := by decide +kernel
theorem dX6_breaker_24 : decode cX6_breaker 24 = .ok (.iconst 0, 1) := by decide +kernel
theorem dX6_breaker_25 : decode cX6_breaker 25 = .ok (.goto 12, 3) := by decide +kernel
theorem dX6_breaker_28 : decode cX6_breaker 28 = .ok (.aload_n 0, 1) := by decide +kernel
theorem dX6_breaker_29 : decode cX6_breaker 29 = .ok (.getfield 7, 3) := by decide +kernel
theorem dX6_breaker_32 : decode cX6_breaker 32 = .ok (.bipush 83, 2) := by decide +kernel
theorem dX6_breaker_34 : decode cX6_breaker 34 = .ok (.iload_n 1, 1) := by decide +kernel
theorem dX6_breaker_35 : decode cX6_breaker 35 = .ok (.iadd, 1) := by decide +kernel
theorem dX6_breaker_36 : decode cX6_breaker 36 = .ok (.iaload, 1) := by decide +kernel
theorem dX6_breaker_37 : decode cX6_breaker 37 = .ok (.ireturn, 1) := by decide +kernel
set_option maxRecDepth 20000 in
theorem ggX6_owner_X6_byPoints : GoodIn wsX6_owner wsX6_byPoints := goodIn_r _ [7, 1, 8, 9, 10, 6, 11, 12, 13, 14, 15, 16, 17, 18, 19, 20, 21, 22, 23, 24, 25] (by decide +kernel) (by decide +kernel)
set_option maxRecDepth 20000 in
theorem gX6_owner_X6_byPoints : GoodIn wsX6_owner (wsV RX6 73 RX6 yX6_byPoints wsX6_byPoints) := goodIn_app (goodIn_of _ (by decide +kernel)) ggX6_owner_X6_byPoints
theorem dX6_owner_0 : decode cX6_owner 0 = .ok (.aload_n 0, 1) := by decide +kernel
theorem dX6_owner_1 : decode cX6_owner 1 = .ok (.aload_n 0, 1) := by decide +kernel
theorem dX6_owner_2 : decode cX6_owner 2 = .ok (.getfield 7, 3) := by decide +kernel
theorem dX6_owner_5 : decode cX6_owner 5 = .ok (.iconst 0, 1) := by decide +kernel
theorem dX6_owner_6 : decode cX6_owner 6 = .ok (.iaload, 1) := by decide +kernel
theorem dX6_owner_7 : decode cX6_owner 7 = .ok (.ifCond .ne 7, 3) := by decide +kernel
theorem dX6_owner_10 : decode cX6_owner 10 = .ok (.iconst 1, 1) := by decide +kernel
theorem dX6_owner_11 : decode cX6_owner 11 = .ok (.goto 4, 3) := by decide +kernel
theorem dX6_owner_14 : decode cX6_owner 14 = .ok (.iconst 0, 1) := by decide +kernel
theorem dX6_owner_15 : decode cX6_owner 15 = .ok (.putfield 23, 3) := by decide +kernel
theorem dX6_owner_18 : decode cX6_owner 18 = .ok (.aload_n 0, 1) := by decide +kernel
theorem dX6_owner_19 : decode cX6_owner 19 = .ok (.getfield 23, 3) := by decide +kernel
theorem dX6_owner_22 : decode cX6_owner 22 = .ok (.ifCond .eq 7, 3) := by decide +kernel
theorem dX6_owner_25 : decode cX6_owner 25 = .ok (.iconst 0, 1) := by decide +kernel
theorem dX6_owner_26 : decode cX6_owner 26 = .ok (.goto 9, 3) := by decide +kernel
theorem dX6_owner_29 : decode cX6_owner 29 = .ok (.aload_n 0, 1) := by decide +kernel
theorem dX6_owner_30 : decode cX6_owner 30 = .ok (.iload_n 1, 1) := by decide +kernel
theorem dX6_owner_31 : decode cX6_owner 31 = .ok (.iconst 1, 1) := by decide +kernel
theorem dX6_owner_32 : decode cX6_owner 32 = .ok (.invokevirtual 73, 3) := by decide +kernel
theorem dX6_owner_35 : decode cX6_owner 35 = .ok (.ireturn, 1) := by decide +kernel
set_option maxRecDepth 20000 in
theorem ggX6_count_X6_in : GoodIn wsX6_count wsX6_in := goodIn_r _ [6] (by decide +kernel) (by decide +kernel)
set_option maxRecDepth 20000 in
theorem gX6_count_X6_in : GoodIn wsX6_count (va_wsS RX6 27 yX6_in wsX6_in) := goodIn_app (goodIn_of _ (by decide +kernel)) ggX6_count_X6_in
theorem dX6_count_0 : decode cX6_count 0 = .ok (.aload_n 0, 1) := by decide +kernel
theorem dX6_count_1 : decode cX6_count 1 = .ok (.iload_n 1, 1) := by decide +kernel
