theorem dX5_setSeed_13 : decode cX5_setSeed 13 = .ok (.putfield 96, 3) := by decide +kernel
theorem dX5_setSeed_16 : decode cX5_setSeed 16 = .ok (.iload_n 2, 1) := by decide +kernel
theorem dX5_setSeed_17 : decode cX5_setSeed 17 = .ok (.ireturn, 1) := by decide +kernel
set_option maxRecDepth 20000 in
theorem ggX5_tick_X5_requireRange : GoodIn wsX5_tick wsX5_requireRange := goodIn_ca (goodIn_r _ [6, 7, 8] (by decide +kernel) (by decide +kernel)) (goodIn_sub (fun _ h => List.mem_cons_of_mem _ (List.mem_append_right _ h)) (by decide +kernel))
set_option maxRecDepth 20000 in
theorem gX5_tick_X5_requireRange : GoodIn wsX5_tick (va_wsS RX5 20 yX5_requireRange wsX5_requireRange) := goodIn_app (goodIn_of _ (by decide +kernel)) ggX5_tick_X5_requireRange
set_option maxRecDepth 20000 in
theorem ggX5_tick_X4_coolBreakers : GoodIn wsX5_tick wsX4_coolBreakers := goodIn_r _ [13, 14, 15, 16, 17, 18, 19, 20, 21, 22, 23, 24, 25, 26, 29, 30, 31, 32, 33, 34, 35, 36, 37, 38, 39, 40, 41, 42, 43, 44, 45, 46, 47, 48, 49, 50, 51, 52, 53, 54, 55, 56, 57] (by decide +kernel) (by decide +kernel)
set_option maxRecDepth 20000 in
theorem gX5_tick_X4_coolBreakers : GoodIn wsX5_tick (wsV RX5 99 RX4 yX4_coolBreakers wsX4_coolBreakers) := goodIn_app (goodIn_of _ (by decide +kernel)) ggX5_tick_X4_coolBreakers
theorem dX5_tick_0 : decode cX5_tick 0 = .ok (.iload_n 1, 1) := by decide +kernel
theorem dX5_tick_1 : decode cX5_tick 1 = .ok (.iconst 1, 1) := by decide +kernel
theorem dX5_tick_2 : decode cX5_tick 2 = .ok (.sipush 200, 3) := by decide +kernel
theorem dX5_tick_5 : decode cX5_tick 5 = .ok (.invokestatic 20, 3) := by decide +kernel
theorem dX5_tick_8 : decode cX5_tick 8 = .ok (.aload_n 0, 1) := by decide +kernel
theorem dX5_tick_9 : decode cX5_tick 9 = .ok (.getfield 10, 3) := by decide +kernel
theorem dX5_tick_12 : decode cX5_tick 12 = .ok (.dup, 1) := by decide +kernel
theorem dX5_tick_13 : decode cX5_tick 13 = .ok (.getfield 65, 3) := by decide +kernel
theorem dX5_tick_16 : decode cX5_tick 16 = .ok (.iload_n 1, 1) := by decide +kernel
theorem dX5_tick_17 : decode cX5_tick 17 = .ok (.iadd, 1) := by decide +kernel
theorem dX5_tick_18 : decode cX5_tick 18 = .ok (.putfield 65, 3) := by decide +kernel
theorem dX5_tick_21 : decode cX5_tick 21 = .ok (.aload_n 0, 1) := by decide +kernel
theorem dX5_tick_22 : decode cX5_tick 22 = .ok (.getfield 10, 3) := by decide +kernel
theorem dX5_tick_25 : decode cX5_tick 25 = .ok (.invokevirtual 99, 3) := by decide +kernel
theorem dX5_tick_28 : decode cX5_tick 28 = .ok (.aload_n 0, 1) := by decide +kernel
theorem dX5_tick_29 : decode cX5_tick 29 = .ok (.getfield 10, 3) := by decide +kernel
theorem dX5_tick_32 : decode cX5_tick 32 = .ok (.getfield 65, 3) := by decide +kernel
theorem dX5_tick_35 : decode cX5_tick 35 = .ok (.ireturn, 1) := by decide +kernel
set_option maxRecDepth 20000 in
theorem ggX5_preview_X4_serverFor : GoodIn wsX5_preview wsX4_serverFor := goodIn_ca (goodIn_r _ [6, 7, 8, 9, 10, 11, 12, 13, 14, 15, 16, 5, 17, 18, 19, 20, 21, 22, 23, 24, 25, 26, 27, 28, 29, 30, 31, 32, 33, 34, 35, 36, 37, 38, 39, 40, 41, 42, 43, 44, 45, 46, 47, 48, 49, 50, 51, 52, 53, 54, 55, 56, 57, 58, 59, 60, 61, 62, 63, 64, 65, 66, 67, 68, 69, 70, 71, 72, 73, 74, 75, 76, 77, 78, 79, 80, 81, 82, 83, 84, 85, 86, 87, 88, 89, 90, 91, 92, 93, 94, 95, 96, 97, 98, 99, 100, 101, 102, 103, 104, 105, 106, 107, 108, 109, 110, 111, 112, 113, 114, 115, 116, 117, 118, 119, 120, 121, 122, 123, 124, 125, 126, 129, 130, 131, 132, 133, 134, 135, 136, 137, 138, 139, 140, 141, 142, 143, 144, 145, 146, 147, 148, 149, 150, 151, 152, 153, 154, 155, 156, 157, 158, 159, 160, 161, 162, 163, 164, 165] (by decide +kernel) (by decide +kernel)) (goodIn_sub (fun _ h => List.mem_cons_of_mem _ (List.mem_append_right _ h)) (by decide +kernel))
set_option maxRecDepth 20000 in
theorem gX5_preview_X4_serverFor : GoodIn wsX5_preview (wsV RX5 102 RX4 yX4_serverFor wsX4_serverFor) := goodIn_app (goodIn_of _ (by decide +kernel)) ggX5_preview_X4_serverFor
theorem dX5_preview_0 : decode cX5_preview 0 = .ok (.aload_n 0, 1) := by decide +kernel
theorem dX5_preview_1 : decode cX5_preview 1 = .ok (.getfield 10, 3) := by decide +kernel
theorem dX5_preview_4 : decode cX5_preview 4 = .ok (.iload_n 1, 1) := by decide +kernel
theorem dX5_preview_5 : decode cX5_preview 5 = .ok (.invokevirtual 102, 3) := by decide +kernel
theorem dX5_preview_8 : decode cX5_preview 8 = .ok (.ireturn, 1) := by decide +kernel
set_option maxRecDepth 20000 in
theorem ggX5_open_X4_serverFor : GoodIn wsX5_open wsX4_serverFor := goodIn_ca (goodIn_r _ [9, 10, 11, 12, 13, 14, 15, 16, 17, 18, 19, 8, 20, 21, 22, 23, 24, 25, 26, 27, 28, 29, 30, 31, 32, 33, 34, 35, 36, 37, 38, 39, 40, 41, 42, 43, 44, 45, 46, 47, 48, 49, 50, 51, 52, 53, 54, 55, 56, 57, 58, 59, 60, 61, 62, 63, 64, 65, 66, 67, 68, 69, 70, 71, 72, 73, 74, 75, 76, 77, 78, 79, 80, 81, 82, 83, 84, 85, 86, 87, 88, 89, 90, 91, 92, 93, 94, 95, 96, 97, 98, 99, 100, 101, 102, 103, 104, 105, 106, 107, 108, 109, 110, 111, 112, 113, 114, 115, 116, 117, 118, 119, 120, 121, 122, 123, 124, 125, 126, 127, 128, 129, 176, 177, 178, 179, 180, 181, 182, 183, 184, 185, 186, 187, 188, 189, 190, 191, 192, 193, 194, 195, 196, 197, 198, 199, 200, 201, 202, 203, 204, 205, 206, 207, 208, 209, 210, 211, 212] (by decide +kernel) (by decide +kernel)) (goodIn_sub (fun _ h => List.mem_cons_of_mem _ (List.mem_append_right _ h)) (by decide +kernel))
set_option maxRecDepth 20000 in
theorem gX5_open_X4_serverFor : GoodIn wsX5_open (wsV RX5 102 RX4 yX4_serverFor wsX4_serverFor) := goodIn_app (goodIn_of _ (by decide +kernel)) ggX5_open_X4_serverFor
set_option maxRecDepth 20000 in
theorem ggX5_open_X4_stickyServer : GoodIn wsX5_open wsX4_stickyServer := goodIn_ca (goodIn_r _ [20, 21, 22, 23, 24, 25, 26, 27, 28, 29, 30, 31, 32, 33, 34, 35, 8, 36, 37, 38, 39, 40, 41, 42, 43, 44, 45, 46, 47, 48, 49, 50, 51, 52, 53, 54, 55, 56, 57, 176, 177, 178, 179, 180, 181, 182, 183, 184, 185, 186, 187, 188, 189, 194, 195, 196, 197, 198, 199, 200, 201, 202, 203, 204, 205, 206, 207, 208, 209, 210, 211, 212] (by decide +kernel) (by decide +kernel)) (goodIn_sub (fun _ h => List.mem_cons_of_mem _ (List.mem_append_right _ h)) (by decide +kernel))
set_option maxRecDepth 20000 in
theorem gX5_open_X4_stickyServer : GoodIn wsX5_open (wsV RX5 111 RX4 yX4_stickyServer wsX4_stickyServer) := goodIn_app (goodIn_of _ (by decide +kernel)) ggX5_open_X4_stickyServer
set_option maxRecDepth 20000 in
theorem ggX5_open_X4_noteSelection : GoodIn wsX5_open wsX4_noteSelection := goodIn_ca (goodIn_r _ [134, 62, 67, 118, 135, 136, 137, 8, 138, 39, 40, 76, 41, 42, 43, 44, 45, 46, 47, 48, 49, 50, 51, 52, 53, 54, 55, 56, 57, 77, 78, 79, 80, 22, 81, 82, 83, 84, 85, 86, 87, 88, 33, 34, 35, 36, 37, 38, 123, 103, 124, 125, 176, 177, 178, 179, 180, 181, 182, 183, 184, 185, 186, 187, 188, 189, 198, 199, 200, 201, 202, 203, 204, 205, 206, 207, 208, 209, 210, 211, 212] (by decide +kernel) (by decide +kernel)) (goodIn_sub (fun _ h => List.mem_cons_of_mem _ (List.mem_append_right _ h)) (by decide +kernel))
set_option maxRecDepth 20000 in
theorem gX5_open_X4_noteSelection : GoodIn wsX5_open (wsV RX5 114 RX4 yX4_noteSelection wsX4_noteSelection) := goodIn_app (goodIn_of _ (by decide +kernel)) ggX5_open_X4_noteSelection
set_option maxRecDepth 20000 in
theorem ggX5_open_X4_connect : GoodIn wsX5_open wsX4_connect := goodIn_ca (goodIn_r _ [142, 10, 22, 97, 143, 24, 21, 144, 145, 146, 14, 147, 16, 148, 149, 150, 33, 34, 35, 8, 36, 37, 38, 39, 40, 151, 152, 153, 54, 154, 56, 57, 155, 156, 157, 29, 158, 32, 159, 160, 161, 27, 28, 30, 31, 162, 163, 164, 165, 166, 167, 168, 169, 170, 171, 172, 173, 176, 177, 178, 179, 180, 181, 182, 183, 184, 185, 186, 187, 188, 189, 198, 199, 200, 201, 202, 203, 204, 205, 206, 207, 190, 191, 192, 193, 208, 209, 210, 211, 212, 194, 195, 196, 197] (by decide +kernel) (by decide +kernel)) (goodIn_sub (fun _ h => List.mem_cons_of_mem _ (List.mem_append_right _ h)) (by decide +kernel))
set_option maxRecDepth 20000 in
theorem gX5_open_X4_connect : GoodIn wsX5_open (wsV RX5 118 RX4 yX4_connect wsX4_connect) := goodIn_app (goodIn_of _ (by decide +kernel)) ggX5_open_X4_connect
theorem dX5_open_0 : decode cX5_open 0 = .ok (.aload_n 0, 1) := by decide +kernel
theorem dX5_open_1 : decode cX5_open 1 = .ok (.getfield 10, 3) := by decide +kernel
theorem dX5_open_4 : decode cX5_open 4 = .ok (.iload_n 1, 1) := by decide +kernel
theorem dX5_open_5 : decode cX5_open 5 = .ok (.invokevirtual 102, 3) := by decide +kernel
theorem dX5_open_8 : decode cX5_open 8 = .ok (.istore_n 2, 1) := by decide +kernel
theorem dX5_open_9 : decode cX5_open 9 = .ok (.iload_n 2, 1) := by decide +kernel
theorem dX5_open_10 : decode cX5_open 10 = .ok (.iconst (-1), 1) := by decide +kernel
theorem dX5_open_11 : decode cX5_open 11 = .ok (.if_icmp .ne 26, 3) := by decide +kernel
theorem dX5_open_14 : decode cX5_open 14 = .ok (.aload_n 0, 1) := by decide +kernel
theorem dX5_open_15 : decode cX5_open 15 = .ok (.getfield 10, 3) := by decide +kernel
theorem dX5_open_18 : decode cX5_open 18 = .ok (.dup, 1) := by decide +kernel
theorem dX5_open_19 : decode cX5_open 19 = .ok (.getfield 106, 3) := by decide +kernel
theorem dX5_open_22 : decode cX5_open 22 = .ok (.iconst 1, 1) := by decide +kernel
theorem dX5_open_23 : decode cX5_open 23 = .ok (.iadd, 1) := by decide +kernel
theorem dX5_open_24 : decode cX5_open 24 = .ok (.putfield 106, 3) := by decide +kernel
theorem dX5_open_27 : decode cX5_open 27 = .ok (.new 28, 3) := by decide +kernel
theorem dX5_open_30 : decode cX5_open 30 = .ok (.dup, 1) := by decide +kernel
theorem dX5_open_31 : decode cX5_open 31 = .ok (.ldc 109, 2) := by decide +kernel
theorem dX5_open_33 : decode cX5_open 33 = .ok (.invokespecial 32, 3) := by decide +kernel
theorem dX5_open_36 : decode cX5_open 36 = .ok (.athrow, 1) := by decide +kernel
theorem dX5_open_37 : decode cX5_open 37 = .ok (.aload_n 0, 1) := by decide +kernel
theorem dX5_open_38 : decode cX5_open 38 = .ok (.getfield 10, 3) := by decide +kernel
theorem dX5_open_41 : decode cX5_open 41 = .ok (.iload_n 1, 1) := by decide +kernel
theorem dX5_open_42 : decode cX5_open 42 = .ok (.invokevirtual 111, 3) := by decide +kernel
theorem dX5_open_45 : decode cX5_open 45 = .ok (.iconst (-1), 1) := by decide +kernel
theorem dX5_open_46 : decode cX5_open 46 = .ok (.if_icmp .ne 11, 3) := by decide +kernel
theorem dX5_open_49 : decode cX5_open 49 = .ok (.aload_n 0, 1) := by decide +kernel
theorem dX5_open_50 : decode cX5_open 50 = .ok (.getfield 10, 3) := by decide +kernel
theorem dX5_open_53 : decode cX5_open 53 = .ok (.iload_n 2, 1) := by decide +kernel
theorem dX5_open_54 : decode cX5_open 54 = .ok (.invokevirtual 114, 3) := by decide +kernel
theorem dX5_open_57 : decode cX5_open 57 = .ok (.aload_n 0, 1) := by decide +kernel
theorem dX5_open_58 : decode cX5_open 58 = .ok (.getfield 10, 3) := by decide +kernel
theorem dX5_open_61 : decode cX5_open 61 = .ok (.iload_n 1, 1) := by decide +kernel
theorem dX5_open_62 : decode cX5_open 62 = .ok (.iload_n 2, 1) := by decide +kernel
theorem dX5_open_63 : decode cX5_open 63 = .ok (.invokevirtual 118, 3) := by decide +kernel
theorem dX5_open_66 : decode cX5_open 66 = .ok (.ireturn, 1) := by decide +kernel
set_option maxRecDepth 20000 in
theorem ggX5_close_X5_requireConnection : GoodIn wsX5_close wsX5_requireConnection := goodIn_ca (goodIn_r _ [10, 11, 12, 3, 4, 13, 66, 67, 68, 69, 70, 71, 72, 73, 74, 75, 76, 77, 78, 79, 80, 81, 82, 83, 84, 85] (by decide +kernel) (by decide +kernel)) (goodIn_sub (fun _ h => List.mem_cons_of_mem _ (List.mem_append_left _ (List.mem_append_right _ h))) (by decide +kernel))
set_option maxRecDepth 20000 in
theorem gX5_close_X5_requireConnection : GoodIn wsX5_close (wsV RX5 121 RX5 yX5_requireConnection wsX5_requireConnection) := goodIn_app (goodIn_of _ (by decide +kernel)) ggX5_close_X5_requireConnection
set_option maxRecDepth 20000 in
theorem ggX5_close_X4_disconnect : GoodIn wsX5_close wsX4_disconnect := goodIn_ca (goodIn_r _ [18, 19, 20, 21, 22, 23, 24, 25, 26, 27, 28, 17, 29, 30, 12, 31, 32, 33, 34, 35, 36, 37, 38, 39, 40, 41, 42, 43, 44, 45, 46, 47, 48, 49, 50, 51, 52, 53, 54, 55, 56, 57, 58, 59, 60, 61, 62, 63, 64, 65, 68, 69, 70, 71, 72, 73, 74, 75, 76, 77, 78, 79, 80, 81, 82, 83, 84, 85, 86, 87, 88, 89, 90, 91, 92, 93, 94, 95, 96, 97, 98, 99, 100] (by decide +kernel) (by decide +kernel)) (goodIn_sub (fun _ h => List.mem_cons_of_mem _ (List.mem_append_right _ h)) (by decide +kernel))
set_option maxRecDepth 20000 in
theorem gX5_close_X4_disconnect : GoodIn wsX5_close (wsV RX5 136 RX4 yX4_disconnect wsX4_disconnect) := goodIn_app (goodIn_of _ (by decide +kernel)) ggX5_close_X4_disconnect
theorem dX5_close_0 : decode cX5_close 0 = .ok (.aload_n 0, 1) := by decide +kernel
theorem dX5_close_1 : decode cX5_close 1 = .ok (.iload_n 1, 1) := by decide +kernel
theorem dX5_close_2 : decode cX5_close 2 = .ok (.invokevirtual 121, 3) := by decide +kernel
theorem dX5_close_5 : decode cX5_close 5 = .ok (.aload_n 0, 1) := by decide +kernel
theorem dX5_close_6 : decode cX5_close 6 = .ok (.getfield 10, 3) := by decide +kernel
theorem dX5_close_9 : decode cX5_close 9 = .ok (.getfield 124, 3) := by decide +kernel
theorem dX5_close_12 : decode cX5_close 12 = .ok (.getfield 128, 3) := by decide +kernel
theorem dX5_close_15 : decode cX5_close 15 = .ok (.iload_n 1, 1) := by decide +kernel
theorem dX5_close_16 : decode cX5_close 16 = .ok (.baload, 1) := by decide +kernel
theorem dX5_close_17 : decode cX5_close 17 = .ok (.ifCond .ne 13, 3) := by decide +kernel
theorem dX5_close_20 : decode cX5_close 20 = .ok (.new 28, 3) := by decide +kernel
theorem dX5_close_23 : decode cX5_close 23 = .ok (.dup, 1) := by decide +kernel
theorem dX5_close_24 : decode cX5_close 24 = .ok (.ldc 134, 2) := by decide +kernel
theorem dX5_close_26 : decode cX5_close 26 = .ok (.invokespecial 32, 3) := by decide +kernel
theorem dX5_close_29 : decode cX5_close 29 = .ok (.athrow, 1) := by decide +kernel
theorem dX5_close_30 : decode cX5_close 30 = .ok (.aload_n 0, 1) := by decide +kernel
theorem dX5_close_31 : decode cX5_close 31 = .ok (.getfield 10, 3) := by decide +kernel
theorem dX5_close_34 : decode cX5_close 34 = .ok (.iload_n 1, 1) := by decide +kernel
theorem dX5_close_35 : decode cX5_close 35 = .ok (.iload_n 2, 1) := by decide +kernel
theorem dX5_close_36 : decode cX5_close 36 = .ok (.invokevirtual 136, 3) := by decide +kernel
theorem dX5_close_39 : decode cX5_close 39 = .ok (.ireturn, 1) := by decide +kernel
set_option maxRecDepth 20000 in
theorem ggX5_serverOf_X5_requireConnection : GoodIn wsX5_serverOf wsX5_requireConnection := goodIn_ca (goodIn_r _ [8, 9, 10, 1, 2, 11, 12, 13, 14, 15, 16, 17, 18, 19, 20, 21, 22, 23, 24, 25, 26, 27, 28, 29, 30, 31] (by decide +kernel) (by decide +kernel)) (goodIn_sub (fun _ h => List.mem_cons_of_mem _ (List.mem_append_right _ h)) (by decide +kernel))
set_option maxRecDepth 20000 in
theorem gX5_serverOf_X5_requireConnection : GoodIn wsX5_serverOf (wsV RX5 121 RX5 yX5_requireConnection wsX5_requireConnection) := goodIn_app (goodIn_of _ (by decide +kernel)) ggX5_serverOf_X5_requireConnection
theorem dX5_serverOf_0 : decode cX5_serverOf 0 = .ok (.aload_n 0, 1) := by decide +kernel
theorem dX5_serverOf_1 : decode cX5_serverOf 1 = .ok (.iload_n 1, 1) := by decide +kernel
theorem dX5_serverOf_2 : decode cX5_serverOf 2 = .ok (.invokevirtual 121, 3) := by decide +kernel
theorem dX5_serverOf_5 : decode cX5_serverOf 5 = .ok (.aload_n 0, 1) := by decide +kernel
theorem dX5_serverOf_6 : decode cX5_serverOf 6 = .ok (.getfield 10, 3) := by decide +kernel
theorem dX5_serverOf_9 : decode cX5_serverOf 9 = .ok (.getfield 124, 3) := by decide +kernel
theorem dX5_serverOf_12 : decode cX5_serverOf 12 = .ok (.getfield 140, 3) := by decide +kernel
theorem dX5_serverOf_15 : decode cX5_serverOf 15 = .ok (.iload_n 1, 1) := by decide +kernel
theorem dX5_serverOf_16 : decode cX5_serverOf 16 = .ok (.iaload, 1) := by decide +kernel
theorem dX5_serverOf_17 : decode cX5_serverOf 17 = .ok (.ireturn, 1) := by decide +kernel
set_option maxRecDepth 20000 in
theorem ggX5_isAvailable_X4_serverAt : GoodIn wsX5_isAvailable wsX4_serverAt := goodIn_ca (goodIn_r _ [6, 7, 8, 9, 10, 30, 31, 32, 33, 34, 35, 36, 37, 38, 39, 40, 41, 42, 43] (by decide +kernel) (by decide +kernel)) (goodIn_sub (fun _ h => List.mem_cons_of_mem _ (List.mem_append_right _ h)) (by decide +kernel))
set_option maxRecDepth 20000 in
theorem gX5_isAvailable_X4_serverAt : GoodIn wsX5_isAvailable (wsV RX5 39 RX4 yX4_serverAt wsX4_serverAt) := goodIn_app (goodIn_of _ (by decide +kernel)) ggX5_isAvailable_X4_serverAt
set_option maxRecDepth 20000 in
theorem ggX5_isAvailable_X3_accepts : GoodIn wsX5_isAvailable wsX3_accepts := goodIn_r _ [15, 16, 17, 18, 19, 20, 21, 22, 23, 24, 25, 26, 27, 44, 45, 46, 47, 48, 49, 50, 51, 52, 53, 54, 55, 56, 57, 58] (by decide +kernel) (by decide +kernel)
set_option maxRecDepth 20000 in
theorem gX5_isAvailable_X3_accepts : GoodIn wsX5_isAvailable (wsV RX5 144 RX3 yX3_accepts wsX3_accepts) := goodIn_app (goodIn_of _ (by decide +kernel)) ggX5_isAvailable_X3_accepts
theorem dX5_isAvailable_0 : decode cX5_isAvailable 0 = .ok (.aload_n 0, 1) := by decide +kernel
theorem dX5_isAvailable_1 : decode cX5_isAvailable 1 = .ok (.getfield 10, 3) := by decide +kernel
theorem dX5_isAvailable_4 : decode cX5_isAvailable 4 = .ok (.iload_n 1, 1) := by decide +kernel
theorem dX5_isAvailable_5 : decode cX5_isAvailable 5 = .ok (.invokevirtual 39, 3) := by decide +kernel
theorem dX5_isAvailable_8 : decode cX5_isAvailable 8 = .ok (.invokevirtual 144, 3) := by decide +kernel
theorem dX5_isAvailable_11 : decode cX5_isAvailable 11 = .ok (.ireturn, 1) := by decide +kernel
set_option maxRecDepth 20000 in
theorem ggX5_effectiveWeight_X4_serverAt : GoodIn wsX5_effectiveWeight wsX4_serverAt := goodIn_ca (goodIn_r _ [6, 7, 8, 9, 10, 26, 27, 28, 29, 30, 31, 32, 33, 34, 35, 36, 37, 38, 39] (by decide +kernel) (by decide +kernel)) (goodIn_sub (fun _ h => List.mem_cons_of_mem _ (List.mem_append_right _ h)) (by decide +kernel))
set_option maxRecDepth 20000 in
theorem gX5_effectiveWeight_X4_serverAt : GoodIn wsX5_effectiveWeight (wsV RX5 39 RX4 yX4_serverAt wsX4_serverAt) := goodIn_app (goodIn_of _ (by decide +kernel)) ggX5_effectiveWeight_X4_serverAt
set_option maxRecDepth 20000 in
theorem ggX5_effectiveWeight_X4_weightNow : GoodIn wsX5_effectiveWeight wsX4_weightNow := goodIn_r _ [14, 15, 16, 17, 18, 19, 20, 21, 22, 23, 26, 27, 28, 29, 30, 31, 32, 33, 34, 35, 36, 37, 38, 39, 40, 41, 42, 43, 44, 45, 46, 47, 48, 49] (by decide +kernel) (by decide +kernel)
set_option maxRecDepth 20000 in
theorem gX5_effectiveWeight_X4_weightNow : GoodIn wsX5_effectiveWeight (wsV RX5 148 RX4 yX4_weightNow wsX4_weightNow) := goodIn_app (goodIn_of _ (by decide +kernel)) ggX5_effectiveWeight_X4_weightNow
theorem dX5_effectiveWeight_0 : decode cX5_effectiveWeight 0 = .ok (.aload_n 0, 1) := by decide +kernel
theorem dX5_effectiveWeight_1 : decode cX5_effectiveWeight 1 = .ok (.getfield 10, 3) := by decide +kernel
theorem dX5_effectiveWeight_4 : decode cX5_effectiveWeight 4 = .ok (.aload_n 0, 1) := by decide +kernel
theorem dX5_effectiveWeight_5 : decode cX5_effectiveWeight 5 = .ok (.getfield 10, 3) := by decide +kernel
theorem dX5_effectiveWeight_8 : decode cX5_effectiveWeight 8 = .ok (.iload_n 1, 1) := by decide +kernel
theorem dX5_effectiveWeight_9 : decode cX5_effectiveWeight 9 = .ok (.invokevirtual 39, 3) := by decide +kernel
theorem dX5_effectiveWeight_12 : decode cX5_effectiveWeight 12 = .ok (.invokevirtual 148, 3) := by decide +kernel
theorem dX5_effectiveWeight_15 : decode cX5_effectiveWeight 15 = .ok (.ireturn, 1) := by decide +kernel
set_option maxRecDepth 20000 in
theorem ggX5_active_X4_serverAt : GoodIn wsX5_active wsX4_serverAt := goodIn_ca (goodIn_r _ [7, 8, 9, 10, 11, 24, 25, 26, 27, 28, 29, 30, 31, 32, 33, 34, 35, 36, 37] (by decide +kernel) (by decide +kernel)) (goodIn_sub (fun _ h => List.mem_cons_of_mem _ (List.mem_append_right _ h)) (by decide +kernel))
set_option maxRecDepth 20000 in
theorem gX5_active_X4_serverAt : GoodIn wsX5_active (wsV RX5 39 RX4 yX4_serverAt wsX4_serverAt) := goodIn_app (goodIn_of _ (by decide +kernel)) ggX5_active_X4_serverAt
theorem dX5_active_0 : decode cX5_active 0 = .ok (.aload_n 0, 1) := by decide +kernel
theorem dX5_active_1 : decode cX5_active 1 = .ok (.getfield 10, 3) := by decide +kernel
theorem dX5_active_4 : decode cX5_active 4 = .ok (.iload_n 1, 1) := by decide +kernel
theorem dX5_active_5 : decode cX5_active 5 = .ok (.invokevirtual 39, 3) := by decide +kernel
theorem dX5_active_8 : decode cX5_active 8 = .ok (.getfield 152, 3) := by decide +kernel
theorem dX5_active_11 : decode cX5_active 11 = .ok (.ireturn, 1) := by decide +kernel
set_option maxRecDepth 20000 in
theorem ggX5_utilization_X4_serverAt : GoodIn wsX5_utilization wsX4_serverAt := goodIn_ca (goodIn_r _ [8, 9, 10, 11, 12, 25, 26, 27, 28, 29, 30, 31, 32, 33, 34, 35, 36, 37, 38] (by decide +kernel) (by decide +kernel)) (goodIn_sub (fun _ h => List.mem_cons_of_mem _ (List.mem_append_right _ h)) (by decide +kernel))
set_option maxRecDepth 20000 in
theorem gX5_utilization_X4_serverAt : GoodIn wsX5_utilization (wsV RX5 39 RX4 yX4_serverAt wsX4_serverAt) := goodIn_app (goodIn_of _ (by decide +kernel)) ggX5_utilization_X4_serverAt
theorem dX5_utilization_0 : decode cX5_utilization 0 = .ok (.aload_n 0, 1) := by decide +kernel
theorem dX5_utilization_1 : decode cX5_utilization 1 = .ok (.getfield 10, 3) := by decide +kernel
theorem dX5_utilization_4 : decode cX5_utilization 4 = .ok (.iload_n 1, 1) := by decide +kernel
theorem dX5_utilization_5 : decode cX5_utilization 5 = .ok (.invokevirtual 39, 3) := by decide +kernel
theorem dX5_utilization_8 : decode cX5_utilization 8 = .ok (.astore_n 2, 1) := by decide +kernel
theorem dX5_utilization_9 : decode cX5_utilization 9 = .ok (.aload_n 2, 1) := by decide +kernel
theorem dX5_utilization_10 : decode cX5_utilization 10 = .ok (.getfield 152, 3) := by decide +kernel
theorem dX5_utilization_13 : decode cX5_utilization 13 = .ok (.i2d, 1) := by decide +kernel
theorem dX5_utilization_14 : decode cX5_utilization 14 = .ok (.aload_n 2, 1) := by decide +kernel
theorem dX5_utilization_15 : decode cX5_utilization 15 = .ok (.getfield 155, 3) := by decide +kernel
theorem dX5_utilization_18 : decode cX5_utilization 18 = .ok (.i2d, 1) := by decide +kernel
theorem dX5_utilization_19 : decode cX5_utilization 19 = .ok (.ddiv, 1) := by decide +kernel
theorem dX5_utilization_20 : decode cX5_utilization 20 = .ok (.dreturn, 1) := by decide +kernel
set_option maxRecDepth 20000 in
theorem ggX5_breaker_X4_serverAt : GoodIn wsX5_breaker wsX4_serverAt := goodIn_ca (goodIn_r _ [8, 9, 10, 11, 12, 30, 31, 32, 33, 34, 35, 36, 37, 38, 39, 40, 41, 42, 43] (by decide +kernel) (by decide +kernel)) (goodIn_sub (fun _ h => List.mem_cons_of_mem _ (List.mem_append_right _ h)) (by decide +kernel))
set_option maxRecDepth 20000 in
theorem gX5_breaker_X4_serverAt : GoodIn wsX5_breaker (wsV RX5 39 RX4 yX4_serverAt wsX4_serverAt) := goodIn_app (goodIn_of _ (by decide +kernel)) ggX5_breaker_X4_serverAt
theorem dX5_breaker_0 : decode cX5_breaker 0 = .ok (.aload_n 0, 1) := by decide +kernel
theorem dX5_breaker_1 : decode cX5_breaker 1 = .ok (.getfield 10, 3) := by decide +kernel
theorem dX5_breaker_4 : decode cX5_breaker 4 = .ok (.iload_n 1, 1) := by decide +kernel
theorem dX5_breaker_5 : decode cX5_breaker 5 = .ok (.invokevirtual 39, 3) := by decide +kernel
theorem dX5_breaker_8 : decode cX5_breaker 8 = .ok (.getfield 158, 3) := by decide +kernel
theorem dX5_breaker_11 : decode cX5_breaker 11 = .ok (.getfield 162, 3) := by decide +kernel
theorem dX5_breaker_14 : decode cX5_breaker 14 = .ok (.ireturn, 1) := by decide +kernel
set_option maxRecDepth 20000 in
theorem ggX5_owner_X4_firstOnRing : GoodIn wsX5_owner wsX4_firstOnRing := goodIn_r _ [9, 10, 11, 12, 13, 14, 15, 16, 17, 18, 19, 20, 21, 22, 23, 24, 25, 26, 27, 28, 29, 30, 31, 32, 33, 34, 35, 36, 37, 38, 39, 40, 43, 44, 45, 46, 47, 48, 49, 50, 51, 52, 53, 54, 55, 56, 57, 58, 59, 60, 61, 62, 63, 64, 65, 66, 67, 68, 69, 70, 71] (by decide +kernel) (by decide +kernel)
set_option maxRecDepth 20000 in
theorem gX5_owner_X4_firstOnRing : GoodIn wsX5_owner (wsV RX5 169 RX4 yX4_firstOnRing wsX4_firstOnRing) := goodIn_app (goodIn_of _ (by decide +kernel)) ggX5_owner_X4_firstOnRing
theorem dX5_owner_0 : decode cX5_owner 0 = .ok (.aload_n 0, 1) := by decide +kernel
theorem dX5_owner_1 : decode cX5_owner 1 = .ok (.getfield 10, 3) := by decide +kernel
theorem dX5_owner_4 : decode cX5_owner 4 = .ok (.getfield 24, 3) := by decide +kernel
theorem dX5_owner_7 : decode cX5_owner 7 = .ok (.ifCond .ne 13, 3) := by decide +kernel
theorem dX5_owner_10 : decode cX5_owner 10 = .ok (.new 28, 3) := by decide +kernel
theorem dX5_owner_13 : decode cX5_owner 13 = .ok (.dup, 1) := by decide +kernel
theorem dX5_owner_14 : decode cX5_owner 14 = .ok (.ldc 167, 2) := by decide +kernel
theorem dX5_owner_16 : decode cX5_owner 16 = .ok (.invokespecial 32, 3) := by decide +kernel
theorem dX5_owner_19 : decode cX5_owner 19 = .ok (.athrow, 1) := by decide +kernel
theorem dX5_owner_20 : decode cX5_owner 20 = .ok (.aload_n 0, 1) := by decide +kernel
theorem dX5_owner_21 : decode cX5_owner 21 = .ok (.getfield 10, 3) := by decide +kernel
theorem dX5_owner_24 : decode cX5_owner 24 = .ok (.iload_n 1, 1) := by decide +kernel
theorem dX5_owner_25 : decode cX5_owner 25 = .ok (.iconst 0, 1) := by decide +kernel
theorem dX5_owner_26 : decode cX5_owner 26 = .ok (.invokevirtual 169, 3) := by decide +kernel
theorem dX5_owner_29 : decode cX5_owner 29 = .ok (.ireturn, 1) := by decide +kernel
set_option maxRecDepth 20000 in
theorem ggX5_count_X4_totalLoad : GoodIn wsX5_count wsX4_totalLoad := goodIn_r _ [14, 15, 16, 17, 20, 21, 22, 23, 24, 25, 26, 27, 28, 29, 30, 31, 32, 33, 42, 43, 44, 45, 46, 47, 48, 49, 50, 51] (by decide +kernel) (by decide +kernel)
set_option maxRecDepth 20000 in
theorem gX5_count_X4_totalLoad : GoodIn wsX5_count (wsV RX5 172 RX4 yX4_totalLoad wsX4_totalLoad) := goodIn_app (goodIn_of _ (by decide +kernel)) ggX5_count_X4_totalLoad
theorem dX5_count_0 : decode cX5_count 0 = .ok (.iload_n 1, 1) := by decide +kernel
theorem dX5_count_1 : decode cX5_count 1 = .ok (.tableswitch 81 0 4 #[35, 43, 51, 62, 70], 35) := by decide +kernel
theorem dX5_count_36 : decode cX5_count 36 = .ok (.aload_n 0, 1) := by decide +kernel
theorem dX5_count_37 : decode cX5_count 37 = .ok (.getfield 10, 3) := by decide +kernel
theorem dX5_count_40 : decode cX5_count 40 = .ok (.getfield 65, 3) := by decide +kernel
theorem dX5_count_43 : decode cX5_count 43 = .ok (.ireturn, 1) := by decide +kernel
theorem dX5_count_44 : decode cX5_count 44 = .ok (.aload_n 0, 1) := by decide +kernel
theorem dX5_count_45 : decode cX5_count 45 = .ok (.getfield 10, 3) := by decide +kernel
theorem dX5_count_48 : decode cX5_count 48 = .ok (.invokevirtual 172, 3) := by decide +kernel
theorem dX5_count_51 : decode cX5_count 51 = .ok (.ireturn, 1) := by decide +kernel
theorem dX5_count_52 : decode cX5_count 52 = .ok (.aload_n 0, 1) := by decide +kernel
theorem dX5_count_53 : decode cX5_count 53 = .ok (.getfield 10, 3) := by decide +kernel
theorem dX5_count_56 : decode cX5_count 56 = .ok (.getfield 124, 3) := by decide +kernel
theorem dX5_count_59 : decode cX5_count 59 = .ok (.getfield 176, 3) := by decide +kernel
theorem dX5_count_62 : decode cX5_count 62 = .ok (.ireturn, 1) := by decide +kernel
theorem dX5_count_63 : decode cX5_count 63 = .ok (.aload_n 0, 1) := by decide +kernel
theorem dX5_count_64 : decode cX5_count 64 = .ok (.getfield 10, 3) := by decide +kernel
theorem dX5_count_67 : decode cX5_count 67 = .ok (.getfield 106, 3) := by decide +kernel
theorem dX5_count_70 : decode cX5_count 70 = .ok (.ireturn, 1) := by decide +kernel
theorem dX5_count_71 : decode cX5_count 71 = .ok (.aload_n 0, 1) := by decide +kernel
theorem dX5_count_72 : decode cX5_count 72 = .ok (.getfield 10, 3) := by decide +kernel
theorem dX5_count_75 : decode cX5_count 75 = .ok (.getfield 81, 3) := by decide +kernel
theorem dX5_count_78 : decode cX5_count 78 = .ok (.getfield 179, 3) := by decide +kernel
theorem dX5_count_81 : decode cX5_count 81 = .ok (.ireturn, 1) := by decide +kernel
theorem dX5_count_82 : decode cX5_count 82 = .ok (.new 182, 3) := by decide +kernel
theorem dX5_count_85 : decode cX5_count 85 = .ok (.dup, 1) := by decide +kernel
theorem dX5_count_86 : decode cX5_count 86 = .ok (.ldc 184, 2) := by decide +kernel
theorem dX5_count_88 : decode cX5_count 88 = .ok (.invokespecial 186, 3) := by decide +kernel
theorem dX5_count_91 : decode cX5_count 91 = .ok (.athrow, 1) := by decide +kernel
set_option maxRecDepth 20000 in
theorem ggX5_save_X5_requireRange : GoodIn wsX5_save wsX5_requireRange := goodIn_ca (goodIn_r _ [9, 10, 11] (by decide +kernel) (by decide +kernel)) (goodIn_sub (fun _ h => List.mem_cons_of_mem _ (List.mem_append_right _ h)) (by decide +kernel))
set_option maxRecDepth 20000 in
theorem gX5_save_X5_requireRange : GoodIn wsX5_save (va_wsS RX5 20 yX5_requireRange wsX5_requireRange) := goodIn_app (goodIn_of _ (by decide +kernel)) ggX5_save_X5_requireRange
set_option maxRecDepth 20000 in
theorem ggX5_save_X4_init : GoodIn wsX5_save wsX4_init := goodIn_r _ [14, 15, 16, 17, 18, 19, 20, 21, 22, 23, 24, 25, 26, 27, 28, 29, 30, 31, 32, 33, 34, 35, 36, 37, 38, 39, 40, 41, 42, 43, 44, 45, 46, 47, 48, 49, 50, 51, 52, 53, 54, 55, 56, 57, 58, 59, 60, 61, 62, 111, 112, 113, 114, 115, 116, 117, 118, 119, 120, 121, 122, 123, 124, 125, 126, 127, 128, 129, 130, 131, 132, 133, 134, 135, 136, 137, 138, 139, 140, 141, 142, 143, 144, 145, 146, 147] (by decide +kernel) (by decide +kernel)
set_option maxRecDepth 20000 in
theorem gX5_save_X4_init : GoodIn wsX5_save (wsX4_init) := ggX5_save_X4_init
set_option maxRecDepth 20000 in
theorem ggX5_save_X4_copyFrom : GoodIn wsX5_save wsX4_copyFrom := goodIn_r _ [66, 67, 30, 31, 68, 32, 69, 33, 34, 35, 70, 71, 19, 25, 29, 72, 73, 74, 21, 75, 76, 77, 78, 79, 80, 81, 82, 83, 84, 43, 85, 86, 87, 42, 88, 89, 90, 91, 92, 93, 94, 95, 96, 24, 97, 98, 52, 99, 100, 101, 102, 53, 55, 103, 104, 105, 28, 106, 107, 60, 108, 61, 62, 111, 112, 113, 114, 115, 116, 117, 118, 119, 120, 121, 122, 123, 124, 125, 126, 127, 128, 129, 130, 131, 132, 133, 134, 143, 144, 145, 146, 147, 135, 136, 137, 138, 139, 140, 141, 142] (by decide +kernel) (by decide +kernel)
set_option maxRecDepth 20000 in
theorem gX5_save_X4_copyFrom : GoodIn wsX5_save (wsV RX5 187 RX4 yX4_copyFrom wsX4_copyFrom) := goodIn_app (goodIn_of _ (by decide +kernel)) ggX5_save_X4_copyFrom
theorem dX5_save_0 : decode cX5_save 0 = .ok (.iload_n 1, 1) := by decide +kernel
theorem dX5_save_1 : decode cX5_save 1 = .ok (.iconst 0, 1) := by decide +kernel
theorem dX5_save_2 : decode cX5_save 2 = .ok (.iconst 1, 1) := by decide +kernel
theorem dX5_save_3 : decode cX5_save 3 = .ok (.invokestatic 20, 3) := by decide +kernel
theorem dX5_save_6 : decode cX5_save 6 = .ok (.aload_n 0, 1) := by decide +kernel
theorem dX5_save_7 : decode cX5_save 7 = .ok (.getfield 16, 3) := by decide +kernel
theorem dX5_save_10 : decode cX5_save 10 = .ok (.iload_n 1, 1) := by decide +kernel
theorem dX5_save_11 : decode cX5_save 11 = .ok (.aaload, 1) := by decide +kernel
theorem dX5_save_12 : decode cX5_save 12 = .ok (.astore_n 2, 1) := by decide +kernel
theorem dX5_save_13 : decode cX5_save 13 = .ok (.aload_n 2, 1) := by decide +kernel
theorem dX5_save_14 : decode cX5_save 14 = .ok (.ifnonnull 18, 3) := by decide +kernel
theorem dX5_save_17 : decode cX5_save 17 = .ok (.new 7, 3) := by decide +kernel
theorem dX5_save_20 : decode cX5_save 20 = .ok (.dup, 1) := by decide +kernel
theorem dX5_save_21 : decode cX5_save 21 = .ok (.invokespecial 9, 3) := by decide +kernel
theorem dX5_save_24 : decode cX5_save 24 = .ok (.astore_n 2, 1) := by decide +kernel
theorem dX5_save_25 : decode cX5_save 25 = .ok (.aload_n 0, 1) := by decide +kernel
theorem dX5_save_26 : decode cX5_save 26 = .ok (.getfield 16, 3) := by decide +kernel
theorem dX5_save_29 : decode cX5_save 29 = .ok (.iload_n 1, 1) := by decide +kernel
theorem dX5_save_30 : decode cX5_save 30 = .ok (.aload_n 2, 1) := by decide +kernel
theorem dX5_save_31 : decode cX5_save 31 = .ok (.aastore, 1) := by decide +kernel
theorem dX5_save_32 : decode cX5_save 32 = .ok (.aload_n 2, 1) := by decide +kernel
theorem dX5_save_33 : decode cX5_save 33 = .ok (.aload_n 0, 1) := by decide +kernel
theorem dX5_save_34 : decode cX5_save 34 = .ok (.getfield 10, 3) := by decide +kernel
theorem dX5_save_37 : decode cX5_save 37 = .ok (.invokevirtual 187, 3) := by decide +kernel
theorem dX5_save_40 : decode cX5_save 40 = .ok (.return_, 1) := by decide +kernel
set_option maxRecDepth 20000 in
theorem ggX5_restore_X5_requireRange : GoodIn wsX5_restore wsX5_requireRange := goodIn_ca (goodIn_r _ [8, 9, 10] (by decide +kernel) (by decide +kernel)) (goodIn_sub (fun _ h => List.mem_cons_of_mem _ (List.mem_append_right _ h)) (by decide +kernel))
set_option maxRecDepth 20000 in
theorem gX5_restore_X5_requireRange : GoodIn wsX5_restore (va_wsS RX5 20 yX5_requireRange wsX5_requireRange) := goodIn_app (goodIn_of _ (by decide +kernel)) ggX5_restore_X5_requireRange
set_option maxRecDepth 20000 in
theorem ggX5_restore_X4_copyFrom : GoodIn wsX5_restore wsX4_copyFrom := goodIn_r _ [15, 16, 17, 18, 19, 20, 21, 22, 23, 24, 25, 26, 27, 28, 29, 30, 31, 32, 33, 34, 35, 36, 37, 38, 39, 40, 41, 42, 43, 44, 45, 46, 47, 48, 49, 50, 51, 52, 53, 54, 55, 56, 57, 58, 59, 60, 61, 62, 63, 64, 65, 66, 67, 68, 69, 70, 71, 72, 73, 74, 75, 76, 77, 80, 81, 82, 83, 84, 85, 86, 87, 88, 89, 90, 91, 92, 93, 94, 95, 96, 97, 98, 99, 100, 101, 102, 103, 104, 105, 106, 107, 108, 109, 110, 111, 112, 113, 114, 115, 116] (by decide +kernel) (by decide +kernel)
set_option maxRecDepth 20000 in
theorem gX5_restore_X4_copyFrom : GoodIn wsX5_restore (wsV RX5 187 RX4 yX4_copyFrom wsX4_copyFrom) := goodIn_app (goodIn_of _ (by decide +kernel)) ggX5_restore_X4_copyFrom
theorem dX5_restore_0 : decode cX5_restore 0 = .ok (.iload_n 1, 1) := by decide +kernel
theorem dX5_restore_1 : decode cX5_restore 1 = .ok (.iconst 0, 1) := by decide +kernel
theorem dX5_restore_2 : decode cX5_restore 2 = .ok (.iconst 1, 1) := by decide +kernel
theorem dX5_restore_3 : decode cX5_restore 3 = .ok (.invokestatic 20, 3) := by decide +kernel
theorem dX5_restore_6 : decode cX5_restore 6 = .ok (.aload_n 0, 1) := by decide +kernel
theorem dX5_restore_7 : decode cX5_restore 7 = .ok (.getfield 16, 3) := by decide +kernel
theorem dX5_restore_10 : decode cX5_restore 10 = .ok (.iload_n 1, 1) := by decide +kernel
theorem dX5_restore_11 : decode cX5_restore 11 = .ok (.aaload, 1) := by decide +kernel
theorem dX5_restore_12 : decode cX5_restore 12 = .ok (.astore_n 2, 1) := by decide +kernel
theorem dX5_restore_13 : decode cX5_restore 13 = .ok (.aload_n 2, 1) := by decide +kernel
theorem dX5_restore_14 : decode cX5_restore 14 = .ok (.ifnonnull 13, 3) := by decide +kernel
theorem dX5_restore_17 : decode cX5_restore 17 = .ok (.new 28, 3) := by decide +kernel
theorem dX5_restore_20 : decode cX5_restore 20 = .ok (.dup, 1) := by decide +kernel
theorem dX5_restore_21 : decode cX5_restore 21 = .ok (.ldc 191, 2) := by decide +kernel
theorem dX5_restore_23 : decode cX5_restore 23 = .ok (.invokespecial 32, 3) := by decide +kernel
theorem dX5_restore_26 : decode cX5_restore 26 = .ok (.athrow, 1) := by decide +kernel
theorem dX5_restore_27 : decode cX5_restore 27 = .ok (.aload_n 0, 1) := by decide +kernel
theorem dX5_restore_28 : decode cX5_restore 28 = .ok (.getfield 10, 3) := by decide +kernel
theorem dX5_restore_31 : decode cX5_restore 31 = .ok (.aload_n 2, 1) := by decide +kernel
theorem dX5_restore_32 : decode cX5_restore 32 = .ok (.invokevirtual 187, 3) := by decide +kernel
theorem dX5_restore_35 : decode cX5_restore 35 = .ok (.return_, 1) := by decide +kernel
theorem dX5_requireRange_0 : decode cX5_requireRange 0 = .ok (.iload_n 0, 1) := by decide +kernel
theorem dX5_requireRange_1 : decode cX5_requireRange 1 = .ok (.iload_n 1, 1) := by decide +kernel
theorem dX5_requireRange_2 : decode cX5_requireRange 2 = .ok (.if_icmp .lt 8, 3) := by decide +kernel
theorem dX5_requireRange_5 : decode cX5_requireRange 5 = .ok (.iload_n 0, 1) := by decide +kernel
theorem dX5_requireRange_6 : decode cX5_requireRange 6 = .ok (.iload_n 2, 1) := by decide +kernel
theorem dX5_requireRange_7 : decode cX5_requireRange 7 = .ok (.if_icmp .le 13, 3) := by decide +kernel
theorem dX5_requireRange_10 : decode cX5_requireRange 10 = .ok (.new 182, 3) := by decide +kernel
theorem dX5_requireRange_13 : decode cX5_requireRange 13 = .ok (.dup, 1) := by decide +kernel
theorem dX5_requireRange_14 : decode cX5_requireRange 14 = .ok (.ldc 193, 2) := by decide +kernel
theorem dX5_requireRange_16 : decode cX5_requireRange 16 = .ok (.invokespecial 186, 3) := by decide +kernel
theorem dX5_requireRange_19 : decode cX5_requireRange 19 = .ok (.athrow, 1) := by decide +kernel
theorem dX5_requireRange_20 : decode cX5_requireRange 20 = .ok (.return_, 1) := by decide +kernel
theorem dX5_requireConnection_0 : decode cX5_requireConnection 0 = .ok (.iload_n 1, 1) := by decide +kernel
theorem dX5_requireConnection_1 : decode cX5_requireConnection 1 = .ok (.ifCond .lt 17, 3) := by decide +kernel
theorem dX5_requireConnection_4 : decode cX5_requireConnection 4 = .ok (.iload_n 1, 1) := by decide +kernel
theorem dX5_requireConnection_5 : decode cX5_requireConnection 5 = .ok (.aload_n 0, 1) := by decide +kernel
theorem dX5_requireConnection_6 : decode cX5_requireConnection 6 = .ok (.getfield 10, 3) := by decide +kernel
theorem dX5_requireConnection_9 : decode cX5_requireConnection 9 = .ok (.getfield 124, 3) := by decide +kernel
theorem dX5_requireConnection_12 : decode cX5_requireConnection 12 = .ok (.getfield 176, 3) := by decide +kernel
theorem dX5_requireConnection_15 : decode cX5_requireConnection 15 = .ok (.if_icmp .lt 13, 3) := by decide +kernel
theorem dX5_requireConnection_18 : decode cX5_requireConnection 18 = .ok (.new 195, 3) := by decide +kernel
theorem dX5_requireConnection_21 : decode cX5_requireConnection 21 = .ok (.dup, 1) := by decide +kernel
theorem dX5_requireConnection_22 : decode cX5_requireConnection 22 = .ok (.ldc 197, 2) := by decide +kernel
theorem dX5_requireConnection_24 : decode cX5_requireConnection 24 = .ok (.invokespecial 199, 3) := by decide +kernel
theorem dX5_requireConnection_27 : decode cX5_requireConnection 27 = .ok (.athrow, 1) := by decide +kernel
theorem dX5_requireConnection_28 : decode cX5_requireConnection 28 = .ok (.return_, 1) := by decide +kernel
theorem dX5_mix_0 : decode cX5_mix 0 = .ok (.iload_n 0, 1) := by decide +kernel
theorem dX5_mix_1 : decode cX5_mix 1 = .ok (.iload_n 0, 1) := by decide +kernel
theorem dX5_mix_2 : decode cX5_mix 2 = .ok (.bipush 16, 2) := by decide +kernel
theorem dX5_mix_4 : decode cX5_mix 4 = .ok (.iushr, 1) := by decide +kernel
theorem dX5_mix_5 : decode cX5_mix 5 = .ok (.ixor, 1) := by decide +kernel
theorem dX5_mix_6 : decode cX5_mix 6 = .ok (.istore_n 0, 1) := by decide +kernel
theorem dX5_mix_7 : decode cX5_mix 7 = .ok (.iload_n 0, 1) := by decide +kernel
theorem dX5_mix_8 : decode cX5_mix 8 = .ok (.ldc 200, 2) := by decide +kernel
theorem dX5_mix_10 : decode cX5_mix 10 = .ok (.imul, 1) := by decide +kernel
theorem dX5_mix_11 : decode cX5_mix 11 = .ok (.istore_n 0, 1) := by decide +kernel
theorem dX5_mix_12 : decode cX5_mix 12 = .ok (.iload_n 0, 1) := by decide +kernel
theorem dX5_mix_13 : decode cX5_mix 13 = .ok (.iload_n 0, 1) := by decide +kernel
theorem dX5_mix_14 : decode cX5_mix 14 = .ok (.bipush 16, 2) := by decide +kernel
theorem dX5_mix_16 : decode cX5_mix 16 = .ok (.iushr, 1) := by decide +kernel
theorem dX5_mix_17 : decode cX5_mix 17 = .ok (.ixor, 1) := by decide +kernel
theorem dX5_mix_18 : decode cX5_mix 18 = .ok (.istore_n 0, 1) := by decide +kernel
theorem dX5_mix_19 : decode cX5_mix 19 = .ok (.iload_n 0, 1) := by decide +kernel
theorem dX5_mix_20 : decode cX5_mix 20 = .ok (.ldc 200, 2) := by decide +kernel
theorem dX5_mix_22 : decode cX5_mix 22 = .ok (.imul, 1) := by decide +kernel
theorem dX5_mix_23 : decode cX5_mix 23 = .ok (.istore_n 0, 1) := by decide +kernel
theorem dX5_mix_24 : decode cX5_mix 24 = .ok (.iload_n 0, 1) := by decide +kernel
theorem dX5_mix_25 : decode cX5_mix 25 = .ok (.iload_n 0, 1) := by decide +kernel
theorem dX5_mix_26 : decode cX5_mix 26 = .ok (.bipush 16, 2) := by decide +kernel
theorem dX5_mix_28 : decode cX5_mix 28 = .ok (.iushr, 1) := by decide +kernel
theorem dX5_mix_29 : decode cX5_mix 29 = .ok (.ixor, 1) := by decide +kernel
theorem dX5_mix_30 : decode cX5_mix 30 = .ok (.istore_n 0, 1) := by decide +kernel
theorem dX5_mix_31 : decode cX5_mix 31 = .ok (.iload_n 0, 1) := by decide +kernel
theorem dX5_mix_32 : decode cX5_mix 32 = .ok (.ireturn, 1) := by decide +kernel
theorem dX5_isBelowUnsigned_0 : decode cX5_isBelowUnsigned 0 = .ok (.iload_n 0, 1) := by decide +kernel
theorem dX5_isBelowUnsigned_1 : decode cX5_isBelowUnsigned 1 = .ok (.ldc 201, 2) := by decide +kernel
theorem dX5_isBelowUnsigned_3 : decode cX5_isBelowUnsigned 3 = .ok (.ixor, 1) := by decide +kernel
theorem dX5_isBelowUnsigned_4 : decode cX5_isBelowUnsigned 4 = .ok (.iload_n 1, 1) := by decide +kernel
theorem dX5_isBelowUnsigned_5 : decode cX5_isBelowUnsigned 5 = .ok (.ldc 201, 2) := by decide +kernel
theorem dX5_isBelowUnsigned_7 : decode cX5_isBelowUnsigned 7 = .ok (.ixor, 1) := by decide +kernel
theorem dX5_isBelowUnsigned_8 : decode cX5_isBelowUnsigned 8 = .ok (.if_icmp .ge 7, 3) := by decide +kernel
theorem dX5_isBelowUnsigned_11 : decode cX5_isBelowUnsigned 11 = .ok (.iconst 1, 1) := by decide +kernel
theorem dX5_isBelowUnsigned_12 : decode cX5_isBelowUnsigned 12 = .ok (.goto 4, 3) := by decide +kernel
theorem dX5_isBelowUnsigned_15 : decode cX5_isBelowUnsigned 15 = .ok (.iconst 0, 1) := by decide +kernel
theorem dX5_isBelowUnsigned_16 : decode cX5_isBelowUnsigned 16 = .ok (.ireturn, 1) := by decide +kernel
theorem dX5_nextSeed_0 : decode cX5_nextSeed 0 = .ok (.iload_n 0, 1) := by decide +kernel
theorem dX5_nextSeed_1 : decode cX5_nextSeed 1 = .ok (.ldc 202, 2) := by decide +kernel
theorem dX5_nextSeed_3 : decode cX5_nextSeed 3 = .ok (.imul, 1) := by decide +kernel
theorem dX5_nextSeed_4 : decode cX5_nextSeed 4 = .ok (.sipush 12345, 3) := by decide +kernel
theorem dX5_nextSeed_7 : decode cX5_nextSeed 7 = .ok (.iadd, 1) := by decide +kernel
theorem dX5_nextSeed_8 : decode cX5_nextSeed 8 = .ok (.ireturn, 1) := by decide +kernel
theorem dX6_init_0 : decode cX6_init 0 = .ok (.aload_n 0, 1) := by decide +kernel
theorem dX6_init_1 : decode cX6_init 1 = .ok (.invokespecial 1, 3) := by decide +kernel
theorem dX6_init_4 : decode cX6_init 4 = .ok (.aload_n 0, 1) := by decide +kernel
theorem dX6_init_5 : decode cX6_init 5 = .ok (.sipush 3263, 3) := by decide +kernel
theorem dX6_init_8 : decode cX6_init 8 = .ok (.newarray .int, 2) := by decide +kernel
theorem dX6_init_10 : decode cX6_init 10 = .ok (.putfield 7, 3) := by decide +kernel
theorem dX6_init_13 : decode cX6_init 13 = .ok (.aload_n 0, 1) := by decide +kernel
theorem dX6_init_14 : decode cX6_init 14 = .ok (.sipush 6526, 3) := by decide +kernel
theorem dX6_init_17 : decode cX6_init 17 = .ok (.newarray .int, 2) := by decide +kernel
theorem dX6_init_19 : decode cX6_init 19 = .ok (.putfield 13, 3) := by decide +kernel
theorem dX6_init_22 : decode cX6_init 22 = .ok (.aload_n 0, 1) := by decide +kernel
theorem dX6_init_23 : decode cX6_init 23 = .ok (.iconst 2, 1) := by decide +kernel
theorem dX6_init_24 : decode cX6_init 24 = .ok (.newarray .boolean, 2) := by decide +kernel
theorem dX6_init_26 : decode cX6_init 26 = .ok (.putfield 16, 3) := by decide +kernel
theorem dX6_init_29 : decode cX6_init 29 = .ok (.aload_n 0, 1) := by decide +kernel
theorem dX6_init_30 : decode cX6_init 30 = .ok (.bipush 10, 2) := by decide +kernel
theorem dX6_init_32 : decode cX6_init 32 = .ok (.newarray .int, 2) := by decide +kernel
theorem dX6_init_34 : decode cX6_init 34 = .ok (.putfield 20, 3) := by decide +kernel
theorem dX6_init_37 : decode cX6_init 37 = .ok (.aload_n 0, 1) := by decide +kernel
theorem dX6_init_38 : decode cX6_init 38 = .ok (.getfield 7, 3) := by decide +kernel
theorem dX6_init_41 : decode cX6_init 41 = .ok (.iconst 2, 1) := by decide +kernel
theorem dX6_init_42 : decode cX6_init 42 = .ok (.iconst 2, 1) := by decide +kernel
theorem dX6_init_43 : decode cX6_init 43 = .ok (.iastore, 1) := by decide +kernel
theorem dX6_init_44 : decode cX6_init 44 = .ok (.aload_n 0, 1) := by decide +kernel
theorem dX6_init_45 : decode cX6_init 45 = .ok (.getfield 7, 3) := by decide +kernel
theorem dX6_init_48 : decode cX6_init 48 = .ok (.iconst 3, 1) := by decide +kernel
theorem dX6_init_49 : decode cX6_init 49 = .ok (.iconst 3, 1) := by decide +kernel
theorem dX6_init_50 : decode cX6_init 50 = .ok (.iastore, 1) := by decide +kernel
theorem dX6_init_51 : decode cX6_init 51 = .ok (.aload_n 0, 1) := by decide +kernel
theorem dX6_init_52 : decode cX6_init 52 = .ok (.getfield 7, 3) := by decide +kernel
theorem dX6_init_55 : decode cX6_init 55 = .ok (.iconst 5, 1) := by decide +kernel
theorem dX6_init_56 : decode cX6_init 56 = .ok (.iconst 5, 1) := by decide +kernel
theorem dX6_init_57 : decode cX6_init 57 = .ok (.iastore, 1) := by decide +kernel
theorem dX6_init_58 : decode cX6_init 58 = .ok (.aload_n 0, 1) := by decide +kernel
theorem dX6_init_59 : decode cX6_init 59 = .ok (.getfield 7, 3) := by decide +kernel
theorem dX6_init_62 : decode cX6_init 62 = .ok (.bipush 8, 2) := by decide +kernel
theorem dX6_init_64 : decode cX6_init 64 = .ok (.iconst 1, 1) := by decide +kernel
theorem dX6_init_65 : decode cX6_init 65 = .ok (.iastore, 1) := by decide +kernel
theorem dX6_init_66 : decode cX6_init 66 = .ok (.aload_n 0, 1) := by decide +kernel
theorem dX6_init_67 : decode cX6_init 67 = .ok (.getfield 7, 3) := by decide +kernel
theorem dX6_init_70 : decode cX6_init 70 = .ok (.bipush 9, 2) := by decide +kernel
theorem dX6_init_72 : decode cX6_init 72 = .ok (.iconst (-1), 1) := by decide +kernel
theorem dX6_init_73 : decode cX6_init 73 = .ok (.iastore, 1) := by decide +kernel
theorem dX6_init_74 : decode cX6_init 74 = .ok (.return_, 1) := by decide +kernel
theorem dX6_thrown_0 : decode cX6_thrown 0 = .ok (.aload_n 0, 1) := by decide +kernel
theorem dX6_thrown_1 : decode cX6_thrown 1 = .ok (.getfield 23, 3) := by decide +kernel
theorem dX6_thrown_4 : decode cX6_thrown 4 = .ok (.ireturn, 1) := by decide +kernel
theorem dX6_in_0 : decode cX6_in 0 = .ok (.iload_n 0, 1) := by decide +kernel
theorem dX6_in_1 : decode cX6_in 1 = .ok (.iload_n 1, 1) := by decide +kernel
theorem dX6_in_2 : decode cX6_in 2 = .ok (.if_icmp .lt 12, 3) := by decide +kernel
theorem dX6_in_5 : decode cX6_in 5 = .ok (.iload_n 0, 1) := by decide +kernel
theorem dX6_in_6 : decode cX6_in 6 = .ok (.iload_n 2, 1) := by decide +kernel
theorem dX6_in_7 : decode cX6_in 7 = .ok (.if_icmp .gt 7, 3) := by decide +kernel
theorem dX6_in_10 : decode cX6_in 10 = .ok (.iconst 1, 1) := by decide +kernel
theorem dX6_in_11 : decode cX6_in 11 = .ok (.goto 4, 3) := by decide +kernel
theorem dX6_in_14 : decode cX6_in 14 = .ok (.iconst 0, 1) := by decide +kernel
theorem dX6_in_15 : decode cX6_in 15 = .ok (.ireturn, 1) := by decide +kernel
set_option maxRecDepth 20000 in
theorem ggX6_isServer_X6_in : GoodIn wsX6_isServer wsX6_in := goodIn_r _ [5] (by decide +kernel) (by decide +kernel)
set_option maxRecDepth 20000 in
theorem gX6_isServer_X6_in : GoodIn wsX6_isServer (va_wsS RX6 27 yX6_in wsX6_in) := goodIn_app (goodIn_of _ (by decide +kernel)) ggX6_isServer_X6_in
theorem dX6_isServer_0 : decode cX6_isServer 0 = .ok (.iload_n 1, 1) := by decide +kernel
theorem dX6_isServer_1 : decode cX6_isServer 1 = .ok (.iconst 0, 1) := by decide +kernel
theorem dX6_isServer_2 : decode cX6_isServer 2 = .ok (.aload_n 0, 1) := by decide +kernel
theorem dX6_isServer_3 : decode cX6_isServer 3 = .ok (.getfield 7, 3) := by decide +kernel
theorem dX6_isServer_6 : decode cX6_isServer 6 = .ok (.iconst 0, 1) := by decide +kernel
theorem dX6_isServer_7 : decode cX6_isServer 7 = .ok (.iaload, 1) := by decide +kernel
theorem dX6_isServer_8 : decode cX6_isServer 8 = .ok (.iconst 1, 1) := by decide +kernel
theorem dX6_isServer_9 : decode cX6_isServer 9 = .ok (.isub, 1) := by decide +kernel
theorem dX6_isServer_10 : decode cX6_isServer 10 = .ok (.invokestatic 27, 3) := by decide +kernel
theorem dX6_isServer_13 : decode cX6_isServer 13 = .ok (.ireturn, 1) := by decide +kernel
set_option maxRecDepth 20000 in
theorem ggX6_addServer_X6_in : GoodIn wsX6_addServer wsX6_in := goodIn_r _ [6] (by decide +kernel) (by decide +kernel)
set_option maxRecDepth 20000 in
theorem gX6_addServer_X6_in : GoodIn wsX6_addServer (va_wsS RX6 27 yX6_in wsX6_in) := goodIn_app (goodIn_of _ (by decide +kernel)) ggX6_addServer_X6_in
theorem dX6_addServer_0 : decode cX6_addServer 0 = .ok (.aload_n 0, 1) := by decide +kernel
theorem dX6_addServer_1 : decode cX6_addServer 1 = .ok (.iload_n 1, 1) := by decide +kernel
theorem dX6_addServer_2 : decode cX6_addServer 2 = .ok (.iconst 1, 1) := by decide +kernel
theorem dX6_addServer_3 : decode cX6_addServer 3 = .ok (.bipush 10, 2) := by decide +kernel
theorem dX6_addServer_5 : decode cX6_addServer 5 = .ok (.invokestatic 27, 3) := by decide +kernel
theorem dX6_addServer_8 : decode cX6_addServer 8 = .ok (.ifCond .eq 13, 3) := by decide +kernel
theorem dX6_addServer_11 : decode cX6_addServer 11 = .ok (.iload_n 2, 1) := by decide +kernel
theorem dX6_addServer_12 : decode cX6_addServer 12 = .ok (.iconst 1, 1) := by decide +kernel
theorem dX6_addServer_13 : decode cX6_addServer 13 = .ok (.bipush 20, 2) := by decide +kernel
theorem dX6_addServer_15 : decode cX6_addServer 15 = .ok (.invokestatic 27, 3) := by decide +kernel
theorem dX6_addServer_18 : decode cX6_addServer 18 = .ok (.ifCond .ne 7, 3) := by decide +kernel
theorem dX6_addServer_21 : decode cX6_addServer 21 = .ok (.iconst 1, 1) := by decide +kernel
theorem dX6_addServer_22 : decode cX6_addServer 22 = .ok (.goto 19, 3) := by decide +kernel
theorem dX6_addServer_25 : decode cX6_addServer 25 = .ok (.aload_n 0, 1) := by decide +kernel
theorem dX6_addServer_26 : decode cX6_addServer 26 = .ok (.getfield 7, 3) := by decide +kernel
theorem dX6_addServer_29 : decode cX6_addServer 29 = .ok (.iconst 0, 1) := by decide +kernel
theorem dX6_addServer_30 : decode cX6_addServer 30 = .ok (.iaload, 1) := by decide +kernel
theorem dX6_addServer_31 : decode cX6_addServer 31 = .ok (.bipush 10, 2) := by decide +kernel
theorem dX6_addServer_33 : decode cX6_addServer 33 = .ok (.if_icmp .ne 7, 3) := by decide +kernel
theorem dX6_addServer_36 : decode cX6_addServer 36 = .ok (.iconst 2, 1) := by decide +kernel
theorem dX6_addServer_37 : decode cX6_addServer 37 = .ok (.goto 4, 3) := by decide +kernel
theorem dX6_addServer_40 : decode cX6_addServer 40 = .ok (.iconst 0, 1) := by decide +kernel
theorem dX6_addServer_41 : decode cX6_addServer 41 = .ok (.putfield 23, 3) := by decide +kernel
theorem dX6_addServer_44 : decode cX6_addServer 44 = .ok (.aload_n 0, 1) := by decide +kernel
theorem dX6_addServer_45 : decode cX6_addServer 45 = .ok (.getfield 23, 3) := by decide +kernel
theorem dX6_addServer_48 : decode cX6_addServer 48 = .ok (.ifCond .eq 5, 3) := by decide +kernel
theorem dX6_addServer_51 : decode cX6_addServer 51 = .ok (.iconst 0, 1) := by decide +kernel
theorem dX6_addServer_52 : decode cX6_addServer 52 = .ok (.ireturn, 1) := by decide +kernel
theorem dX6_addServer_53 : decode cX6_addServer 53 = .ok (.aload_n 0, 1) := by decide +kernel
theorem dX6_addServer_54 : decode cX6_addServer 54 = .ok (.getfield 7, 3) := by decide +kernel
theorem dX6_addServer_57 : decode cX6_addServer 57 = .ok (.iconst 0, 1) := by decide +kernel
theorem dX6_addServer_58 : decode cX6_addServer 58 = .ok (.iaload, 1) := by decide +kernel
theorem dX6_addServer_59 : decode cX6_addServer 59 = .ok (.istore_n 3, 1) := by decide +kernel
theorem dX6_addServer_60 : decode cX6_addServer 60 = .ok (.aload_n 0, 1) := by decide +kernel
theorem dX6_addServer_61 : decode cX6_addServer 61 = .ok (.getfield 7, 3) := by decide +kernel
theorem dX6_addServer_64 : decode cX6_addServer 64 = .ok (.bipush 13, 2) := by decide +kernel
theorem dX6_addServer_66 : decode cX6_addServer 66 = .ok (.iload_n 3, 1) := by decide +kernel
theorem dX6_addServer_67 : decode cX6_addServer 67 = .ok (.iadd, 1) := by decide +kernel
theorem dX6_addServer_68 : decode cX6_addServer 68 = .ok (.iload_n 1, 1) := by decide +kernel
theorem dX6_addServer_69 : decode cX6_addServer 69 = .ok (.iastore, 1) := by decide +kernel
theorem dX6_addServer_70 : decode cX6_addServer 70 = .ok (.aload_n 0, 1) := by decide +kernel
theorem dX6_addServer_71 : decode cX6_addServer 71 = .ok (.getfield 7, 3) := by decide +kernel
theorem dX6_addServer_74 : decode cX6_addServer 74 = .ok (.bipush 23, 2) := by decide +kernel
theorem dX6_addServer_76 : decode cX6_addServer 76 = .ok (.iload_n 3, 1) := by decide +kernel
theorem dX6_addServer_77 : decode cX6_addServer 77 = .ok (.iadd, 1) := by decide +kernel
theorem dX6_addServer_78 : decode cX6_addServer 78 = .ok (.iload_n 2, 1) := by decide +kernel
theorem dX6_addServer_79 : decode cX6_addServer 79 = .ok (.iastore, 1) := by decide +kernel
theorem dX6_addServer_80 : decode cX6_addServer 80 = .ok (.aload_n 0, 1) := by decide +kernel
theorem dX6_addServer_81 : decode cX6_addServer 81 = .ok (.getfield 7, 3) := by decide +kernel
theorem dX6_addServer_84 : decode cX6_addServer 84 = .ok (.bipush 73, 2) := by decide +kernel
theorem dX6_addServer_86 : decode cX6_addServer 86 = .ok (.iload_n 3, 1) := by decide +kernel
theorem dX6_addServer_87 : decode cX6_addServer 87 = .ok (.iadd, 1) := by decide +kernel
theorem dX6_addServer_88 : decode cX6_addServer 88 = .ok (.iconst (-1), 1) := by decide +kernel
theorem dX6_addServer_89 : decode cX6_addServer 89 = .ok (.iastore, 1) := by decide +kernel
theorem dX6_addServer_90 : decode cX6_addServer 90 = .ok (.aload_n 0, 1) := by decide +kernel
theorem dX6_addServer_91 : decode cX6_addServer 91 = .ok (.getfield 7, 3) := by decide +kernel
theorem dX6_addServer_94 : decode cX6_addServer 94 = .ok (.bipush 103, 2) := by decide +kernel
theorem dX6_addServer_96 : decode cX6_addServer 96 = .ok (.iload_n 3, 1) := by decide +kernel
theorem dX6_addServer_97 : decode cX6_addServer 97 = .ok (.iadd, 1) := by decide +kernel
theorem dX6_addServer_98 : decode cX6_addServer 98 = .ok (.iconst (-1), 1) := by decide +kernel
theorem dX6_addServer_99 : decode cX6_addServer 99 = .ok (.iastore, 1) := by decide +kernel
theorem dX6_addServer_100 : decode cX6_addServer 100 = .ok (.aload_n 0, 1) := by decide +kernel
theorem dX6_addServer_101 : decode cX6_addServer 101 = .ok (.getfield 7, 3) := by decide +kernel
theorem dX6_addServer_104 : decode cX6_addServer 104 = .ok (.iconst 0, 1) := by decide +kernel
theorem dX6_addServer_105 : decode cX6_addServer 105 = .ok (.dup2, 1) := by decide +kernel
theorem dX6_addServer_106 : decode cX6_addServer 106 = .ok (.iaload, 1) := by decide +kernel
theorem dX6_addServer_107 : decode cX6_addServer 107 = .ok (.iconst 1, 1) := by decide +kernel
theorem dX6_addServer_108 : decode cX6_addServer 108 = .ok (.iadd, 1) := by decide +kernel
theorem dX6_addServer_109 : decode cX6_addServer 109 = .ok (.iastore, 1) := by decide +kernel
theorem dX6_addServer_110 : decode cX6_addServer 110 = .ok (.iload_n 3, 1) := by decide +kernel
theorem dX6_addServer_111 : decode cX6_addServer 111 = .ok (.ireturn, 1) := by decide +kernel
theorem dX6_put_0 : decode cX6_put 0 = .ok (.aload_n 0, 1) := by decide +kernel
theorem dX6_put_1 : decode cX6_put 1 = .ok (.getfield 7, 3) := by decide +kernel
theorem dX6_put_4 : decode cX6_put 4 = .ok (.iload_n 1, 1) := by decide +kernel
theorem dX6_put_5 : decode cX6_put 5 = .ok (.iaload, 1) := by decide +kernel
theorem dX6_put_6 : decode cX6_put 6 = .ok (.istore_n 3, 1) := by decide +kernel
theorem dX6_put_7 : decode cX6_put 7 = .ok (.aload_n 0, 1) := by decide +kernel
theorem dX6_put_8 : decode cX6_put 8 = .ok (.getfield 7, 3) := by decide +kernel
theorem dX6_put_11 : decode cX6_put 11 = .ok (.iload_n 1, 1) := by decide +kernel
theorem dX6_put_12 : decode cX6_put 12 = .ok (.iload_n 2, 1) := by decide +kernel
theorem dX6_put_13 : decode cX6_put 13 = .ok (.iastore, 1) := by decide +kernel
theorem dX6_put_14 : decode cX6_put 14 = .ok (.iload_n 3, 1) := by decide +kernel
theorem dX6_put_15 : decode cX6_put 15 = .ok (.ireturn, 1) := by decide +kernel
set_option maxRecDepth 20000 in
theorem ggX6_setWeight_X6_isServer : GoodIn wsX6_setWeight wsX6_isServer := goodIn_r _ [6, 7, 8, 9, 5, 10, 15, 16, 17, 18, 19, 20] (by decide +kernel) (by decide +kernel)
set_option maxRecDepth 20000 in
theorem gX6_setWeight_X6_isServer : GoodIn wsX6_setWeight (wsV RX6 31 RX6 yX6_isServer wsX6_isServer) := goodIn_app (goodIn_of _ (by decide +kernel)) ggX6_setWeight_X6_isServer
set_option maxRecDepth 20000 in
theorem ggX6_setWeight_X6_in : GoodIn wsX6_setWeight wsX6_in := goodIn_r _ [10] (by decide +kernel) (by decide +kernel)
set_option maxRecDepth 20000 in
theorem gX6_setWeight_X6_in : GoodIn wsX6_setWeight (va_wsS RX6 27 yX6_in wsX6_in) := goodIn_app (goodIn_of _ (by decide +kernel)) ggX6_setWeight_X6_in
set_option maxRecDepth 20000 in
theorem ggX6_setWeight_X6_put : GoodIn wsX6_setWeight wsX6_put := goodIn_r _ [14, 7, 15, 16, 17, 18, 19, 20] (by decide +kernel) (by decide +kernel)
set_option maxRecDepth 20000 in
theorem gX6_setWeight_X6_put : GoodIn wsX6_setWeight (wsV RX6 35 RX6 yX6_put wsX6_put) := goodIn_app (goodIn_of _ (by decide +kernel)) ggX6_setWeight_X6_put
theorem dX6_setWeight_0 : decode cX6_setWeight 0 = .ok (.aload_n 0, 1) := by decide +kernel
theorem dX6_setWeight_1 : decode cX6_setWeight 1 = .ok (.aload_n 0, 1) := by decide +kernel
theorem dX6_setWeight_2 : decode cX6_setWeight 2 = .ok (.iload_n 1, 1) := by decide +kernel
theorem dX6_setWeight_3 : decode cX6_setWeight 3 = .ok (.invokevirtual 31, 3) := by decide +kernel
theorem dX6_setWeight_6 : decode cX6_setWeight 6 = .ok (.ifCond .ne 7, 3) := by decide +kernel
theorem dX6_setWeight_9 : decode cX6_setWeight 9 = .ok (.iconst 1, 1) := by decide +kernel
theorem dX6_setWeight_10 : decode cX6_setWeight 10 = .ok (.goto 18, 3) := by decide +kernel
theorem dX6_setWeight_13 : decode cX6_setWeight 13 = .ok (.iload_n 2, 1) := by decide +kernel
theorem dX6_setWeight_14 : decode cX6_setWeight 14 = .ok (.iconst 1, 1) := by decide +kernel
theorem dX6_setWeight_15 : decode cX6_setWeight 15 = .ok (.bipush 10, 2) := by decide +kernel
theorem dX6_setWeight_17 : decode cX6_setWeight 17 = .ok (.invokestatic 27, 3) := by decide +kernel
theorem dX6_setWeight_20 : decode cX6_setWeight 20 = .ok (.ifCond .ne 7, 3) := by decide +kernel
theorem dX6_setWeight_23 : decode cX6_setWeight 23 = .ok (.iconst 2, 1) := by decide +kernel
theorem dX6_setWeight_24 : decode cX6_setWeight 24 = .ok (.goto 4, 3) := by decide +kernel
theorem dX6_setWeight_27 : decode cX6_setWeight 27 = .ok (.iconst 0, 1) := by decide +kernel
theorem dX6_setWeight_28 : decode cX6_setWeight 28 = .ok (.putfield 23, 3) := by decide +kernel
theorem dX6_setWeight_31 : decode cX6_setWeight 31 = .ok (.aload_n 0, 1) := by decide +kernel
theorem dX6_setWeight_32 : decode cX6_setWeight 32 = .ok (.getfield 23, 3) := by decide +kernel
theorem dX6_setWeight_35 : decode cX6_setWeight 35 = .ok (.ifCond .eq 7, 3) := by decide +kernel
theorem dX6_setWeight_38 : decode cX6_setWeight 38 = .ok (.iconst 0, 1) := by decide +kernel
theorem dX6_setWeight_39 : decode cX6_setWeight 39 = .ok (.goto 12, 3) := by decide +kernel
theorem dX6_setWeight_42 : decode cX6_setWeight 42 = .ok (.aload_n 0, 1) := by decide +kernel
theorem dX6_setWeight_43 : decode cX6_setWeight 43 = .ok (.bipush 13, 2) := by decide +kernel
theorem dX6_setWeight_45 : decode cX6_setWeight 45 = .ok (.iload_n 1, 1) := by decide +kernel
theorem dX6_setWeight_46 : decode cX6_setWeight 46 = .ok (.iadd, 1) := by decide +kernel
theorem dX6_setWeight_47 : decode cX6_setWeight 47 = .ok (.iload_n 2, 1) := by decide +kernel
theorem dX6_setWeight_48 : decode cX6_setWeight 48 = .ok (.invokevirtual 35, 3) := by decide +kernel
theorem dX6_setWeight_51 : decode cX6_setWeight 51 = .ok (.ireturn, 1) := by decide +kernel
set_option maxRecDepth 20000 in
theorem ggX6_setDraining_X6_isServer : GoodIn wsX6_setDraining wsX6_isServer := goodIn_r _ [6, 7, 8, 9, 5, 10, 15, 16, 17, 18, 19, 20] (by decide +kernel) (by decide +kernel)
set_option maxRecDepth 20000 in
theorem gX6_setDraining_X6_isServer : GoodIn wsX6_setDraining (wsV RX6 31 RX6 yX6_isServer wsX6_isServer) := goodIn_app (goodIn_of _ (by decide +kernel)) ggX6_setDraining_X6_isServer
set_option maxRecDepth 20000 in
theorem ggX6_setDraining_X6_put : GoodIn wsX6_setDraining wsX6_put := goodIn_r _ [14, 7, 15, 16, 17, 18, 19, 20] (by decide +kernel) (by decide +kernel)
set_option maxRecDepth 20000 in
theorem gX6_setDraining_X6_put : GoodIn wsX6_setDraining (wsV RX6 35 RX6 yX6_put wsX6_put) := goodIn_app (goodIn_of _ (by decide +kernel)) ggX6_setDraining_X6_put
theorem dX6_setDraining_0 : decode cX6_setDraining 0 = .ok (.aload_n 0, 1) := by decide +kernel
theorem dX6_setDraining_1 : decode cX6_setDraining 1 = .ok (.aload_n 0, 1) := by decide +kernel
theorem dX6_setDraining_2 : decode cX6_setDraining 2 = .ok (.iload_n 1, 1) := by decide +kernel
theorem dX6_setDraining_3 : decode cX6_setDraining 3 = .ok (.invokevirtual 31, 3) := by decide +kernel
theorem dX6_setDraining_6 : decode cX6_setDraining 6 = .ok (.ifCond .eq 7, 3) := by decide +kernel
theorem dX6_setDraining_9 : decode cX6_setDraining 9 = .ok (.iconst 0, 1) := by decide +kernel
theorem dX6_setDraining_10 : decode cX6_setDraining 10 = .ok (.goto 4, 3) := by decide +kernel
theorem dX6_setDraining_13 : decode cX6_setDraining 13 = .ok (.iconst 1, 1) := by decide +kernel
theorem dX6_setDraining_14 : decode cX6_setDraining 14 = .ok (.putfield 23, 3) := by decide +kernel
theorem dX6_setDraining_17 : decode cX6_setDraining 17 = .ok (.aload_n 0, 1) := by decide +kernel
theorem dX6_setDraining_18 : decode cX6_setDraining 18 = .ok (.getfield 23, 3) := by decide +kernel
theorem dX6_setDraining_21 : decode cX6_setDraining 21 = .ok (.ifCond .ne 28, 3) := by decide +kernel
theorem dX6_setDraining_24 : decode cX6_setDraining 24 = .ok (.aload_n 0, 1) := by decide +kernel
theorem dX6_setDraining_25 : decode cX6_setDraining 25 = .ok (.bipush 53, 2) := by decide +kernel
theorem dX6_setDraining_27 : decode cX6_setDraining 27 = .ok (.iload_n 1, 1) := by decide +kernel
theorem dX6_setDraining_28 : decode cX6_setDraining 28 = .ok (.iadd, 1) := by decide +kernel
theorem dX6_setDraining_29 : decode cX6_setDraining 29 = .ok (.iload_n 2, 1) := by decide +kernel
theorem dX6_setDraining_30 : decode cX6_setDraining 30 = .ok (.ifCond .eq 7, 3) := by decide +kernel
theorem dX6_setDraining_33 : decode cX6_setDraining 33 = .ok (.iconst 1, 1) := by decide +kernel
theorem dX6_setDraining_34 : decode cX6_setDraining 34 = .ok (.goto 4, 3) := by decide +kernel
theorem dX6_setDraining_37 : decode cX6_setDraining 37 = .ok (.iconst 0, 1) := by decide +kernel
theorem dX6_setDraining_38 : decode cX6_setDraining 38 = .ok (.invokevirtual 35, 3) := by decide +kernel
theorem dX6_setDraining_41 : decode cX6_setDraining 41 = .ok (.iconst 1, 1) := by decide +kernel
theorem dX6_setDraining_42 : decode cX6_setDraining 42 = .ok (.if_icmp .ne 7, 3) := by decide +kernel
theorem dX6_setDraining_45 : decode cX6_setDraining 45 = .ok (.iconst 1, 1) := by decide +kernel
theorem dX6_setDraining_46 : decode cX6_setDraining 46 = .ok (.goto 4, 3) := by decide +kernel
theorem dX6_setDraining_49 : decode cX6_setDraining 49 = .ok (.iconst 0, 1) := by decide +kernel
theorem dX6_setDraining_50 : decode cX6_setDraining 50 = .ok (.ireturn, 1) := by decide +kernel
set_option maxRecDepth 20000 in
theorem ggX6_report_X6_isServer : GoodIn wsX6_report wsX6_isServer := goodIn_r _ [7, 2, 8, 9, 6, 10, 11, 12, 13, 14, 15, 16] (by decide +kernel) (by decide +kernel)
set_option maxRecDepth 20000 in
theorem gX6_report_X6_isServer : GoodIn wsX6_report (wsV RX6 31 RX6 yX6_isServer wsX6_isServer) := goodIn_app (goodIn_of _ (by decide +kernel)) ggX6_report_X6_isServer
theorem dX6_report_0 : decode cX6_report 0 = .ok (.aload_n 0, 1) := by decide +kernel
theorem dX6_report_1 : decode cX6_report 1 = .ok (.aload_n 0, 1) := by decide +kernel
theorem dX6_report_2 : decode cX6_report 2 = .ok (.iload_n 1, 1) := by decide +kernel
theorem dX6_report_3 : decode cX6_report 3 = .ok (.invokevirtual 31, 3) := by decide +kernel
theorem dX6_report_6 : decode cX6_report 6 = .ok (.ifCond .eq 7, 3) := by decide +kernel
theorem dX6_report_9 : decode cX6_report 9 = .ok (.iconst 0, 1) := by decide +kernel
theorem dX6_report_10 : decode cX6_report 10 = .ok (.goto 4, 3) := by decide +kernel
theorem dX6_report_13 : decode cX6_report 13 = .ok (.iconst 1, 1) := by decide +kernel
theorem dX6_report_14 : decode cX6_report 14 = .ok (.putfield 23, 3) := by decide +kernel
theorem dX6_report_17 : decode cX6_report 17 = .ok (.aload_n 0, 1) := by decide +kernel
theorem dX6_report_18 : decode cX6_report 18 = .ok (.getfield 23, 3) := by decide +kernel
theorem dX6_report_21 : decode cX6_report 21 = .ok (.ifCond .eq 5, 3) := by decide +kernel
theorem dX6_report_24 : decode cX6_report 24 = .ok (.iconst 0, 1) := by decide +kernel
theorem dX6_report_25 : decode cX6_report 25 = .ok (.ireturn, 1) := by decide +kernel
theorem dX6_report_26 : decode cX6_report 26 = .ok (.aload_n 0, 1) := by decide +kernel
theorem dX6_report_27 : decode cX6_report 27 = .ok (.getfield 7, 3) := by decide +kernel
theorem dX6_report_30 : decode cX6_report 30 = .ok (.bipush 43, 2) := by decide +kernel
theorem dX6_report_32 : decode cX6_report 32 = .ok (.iload_n 1, 1) := by decide +kernel
theorem dX6_report_33 : decode cX6_report 33 = .ok (.iadd, 1) := by decide +kernel
theorem dX6_report_34 : decode cX6_report 34 = .ok (.iaload, 1) := by decide +kernel
theorem dX6_report_35 : decode cX6_report 35 = .ok (.ifCond .ne 7, 3) := by decide +kernel
theorem dX6_report_38 : decode cX6_report 38 = .ok (.iconst 1, 1) := by decide +kernel
theorem dX6_report_39 : decode cX6_report 39 = .ok (.goto 4, 3) := by decide +kernel
theorem dX6_report_42 : decode cX6_report 42 = .ok (.iconst 0, 1) := by decide +kernel
theorem dX6_report_43 : decode cX6_report 43 = .ok (.istore_n 3, 1) := by decide +kernel
theorem dX6_report_44 : decode cX6_report 44 = .ok (.aload_n 0, 1) := by decide +kernel
theorem dX6_report_45 : decode cX6_report 45 = .ok (.getfield 7, 3) := by decide +kernel
theorem dX6_report_48 : decode cX6_report 48 = .ok (.bipush 63, 2) := by decide +kernel
theorem dX6_report_50 : decode cX6_report 50 = .ok (.iload_n 1, 1) := by decide +kernel
theorem dX6_report_51 : decode cX6_report 51 = .ok (.iadd, 1) := by decide +kernel
theorem dX6_report_52 : decode cX6_report 52 = .ok (.iload_n 2, 1) := by decide +kernel
theorem dX6_report_53 : decode cX6_report 53 = .ok (.iload_n 3, 1) := by decide +kernel
theorem dX6_report_54 : decode cX6_report 54 = .ok (.if_icmp .ne 7, 3) := by decide +kernel
theorem dX6_report_57 : decode cX6_report 57 = .ok (.iconst 0, 1) := by decide +kernel
theorem dX6_report_58 : decode cX6_report 58 = .ok (.goto 14, 3) := by decide +kernel
theorem dX6_report_61 : decode cX6_report 61 = .ok (.aload_n 0, 1) := by decide +kernel
theorem dX6_report_62 : decode cX6_report 62 = .ok (.getfield 7, 3) := by decide +kernel
theorem dX6_report_65 : decode cX6_report 65 = .ok (.bipush 63, 2) := by decide +kernel
theorem dX6_report_67 : decode cX6_report 67 = .ok (.iload_n 1, 1) := by decide +kernel
theorem dX6_report_68 : decode cX6_report 68 = .ok (.iadd, 1) := by decide +kernel
theorem dX6_report_69 : decode cX6_report 69 = .ok (.iaload, 1) := by decide +kernel
theorem dX6_report_70 : decode cX6_report 70 = .ok (.iconst 1, 1) := by decide +kernel
theorem dX6_report_71 : decode cX6_report 71 = .ok (.iadd, 1) := by decide +kernel
theorem dX6_report_72 : decode cX6_report 72 = .ok (.iastore, 1) := by decide +kernel
theorem dX6_report_73 : decode cX6_report 73 = .ok (.iload_n 2, 1) := by decide +kernel
theorem dX6_report_74 : decode cX6_report 74 = .ok (.iload_n 3, 1) := by decide +kernel
theorem dX6_report_75 : decode cX6_report 75 = .ok (.if_icmp .eq 93, 3) := by decide +kernel
theorem dX6_report_78 : decode cX6_report 78 = .ok (.aload_n 0, 1) := by decide +kernel
theorem dX6_report_79 : decode cX6_report 79 = .ok (.getfield 7, 3) := by decide +kernel
theorem dX6_report_82 : decode cX6_report 82 = .ok (.bipush 63, 2) := by decide +kernel
theorem dX6_report_84 : decode cX6_report 84 = .ok (.iload_n 1, 1) := by decide +kernel
theorem dX6_report_85 : decode cX6_report 85 = .ok (.iadd, 1) := by decide +kernel
theorem dX6_report_86 : decode cX6_report 86 = .ok (.iaload, 1) := by decide +kernel
theorem dX6_report_87 : decode cX6_report 87 = .ok (.iload_n 3, 1) := by decide +kernel
theorem dX6_report_88 : decode cX6_report 88 = .ok (.ifCond .eq 12, 3) := by decide +kernel
theorem dX6_report_91 : decode cX6_report 91 = .ok (.aload_n 0, 1) := by decide +kernel
theorem dX6_report_92 : decode cX6_report 92 = .ok (.getfield 7, 3) := by decide +kernel
theorem dX6_report_95 : decode cX6_report 95 = .ok (.iconst 3, 1) := by decide +kernel
theorem dX6_report_96 : decode cX6_report 96 = .ok (.iaload, 1) := by decide +kernel
theorem dX6_report_97 : decode cX6_report 97 = .ok (.goto 9, 3) := by decide +kernel
theorem dX6_report_100 : decode cX6_report 100 = .ok (.aload_n 0, 1) := by decide +kernel
theorem dX6_report_101 : decode cX6_report 101 = .ok (.getfield 7, 3) := by decide +kernel
theorem dX6_report_104 : decode cX6_report 104 = .ok (.iconst 2, 1) := by decide +kernel
theorem dX6_report_105 : decode cX6_report 105 = .ok (.iaload, 1) := by decide +kernel
theorem dX6_report_106 : decode cX6_report 106 = .ok (.if_icmp .lt 62, 3) := by decide +kernel
theorem dX6_report_109 : decode cX6_report 109 = .ok (.aload_n 0, 1) := by decide +kernel
theorem dX6_report_110 : decode cX6_report 110 = .ok (.getfield 7, 3) := by decide +kernel
theorem dX6_report_113 : decode cX6_report 113 = .ok (.bipush 63, 2) := by decide +kernel
theorem dX6_report_115 : decode cX6_report 115 = .ok (.iload_n 1, 1) := by decide +kernel
theorem dX6_report_116 : decode cX6_report 116 = .ok (.iadd, 1) := by decide +kernel
theorem dX6_report_117 : decode cX6_report 117 = .ok (.iconst 0, 1) := by decide +kernel
theorem dX6_report_118 : decode cX6_report 118 = .ok (.iastore, 1) := by decide +kernel
theorem dX6_report_119 : decode cX6_report 119 = .ok (.aload_n 0, 1) := by decide +kernel
theorem dX6_report_120 : decode cX6_report 120 = .ok (.getfield 7, 3) := by decide +kernel
theorem dX6_report_123 : decode cX6_report 123 = .ok (.bipush 43, 2) := by decide +kernel
theorem dX6_report_125 : decode cX6_report 125 = .ok (.iload_n 1, 1) := by decide +kernel
theorem dX6_report_126 : decode cX6_report 126 = .ok (.iadd, 1) := by decide +kernel
theorem dX6_report_127 : decode cX6_report 127 = .ok (.iload_n 3, 1) := by decide +kernel
theorem dX6_report_128 : decode cX6_report 128 = .ok (.ifCond .eq 7, 3) := by decide +kernel
theorem dX6_report_131 : decode cX6_report 131 = .ok (.iconst 1, 1) := by decide +kernel
theorem dX6_report_132 : decode cX6_report 132 = .ok (.goto 4, 3) := by decide +kernel
theorem dX6_report_135 : decode cX6_report 135 = .ok (.iconst 0, 1) := by decide +kernel
theorem dX6_report_136 : decode cX6_report 136 = .ok (.iastore, 1) := by decide +kernel
theorem dX6_report_137 : decode cX6_report 137 = .ok (.aload_n 0, 1) := by decide +kernel
theorem dX6_report_138 : decode cX6_report 138 = .ok (.getfield 7, 3) := by decide +kernel
theorem dX6_report_141 : decode cX6_report 141 = .ok (.bipush 73, 2) := by decide +kernel
theorem dX6_report_143 : decode cX6_report 143 = .ok (.iload_n 1, 1) := by decide +kernel
theorem dX6_report_144 : decode cX6_report 144 = .ok (.iadd, 1) := by decide +kernel
theorem dX6_report_145 : decode cX6_report 145 = .ok (.iload_n 3, 1) := by decide +kernel
theorem dX6_report_146 : decode cX6_report 146 = .ok (.ifCond .eq 15, 3) := by decide +kernel
theorem dX6_report_149 : decode cX6_report 149 = .ok (.aload_n 0, 1) := by decide +kernel
theorem dX6_report_150 : decode cX6_report 150 = .ok (.getfield 7, 3) := by decide +kernel
theorem dX6_report_153 : decode cX6_report 153 = .ok (.bipush 73, 2) := by decide +kernel
theorem dX6_report_155 : decode cX6_report 155 = .ok (.iload_n 1, 1) := by decide +kernel
theorem dX6_report_156 : decode cX6_report 156 = .ok (.iadd, 1) := by decide +kernel
theorem dX6_report_157 : decode cX6_report 157 = .ok (.iaload, 1) := by decide +kernel
theorem dX6_report_158 : decode cX6_report 158 = .ok (.goto 9, 3) := by decide +kernel
theorem dX6_report_161 : decode cX6_report 161 = .ok (.aload_n 0, 1) := by decide +kernel
theorem dX6_report_162 : decode cX6_report 162 = .ok (.getfield 7, 3) := by decide +kernel
theorem dX6_report_165 : decode cX6_report 165 = .ok (.iconst 1, 1) := by decide +kernel
theorem dX6_report_166 : decode cX6_report 166 = .ok (.iaload, 1) := by decide +kernel
theorem dX6_report_167 : decode cX6_report 167 = .ok (.iastore, 1) := by decide +kernel
theorem dX6_report_168 : decode cX6_report 168 = .ok (.aload_n 0, 1) := by decide +kernel
theorem dX6_report_169 : decode cX6_report 169 = .ok (.getfield 7, 3) := by decide +kernel
theorem dX6_report_172 : decode cX6_report 172 = .ok (.bipush 43, 2) := by decide +kernel
theorem dX6_report_174 : decode cX6_report 174 = .ok (.iload_n 1, 1) := by decide +kernel
theorem dX6_report_175 : decode cX6_report 175 = .ok (.iadd, 1) := by decide +kernel
theorem dX6_report_176 : decode cX6_report 176 = .ok (.iaload, 1) := by decide +kernel
theorem dX6_report_177 : decode cX6_report 177 = .ok (.ifCond .ne 7, 3) := by decide +kernel
theorem dX6_report_180 : decode cX6_report 180 = .ok (.iconst 1, 1) := by decide +kernel
theorem dX6_report_181 : decode cX6_report 181 = .ok (.goto 4, 3) := by decide +kernel
theorem dX6_report_184 : decode cX6_report 184 = .ok (.iconst 0, 1) := by decide +kernel
theorem dX6_report_185 : decode cX6_report 185 = .ok (.ireturn, 1) := by decide +kernel
theorem dX6_servers_0 : decode cX6_servers 0 = .ok (.aload_n 0, 1) := by decide +kernel
theorem dX6_servers_1 : decode cX6_servers 1 = .ok (.iconst 0, 1) := by decide +kernel
theorem dX6_servers_2 : decode cX6_servers 2 = .ok (.putfield 23, 3) := by decide +kernel
theorem dX6_servers_5 : decode cX6_servers 5 = .ok (.aload_n 0, 1) := by decide +kernel
theorem dX6_servers_6 : decode cX6_servers 6 = .ok (.getfield 7, 3) := by decide +kernel
theorem dX6_servers_9 : decode cX6_servers 9 = .ok (.iconst 0, 1) := by decide +kernel
theorem dX6_servers_10 : decode cX6_servers 10 = .ok (.iaload, 1) := by decide +kernel
theorem dX6_servers_11 : decode cX6_servers 11 = .ok (.ireturn, 1) := by decide +kernel
set_option maxRecDepth 20000 in
theorem ggX6_setThresholds_X6_in : GoodIn wsX6_setThresholds wsX6_in := goodIn_r _ [6] (by decide +kernel) (by decide +kernel)
set_option maxRecDepth 20000 in
theorem gX6_setThresholds_X6_in : GoodIn wsX6_setThresholds (va_wsS RX6 27 yX6_in wsX6_in) := goodIn_app (goodIn_of _ (by decide +kernel)) ggX6_setThresholds_X6_in
theorem dX6_setThresholds_0 : decode cX6_setThresholds 0 = .ok (.aload_n 0, 1) := by decide +kernel
theorem dX6_setThresholds_1 : decode cX6_setThresholds 1 = .ok (.iload_n 1, 1) := by decide +kernel
theorem dX6_setThresholds_2 : decode cX6_setThresholds 2 = .ok (.iconst 1, 1) := by decide +kernel
theorem dX6_setThresholds_3 : decode cX6_setThresholds 3 = .ok (.bipush 9, 2) := by decide +kernel
theorem dX6_setThresholds_5 : decode cX6_setThresholds 5 = .ok (.invokestatic 27, 3) := by decide +kernel
theorem dX6_setThresholds_8 : decode cX6_setThresholds 8 = .ok (.ifCond .eq 17, 3) := by decide +kernel
theorem dX6_setThresholds_11 : decode cX6_setThresholds 11 = .ok (.iload_n 2, 1) := by decide +kernel
theorem dX6_setThresholds_12 : decode cX6_setThresholds 12 = .ok (.iconst 1, 1) := by decide +kernel
theorem dX6_setThresholds_13 : decode cX6_setThresholds 13 = .ok (.bipush 9, 2) := by decide +kernel
theorem dX6_setThresholds_15 : decode cX6_setThresholds 15 = .ok (.invokestatic 27, 3) := by decide +kernel
theorem dX6_setThresholds_18 : decode cX6_setThresholds 18 = .ok (.ifCond .eq 7, 3) := by decide +kernel
theorem dX6_setThresholds_21 : decode cX6_setThresholds 21 = .ok (.iconst 0, 1) := by decide +kernel
theorem dX6_setThresholds_22 : decode cX6_setThresholds 22 = .ok (.goto 4, 3) := by decide +kernel
theorem dX6_setThresholds_25 : decode cX6_setThresholds 25 = .ok (.iconst 1, 1) := by decide +kernel
theorem dX6_setThresholds_26 : decode cX6_setThresholds 26 = .ok (.putfield 23, 3) := by decide +kernel
theorem dX6_setThresholds_29 : decode cX6_setThresholds 29 = .ok (.aload_n 0, 1) := by decide +kernel
theorem dX6_setThresholds_30 : decode cX6_setThresholds 30 = .ok (.getfield 23, 3) := by decide +kernel
theorem dX6_setThresholds_33 : decode cX6_setThresholds 33 = .ok (.ifCond .ne 17, 3) := by decide +kernel
theorem dX6_setThresholds_36 : decode cX6_setThresholds 36 = .ok (.aload_n 0, 1) := by decide +kernel
theorem dX6_setThresholds_37 : decode cX6_setThresholds 37 = .ok (.getfield 7, 3) := by decide +kernel
theorem dX6_setThresholds_40 : decode cX6_setThresholds 40 = .ok (.iconst 2, 1) := by decide +kernel
theorem dX6_setThresholds_41 : decode cX6_setThresholds 41 = .ok (.iload_n 1, 1) := by decide +kernel
theorem dX6_setThresholds_42 : decode cX6_setThresholds 42 = .ok (.iastore, 1) := by decide +kernel
theorem dX6_setThresholds_43 : decode cX6_setThresholds 43 = .ok (.aload_n 0, 1) := by decide +kernel
theorem dX6_setThresholds_44 : decode cX6_setThresholds 44 = .ok (.getfield 7, 3) := by decide +kernel
theorem dX6_setThresholds_47 : decode cX6_setThresholds 47 = .ok (.iconst 3, 1) := by decide +kernel
theorem dX6_setThresholds_48 : decode cX6_setThresholds 48 = .ok (.iload_n 2, 1) := by decide +kernel
theorem dX6_setThresholds_49 : decode cX6_setThresholds 49 = .ok (.iastore, 1) := by decide +kernel
theorem dX6_setThresholds_50 : decode cX6_setThresholds 50 = .ok (.return_, 1) := by decide +kernel
set_option maxRecDepth 20000 in
theorem ggX6_setSlowStart_X6_in : GoodIn wsX6_setSlowStart wsX6_in := goodIn_r _ [5] (by decide +kernel) (by decide +kernel)
set_option maxRecDepth 20000 in
theorem gX6_setSlowStart_X6_in : GoodIn wsX6_setSlowStart (va_wsS RX6 27 yX6_in wsX6_in) := goodIn_app (goodIn_of _ (by decide +kernel)) ggX6_setSlowStart_X6_in
set_option maxRecDepth 20000 in
theorem ggX6_setSlowStart_X6_put : GoodIn wsX6_setSlowStart wsX6_put := goodIn_r _ [9, 10, 11, 12, 13, 14, 15, 16] (by decide +kernel) (by decide +kernel)
set_option maxRecDepth 20000 in
theorem gX6_setSlowStart_X6_put : GoodIn wsX6_setSlowStart (wsV RX6 35 RX6 yX6_put wsX6_put) := goodIn_app (goodIn_of _ (by decide +kernel)) ggX6_setSlowStart_X6_put
theorem dX6_setSlowStart_0 : decode cX6_setSlowStart 0 = .ok (.aload_n 0, 1) := by decide +kernel
theorem dX6_setSlowStart_1 : decode cX6_setSlowStart 1 = .ok (.iload_n 1, 1) := by decide +kernel
theorem dX6_setSlowStart_2 : decode cX6_setSlowStart 2 = .ok (.iconst 0, 1) := by decide +kernel
theorem dX6_setSlowStart_3 : decode cX6_setSlowStart 3 = .ok (.bipush 50, 2) := by decide +kernel
theorem dX6_setSlowStart_5 : decode cX6_setSlowStart 5 = .ok (.invokestatic 27, 3) := by decide +kernel
theorem dX6_setSlowStart_8 : decode cX6_setSlowStart 8 = .ok (.ifCond .eq 7, 3) := by decide +kernel
theorem dX6_setSlowStart_11 : decode cX6_setSlowStart 11 = .ok (.iconst 0, 1) := by decide +kernel
theorem dX6_setSlowStart_12 : decode cX6_setSlowStart 12 = .ok (.goto 4, 3) := by decide +kernel
theorem dX6_setSlowStart_15 : decode cX6_setSlowStart 15 = .ok (.iconst 1, 1) := by decide +kernel
theorem dX6_setSlowStart_16 : decode cX6_setSlowStart 16 = .ok (.putfield 23, 3) := by decide +kernel
theorem dX6_setSlowStart_19 : decode cX6_setSlowStart 19 = .ok (.aload_n 0, 1) := by decide +kernel
theorem dX6_setSlowStart_20 : decode cX6_setSlowStart 20 = .ok (.getfield 23, 3) := by decide +kernel
theorem dX6_setSlowStart_23 : decode cX6_setSlowStart 23 = .ok (.ifCond .eq 7, 3) := by decide +kernel
theorem dX6_setSlowStart_26 : decode cX6_setSlowStart 26 = .ok (.iconst 0, 1) := by decide +kernel
theorem dX6_setSlowStart_27 : decode cX6_setSlowStart 27 = .ok (.goto 9, 3) := by decide +kernel
theorem dX6_setSlowStart_30 : decode cX6_setSlowStart 30 = .ok (.aload_n 0, 1) := by decide +kernel
theorem dX6_setSlowStart_31 : decode cX6_setSlowStart 31 = .ok (.iconst 4, 1) := by decide +kernel
theorem dX6_setSlowStart_32 : decode cX6_setSlowStart 32 = .ok (.iload_n 1, 1) := by decide +kernel
theorem dX6_setSlowStart_33 : decode cX6_setSlowStart 33 = .ok (.invokevirtual 35, 3) := by decide +kernel
theorem dX6_setSlowStart_36 : decode cX6_setSlowStart 36 = .ok (.ireturn, 1) := by decide +kernel
set_option maxRecDepth 20000 in
theorem ggX6_setCool_X6_in : GoodIn wsX6_setCool wsX6_in := goodIn_r _ [5] (by decide +kernel) (by decide +kernel)
set_option maxRecDepth 20000 in
theorem gX6_setCool_X6_in : GoodIn wsX6_setCool (va_wsS RX6 27 yX6_in wsX6_in) := goodIn_app (goodIn_of _ (by decide +kernel)) ggX6_setCool_X6_in
set_option maxRecDepth 20000 in
theorem ggX6_setCool_X6_put : GoodIn wsX6_setCool wsX6_put := goodIn_r _ [9, 10, 11, 12, 13, 14, 15, 16] (by decide +kernel) (by decide +kernel)
set_option maxRecDepth 20000 in
theorem gX6_setCool_X6_put : GoodIn wsX6_setCool (wsV RX6 35 RX6 yX6_put wsX6_put) := goodIn_app (goodIn_of _ (by decide +kernel)) ggX6_setCool_X6_put
theorem dX6_setCool_0 : decode cX6_setCool 0 = .ok (.aload_n 0, 1) := by decide +kernel
theorem dX6_setCool_1 : decode cX6_setCool 1 = .ok (.iload_n 1, 1) := by decide +kernel
theorem dX6_setCool_2 : decode cX6_setCool 2 = .ok (.iconst 1, 1) := by decide +kernel
theorem dX6_setCool_3 : decode cX6_setCool 3 = .ok (.bipush 50, 2) := by decide +kernel
theorem dX6_setCool_5 : decode cX6_setCool 5 = .ok (.invokestatic 27, 3) := by decide +kernel
theorem dX6_setCool_8 : decode cX6_setCool 8 = .ok (.ifCond .eq 7, 3) := by decide +kernel
theorem dX6_setCool_11 : decode cX6_setCool 11 = .ok (.iconst 0, 1) := by decide +kernel
theorem dX6_setCool_12 : decode cX6_setCool 12 = .ok (.goto 4, 3) := by decide +kernel
theorem dX6_setCool_15 : decode cX6_setCool 15 = .ok (.iconst 1, 1) := by decide +kernel
theorem dX6_setCool_16 : decode cX6_setCool 16 = .ok (.putfield 23, 3) := by decide +kernel
theorem dX6_setCool_19 : decode cX6_setCool 19 = .ok (.aload_n 0, 1) := by decide +kernel
theorem dX6_setCool_20 : decode cX6_setCool 20 = .ok (.getfield 23, 3) := by decide +kernel
theorem dX6_setCool_23 : decode cX6_setCool 23 = .ok (.ifCond .eq 7, 3) := by decide +kernel
theorem dX6_setCool_26 : decode cX6_setCool 26 = .ok (.iconst 0, 1) := by decide +kernel
theorem dX6_setCool_27 : decode cX6_setCool 27 = .ok (.goto 9, 3) := by decide +kernel
theorem dX6_setCool_30 : decode cX6_setCool 30 = .ok (.aload_n 0, 1) := by decide +kernel
theorem dX6_setCool_31 : decode cX6_setCool 31 = .ok (.iconst 5, 1) := by decide +kernel
theorem dX6_setCool_32 : decode cX6_setCool 32 = .ok (.iload_n 1, 1) := by decide +kernel
theorem dX6_setCool_33 : decode cX6_setCool 33 = .ok (.invokevirtual 35, 3) := by decide +kernel
theorem dX6_setCool_36 : decode cX6_setCool 36 = .ok (.ireturn, 1) := by decide +kernel
set_option maxRecDepth 20000 in
theorem ggX6_setSticky_X6_in : GoodIn wsX6_setSticky wsX6_in := goodIn_r _ [6] (by decide +kernel) (by decide +kernel)
set_option maxRecDepth 20000 in
theorem gX6_setSticky_X6_in : GoodIn wsX6_setSticky (va_wsS RX6 27 yX6_in wsX6_in) := goodIn_app (goodIn_of _ (by decide +kernel)) ggX6_setSticky_X6_in
set_option maxRecDepth 20000 in
theorem ggX6_setSticky_X6_put : GoodIn wsX6_setSticky wsX6_put := goodIn_r _ [10, 2, 11, 12, 13, 14, 15, 16] (by decide +kernel) (by decide +kernel)
set_option maxRecDepth 20000 in
theorem gX6_setSticky_X6_put : GoodIn wsX6_setSticky (wsV RX6 35 RX6 yX6_put wsX6_put) := goodIn_app (goodIn_of _ (by decide +kernel)) ggX6_setSticky_X6_put
theorem dX6_setSticky_0 : decode cX6_setSticky 0 = .ok (.aload_n 0, 1) := by decide +kernel
theorem dX6_setSticky_1 : decode cX6_setSticky 1 = .ok (.iload_n 1, 1) := by decide +kernel
theorem dX6_setSticky_2 : decode cX6_setSticky 2 = .ok (.iconst 0, 1) := by decide +kernel
theorem dX6_setSticky_3 : decode cX6_setSticky 3 = .ok (.bipush 100, 2) := by decide +kernel
theorem dX6_setSticky_5 : decode cX6_setSticky 5 = .ok (.invokestatic 27, 3) := by decide +kernel
theorem dX6_setSticky_8 : decode cX6_setSticky 8 = .ok (.ifCond .eq 7, 3) := by decide +kernel
theorem dX6_setSticky_11 : decode cX6_setSticky 11 = .ok (.iconst 0, 1) := by decide +kernel
theorem dX6_setSticky_12 : decode cX6_setSticky 12 = .ok (.goto 4, 3) := by decide +kernel
theorem dX6_setSticky_15 : decode cX6_setSticky 15 = .ok (.iconst 1, 1) := by decide +kernel
theorem dX6_setSticky_16 : decode cX6_setSticky 16 = .ok (.putfield 23, 3) := by decide +kernel
theorem dX6_setSticky_19 : decode cX6_setSticky 19 = .ok (.aload_n 0, 1) := by decide +kernel
theorem dX6_setSticky_20 : decode cX6_setSticky 20 = .ok (.getfield 23, 3) := by decide +kernel
theorem dX6_setSticky_23 : decode cX6_setSticky 23 = .ok (.ifCond .eq 5, 3) := by decide +kernel
theorem dX6_setSticky_26 : decode cX6_setSticky 26 = .ok (.iconst 0, 1) := by decide +kernel
theorem dX6_setSticky_27 : decode cX6_setSticky 27 = .ok (.ireturn, 1) := by decide +kernel
theorem dX6_setSticky_28 : decode cX6_setSticky 28 = .ok (.aload_n 0, 1) := by decide +kernel
theorem dX6_setSticky_29 : decode cX6_setSticky 29 = .ok (.getfield 7, 3) := by decide +kernel
theorem dX6_setSticky_32 : decode cX6_setSticky 32 = .ok (.bipush 12, 2) := by decide +kernel
theorem dX6_setSticky_34 : decode cX6_setSticky 34 = .ok (.iload_n 1, 1) := by decide +kernel
theorem dX6_setSticky_35 : decode cX6_setSticky 35 = .ok (.ifCond .ne 7, 3) := by decide +kernel
theorem dX6_setSticky_38 : decode cX6_setSticky 38 = .ok (.iconst 0, 1) := by decide +kernel
theorem dX6_setSticky_39 : decode cX6_setSticky 39 = .ok (.goto 10, 3) := by decide +kernel
theorem dX6_setSticky_42 : decode cX6_setSticky 42 = .ok (.aload_n 0, 1) := by decide +kernel
theorem dX6_setSticky_43 : decode cX6_setSticky 43 = .ok (.getfield 7, 3) := by decide +kernel
theorem dX6_setSticky_46 : decode cX6_setSticky 46 = .ok (.bipush 12, 2) := by decide +kernel
theorem dX6_setSticky_48 : decode cX6_setSticky 48 = .ok (.iaload, 1) := by decide +kernel
theorem dX6_setSticky_49 : decode cX6_setSticky 49 = .ok (.iastore, 1) := by decide +kernel
theorem dX6_setSticky_50 : decode cX6_setSticky 50 = .ok (.aload_n 0, 1) := by decide +kernel
theorem dX6_setSticky_51 : decode cX6_setSticky 51 = .ok (.bipush 6, 2) := by decide +kernel
theorem dX6_setSticky_53 : decode cX6_setSticky 53 = .ok (.iload_n 1, 1) := by decide +kernel
theorem dX6_setSticky_54 : decode cX6_setSticky 54 = .ok (.invokevirtual 35, 3) := by decide +kernel
theorem dX6_setSticky_57 : decode cX6_setSticky 57 = .ok (.ireturn, 1) := by decide +kernel
set_option maxRecDepth 20000 in
theorem ggX6_setPolicy_X6_in : GoodIn wsX6_setPolicy wsX6_in := goodIn_r _ [6] (by decide +kernel) (by decide +kernel)
set_option maxRecDepth 20000 in
theorem gX6_setPolicy_X6_in : GoodIn wsX6_setPolicy (va_wsS RX6 27 yX6_in wsX6_in) := goodIn_app (goodIn_of _ (by decide +kernel)) ggX6_setPolicy_X6_in
set_option maxRecDepth 20000 in
theorem ggX6_setPolicy_X6_put : GoodIn wsX6_setPolicy wsX6_put := goodIn_r _ [10, 2, 11, 12, 13, 14, 15, 16] (by decide +kernel) (by decide +kernel)
set_option maxRecDepth 20000 in
theorem gX6_setPolicy_X6_put : GoodIn wsX6_setPolicy (wsV RX6 35 RX6 yX6_put wsX6_put) := goodIn_app (goodIn_of _ (by decide +kernel)) ggX6_setPolicy_X6_put
theorem dX6_setPolicy_0 : decode cX6_setPolicy 0 = .ok (.aload_n 0, 1) := by decide +kernel
theorem dX6_setPolicy_1 : decode cX6_setPolicy 1 = .ok (.iload_n 1, 1) := by decide +kernel
theorem dX6_setPolicy_2 : decode cX6_setPolicy 2 = .ok (.iconst 0, 1) := by decide +kernel
theorem dX6_setPolicy_3 : decode cX6_setPolicy 3 = .ok (.iconst 4, 1) := by decide +kernel
theorem dX6_setPolicy_4 : decode cX6_setPolicy 4 = .ok (.invokestatic 27, 3) := by decide +kernel
theorem dX6_setPolicy_7 : decode cX6_setPolicy 7 = .ok (.ifCond .eq 7, 3) := by decide +kernel
theorem dX6_setPolicy_10 : decode cX6_setPolicy 10 = .ok (.iconst 0, 1) := by decide +kernel
theorem dX6_setPolicy_11 : decode cX6_setPolicy 11 = .ok (.goto 4, 3) := by decide +kernel
theorem dX6_setPolicy_14 : decode cX6_setPolicy 14 = .ok (.iconst 1, 1) := by decide +kernel
theorem dX6_setPolicy_15 : decode cX6_setPolicy 15 = .ok (.putfield 23, 3) := by decide +kernel
theorem dX6_setPolicy_18 : decode cX6_setPolicy 18 = .ok (.aload_n 0, 1) := by decide +kernel
theorem dX6_setPolicy_19 : decode cX6_setPolicy 19 = .ok (.getfield 23, 3) := by decide +kernel
theorem dX6_setPolicy_22 : decode cX6_setPolicy 22 = .ok (.ifCond .eq 5, 3) := by decide +kernel
theorem dX6_setPolicy_25 : decode cX6_setPolicy 25 = .ok (.iconst 0, 1) := by decide +kernel
theorem dX6_setPolicy_26 : decode cX6_setPolicy 26 = .ok (.ireturn, 1) := by decide +kernel
theorem dX6_setPolicy_27 : decode cX6_setPolicy 27 = .ok (.iconst 0, 1) := by decide +kernel
theorem dX6_setPolicy_28 : decode cX6_setPolicy 28 = .ok (.istore_n 2, 1) := by decide +kernel
theorem dX6_setPolicy_29 : decode cX6_setPolicy 29 = .ok (.iload_n 2, 1) := by decide +kernel
theorem dX6_setPolicy_30 : decode cX6_setPolicy 30 = .ok (.bipush 10, 2) := by decide +kernel
theorem dX6_setPolicy_32 : decode cX6_setPolicy 32 = .ok (.if_icmp .ge 19, 3) := by decide +kernel
theorem dX6_setPolicy_35 : decode cX6_setPolicy 35 = .ok (.aload_n 0, 1) := by decide +kernel
theorem dX6_setPolicy_36 : decode cX6_setPolicy 36 = .ok (.getfield 7, 3) := by decide +kernel
theorem dX6_setPolicy_39 : decode cX6_setPolicy 39 = .ok (.bipush 113, 2) := by decide +kernel
theorem dX6_setPolicy_41 : decode cX6_setPolicy 41 = .ok (.iload_n 2, 1) := by decide +kernel
theorem dX6_setPolicy_42 : decode cX6_setPolicy 42 = .ok (.iadd, 1) := by decide +kernel
theorem dX6_setPolicy_43 : decode cX6_setPolicy 43 = .ok (.iconst 0, 1) := by decide +kernel
theorem dX6_setPolicy_44 : decode cX6_setPolicy 44 = .ok (.iastore, 1) := by decide +kernel
theorem dX6_setPolicy_45 : decode cX6_setPolicy 45 = .ok (.iinc 2 1, 3) := by decide +kernel
theorem dX6_setPolicy_48 : decode cX6_setPolicy 48 = .ok (.goto (-19), 3) := by decide +kernel
theorem dX6_setPolicy_51 : decode cX6_setPolicy 51 = .ok (.aload_n 0, 1) := by decide +kernel
theorem dX6_setPolicy_52 : decode cX6_setPolicy 52 = .ok (.getfield 7, 3) := by decide +kernel
theorem dX6_setPolicy_55 : decode cX6_setPolicy 55 = .ok (.bipush 9, 2) := by decide +kernel
theorem dX6_setPolicy_57 : decode cX6_setPolicy 57 = .ok (.iconst (-1), 1) := by decide +kernel
theorem dX6_setPolicy_58 : decode cX6_setPolicy 58 = .ok (.iastore, 1) := by decide +kernel
theorem dX6_setPolicy_59 : decode cX6_setPolicy 59 = .ok (.aload_n 0, 1) := by decide +kernel
theorem dX6_setPolicy_60 : decode cX6_setPolicy 60 = .ok (.bipush 7, 2) := by decide +kernel
theorem dX6_setPolicy_62 : decode cX6_setPolicy 62 = .ok (.iload_n 1, 1) := by decide +kernel
theorem dX6_setPolicy_63 : decode cX6_setPolicy 63 = .ok (.invokevirtual 35, 3) := by decide +kernel
theorem dX6_setPolicy_66 : decode cX6_setPolicy 66 = .ok (.ireturn, 1) := by decide +kernel
set_option maxRecDepth 20000 in
theorem ggX6_setSeed_X6_put : GoodIn wsX6_setSeed wsX6_put := goodIn_r _ [6, 7, 8, 9, 10, 11, 12, 13] (by decide +kernel) (by decide +kernel)
set_option maxRecDepth 20000 in
theorem gX6_setSeed_X6_put : GoodIn wsX6_setSeed (wsV RX6 35 RX6 yX6_put wsX6_put) := goodIn_app (goodIn_of _ (by decide +kernel)) ggX6_setSeed_X6_put
theorem dX6_setSeed_0 : decode cX6_setSeed 0 = .ok (.aload_n 0, 1) := by decide +kernel
theorem dX6_setSeed_1 : decode cX6_setSeed 1 = .ok (.iconst 0, 1) := by decide +kernel
theorem dX6_setSeed_2 : decode cX6_setSeed 2 = .ok (.putfield 23, 3) := by decide +kernel
theorem dX6_setSeed_5 : decode cX6_setSeed 5 = .ok (.aload_n 0, 1) := by decide +kernel
theorem dX6_setSeed_6 : decode cX6_setSeed 6 = .ok (.bipush 8, 2) := by decide +kernel
theorem dX6_setSeed_8 : decode cX6_setSeed 8 = .ok (.iload_n 1, 1) := by decide +kernel
theorem dX6_setSeed_9 : decode cX6_setSeed 9 = .ok (.invokevirtual 35, 3) := by decide +kernel
theorem dX6_setSeed_12 : decode cX6_setSeed 12 = .ok (.ireturn, 1) := by decide +kernel
set_option maxRecDepth 20000 in
theorem ggX6_tick_X6_in : GoodIn wsX6_tick wsX6_in := goodIn_r _ [6] (by decide +kernel) (by decide +kernel)
set_option maxRecDepth 20000 in
theorem gX6_tick_X6_in : GoodIn wsX6_tick (va_wsS RX6 27 yX6_in wsX6_in) := goodIn_app (goodIn_of _ (by decide +kernel)) ggX6_tick_X6_in
theorem dX6_tick_0 : decode cX6_tick 0 = .ok (.aload_n 0, 1) := by decide +kernel
theorem dX6_tick_1 : decode cX6_tick 1 = .ok (.iload_n 1, 1) := by decide +kernel
theorem dX6_tick_2 : decode cX6_tick 2 = .ok (.iconst 1, 1) := by decide +kernel
theorem dX6_tick_3 : decode cX6_tick 3 = .ok (.sipush 200, 3) := by decide +kernel
theorem dX6_tick_6 : decode cX6_tick 6 = .ok (.invokestatic 27, 3) := by decide +kernel
theorem dX6_tick_9 : decode cX6_tick 9 = .ok (.ifCond .eq 7, 3) := by decide +kernel
theorem dX6_tick_12 : decode cX6_tick 12 = .ok (.iconst 0, 1) := by decide +kernel
theorem dX6_tick_13 : decode cX6_tick 13 = .ok (.goto 4, 3) := by decide +kernel
theorem dX6_tick_16 : decode cX6_tick 16 = .ok (.iconst 1, 1) := by decide +kernel
theorem dX6_tick_17 : decode cX6_tick 17 = .ok (.putfield 23, 3) := by decide +kernel
theorem dX6_tick_20 : decode cX6_tick 20 = .ok (.aload_n 0, 1) := by decide +kernel
theorem dX6_tick_21 : decode cX6_tick 21 = .ok (.getfield 23, 3) := by decide +kernel
theorem dX6_tick_24 : decode cX6_tick 24 = .ok (.ifCond .eq 5, 3) := by decide +kernel
theorem dX6_tick_27 : decode cX6_tick 27 = .ok (.iconst 0, 1) := by decide +kernel
theorem dX6_tick_28 : decode cX6_tick 28 = .ok (.ireturn, 1) := by decide +kernel
theorem dX6_tick_29 : decode cX6_tick 29 = .ok (.iconst 0, 1) := by decide +kernel
theorem dX6_tick_30 : decode cX6_tick 30 = .ok (.istore_n 2, 1) := by decide +kernel
theorem dX6_tick_31 : decode cX6_tick 31 = .ok (.iload_n 2, 1) := by decide +kernel
theorem dX6_tick_32 : decode cX6_tick 32 = .ok (.iload_n 1, 1) := by decide +kernel
theorem dX6_tick_33 : decode cX6_tick 33 = .ok (.if_icmp .ge 95, 3) := by decide +kernel
theorem dX6_tick_36 : decode cX6_tick 36 = .ok (.aload_n 0, 1) := by decide +kernel
theorem dX6_tick_37 : decode cX6_tick 37 = .ok (.getfield 7, 3) := by decide +kernel
theorem dX6_tick_40 : decode cX6_tick 40 = .ok (.iconst 1, 1) := by decide +kernel
theorem dX6_tick_41 : decode cX6_tick 41 = .ok (.dup2, 1) := by decide +kernel
theorem dX6_tick_42 : decode cX6_tick 42 = .ok (.iaload, 1) := by decide +kernel
theorem dX6_tick_43 : decode cX6_tick 43 = .ok (.iconst 1, 1) := by decide +kernel
theorem dX6_tick_44 : decode cX6_tick 44 = .ok (.iadd, 1) := by decide +kernel
theorem dX6_tick_45 : decode cX6_tick 45 = .ok (.iastore, 1) := by decide +kernel
theorem dX6_tick_46 : decode cX6_tick 46 = .ok (.iconst 0, 1) := by decide +kernel
theorem dX6_tick_47 : decode cX6_tick 47 = .ok (.istore_n 3, 1) := by decide +kernel
theorem dX6_tick_48 : decode cX6_tick 48 = .ok (.iload_n 3, 1) := by decide +kernel
theorem dX6_tick_49 : decode cX6_tick 49 = .ok (.aload_n 0, 1) := by decide +kernel
theorem dX6_tick_50 : decode cX6_tick 50 = .ok (.getfield 7, 3) := by decide +kernel
theorem dX6_tick_53 : decode cX6_tick 53 = .ok (.iconst 0, 1) := by decide +kernel
theorem dX6_tick_54 : decode cX6_tick 54 = .ok (.iaload, 1) := by decide +kernel
theorem dX6_tick_55 : decode cX6_tick 55 = .ok (.if_icmp .ge 67, 3) := by decide +kernel
theorem dX6_tick_58 : decode cX6_tick 58 = .ok (.aload_n 0, 1) := by decide +kernel
theorem dX6_tick_59 : decode cX6_tick 59 = .ok (.getfield 7, 3) := by decide +kernel
theorem dX6_tick_62 : decode cX6_tick 62 = .ok (.bipush 83, 2) := by decide +kernel
theorem dX6_tick_64 : decode cX6_tick 64 = .ok (.iload_n 3, 1) := by decide +kernel
theorem dX6_tick_65 : decode cX6_tick 65 = .ok (.iadd, 1) := by decide +kernel
theorem dX6_tick_66 : decode cX6_tick 66 = .ok (.iaload, 1) := by decide +kernel
theorem dX6_tick_67 : decode cX6_tick 67 = .ok (.iconst 1, 1) := by decide +kernel
theorem dX6_tick_68 : decode cX6_tick 68 = .ok (.if_icmp .ne 48, 3) := by decide +kernel
theorem dX6_tick_71 : decode cX6_tick 71 = .ok (.aload_n 0, 1) := by decide +kernel
theorem dX6_tick_72 : decode cX6_tick 72 = .ok (.getfield 7, 3) := by decide +kernel
theorem dX6_tick_75 : decode cX6_tick 75 = .ok (.iconst 1, 1) := by decide +kernel
theorem dX6_tick_76 : decode cX6_tick 76 = .ok (.iaload, 1) := by decide +kernel
theorem dX6_tick_77 : decode cX6_tick 77 = .ok (.aload_n 0, 1) := by decide +kernel
theorem dX6_tick_78 : decode cX6_tick 78 = .ok (.getfield 7, 3) := by decide +kernel
theorem dX6_tick_81 : decode cX6_tick 81 = .ok (.bipush 93, 2) := by decide +kernel
theorem dX6_tick_83 : decode cX6_tick 83 = .ok (.iload_n 3, 1) := by decide +kernel
theorem dX6_tick_84 : decode cX6_tick 84 = .ok (.iadd, 1) := by decide +kernel
theorem dX6_tick_85 : decode cX6_tick 85 = .ok (.iaload, 1) := by decide +kernel
theorem dX6_tick_86 : decode cX6_tick 86 = .ok (.isub, 1) := by decide +kernel
theorem dX6_tick_87 : decode cX6_tick 87 = .ok (.aload_n 0, 1) := by decide +kernel
theorem dX6_tick_88 : decode cX6_tick 88 = .ok (.getfield 7, 3) := by decide +kernel
theorem dX6_tick_91 : decode cX6_tick 91 = .ok (.iconst 5, 1) := by decide +kernel
theorem dX6_tick_92 : decode cX6_tick 92 = .ok (.iaload, 1) := by decide +kernel
theorem dX6_tick_93 : decode cX6_tick 93 = .ok (.if_icmp .lt 23, 3) := by decide +kernel
theorem dX6_tick_96 : decode cX6_tick 96 = .ok (.aload_n 0, 1) := by decide +kernel
theorem dX6_tick_97 : decode cX6_tick 97 = .ok (.getfield 7, 3) := by decide +kernel
theorem dX6_tick_100 : decode cX6_tick 100 = .ok (.bipush 83, 2) := by decide +kernel
theorem dX6_tick_102 : decode cX6_tick 102 = .ok (.iload_n 3, 1) := by decide +kernel
theorem dX6_tick_103 : decode cX6_tick 103 = .ok (.iadd, 1) := by decide +kernel
theorem dX6_tick_104 : decode cX6_tick 104 = .ok (.iconst 2, 1) := by decide +kernel
theorem dX6_tick_105 : decode cX6_tick 105 = .ok (.iastore, 1) := by decide +kernel
theorem dX6_tick_106 : decode cX6_tick 106 = .ok (.aload_n 0, 1) := by decide +kernel
theorem dX6_tick_107 : decode cX6_tick 107 = .ok (.getfield 7, 3) := by decide +kernel
theorem dX6_tick_110 : decode cX6_tick 110 = .ok (.bipush 103, 2) := by decide +kernel
theorem dX6_tick_112 : decode cX6_tick 112 = .ok (.iload_n 3, 1) := by decide +kernel
theorem dX6_tick_113 : decode cX6_tick 113 = .ok (.iadd, 1) := by decide +kernel
theorem dX6_tick_114 : decode cX6_tick 114 = .ok (.iconst (-1), 1) := by decide +kernel
theorem dX6_tick_115 : decode cX6_tick 115 = .ok (.iastore, 1) := by decide +kernel
theorem dX6_tick_116 : decode cX6_tick 116 = .ok (.iinc 3 1, 3) := by decide +kernel
theorem dX6_tick_119 : decode cX6_tick 119 = .ok (.goto (-71), 3) := by decide +kernel
theorem dX6_tick_122 : decode cX6_tick 122 = .ok (.iinc 2 1, 3) := by decide +kernel
theorem dX6_tick_125 : decode cX6_tick 125 = .ok (.goto (-94), 3) := by decide +kernel
theorem dX6_tick_128 : decode cX6_tick 128 = .ok (.aload_n 0, 1) := by decide +kernel
theorem dX6_tick_129 : decode cX6_tick 129 = .ok (.getfield 7, 3) := by decide +kernel
theorem dX6_tick_132 : decode cX6_tick 132 = .ok (.iconst 1, 1) := by decide +kernel
theorem dX6_tick_133 : decode cX6_tick 133 = .ok (.iaload, 1) := by decide +kernel
theorem dX6_tick_134 : decode cX6_tick 134 = .ok (.ireturn, 1) := by decide +kernel
theorem dX6_mayTake_0 : decode cX6_mayTake 0 = .ok (.aload_n 0, 1) := by decide +kernel
theorem dX6_mayTake_1 : decode cX6_mayTake 1 = .ok (.getfield 7, 3) := by decide +kernel
theorem dX6_mayTake_4 : decode cX6_mayTake 4 = .ok (.bipush 83, 2) := by decide +kernel
theorem dX6_mayTake_6 : decode cX6_mayTake 6 = .ok (.iload_n 1, 1) := by decide +kernel
theorem dX6_mayTake_7 : decode cX6_mayTake 7 = .ok (.iadd, 1) := by decide +kernel
theorem dX6_mayTake_8 : decode cX6_mayTake 8 = .ok (.iaload, 1) := by decide +kernel
theorem dX6_mayTake_9 : decode cX6_mayTake 9 = .ok (.ifCond .eq 29, 3) := by decide +kernel
theorem dX6_mayTake_12 : decode cX6_mayTake 12 = .ok (.aload_n 0, 1) := by decide +kernel
theorem dX6_mayTake_13 : decode cX6_mayTake 13 = .ok (.getfield 7, 3) := by decide +kernel
theorem dX6_mayTake_16 : decode cX6_mayTake 16 = .ok (.bipush 83, 2) := by decide +kernel
theorem dX6_mayTake_18 : decode cX6_mayTake 18 = .ok (.iload_n 1, 1) := by decide +kernel
theorem dX6_mayTake_19 : decode cX6_mayTake 19 = .ok (.iadd, 1) := by decide +kernel
theorem dX6_mayTake_20 : decode cX6_mayTake 20 = .ok (.iaload, 1) := by decide +kernel
theorem dX6_mayTake_21 : decode cX6_mayTake 21 = .ok (.iconst 2, 1) := by decide +kernel
theorem dX6_mayTake_22 : decode cX6_mayTake 22 = .ok (.if_icmp .ne 20, 3) := by decide +kernel
theorem dX6_mayTake_25 : decode cX6_mayTake 25 = .ok (.aload_n 0, 1) := by decide +kernel
theorem dX6_mayTake_26 : decode cX6_mayTake 26 = .ok (.getfield 7, 3) := by decide +kernel
theorem dX6_mayTake_29 : decode cX6_mayTake 29 = .ok (.bipush 103, 2) := by decide +kernel
theorem dX6_mayTake_31 : decode cX6_mayTake 31 = .ok (.iload_n 1, 1) := by decide +kernel
theorem dX6_mayTake_32 : decode cX6_mayTake 32 = .ok (.iadd, 1) := by decide +kernel
theorem dX6_mayTake_33 : decode cX6_mayTake 33 = .ok (.iaload, 1) := by decide +kernel
theorem dX6_mayTake_34 : decode cX6_mayTake 34 = .ok (.iconst (-1), 1) := by decide +kernel
theorem dX6_mayTake_35 : decode cX6_mayTake 35 = .ok (.if_icmp .ne 7, 3) := by decide +kernel
theorem dX6_mayTake_38 : decode cX6_mayTake 38 = .ok (.iconst 1, 1) := by decide +kernel
theorem dX6_mayTake_39 : decode cX6_mayTake 39 = .ok (.goto 4, 3) := by decide +kernel
theorem dX6_mayTake_42 : decode cX6_mayTake 42 = .ok (.iconst 0, 1) := by decide +kernel
theorem dX6_mayTake_43 : decode cX6_mayTake 43 = .ok (.istore_n 2, 1) := by decide +kernel
theorem dX6_mayTake_44 : decode cX6_mayTake 44 = .ok (.iload_n 2, 1) := by decide +kernel
theorem dX6_mayTake_45 : decode cX6_mayTake 45 = .ok (.ifCond .eq 52, 3) := by decide +kernel
theorem dX6_mayTake_48 : decode cX6_mayTake 48 = .ok (.aload_n 0, 1) := by decide +kernel
theorem dX6_mayTake_49 : decode cX6_mayTake 49 = .ok (.getfield 7, 3) := by decide +kernel
theorem dX6_mayTake_52 : decode cX6_mayTake 52 = .ok (.bipush 43, 2) := by decide +kernel
theorem dX6_mayTake_54 : decode cX6_mayTake 54 = .ok (.iload_n 1, 1) := by decide +kernel
theorem dX6_mayTake_55 : decode cX6_mayTake 55 = .ok (.iadd, 1) := by decide +kernel
theorem dX6_mayTake_56 : decode cX6_mayTake 56 = .ok (.iaload, 1) := by decide +kernel
theorem dX6_mayTake_57 : decode cX6_mayTake 57 = .ok (.ifCond .ne 40, 3) := by decide +kernel
theorem dX6_mayTake_60 : decode cX6_mayTake 60 = .ok (.aload_n 0, 1) := by decide +kernel
theorem dX6_mayTake_61 : decode cX6_mayTake 61 = .ok (.getfield 7, 3) := by decide +kernel
theorem dX6_mayTake_64 : decode cX6_mayTake 64 = .ok (.bipush 53, 2) := by decide +kernel
theorem dX6_mayTake_66 : decode cX6_mayTake 66 = .ok (.iload_n 1, 1) := by decide +kernel
theorem dX6_mayTake_67 : decode cX6_mayTake 67 = .ok (.iadd, 1) := by decide +kernel
theorem dX6_mayTake_68 : decode cX6_mayTake 68 = .ok (.iaload, 1) := by decide +kernel
theorem dX6_mayTake_69 : decode cX6_mayTake 69 = .ok (.ifCond .ne 28, 3) := by decide +kernel
theorem dX6_mayTake_72 : decode cX6_mayTake 72 = .ok (.aload_n 0, 1) := by decide +kernel
theorem dX6_mayTake_73 : decode cX6_mayTake 73 = .ok (.getfield 7, 3) := by decide +kernel
theorem dX6_mayTake_76 : decode cX6_mayTake 76 = .ok (.bipush 33, 2) := by decide +kernel
theorem dX6_mayTake_78 : decode cX6_mayTake 78 = .ok (.iload_n 1, 1) := by decide +kernel
theorem dX6_mayTake_79 : decode cX6_mayTake 79 = .ok (.iadd, 1) := by decide +kernel
theorem dX6_mayTake_80 : decode cX6_mayTake 80 = .ok (.iaload, 1) := by decide +kernel
theorem dX6_mayTake_81 : decode cX6_mayTake 81 = .ok (.aload_n 0, 1) := by decide +kernel
theorem dX6_mayTake_82 : decode cX6_mayTake 82 = .ok (.getfield 7, 3) := by decide +kernel
theorem dX6_mayTake_85 : decode cX6_mayTake 85 = .ok (.bipush 23, 2) := by decide +kernel
theorem dX6_mayTake_87 : decode cX6_mayTake 87 = .ok (.iload_n 1, 1) := by decide +kernel
theorem dX6_mayTake_88 : decode cX6_mayTake 88 = .ok (.iadd, 1) := by decide +kernel
theorem dX6_mayTake_89 : decode cX6_mayTake 89 = .ok (.iaload, 1) := by decide +kernel
theorem dX6_mayTake_90 : decode cX6_mayTake 90 = .ok (.if_icmp .ge 7, 3) := by decide +kernel
theorem dX6_mayTake_93 : decode cX6_mayTake 93 = .ok (.iconst 1, 1) := by decide +kernel
theorem dX6_mayTake_94 : decode cX6_mayTake 94 = .ok (.goto 4, 3) := by decide +kernel
theorem dX6_mayTake_97 : decode cX6_mayTake 97 = .ok (.iconst 0, 1) := by decide +kernel
theorem dX6_mayTake_98 : decode cX6_mayTake 98 = .ok (.ireturn, 1) := by decide +kernel
theorem dX6_weightNow_0 : decode cX6_weightNow 0 = .ok (.aload_n 0, 1) := by decide +kernel
theorem dX6_weightNow_1 : decode cX6_weightNow 1 = .ok (.getfield 7, 3) := by decide +kernel
theorem dX6_weightNow_4 : decode cX6_weightNow 4 = .ok (.iconst 1, 1) := by decide +kernel
theorem dX6_weightNow_5 : decode cX6_weightNow 5 = .ok (.iaload, 1) := by decide +kernel
theorem dX6_weightNow_6 : decode cX6_weightNow 6 = .ok (.aload_n 0, 1) := by decide +kernel
theorem dX6_weightNow_7 : decode cX6_weightNow 7 = .ok (.getfield 7, 3) := by decide +kernel
theorem dX6_weightNow_10 : decode cX6_weightNow 10 = .ok (.bipush 73, 2) := by decide +kernel
theorem dX6_weightNow_12 : decode cX6_weightNow 12 = .ok (.iload_n 1, 1) := by decide +kernel
theorem dX6_weightNow_13 : decode cX6_weightNow 13 = .ok (.iadd, 1) := by decide +kernel
theorem dX6_weightNow_14 : decode cX6_weightNow 14 = .ok (.iaload, 1) := by decide +kernel
theorem dX6_weightNow_15 : decode cX6_weightNow 15 = .ok (.isub, 1) := by decide +kernel
theorem dX6_weightNow_16 : decode cX6_weightNow 16 = .ok (.istore_n 2, 1) := by decide +kernel
theorem dX6_weightNow_17 : decode cX6_weightNow 17 = .ok (.aload_n 0, 1) := by decide +kernel
theorem dX6_weightNow_18 : decode cX6_weightNow 18 = .ok (.getfield 7, 3) := by decide +kernel
theorem dX6_weightNow_21 : decode cX6_weightNow 21 = .ok (.bipush 73, 2) := by decide +kernel
theorem dX6_weightNow_23 : decode cX6_weightNow 23 = .ok (.iload_n 1, 1) := by decide +kernel
theorem dX6_weightNow_24 : decode cX6_weightNow 24 = .ok (.iadd, 1) := by decide +kernel
theorem dX6_weightNow_25 : decode cX6_weightNow 25 = .ok (.iaload, 1) := by decide +kernel
theorem dX6_weightNow_26 : decode cX6_weightNow 26 = .ok (.iconst (-1), 1) := by decide +kernel
theorem dX6_weightNow_27 : decode cX6_weightNow 27 = .ok (.if_icmp .eq 13, 3) := by decide +kernel
theorem dX6_weightNow_30 : decode cX6_weightNow 30 = .ok (.iload_n 2, 1) := by decide +kernel
theorem dX6_weightNow_31 : decode cX6_weightNow 31 = .ok (.aload_n 0, 1) := by decide +kernel
theorem dX6_weightNow_32 : decode cX6_weightNow 32 = .ok (.getfield 7, 3) := by decide +kernel
theorem dX6_weightNow_35 : decode cX6_weightNow 35 = .ok (.iconst 4, 1) := by decide +kernel
theorem dX6_weightNow_36 : decode cX6_weightNow 36 = .ok (.iaload, 1) := by decide +kernel
theorem dX6_weightNow_37 : decode cX6_weightNow 37 = .ok (.if_icmp .lt 13, 3) := by decide +kernel
theorem dX6_weightNow_40 : decode cX6_weightNow 40 = .ok (.aload_n 0, 1) := by decide +kernel
theorem dX6_weightNow_41 : decode cX6_weightNow 41 = .ok (.getfield 7, 3) := by decide +kernel
theorem dX6_weightNow_44 : decode cX6_weightNow 44 = .ok (.bipush 13, 2) := by decide +kernel
theorem dX6_weightNow_46 : decode cX6_weightNow 46 = .ok (.iload_n 1, 1) := by decide +kernel
theorem dX6_weightNow_47 : decode cX6_weightNow 47 = .ok (.iadd, 1) := by decide +kernel
theorem dX6_weightNow_48 : decode cX6_weightNow 48 = .ok (.iaload, 1) := by decide +kernel
theorem dX6_weightNow_49 : decode cX6_weightNow 49 = .ok (.ireturn, 1) := by decide +kernel
theorem dX6_weightNow_50 : decode cX6_weightNow 50 = .ok (.aload_n 0, 1) := by decide +kernel
theorem dX6_weightNow_51 : decode cX6_weightNow 51 = .ok (.getfield 7, 3) := by decide +kernel
theorem dX6_weightNow_54 : decode cX6_weightNow 54 = .ok (.bipush 13, 2) := by decide +kernel
theorem dX6_weightNow_56 : decode cX6_weightNow 56 = .ok (.iload_n 1, 1) := by decide +kernel
theorem dX6_weightNow_57 : decode cX6_weightNow 57 = .ok (.iadd, 1) := by decide +kernel
theorem dX6_weightNow_58 : decode cX6_weightNow 58 = .ok (.iaload, 1) := by decide +kernel
theorem dX6_weightNow_59 : decode cX6_weightNow 59 = .ok (.iload_n 2, 1) := by decide +kernel
theorem dX6_weightNow_60 : decode cX6_weightNow 60 = .ok (.iconst 1, 1) := by decide +kernel
theorem dX6_weightNow_61 : decode cX6_weightNow 61 = .ok (.iadd, 1) := by decide +kernel
theorem dX6_weightNow_62 : decode cX6_weightNow 62 = .ok (.imul, 1) := by decide +kernel
theorem dX6_weightNow_63 : decode cX6_weightNow 63 = .ok (.aload_n 0, 1) := by decide +kernel
theorem dX6_weightNow_64 : decode cX6_weightNow 64 = .ok (.getfield 7, 3) := by decide +kernel
theorem dX6_weightNow_67 : decode cX6_weightNow 67 = .ok (.iconst 4, 1) := by decide +kernel
theorem dX6_weightNow_68 : decode cX6_weightNow 68 = .ok (.iaload, 1) := by decide +kernel
theorem dX6_weightNow_69 : decode cX6_weightNow 69 = .ok (.idiv, 1) := by decide +kernel
theorem dX6_weightNow_70 : decode cX6_weightNow 70 = .ok (.istore_n 3, 1) := by decide +kernel
theorem dX6_weightNow_71 : decode cX6_weightNow 71 = .ok (.iload_n 3, 1) := by decide +kernel
theorem dX6_weightNow_72 : decode cX6_weightNow 72 = .ok (.iconst 1, 1) := by decide +kernel
theorem dX6_weightNow_73 : decode cX6_weightNow 73 = .ok (.if_icmp .ge 7, 3) := by decide +kernel
theorem dX6_weightNow_76 : decode cX6_weightNow 76 = .ok (.iconst 1, 1) := by decide +kernel
theorem dX6_weightNow_77 : decode cX6_weightNow 77 = .ok (.goto 4, 3) := by decide +kernel
theorem dX6_weightNow_80 : decode cX6_weightNow 80 = .ok (.iload_n 3, 1) := by decide +kernel
theorem dX6_weightNow_81 : decode cX6_weightNow 81 = .ok (.ireturn, 1) := by decide +kernel
set_option maxRecDepth 20000 in
theorem ggX6_layRow_X6_mayTake : GoodIn wsX6_layRow wsX6_mayTake := goodIn_r _ [8, 2, 9, 10, 11, 12, 13, 14] (by decide +kernel) (by decide +kernel)
set_option maxRecDepth 20000 in
theorem gX6_layRow_X6_mayTake : GoodIn wsX6_layRow (wsV RX6 42 RX6 yX6_mayTake wsX6_mayTake) := goodIn_app (goodIn_of _ (by decide +kernel)) ggX6_layRow_X6_mayTake
theorem dX6_layRow_0 : decode cX6_layRow 0 = .ok (.aload_n 0, 1) := by decide +kernel
theorem dX6_layRow_1 : decode cX6_layRow 1 = .ok (.iconst 0, 1) := by decide +kernel
theorem dX6_layRow_2 : decode cX6_layRow 2 = .ok (.putfield 39, 3) := by decide +kernel
theorem dX6_layRow_5 : decode cX6_layRow 5 = .ok (.iconst 0, 1) := by decide +kernel
theorem dX6_layRow_6 : decode cX6_layRow 6 = .ok (.istore_n 1, 1) := by decide +kernel
theorem dX6_layRow_7 : decode cX6_layRow 7 = .ok (.iload_n 1, 1) := by decide +kernel
theorem dX6_layRow_8 : decode cX6_layRow 8 = .ok (.aload_n 0, 1) := by decide +kernel
theorem dX6_layRow_9 : decode cX6_layRow 9 = .ok (.getfield 7, 3) := by decide +kernel
theorem dX6_layRow_12 : decode cX6_layRow 12 = .ok (.iconst 0, 1) := by decide +kernel
theorem dX6_layRow_13 : decode cX6_layRow 13 = .ok (.iaload, 1) := by decide +kernel
theorem dX6_layRow_14 : decode cX6_layRow 14 = .ok (.if_icmp .ge 37, 3) := by decide +kernel
theorem dX6_layRow_17 : decode cX6_layRow 17 = .ok (.aload_n 0, 1) := by decide +kernel
theorem dX6_layRow_18 : decode cX6_layRow 18 = .ok (.iload_n 1, 1) := by decide +kernel
theorem dX6_layRow_19 : decode cX6_layRow 19 = .ok (.invokevirtual 42, 3) := by decide +kernel
theorem dX6_layRow_22 : decode cX6_layRow 22 = .ok (.ifCond .eq 23, 3) := by decide +kernel
theorem dX6_layRow_25 : decode cX6_layRow 25 = .ok (.aload_n 0, 1) := by decide +kernel
theorem dX6_layRow_26 : decode cX6_layRow 26 = .ok (.getfield 20, 3) := by decide +kernel
theorem dX6_layRow_29 : decode cX6_layRow 29 = .ok (.aload_n 0, 1) := by decide +kernel
theorem dX6_layRow_30 : decode cX6_layRow 30 = .ok (.getfield 39, 3) := by decide +kernel
theorem dX6_layRow_33 : decode cX6_layRow 33 = .ok (.iload_n 1, 1) := by decide +kernel
theorem dX6_layRow_34 : decode cX6_layRow 34 = .ok (.iastore, 1) := by decide +kernel
theorem dX6_layRow_35 : decode cX6_layRow 35 = .ok (.aload_n 0, 1) := by decide +kernel
theorem dX6_layRow_36 : decode cX6_layRow 36 = .ok (.dup, 1) := by decide +kernel
theorem dX6_layRow_37 : decode cX6_layRow 37 = .ok (.getfield 39, 3) := by decide +kernel
theorem dX6_layRow_40 : decode cX6_layRow 40 = .ok (.iconst 1, 1) := by decide +kernel
theorem dX6_layRow_41 : decode cX6_layRow 41 = .ok (.iadd, 1) := by decide +kernel
theorem dX6_layRow_42 : decode cX6_layRow 42 = .ok (.putfield 39, 3) := by decide +kernel
theorem dX6_layRow_45 : decode cX6_layRow 45 = .ok (.iinc 1 1, 3) := by decide +kernel
theorem dX6_layRow_48 : decode cX6_layRow 48 = .ok (.goto (-41), 3) := by decide +kernel
theorem dX6_layRow_51 : decode cX6_layRow 51 = .ok (.return_, 1) := by decide +kernel
theorem dX6_nextInTurn_0 : decode cX6_nextInTurn 0 = .ok (.iconst 0, 1) := by decide +kernel
theorem dX6_nextInTurn_1 : decode cX6_nextInTurn 1 = .ok (.istore_n 1, 1) := by decide +kernel
theorem dX6_nextInTurn_2 : decode cX6_nextInTurn 2 = .ok (.iload_n 1, 1) := by decide +kernel
theorem dX6_nextInTurn_3 : decode cX6_nextInTurn 3 = .ok (.aload_n 0, 1) := by decide +kernel
theorem dX6_nextInTurn_4 : decode cX6_nextInTurn 4 = .ok (.getfield 39, 3) := by decide +kernel
theorem dX6_nextInTurn_7 : decode cX6_nextInTurn 7 = .ok (.if_icmp .ge 32, 3) := by decide +kernel
theorem dX6_nextInTurn_10 : decode cX6_nextInTurn 10 = .ok (.aload_n 0, 1) := by decide +kernel
theorem dX6_nextInTurn_11 : decode cX6_nextInTurn 11 = .ok (.getfield 20, 3) := by decide +kernel
theorem dX6_nextInTurn_14 : decode cX6_nextInTurn 14 = .ok (.iload_n 1, 1) := by decide +kernel
theorem dX6_nextInTurn_15 : decode cX6_nextInTurn 15 = .ok (.iaload, 1) := by decide +kernel
theorem dX6_nextInTurn_16 : decode cX6_nextInTurn 16 = .ok (.aload_n 0, 1) := by decide +kernel
theorem dX6_nextInTurn_17 : decode cX6_nextInTurn 17 = .ok (.getfield 7, 3) := by decide +kernel
theorem dX6_nextInTurn_20 : decode cX6_nextInTurn 20 = .ok (.bipush 9, 2) := by decide +kernel
theorem dX6_nextInTurn_22 : decode cX6_nextInTurn 22 = .ok (.iaload, 1) := by decide +kernel
theorem dX6_nextInTurn_23 : decode cX6_nextInTurn 23 = .ok (.if_icmp .le 10, 3) := by decide +kernel
theorem dX6_nextInTurn_26 : decode cX6_nextInTurn 26 = .ok (.aload_n 0, 1) := by decide +kernel
theorem dX6_nextInTurn_27 : decode cX6_nextInTurn 27 = .ok (.getfield 20, 3) := by decide +kernel
theorem dX6_nextInTurn_30 : decode cX6_nextInTurn 30 = .ok (.iload_n 1, 1) := by decide +kernel
theorem dX6_nextInTurn_31 : decode cX6_nextInTurn 31 = .ok (.iaload, 1) := by decide +kernel
theorem dX6_nextInTurn_32 : decode cX6_nextInTurn 32 = .ok (.ireturn, 1) := by decide +kernel
theorem dX6_nextInTurn_33 : decode cX6_nextInTurn 33 = .ok (.iinc 1 1, 3) := by decide +kernel
theorem dX6_nextInTurn_36 : decode cX6_nextInTurn 36 = .ok (.goto (-34), 3) := by decide +kernel
theorem dX6_nextInTurn_39 : decode cX6_nextInTurn 39 = .ok (.aload_n 0, 1) := by decide +kernel
theorem dX6_nextInTurn_40 : decode cX6_nextInTurn 40 = .ok (.getfield 20, 3) := by decide +kernel
theorem dX6_nextInTurn_43 : decode cX6_nextInTurn 43 = .ok (.iconst 0, 1) := by decide +kernel
theorem dX6_nextInTurn_44 : decode cX6_nextInTurn 44 = .ok (.iaload, 1) := by decide +kernel
