set_option maxRecDepth 20000 in
theorem ggX6_init_X4_init : GoodIn wsX6_init wsX4_init := goodIn_r _ [25, 26, 2, 3, 27, 28, 66] (by decide +kernel) (by decide +kernel)
set_option maxRecDepth 20000 in
theorem gX6_init_X4_init_n17 : GoodIn wsX6_init (wsX4_init) := ggX6_init_X4_init
set_option maxRecDepth 20000 in
theorem ggX6_init_X0_init : GoodIn wsX6_init wsX0_init := goodIn_r _ [30, 31, 2, 3, 27, 32, 67, 68] (by decide +kernel) (by decide +kernel)
set_option maxRecDepth 20000 in
theorem gX6_init_X0_init_n24 : GoodIn wsX6_init (wsX0_init) := ggX6_init_X0_init
set_option maxRecDepth 20000 in
theorem ggX6_init_X1_init : GoodIn wsX6_init wsX1_init := goodIn_r _ [34, 35, 2, 3, 36, 37, 38, 39, 40, 41, 42, 27, 43, 44, 45, 84, 85, 86, 87, 69, 70, 71] (by decide +kernel) (by decide +kernel)
set_option maxRecDepth 20000 in
theorem gX6_init_X1_init_n31 : GoodIn wsX6_init (wsX1_init) := ggX6_init_X1_init
set_option maxRecDepth 20000 in
theorem ggX6_init_X3_init : GoodIn wsX6_init wsX3_init := goodIn_r _ [47, 48, 2, 3, 49, 50, 51, 52, 53, 72, 73, 74, 75, 76, 77, 78, 79, 80] (by decide +kernel) (by decide +kernel)
set_option maxRecDepth 20000 in
theorem gX6_init_X3_init_n38 : GoodIn wsX6_init (wsX3_init) := ggX6_init_X3_init
set_option maxRecDepth 20000 in
theorem ggX6_init_X5_init : GoodIn wsX6_init wsX5_init := goodIn_r _ [55, 56, 2, 3, 57, 37, 38, 58, 59, 60, 40, 41, 42, 27, 43, 44, 45, 84, 85, 86, 87, 81, 82, 83] (by decide +kernel) (by decide +kernel)
set_option maxRecDepth 20000 in
theorem gX6_init_X5_init_n43 : GoodIn wsX6_init (wsX5_init) := ggX6_init_X5_init
theorem dX6_init_0 : decode cX6_init 0 = .ok (.aload_n 0, 1) := by decide +kernel
theorem dX6_init_1 : decode cX6_init 1 = .ok (.invokespecial 1, 3) := by decide +kernel
theorem dX6_init_4 : decode cX6_init 4 = .ok (.aload_n 0, 1) := by decide +kernel
theorem dX6_init_5 : decode cX6_init 5 = .ok (.iconst 4, 1) := by decide +kernel
theorem dX6_init_6 : decode cX6_init 6 = .ok (.anewarray 9, 3) := by decide +kernel
theorem dX6_init_9 : decode cX6_init 9 = .ok (.putfield 11, 3) := by decide +kernel
theorem dX6_init_12 : decode cX6_init 12 = .ok (.aload_n 0, 1) := by decide +kernel
theorem dX6_init_13 : decode cX6_init 13 = .ok (.new 15, 3) := by decide +kernel
theorem dX6_init_16 : decode cX6_init 16 = .ok (.dup, 1) := by decide +kernel
theorem dX6_init_17 : decode cX6_init 17 = .ok (.invokespecial 17, 3) := by decide +kernel
theorem dX6_init_20 : decode cX6_init 20 = .ok (.putfield 18, 3) := by decide +kernel
theorem dX6_init_23 : decode cX6_init 23 = .ok (.aload_n 0, 1) := by decide +kernel
theorem dX6_init_24 : decode cX6_init 24 = .ok (.new 22, 3) := by decide +kernel
theorem dX6_init_27 : decode cX6_init 27 = .ok (.dup, 1) := by decide +kernel
theorem dX6_init_28 : decode cX6_init 28 = .ok (.invokespecial 24, 3) := by decide +kernel
theorem dX6_init_31 : decode cX6_init 31 = .ok (.putfield 25, 3) := by decide +kernel
theorem dX6_init_34 : decode cX6_init 34 = .ok (.aload_n 0, 1) := by decide +kernel
theorem dX6_init_35 : decode cX6_init 35 = .ok (.new 29, 3) := by decide +kernel
theorem dX6_init_38 : decode cX6_init 38 = .ok (.dup, 1) := by decide +kernel
theorem dX6_init_39 : decode cX6_init 39 = .ok (.invokespecial 31, 3) := by decide +kernel
theorem dX6_init_42 : decode cX6_init 42 = .ok (.putfield 32, 3) := by decide +kernel
theorem dX6_init_45 : decode cX6_init 45 = .ok (.aload_n 0, 1) := by decide +kernel
theorem dX6_init_46 : decode cX6_init 46 = .ok (.new 36, 3) := by decide +kernel
theorem dX6_init_49 : decode cX6_init 49 = .ok (.dup, 1) := by decide +kernel
theorem dX6_init_50 : decode cX6_init 50 = .ok (.invokespecial 38, 3) := by decide +kernel
theorem dX6_init_53 : decode cX6_init 53 = .ok (.putfield 39, 3) := by decide +kernel
theorem dX6_init_56 : decode cX6_init 56 = .ok (.iconst 0, 1) := by decide +kernel
theorem dX6_init_57 : decode cX6_init 57 = .ok (.istore_n 1, 1) := by decide +kernel
theorem dX6_init_58 : decode cX6_init 58 = .ok (.iload_n 1, 1) := by decide +kernel
theorem dX6_init_59 : decode cX6_init 59 = .ok (.iconst 4, 1) := by decide +kernel
theorem dX6_init_60 : decode cX6_init 60 = .ok (.if_icmp .ge 22, 3) := by decide +kernel
theorem dX6_init_63 : decode cX6_init 63 = .ok (.aload_n 0, 1) := by decide +kernel
theorem dX6_init_64 : decode cX6_init 64 = .ok (.getfield 11, 3) := by decide +kernel
theorem dX6_init_67 : decode cX6_init 67 = .ok (.iload_n 1, 1) := by decide +kernel
theorem dX6_init_68 : decode cX6_init 68 = .ok (.new 9, 3) := by decide +kernel
theorem dX6_init_71 : decode cX6_init 71 = .ok (.dup, 1) := by decide +kernel
theorem dX6_init_72 : decode cX6_init 72 = .ok (.invokespecial 43, 3) := by decide +kernel
theorem dX6_init_75 : decode cX6_init 75 = .ok (.aastore, 1) := by decide +kernel
theorem dX6_init_76 : decode cX6_init 76 = .ok (.iinc 1 1, 3) := by decide +kernel
theorem dX6_init_79 : decode cX6_init 79 = .ok (.goto (-21), 3) := by decide +kernel
theorem dX6_init_82 : decode cX6_init 82 = .ok (.return_, 1) := by decide +kernel
set_option maxRecDepth 20000 in
theorem ggX6_open_X6_trackIn : GoodIn wsX6_open wsX6_trackIn := goodIn_ca (goodIn_ca (goodIn_r _ [6, 7, 8, 1, 9, 10, 11, 5, 12, 13, 14, 15, 16, 17, 18, 19, 20, 21, 22, 23, 24, 25, 26] (by decide +kernel) (by decide +kernel)) (goodIn_sub (fun _ h => List.mem_cons_of_mem _ (List.mem_append_left _ (List.mem_append_right _ h))) (by decide +kernel))) (goodIn_sub (fun _ h => List.mem_cons_of_mem _ (List.mem_append_right _ h)) (by decide +kernel))
set_option maxRecDepth 20000 in
theorem gX6_open_X6_trackIn : GoodIn wsX6_open (wsV RX6 44 RX6 yX6_trackIn wsX6_trackIn) := goodIn_app (goodIn_of _ (by decide +kernel)) ggX6_open_X6_trackIn
theorem dX6_open_0 : decode cX6_open 0 = .ok (.aload_n 0, 1) := by decide +kernel
theorem dX6_open_1 : decode cX6_open 1 = .ok (.iload_n 1, 1) := by decide +kernel
theorem dX6_open_2 : decode cX6_open 2 = .ok (.iconst 0, 1) := by decide +kernel
theorem dX6_open_3 : decode cX6_open 3 = .ok (.invokevirtual 44, 3) := by decide +kernel
theorem dX6_open_6 : decode cX6_open 6 = .ok (.astore_n 2, 1) := by decide +kernel
theorem dX6_open_7 : decode cX6_open 7 = .ok (.aload_n 2, 1) := by decide +kernel
theorem dX6_open_8 : decode cX6_open 8 = .ok (.iconst 1, 1) := by decide +kernel
theorem dX6_open_9 : decode cX6_open 9 = .ok (.putfield 48, 3) := by decide +kernel
theorem dX6_open_12 : decode cX6_open 12 = .ok (.return_, 1) := by decide +kernel
set_option maxRecDepth 20000 in
theorem ggX6_add_X6_trackIn : GoodIn wsX6_add wsX6_trackIn := goodIn_ca (goodIn_ca (goodIn_r _ [13, 1, 2, 14, 15, 16, 17, 12, 18, 19, 20, 21, 22, 23, 24, 37, 38, 39, 44, 45, 46, 47, 48] (by decide +kernel) (by decide +kernel)) (goodIn_sub (fun _ h => List.mem_cons_of_mem _ (List.mem_append_left _ (List.mem_append_left _ (List.mem_append_right _ h)))) (by decide +kernel))) (goodIn_sub (fun _ h => List.mem_cons_of_mem _ (List.mem_append_right _ h)) (by decide +kernel))
set_option maxRecDepth 20000 in
theorem gX6_add_X6_trackIn : GoodIn wsX6_add (wsV RX6 44 RX6 yX6_trackIn wsX6_trackIn) := goodIn_app (goodIn_of _ (by decide +kernel)) ggX6_add_X6_trackIn
set_option maxRecDepth 20000 in
theorem ggX6_add_X6_isBeyond : GoodIn wsX6_add wsX6_isBeyond := goodIn_r _ [27] (by decide +kernel) (by decide +kernel)
set_option maxRecDepth 20000 in
theorem gX6_add_X6_isBeyond : GoodIn wsX6_add (va_wsS RX6 69 yX6_isBeyond wsX6_isBeyond) := goodIn_app (goodIn_of _ (by decide +kernel)) ggX6_add_X6_isBeyond
set_option maxRecDepth 20000 in
theorem ggX6_add_X2_append : GoodIn wsX6_add wsX2_append := goodIn_r _ [32, 33, 34, 35, 36, 40, 41, 42, 43] (by decide +kernel) (by decide +kernel)
set_option maxRecDepth 20000 in
theorem gX6_add_X2_append : GoodIn wsX6_add (wsV RX6 84 RX2 yX2_append wsX2_append) := goodIn_app (goodIn_of _ (by decide +kernel)) ggX6_add_X2_append
theorem dX6_add_0 : decode cX6_add 0 = .ok (.aload_n 0, 1) := by decide +kernel
theorem dX6_add_1 : decode cX6_add 1 = .ok (.iload_n 1, 1) := by decide +kernel
theorem dX6_add_2 : decode cX6_add 2 = .ok (.iconst 1, 1) := by decide +kernel
theorem dX6_add_3 : decode cX6_add 3 = .ok (.invokevirtual 44, 3) := by decide +kernel
theorem dX6_add_6 : decode cX6_add 6 = .ok (.getfield 52, 3) := by decide +kernel
theorem dX6_add_9 : decode cX6_add 9 = .ok (.astore 5, 2) := by decide +kernel
theorem dX6_add_11 : decode cX6_add 11 = .ok (.aload 5, 2) := by decide +kernel
theorem dX6_add_13 : decode cX6_add 13 = .ok (.getfield 56, 3) := by decide +kernel
theorem dX6_add_16 : decode cX6_add 16 = .ok (.bipush 20, 2) := by decide +kernel
theorem dX6_add_18 : decode cX6_add 18 = .ok (.if_icmp .lt 13, 3) := by decide +kernel
theorem dX6_add_21 : decode cX6_add 21 = .ok (.new 61, 3) := by decide +kernel
theorem dX6_add_24 : decode cX6_add 24 = .ok (.dup, 1) := by decide +kernel
theorem dX6_add_25 : decode cX6_add 25 = .ok (.ldc 63, 2) := by decide +kernel
theorem dX6_add_27 : decode cX6_add 27 = .ok (.invokespecial 65, 3) := by decide +kernel
theorem dX6_add_30 : decode cX6_add 30 = .ok (.athrow, 1) := by decide +kernel
theorem dX6_add_31 : decode cX6_add 31 = .ok (.iload_n 2, 1) := by decide +kernel
theorem dX6_add_32 : decode cX6_add 32 = .ok (.ifCond .lt 22, 3) := by decide +kernel
theorem dX6_add_35 : decode cX6_add 35 = .ok (.iload_n 3, 1) := by decide +kernel
theorem dX6_add_36 : decode cX6_add 36 = .ok (.ldc 68, 2) := by decide +kernel
theorem dX6_add_38 : decode cX6_add 38 = .ok (.invokestatic 69, 3) := by decide +kernel
theorem dX6_add_41 : decode cX6_add 41 = .ok (.ifCond .ne 13, 3) := by decide +kernel
theorem dX6_add_44 : decode cX6_add 44 = .ok (.iload 4, 2) := by decide +kernel
theorem dX6_add_46 : decode cX6_add 46 = .ok (.ldc 68, 2) := by decide +kernel
theorem dX6_add_48 : decode cX6_add 48 = .ok (.invokestatic 69, 3) := by decide +kernel
theorem dX6_add_51 : decode cX6_add 51 = .ok (.ifCond .eq 13, 3) := by decide +kernel
theorem dX6_add_54 : decode cX6_add 54 = .ok (.new 73, 3) := by decide +kernel
theorem dX6_add_57 : decode cX6_add 57 = .ok (.dup, 1) := by decide +kernel
theorem dX6_add_58 : decode cX6_add 58 = .ok (.ldc 75, 2) := by decide +kernel
theorem dX6_add_60 : decode cX6_add 60 = .ok (.invokespecial 77, 3) := by decide +kernel
theorem dX6_add_63 : decode cX6_add 63 = .ok (.athrow, 1) := by decide +kernel
theorem dX6_add_64 : decode cX6_add 64 = .ok (.aload 5, 2) := by decide +kernel
theorem dX6_add_66 : decode cX6_add 66 = .ok (.getfield 56, 3) := by decide +kernel
theorem dX6_add_69 : decode cX6_add 69 = .ok (.ifCond .le 30, 3) := by decide +kernel
theorem dX6_add_72 : decode cX6_add 72 = .ok (.iload_n 2, 1) := by decide +kernel
theorem dX6_add_73 : decode cX6_add 73 = .ok (.aload 5, 2) := by decide +kernel
theorem dX6_add_75 : decode cX6_add 75 = .ok (.getfield 78, 3) := by decide +kernel
theorem dX6_add_78 : decode cX6_add 78 = .ok (.aload 5, 2) := by decide +kernel
theorem dX6_add_80 : decode cX6_add 80 = .ok (.getfield 56, 3) := by decide +kernel
theorem dX6_add_83 : decode cX6_add 83 = .ok (.iconst 1, 1) := by decide +kernel
theorem dX6_add_84 : decode cX6_add 84 = .ok (.isub, 1) := by decide +kernel
theorem dX6_add_85 : decode cX6_add 85 = .ok (.iaload, 1) := by decide +kernel
theorem dX6_add_86 : decode cX6_add 86 = .ok (.if_icmp .gt 13, 3) := by decide +kernel
theorem dX6_add_89 : decode cX6_add 89 = .ok (.new 73, 3) := by decide +kernel
theorem dX6_add_92 : decode cX6_add 92 = .ok (.dup, 1) := by decide +kernel
theorem dX6_add_93 : decode cX6_add 93 = .ok (.ldc 82, 2) := by decide +kernel
theorem dX6_add_95 : decode cX6_add 95 = .ok (.invokespecial 77, 3) := by decide +kernel
theorem dX6_add_98 : decode cX6_add 98 = .ok (.athrow, 1) := by decide +kernel
theorem dX6_add_99 : decode cX6_add 99 = .ok (.aload 5, 2) := by decide +kernel
theorem dX6_add_101 : decode cX6_add 101 = .ok (.iload_n 2, 1) := by decide +kernel
theorem dX6_add_102 : decode cX6_add 102 = .ok (.iload_n 3, 1) := by decide +kernel
theorem dX6_add_103 : decode cX6_add 103 = .ok (.iload 4, 2) := by decide +kernel
theorem dX6_add_105 : decode cX6_add 105 = .ok (.invokevirtual 84, 3) := by decide +kernel
theorem dX6_add_108 : decode cX6_add 108 = .ok (.aload 5, 2) := by decide +kernel
theorem dX6_add_110 : decode cX6_add 110 = .ok (.getfield 56, 3) := by decide +kernel
theorem dX6_add_113 : decode cX6_add 113 = .ok (.ireturn, 1) := by decide +kernel
set_option maxRecDepth 20000 in
theorem ggX6_seal_X6_trackIn : GoodIn wsX6_seal wsX6_trackIn := goodIn_ca (goodIn_ca (goodIn_r _ [12, 1, 2, 13, 14, 15, 16, 11, 17, 18, 19, 20, 21, 22, 23, 64, 65, 66, 71, 72, 73, 74, 75] (by decide +kernel) (by decide +kernel)) (goodIn_sub (fun _ h => List.mem_cons_of_mem _ (List.mem_append_left _ (List.mem_append_left _ (List.mem_append_right _ h)))) (by decide +kernel))) (goodIn_sub (fun _ h => List.mem_cons_of_mem _ (List.mem_append_right _ h)) (by decide +kernel))
set_option maxRecDepth 20000 in
theorem gX6_seal_X6_trackIn : GoodIn wsX6_seal (wsV RX6 44 RX6 yX6_trackIn wsX6_trackIn) := goodIn_app (goodIn_of _ (by decide +kernel)) ggX6_seal_X6_trackIn
set_option maxRecDepth 20000 in
theorem ggX6_seal_X6_isBound : GoodIn wsX6_seal wsX6_isBound := goodIn_r _ [26, 27] (by decide +kernel) (by decide +kernel)
set_option maxRecDepth 20000 in
theorem gX6_seal_X6_isBound : GoodIn wsX6_seal (va_wsS RX6 90 yX6_isBound wsX6_isBound) := goodIn_app (goodIn_of _ (by decide +kernel)) ggX6_seal_X6_isBound
set_option maxRecDepth 20000 in
theorem ggX6_seal_X4_thin : GoodIn wsX6_seal wsX4_thin := goodIn_r _ [32, 33, 34, 35, 36, 37, 38, 39, 40, 31, 41, 42, 43, 44, 45, 46, 47, 48, 49, 50, 51, 52, 53, 54, 55, 56, 67, 68, 69, 70, 76] (by decide +kernel) (by decide +kernel)
set_option maxRecDepth 20000 in
theorem gX6_seal_X4_thin : GoodIn wsX6_seal (wsV RX6 96 RX4 yX4_thin wsX4_thin) := goodIn_app (goodIn_of _ (by decide +kernel)) ggX6_seal_X4_thin
set_option maxRecDepth 20000 in
theorem ggX6_seal_X5_become : GoodIn wsX6_seal wsX5_become := goodIn_r _ [61, 62, 63, 64, 65, 66] (by decide +kernel) (by decide +kernel)
set_option maxRecDepth 20000 in
theorem gX6_seal_X5_become : GoodIn wsX6_seal (wsV RX6 100 RX5 yX5_become wsX5_become) := goodIn_app (goodIn_of _ (by decide +kernel)) ggX6_seal_X5_become
theorem dX6_seal_0 : decode cX6_seal 0 = .ok (.aload_n 0, 1) := by decide +kernel
theorem dX6_seal_1 : decode cX6_seal 1 = .ok (.iload_n 1, 1) := by decide +kernel
theorem dX6_seal_2 : decode cX6_seal 2 = .ok (.iconst 1, 1) := by decide +kernel
theorem dX6_seal_3 : decode cX6_seal 3 = .ok (.invokevirtual 44, 3) := by decide +kernel
theorem dX6_seal_6 : decode cX6_seal 6 = .ok (.astore_n 3, 1) := by decide +kernel
theorem dX6_seal_7 : decode cX6_seal 7 = .ok (.aload_n 3, 1) := by decide +kernel
theorem dX6_seal_8 : decode cX6_seal 8 = .ok (.getfield 52, 3) := by decide +kernel
theorem dX6_seal_11 : decode cX6_seal 11 = .ok (.getfield 56, 3) := by decide +kernel
theorem dX6_seal_14 : decode cX6_seal 14 = .ok (.ifCond .ne 13, 3) := by decide +kernel
theorem dX6_seal_17 : decode cX6_seal 17 = .ok (.new 61, 3) := by decide +kernel
theorem dX6_seal_20 : decode cX6_seal 20 = .ok (.dup, 1) := by decide +kernel
theorem dX6_seal_21 : decode cX6_seal 21 = .ok (.ldc 88, 2) := by decide +kernel
theorem dX6_seal_23 : decode cX6_seal 23 = .ok (.invokespecial 65, 3) := by decide +kernel
theorem dX6_seal_26 : decode cX6_seal 26 = .ok (.athrow, 1) := by decide +kernel
theorem dX6_seal_27 : decode cX6_seal 27 = .ok (.iload_n 2, 1) := by decide +kernel
theorem dX6_seal_28 : decode cX6_seal 28 = .ok (.invokestatic 90, 3) := by decide +kernel
theorem dX6_seal_31 : decode cX6_seal 31 = .ok (.ifCond .ne 13, 3) := by decide +kernel
theorem dX6_seal_34 : decode cX6_seal 34 = .ok (.new 73, 3) := by decide +kernel
theorem dX6_seal_37 : decode cX6_seal 37 = .ok (.dup, 1) := by decide +kernel
theorem dX6_seal_38 : decode cX6_seal 38 = .ok (.ldc 94, 2) := by decide +kernel
theorem dX6_seal_40 : decode cX6_seal 40 = .ok (.invokespecial 77, 3) := by decide +kernel
theorem dX6_seal_43 : decode cX6_seal 43 = .ok (.athrow, 1) := by decide +kernel
theorem dX6_seal_44 : decode cX6_seal 44 = .ok (.aload_n 0, 1) := by decide +kernel
theorem dX6_seal_45 : decode cX6_seal 45 = .ok (.getfield 18, 3) := by decide +kernel
theorem dX6_seal_48 : decode cX6_seal 48 = .ok (.aload_n 3, 1) := by decide +kernel
theorem dX6_seal_49 : decode cX6_seal 49 = .ok (.getfield 52, 3) := by decide +kernel
theorem dX6_seal_52 : decode cX6_seal 52 = .ok (.iload_n 2, 1) := by decide +kernel
theorem dX6_seal_53 : decode cX6_seal 53 = .ok (.invokevirtual 96, 3) := by decide +kernel
theorem dX6_seal_56 : decode cX6_seal 56 = .ok (.aload_n 3, 1) := by decide +kernel
theorem dX6_seal_57 : decode cX6_seal 57 = .ok (.iconst 2, 1) := by decide +kernel
theorem dX6_seal_58 : decode cX6_seal 58 = .ok (.iload_n 2, 1) := by decide +kernel
theorem dX6_seal_59 : decode cX6_seal 59 = .ok (.invokevirtual 100, 3) := by decide +kernel
theorem dX6_seal_62 : decode cX6_seal 62 = .ok (.aload_n 3, 1) := by decide +kernel
theorem dX6_seal_63 : decode cX6_seal 63 = .ok (.getfield 52, 3) := by decide +kernel
theorem dX6_seal_66 : decode cX6_seal 66 = .ok (.getfield 56, 3) := by decide +kernel
theorem dX6_seal_69 : decode cX6_seal 69 = .ok (.ireturn, 1) := by decide +kernel
set_option maxRecDepth 20000 in
theorem ggX6_again_X6_trackIn : GoodIn wsX6_again wsX6_trackIn := goodIn_ca (goodIn_ca (goodIn_r _ [12, 13, 14, 15, 16, 17, 18, 11, 19, 20, 21, 22, 23, 24, 25, 55, 56, 57, 58, 59, 60, 61, 62] (by decide +kernel) (by decide +kernel)) (goodIn_sub (fun _ h => List.mem_cons_of_mem _ (List.mem_append_left _ (List.mem_append_right _ h))) (by decide +kernel))) (goodIn_sub (fun _ h => List.mem_cons_of_mem _ (List.mem_append_right _ h)) (by decide +kernel))
set_option maxRecDepth 20000 in
theorem gX6_again_X6_trackIn : GoodIn wsX6_again (wsV RX6 44 RX6 yX6_trackIn wsX6_trackIn) := goodIn_app (goodIn_of _ (by decide +kernel)) ggX6_again_X6_trackIn
set_option maxRecDepth 20000 in
theorem ggX6_again_X4_thin : GoodIn wsX6_again wsX4_thin := goodIn_r _ [30, 31, 32, 33, 34, 35, 36, 37, 38, 29, 39, 40, 41, 42, 43, 44, 45, 46, 47, 48, 49, 50, 51, 52, 53, 54, 63, 64, 65, 66, 67] (by decide +kernel) (by decide +kernel)
set_option maxRecDepth 20000 in
theorem gX6_again_X4_thin : GoodIn wsX6_again (wsV RX6 96 RX4 yX4_thin wsX4_thin) := goodIn_app (goodIn_of _ (by decide +kernel)) ggX6_again_X4_thin
theorem dX6_again_0 : decode cX6_again 0 = .ok (.aload_n 0, 1) := by decide +kernel
theorem dX6_again_1 : decode cX6_again 1 = .ok (.iload_n 1, 1) := by decide +kernel
theorem dX6_again_2 : decode cX6_again 2 = .ok (.iconst 2, 1) := by decide +kernel
theorem dX6_again_3 : decode cX6_again 3 = .ok (.invokevirtual 44, 3) := by decide +kernel
theorem dX6_again_6 : decode cX6_again 6 = .ok (.astore_n 3, 1) := by decide +kernel
theorem dX6_again_7 : decode cX6_again 7 = .ok (.iload_n 2, 1) := by decide +kernel
theorem dX6_again_8 : decode cX6_again 8 = .ok (.ifCond .lt 14, 3) := by decide +kernel
theorem dX6_again_11 : decode cX6_again 11 = .ok (.iload_n 2, 1) := by decide +kernel
theorem dX6_again_12 : decode cX6_again 12 = .ok (.ldc 104, 2) := by decide +kernel
theorem dX6_again_14 : decode cX6_again 14 = .ok (.aload_n 3, 1) := by decide +kernel
theorem dX6_again_15 : decode cX6_again 15 = .ok (.getfield 105, 3) := by decide +kernel
theorem dX6_again_18 : decode cX6_again 18 = .ok (.isub, 1) := by decide +kernel
theorem dX6_again_19 : decode cX6_again 19 = .ok (.if_icmp .le 13, 3) := by decide +kernel
theorem dX6_again_22 : decode cX6_again 22 = .ok (.new 73, 3) := by decide +kernel
theorem dX6_again_25 : decode cX6_again 25 = .ok (.dup, 1) := by decide +kernel
theorem dX6_again_26 : decode cX6_again 26 = .ok (.ldc 108, 2) := by decide +kernel
theorem dX6_again_28 : decode cX6_again 28 = .ok (.invokespecial 77, 3) := by decide +kernel
theorem dX6_again_31 : decode cX6_again 31 = .ok (.athrow, 1) := by decide +kernel
theorem dX6_again_32 : decode cX6_again 32 = .ok (.aload_n 0, 1) := by decide +kernel
theorem dX6_again_33 : decode cX6_again 33 = .ok (.getfield 18, 3) := by decide +kernel
theorem dX6_again_36 : decode cX6_again 36 = .ok (.aload_n 3, 1) := by decide +kernel
theorem dX6_again_37 : decode cX6_again 37 = .ok (.getfield 52, 3) := by decide +kernel
theorem dX6_again_40 : decode cX6_again 40 = .ok (.iload_n 2, 1) := by decide +kernel
theorem dX6_again_41 : decode cX6_again 41 = .ok (.invokevirtual 96, 3) := by decide +kernel
theorem dX6_again_44 : decode cX6_again 44 = .ok (.aload_n 3, 1) := by decide +kernel
theorem dX6_again_45 : decode cX6_again 45 = .ok (.dup, 1) := by decide +kernel
theorem dX6_again_46 : decode cX6_again 46 = .ok (.getfield 105, 3) := by decide +kernel
theorem dX6_again_49 : decode cX6_again 49 = .ok (.iload_n 2, 1) := by decide +kernel
theorem dX6_again_50 : decode cX6_again 50 = .ok (.iadd, 1) := by decide +kernel
theorem dX6_again_51 : decode cX6_again 51 = .ok (.putfield 105, 3) := by decide +kernel
theorem dX6_again_54 : decode cX6_again 54 = .ok (.aload_n 3, 1) := by decide +kernel
theorem dX6_again_55 : decode cX6_again 55 = .ok (.getfield 52, 3) := by decide +kernel
theorem dX6_again_58 : decode cX6_again 58 = .ok (.getfield 56, 3) := by decide +kernel
theorem dX6_again_61 : decode cX6_again 61 = .ok (.ireturn, 1) := by decide +kernel
set_option maxRecDepth 20000 in
theorem ggX6_drop_X6_isTrack : GoodIn wsX6_drop wsX6_isTrack := goodIn_r _ [8] (by decide +kernel) (by decide +kernel)
set_option maxRecDepth 20000 in
theorem gX6_drop_X6_isTrack : GoodIn wsX6_drop (va_wsS RX6 110 yX6_isTrack wsX6_isTrack) := goodIn_app (goodIn_of _ (by decide +kernel)) ggX6_drop_X6_isTrack
set_option maxRecDepth 20000 in
theorem ggX6_drop_X5_become : GoodIn wsX6_drop wsX5_become := goodIn_r _ [13, 14, 15, 21, 22, 23] (by decide +kernel) (by decide +kernel)
set_option maxRecDepth 20000 in
theorem gX6_drop_X5_become : GoodIn wsX6_drop (wsV RX6 100 RX5 yX5_become wsX5_become) := goodIn_app (goodIn_of _ (by decide +kernel)) ggX6_drop_X5_become
theorem dX6_drop_0 : decode cX6_drop 0 = .ok (.iload_n 1, 1) := by decide +kernel
theorem dX6_drop_1 : decode cX6_drop 1 = .ok (.invokestatic 110, 3) := by decide +kernel
theorem dX6_drop_4 : decode cX6_drop 4 = .ok (.ifCond .eq 15, 3) := by decide +kernel
theorem dX6_drop_7 : decode cX6_drop 7 = .ok (.aload_n 0, 1) := by decide +kernel
theorem dX6_drop_8 : decode cX6_drop 8 = .ok (.getfield 11, 3) := by decide +kernel
theorem dX6_drop_11 : decode cX6_drop 11 = .ok (.iload_n 1, 1) := by decide +kernel
theorem dX6_drop_12 : decode cX6_drop 12 = .ok (.aaload, 1) := by decide +kernel
theorem dX6_drop_13 : decode cX6_drop 13 = .ok (.getfield 48, 3) := by decide +kernel
theorem dX6_drop_16 : decode cX6_drop 16 = .ok (.ifCond .ne 5, 3) := by decide +kernel
theorem dX6_drop_19 : decode cX6_drop 19 = .ok (.iconst 0, 1) := by decide +kernel
theorem dX6_drop_20 : decode cX6_drop 20 = .ok (.ireturn, 1) := by decide +kernel
theorem dX6_drop_21 : decode cX6_drop 21 = .ok (.aload_n 0, 1) := by decide +kernel
theorem dX6_drop_22 : decode cX6_drop 22 = .ok (.getfield 11, 3) := by decide +kernel
theorem dX6_drop_25 : decode cX6_drop 25 = .ok (.iload_n 1, 1) := by decide +kernel
theorem dX6_drop_26 : decode cX6_drop 26 = .ok (.aaload, 1) := by decide +kernel
theorem dX6_drop_27 : decode cX6_drop 27 = .ok (.getfield 52, 3) := by decide +kernel
theorem dX6_drop_30 : decode cX6_drop 30 = .ok (.iconst 0, 1) := by decide +kernel
theorem dX6_drop_31 : decode cX6_drop 31 = .ok (.putfield 56, 3) := by decide +kernel
theorem dX6_drop_34 : decode cX6_drop 34 = .ok (.aload_n 0, 1) := by decide +kernel
theorem dX6_drop_35 : decode cX6_drop 35 = .ok (.getfield 11, 3) := by decide +kernel
theorem dX6_drop_38 : decode cX6_drop 38 = .ok (.iload_n 1, 1) := by decide +kernel
theorem dX6_drop_39 : decode cX6_drop 39 = .ok (.aaload, 1) := by decide +kernel
theorem dX6_drop_40 : decode cX6_drop 40 = .ok (.iconst 0, 1) := by decide +kernel
theorem dX6_drop_41 : decode cX6_drop 41 = .ok (.iconst (-1), 1) := by decide +kernel
theorem dX6_drop_42 : decode cX6_drop 42 = .ok (.invokevirtual 100, 3) := by decide +kernel
theorem dX6_drop_45 : decode cX6_drop 45 = .ok (.iconst 1, 1) := by decide +kernel
theorem dX6_drop_46 : decode cX6_drop 46 = .ok (.ireturn, 1) := by decide +kernel
set_option maxRecDepth 20000 in
theorem ggX6_track_X6_isTrack : GoodIn wsX6_track wsX6_isTrack := goodIn_r _ [9] (by decide +kernel) (by decide +kernel)
set_option maxRecDepth 20000 in
theorem gX6_track_X6_isTrack : GoodIn wsX6_track (va_wsS RX6 110 yX6_isTrack wsX6_isTrack) := goodIn_app (goodIn_of _ (by decide +kernel)) ggX6_track_X6_isTrack
theorem dX6_track_0 : decode cX6_track 0 = .ok (.iload_n 1, 1) := by decide +kernel
theorem dX6_track_1 : decode cX6_track 1 = .ok (.invokestatic 110, 3) := by decide +kernel
theorem dX6_track_4 : decode cX6_track 4 = .ok (.ifCond .ne 5, 3) := by decide +kernel
theorem dX6_track_7 : decode cX6_track 7 = .ok (.iconst (-1), 1) := by decide +kernel
theorem dX6_track_8 : decode cX6_track 8 = .ok (.ireturn, 1) := by decide +kernel
theorem dX6_track_9 : decode cX6_track 9 = .ok (.iload_n 2, 1) := by decide +kernel
theorem dX6_track_10 : decode cX6_track 10 = .ok (.tableswitch 59 0 2 #[26, 36, 49], 26) := by decide +kernel
theorem dX6_track_36 : decode cX6_track 36 = .ok (.aload_n 0, 1) := by decide +kernel
theorem dX6_track_37 : decode cX6_track 37 = .ok (.getfield 11, 3) := by decide +kernel
theorem dX6_track_40 : decode cX6_track 40 = .ok (.iload_n 1, 1) := by decide +kernel
theorem dX6_track_41 : decode cX6_track 41 = .ok (.aaload, 1) := by decide +kernel
theorem dX6_track_42 : decode cX6_track 42 = .ok (.getfield 48, 3) := by decide +kernel
theorem dX6_track_45 : decode cX6_track 45 = .ok (.ireturn, 1) := by decide +kernel
theorem dX6_track_46 : decode cX6_track 46 = .ok (.aload_n 0, 1) := by decide +kernel
theorem dX6_track_47 : decode cX6_track 47 = .ok (.getfield 11, 3) := by decide +kernel
theorem dX6_track_50 : decode cX6_track 50 = .ok (.iload_n 1, 1) := by decide +kernel
theorem dX6_track_51 : decode cX6_track 51 = .ok (.aaload, 1) := by decide +kernel
theorem dX6_track_52 : decode cX6_track 52 = .ok (.getfield 52, 3) := by decide +kernel
theorem dX6_track_55 : decode cX6_track 55 = .ok (.getfield 56, 3) := by decide +kernel
theorem dX6_track_58 : decode cX6_track 58 = .ok (.ireturn, 1) := by decide +kernel
theorem dX6_track_59 : decode cX6_track 59 = .ok (.aload_n 0, 1) := by decide +kernel
theorem dX6_track_60 : decode cX6_track 60 = .ok (.getfield 11, 3) := by decide +kernel
theorem dX6_track_63 : decode cX6_track 63 = .ok (.iload_n 1, 1) := by decide +kernel
theorem dX6_track_64 : decode cX6_track 64 = .ok (.aaload, 1) := by decide +kernel
theorem dX6_track_65 : decode cX6_track 65 = .ok (.getfield 105, 3) := by decide +kernel
theorem dX6_track_68 : decode cX6_track 68 = .ok (.ireturn, 1) := by decide +kernel
theorem dX6_track_69 : decode cX6_track 69 = .ok (.iconst (-1), 1) := by decide +kernel
theorem dX6_track_70 : decode cX6_track 70 = .ok (.ireturn, 1) := by decide +kernel
set_option maxRecDepth 20000 in
theorem ggX6_sample_X6_trackAt : GoodIn wsX6_sample wsX6_trackAt := goodIn_ca (goodIn_r _ [12, 1, 2, 13, 14, 15, 11, 16, 24, 25, 26, 27, 28] (by decide +kernel) (by decide +kernel)) (goodIn_sub (fun _ h => List.mem_cons_of_mem _ (List.mem_append_right _ h)) (by decide +kernel))
set_option maxRecDepth 20000 in
theorem gX6_sample_X6_trackAt : GoodIn wsX6_sample (wsV RX6 113 RX6 yX6_trackAt wsX6_trackAt) := goodIn_app (goodIn_of _ (by decide +kernel)) ggX6_sample_X6_trackAt
theorem dX6_sample_0 : decode cX6_sample 0 = .ok (.aload_n 0, 1) := by decide +kernel
theorem dX6_sample_1 : decode cX6_sample 1 = .ok (.iload_n 1, 1) := by decide +kernel
theorem dX6_sample_2 : decode cX6_sample 2 = .ok (.invokevirtual 113, 3) := by decide +kernel
theorem dX6_sample_5 : decode cX6_sample 5 = .ok (.getfield 52, 3) := by decide +kernel
theorem dX6_sample_8 : decode cX6_sample 8 = .ok (.astore 4, 2) := by decide +kernel
theorem dX6_sample_10 : decode cX6_sample 10 = .ok (.iload_n 2, 1) := by decide +kernel
theorem dX6_sample_11 : decode cX6_sample 11 = .ok (.ifCond .lt 12, 3) := by decide +kernel
theorem dX6_sample_14 : decode cX6_sample 14 = .ok (.iload_n 2, 1) := by decide +kernel
theorem dX6_sample_15 : decode cX6_sample 15 = .ok (.aload 4, 2) := by decide +kernel
theorem dX6_sample_17 : decode cX6_sample 17 = .ok (.getfield 56, 3) := by decide +kernel
theorem dX6_sample_20 : decode cX6_sample 20 = .ok (.if_icmp .lt 13, 3) := by decide +kernel
theorem dX6_sample_23 : decode cX6_sample 23 = .ok (.new 117, 3) := by decide +kernel
theorem dX6_sample_26 : decode cX6_sample 26 = .ok (.dup, 1) := by decide +kernel
theorem dX6_sample_27 : decode cX6_sample 27 = .ok (.ldc 119, 2) := by decide +kernel
theorem dX6_sample_29 : decode cX6_sample 29 = .ok (.invokespecial 121, 3) := by decide +kernel
theorem dX6_sample_32 : decode cX6_sample 32 = .ok (.athrow, 1) := by decide +kernel
theorem dX6_sample_33 : decode cX6_sample 33 = .ok (.iload_n 3, 1) := by decide +kernel
theorem dX6_sample_34 : decode cX6_sample 34 = .ok (.tableswitch 50 0 2 #[26, 34, 42], 26) := by decide +kernel
theorem dX6_sample_60 : decode cX6_sample 60 = .ok (.aload 4, 2) := by decide +kernel
theorem dX6_sample_62 : decode cX6_sample 62 = .ok (.getfield 78, 3) := by decide +kernel
theorem dX6_sample_65 : decode cX6_sample 65 = .ok (.iload_n 2, 1) := by decide +kernel
theorem dX6_sample_66 : decode cX6_sample 66 = .ok (.iaload, 1) := by decide +kernel
theorem dX6_sample_67 : decode cX6_sample 67 = .ok (.ireturn, 1) := by decide +kernel
theorem dX6_sample_68 : decode cX6_sample 68 = .ok (.aload 4, 2) := by decide +kernel
theorem dX6_sample_70 : decode cX6_sample 70 = .ok (.getfield 122, 3) := by decide +kernel
theorem dX6_sample_73 : decode cX6_sample 73 = .ok (.iload_n 2, 1) := by decide +kernel
theorem dX6_sample_74 : decode cX6_sample 74 = .ok (.iaload, 1) := by decide +kernel
theorem dX6_sample_75 : decode cX6_sample 75 = .ok (.ireturn, 1) := by decide +kernel
theorem dX6_sample_76 : decode cX6_sample 76 = .ok (.aload 4, 2) := by decide +kernel
theorem dX6_sample_78 : decode cX6_sample 78 = .ok (.getfield 125, 3) := by decide +kernel
theorem dX6_sample_81 : decode cX6_sample 81 = .ok (.iload_n 2, 1) := by decide +kernel
theorem dX6_sample_82 : decode cX6_sample 82 = .ok (.iaload, 1) := by decide +kernel
theorem dX6_sample_83 : decode cX6_sample 83 = .ok (.ireturn, 1) := by decide +kernel
theorem dX6_sample_84 : decode cX6_sample 84 = .ok (.new 117, 3) := by decide +kernel
theorem dX6_sample_87 : decode cX6_sample 87 = .ok (.dup, 1) := by decide +kernel
theorem dX6_sample_88 : decode cX6_sample 88 = .ok (.ldc 128, 2) := by decide +kernel
theorem dX6_sample_90 : decode cX6_sample 90 = .ok (.invokespecial 121, 3) := by decide +kernel
theorem dX6_sample_93 : decode cX6_sample 93 = .ok (.athrow, 1) := by decide +kernel
set_option maxRecDepth 20000 in
theorem ggX6_place_X6_trackIn : GoodIn wsX6_place wsX6_trackIn := goodIn_ca (goodIn_ca (goodIn_r _ [12, 13, 14, 15, 16, 17, 18, 11, 19, 20, 21, 22, 23, 24, 25, 39, 40, 41, 46, 47, 48, 49, 50] (by decide +kernel) (by decide +kernel)) (goodIn_sub (fun _ h => List.mem_cons_of_mem _ (List.mem_append_left _ (List.mem_append_right _ h))) (by decide +kernel))) (goodIn_sub (fun _ h => List.mem_cons_of_mem _ (List.mem_append_right _ h)) (by decide +kernel))
set_option maxRecDepth 20000 in
theorem gX6_place_X6_trackIn : GoodIn wsX6_place (wsV RX6 44 RX6 yX6_trackIn wsX6_trackIn) := goodIn_app (goodIn_of _ (by decide +kernel)) ggX6_place_X6_trackIn
set_option maxRecDepth 20000 in
theorem ggX6_place_X2_firstNotBefore : GoodIn wsX6_place wsX2_firstNotBefore := goodIn_r _ [30, 31, 32, 42, 43, 44, 45] (by decide +kernel) (by decide +kernel)
set_option maxRecDepth 20000 in
theorem gX6_place_X2_firstNotBefore : GoodIn wsX6_place (wsV RX6 130 RX2 yX2_firstNotBefore wsX2_firstNotBefore) := goodIn_app (goodIn_of _ (by decide +kernel)) ggX6_place_X2_firstNotBefore
set_option maxRecDepth 20000 in
theorem ggX6_place_X6_lowestTerm : GoodIn wsX6_place wsX6_lowestTerm := goodIn_r _ [35, 36, 37, 11, 38] (by decide +kernel) (by decide +kernel)
set_option maxRecDepth 20000 in
theorem gX6_place_X6_lowestTerm : GoodIn wsX6_place (va_wsS RX6 136 yX6_lowestTerm wsX6_lowestTerm) := goodIn_app (goodIn_of _ (by decide +kernel)) ggX6_place_X6_lowestTerm
theorem dX6_place_0 : decode cX6_place 0 = .ok (.aload_n 0, 1) := by decide +kernel
theorem dX6_place_1 : decode cX6_place 1 = .ok (.iload_n 1, 1) := by decide +kernel
theorem dX6_place_2 : decode cX6_place 2 = .ok (.iconst 2, 1) := by decide +kernel
theorem dX6_place_3 : decode cX6_place 3 = .ok (.invokevirtual 44, 3) := by decide +kernel
theorem dX6_place_6 : decode cX6_place 6 = .ok (.getfield 52, 3) := by decide +kernel
theorem dX6_place_9 : decode cX6_place 9 = .ok (.astore 5, 2) := by decide +kernel
theorem dX6_place_11 : decode cX6_place 11 = .ok (.aload 5, 2) := by decide +kernel
theorem dX6_place_13 : decode cX6_place 13 = .ok (.iload_n 2, 1) := by decide +kernel
theorem dX6_place_14 : decode cX6_place 14 = .ok (.invokevirtual 130, 3) := by decide +kernel
theorem dX6_place_17 : decode cX6_place 17 = .ok (.istore 6, 2) := by decide +kernel
theorem dX6_place_19 : decode cX6_place 19 = .ok (.iload 6, 2) := by decide +kernel
theorem dX6_place_21 : decode cX6_place 21 = .ok (.aload 5, 2) := by decide +kernel
theorem dX6_place_23 : decode cX6_place 23 = .ok (.getfield 56, 3) := by decide +kernel
theorem dX6_place_26 : decode cX6_place 26 = .ok (.if_icmp .ge 14, 3) := by decide +kernel
theorem dX6_place_29 : decode cX6_place 29 = .ok (.iload_n 2, 1) := by decide +kernel
theorem dX6_place_30 : decode cX6_place 30 = .ok (.aload 5, 2) := by decide +kernel
theorem dX6_place_32 : decode cX6_place 32 = .ok (.getfield 78, 3) := by decide +kernel
theorem dX6_place_35 : decode cX6_place 35 = .ok (.iconst 0, 1) := by decide +kernel
theorem dX6_place_36 : decode cX6_place 36 = .ok (.iaload, 1) := by decide +kernel
theorem dX6_place_37 : decode cX6_place 37 = .ok (.if_icmp .ge 13, 3) := by decide +kernel
theorem dX6_place_40 : decode cX6_place 40 = .ok (.new 73, 3) := by decide +kernel
theorem dX6_place_43 : decode cX6_place 43 = .ok (.dup, 1) := by decide +kernel
theorem dX6_place_44 : decode cX6_place 44 = .ok (.ldc 134, 2) := by decide +kernel
theorem dX6_place_46 : decode cX6_place 46 = .ok (.invokespecial 77, 3) := by decide +kernel
theorem dX6_place_49 : decode cX6_place 49 = .ok (.athrow, 1) := by decide +kernel
theorem dX6_place_50 : decode cX6_place 50 = .ok (.iload_n 3, 1) := by decide +kernel
theorem dX6_place_51 : decode cX6_place 51 = .ok (.ifCond .eq 11, 3) := by decide +kernel
theorem dX6_place_54 : decode cX6_place 54 = .ok (.aload 5, 2) := by decide +kernel
theorem dX6_place_56 : decode cX6_place 56 = .ok (.getfield 125, 3) := by decide +kernel
theorem dX6_place_59 : decode cX6_place 59 = .ok (.goto 8, 3) := by decide +kernel
theorem dX6_place_62 : decode cX6_place 62 = .ok (.aload 5, 2) := by decide +kernel
theorem dX6_place_64 : decode cX6_place 64 = .ok (.getfield 122, 3) := by decide +kernel
theorem dX6_place_67 : decode cX6_place 67 = .ok (.astore 7, 2) := by decide +kernel
theorem dX6_place_69 : decode cX6_place 69 = .ok (.aload 5, 2) := by decide +kernel
theorem dX6_place_71 : decode cX6_place 71 = .ok (.getfield 78, 3) := by decide +kernel
theorem dX6_place_74 : decode cX6_place 74 = .ok (.iload 6, 2) := by decide +kernel
theorem dX6_place_76 : decode cX6_place 76 = .ok (.iaload, 1) := by decide +kernel
theorem dX6_place_77 : decode cX6_place 77 = .ok (.iload_n 2, 1) := by decide +kernel
theorem dX6_place_78 : decode cX6_place 78 = .ok (.if_icmp .eq 8, 3) := by decide +kernel
theorem dX6_place_81 : decode cX6_place 81 = .ok (.iload 6, 2) := by decide +kernel
theorem dX6_place_83 : decode cX6_place 83 = .ok (.ifCond .ne 19, 3) := by decide +kernel
theorem dX6_place_86 : decode cX6_place 86 = .ok (.iload 4, 2) := by decide +kernel
theorem dX6_place_88 : decode cX6_place 88 = .ok (.ifCond .eq 7, 3) := by decide +kernel
theorem dX6_place_91 : decode cX6_place 91 = .ok (.lconst 1, 1) := by decide +kernel
theorem dX6_place_92 : decode cX6_place 92 = .ok (.goto 9, 3) := by decide +kernel
theorem dX6_place_95 : decode cX6_place 95 = .ok (.aload 7, 2) := by decide +kernel
theorem dX6_place_97 : decode cX6_place 97 = .ok (.iload 6, 2) := by decide +kernel
theorem dX6_place_99 : decode cX6_place 99 = .ok (.iaload, 1) := by decide +kernel
theorem dX6_place_100 : decode cX6_place 100 = .ok (.i2l, 1) := by decide +kernel
theorem dX6_place_101 : decode cX6_place 101 = .ok (.lreturn, 1) := by decide +kernel
theorem dX6_place_102 : decode cX6_place 102 = .ok (.iload 6, 2) := by decide +kernel
theorem dX6_place_104 : decode cX6_place 104 = .ok (.iconst 1, 1) := by decide +kernel
theorem dX6_place_105 : decode cX6_place 105 = .ok (.isub, 1) := by decide +kernel
theorem dX6_place_106 : decode cX6_place 106 = .ok (.istore 8, 2) := by decide +kernel
theorem dX6_place_108 : decode cX6_place 108 = .ok (.aload 5, 2) := by decide +kernel
theorem dX6_place_110 : decode cX6_place 110 = .ok (.getfield 78, 3) := by decide +kernel
theorem dX6_place_113 : decode cX6_place 113 = .ok (.iload 6, 2) := by decide +kernel
theorem dX6_place_115 : decode cX6_place 115 = .ok (.iaload, 1) := by decide +kernel
theorem dX6_place_116 : decode cX6_place 116 = .ok (.aload 5, 2) := by decide +kernel
theorem dX6_place_118 : decode cX6_place 118 = .ok (.getfield 78, 3) := by decide +kernel
theorem dX6_place_121 : decode cX6_place 121 = .ok (.iload 8, 2) := by decide +kernel
theorem dX6_place_123 : decode cX6_place 123 = .ok (.iaload, 1) := by decide +kernel
theorem dX6_place_124 : decode cX6_place 124 = .ok (.isub, 1) := by decide +kernel
theorem dX6_place_125 : decode cX6_place 125 = .ok (.i2l, 1) := by decide +kernel
theorem dX6_place_126 : decode cX6_place 126 = .ok (.lstore 9, 2) := by decide +kernel
theorem dX6_place_128 : decode cX6_place 128 = .ok (.iload_n 2, 1) := by decide +kernel
theorem dX6_place_129 : decode cX6_place 129 = .ok (.aload 5, 2) := by decide +kernel
theorem dX6_place_131 : decode cX6_place 131 = .ok (.getfield 78, 3) := by decide +kernel
theorem dX6_place_134 : decode cX6_place 134 = .ok (.iload 8, 2) := by decide +kernel
theorem dX6_place_136 : decode cX6_place 136 = .ok (.iaload, 1) := by decide +kernel
theorem dX6_place_137 : decode cX6_place 137 = .ok (.isub, 1) := by decide +kernel
theorem dX6_place_138 : decode cX6_place 138 = .ok (.i2l, 1) := by decide +kernel
theorem dX6_place_139 : decode cX6_place 139 = .ok (.lstore 11, 2) := by decide +kernel
theorem dX6_place_141 : decode cX6_place 141 = .ok (.aload 7, 2) := by decide +kernel
theorem dX6_place_143 : decode cX6_place 143 = .ok (.iload 8, 2) := by decide +kernel
theorem dX6_place_145 : decode cX6_place 145 = .ok (.iaload, 1) := by decide +kernel
theorem dX6_place_146 : decode cX6_place 146 = .ok (.i2l, 1) := by decide +kernel
theorem dX6_place_147 : decode cX6_place 147 = .ok (.lload 9, 2) := by decide +kernel
theorem dX6_place_149 : decode cX6_place 149 = .ok (.lmul, 1) := by decide +kernel
theorem dX6_place_150 : decode cX6_place 150 = .ok (.aload 7, 2) := by decide +kernel
theorem dX6_place_152 : decode cX6_place 152 = .ok (.iload 6, 2) := by decide +kernel
theorem dX6_place_154 : decode cX6_place 154 = .ok (.iaload, 1) := by decide +kernel
theorem dX6_place_155 : decode cX6_place 155 = .ok (.aload 7, 2) := by decide +kernel
theorem dX6_place_157 : decode cX6_place 157 = .ok (.iload 8, 2) := by decide +kernel
theorem dX6_place_159 : decode cX6_place 159 = .ok (.iaload, 1) := by decide +kernel
theorem dX6_place_160 : decode cX6_place 160 = .ok (.isub, 1) := by decide +kernel
theorem dX6_place_161 : decode cX6_place 161 = .ok (.i2l, 1) := by decide +kernel
theorem dX6_place_162 : decode cX6_place 162 = .ok (.lload 11, 2) := by decide +kernel
theorem dX6_place_164 : decode cX6_place 164 = .ok (.lmul, 1) := by decide +kernel
theorem dX6_place_165 : decode cX6_place 165 = .ok (.ladd, 1) := by decide +kernel
theorem dX6_place_166 : decode cX6_place 166 = .ok (.lload 9, 2) := by decide +kernel
theorem dX6_place_168 : decode cX6_place 168 = .ok (.iload 4, 2) := by decide +kernel
theorem dX6_place_170 : decode cX6_place 170 = .ok (.invokestatic 136, 3) := by decide +kernel
theorem dX6_place_173 : decode cX6_place 173 = .ok (.lreturn, 1) := by decide +kernel
set_option maxRecDepth 20000 in
theorem ggX6_pack_X6_trackIn : GoodIn wsX6_pack wsX6_trackIn := goodIn_ca (goodIn_ca (goodIn_r _ [8, 9, 10, 11, 12, 13, 14, 7, 15, 16, 17, 18, 19, 20, 21, 49, 50, 51, 44, 45, 46, 47, 48] (by decide +kernel) (by decide +kernel)) (goodIn_sub (fun _ h => List.mem_cons_of_mem _ (List.mem_append_left _ (List.mem_append_right _ h))) (by decide +kernel))) (goodIn_sub (fun _ h => List.mem_cons_of_mem _ (List.mem_append_right _ h)) (by decide +kernel))
set_option maxRecDepth 20000 in
theorem gX6_pack_X6_trackIn : GoodIn wsX6_pack (wsV RX6 44 RX6 yX6_trackIn wsX6_trackIn) := goodIn_app (goodIn_of _ (by decide +kernel)) ggX6_pack_X6_trackIn
set_option maxRecDepth 20000 in
theorem ggX6_pack_X0_write : GoodIn wsX6_pack wsX0_write := goodIn_r _ [26, 27, 28, 29, 30, 31, 32, 33, 34, 25, 35, 36, 37, 38, 39, 40, 41, 42, 43, 52, 53, 54, 55, 56, 57] (by decide +kernel) (by decide +kernel)
set_option maxRecDepth 20000 in
theorem gX6_pack_X0_write : GoodIn wsX6_pack (wsV RX6 140 RX0 yX0_write wsX0_write) := goodIn_app (goodIn_of _ (by decide +kernel)) ggX6_pack_X0_write
theorem dX6_pack_0 : decode cX6_pack 0 = .ok (.aload_n 0, 1) := by decide +kernel
theorem dX6_pack_1 : decode cX6_pack 1 = .ok (.getfield 25, 3) := by decide +kernel
theorem dX6_pack_4 : decode cX6_pack 4 = .ok (.aload_n 0, 1) := by decide +kernel
theorem dX6_pack_5 : decode cX6_pack 5 = .ok (.iload_n 1, 1) := by decide +kernel
theorem dX6_pack_6 : decode cX6_pack 6 = .ok (.iconst 2, 1) := by decide +kernel
theorem dX6_pack_7 : decode cX6_pack 7 = .ok (.invokevirtual 44, 3) := by decide +kernel
theorem dX6_pack_10 : decode cX6_pack 10 = .ok (.getfield 52, 3) := by decide +kernel
theorem dX6_pack_13 : decode cX6_pack 13 = .ok (.invokevirtual 140, 3) := by decide +kernel
theorem dX6_pack_16 : decode cX6_pack 16 = .ok (.aload_n 0, 1) := by decide +kernel
theorem dX6_pack_17 : decode cX6_pack 17 = .ok (.getfield 25, 3) := by decide +kernel
theorem dX6_pack_20 : decode cX6_pack 20 = .ok (.getfield 144, 3) := by decide +kernel
theorem dX6_pack_23 : decode cX6_pack 23 = .ok (.ireturn, 1) := by decide +kernel
theorem dX6_bytes_0 : decode cX6_bytes 0 = .ok (.iload_n 1, 1) := by decide +kernel
theorem dX6_bytes_1 : decode cX6_bytes 1 = .ok (.iconst (-1), 1) := by decide +kernel
theorem dX6_bytes_2 : decode cX6_bytes 2 = .ok (.if_icmp .ne 11, 3) := by decide +kernel
theorem dX6_bytes_5 : decode cX6_bytes 5 = .ok (.aload_n 0, 1) := by decide +kernel
theorem dX6_bytes_6 : decode cX6_bytes 6 = .ok (.getfield 25, 3) := by decide +kernel
theorem dX6_bytes_9 : decode cX6_bytes 9 = .ok (.getfield 144, 3) := by decide +kernel
theorem dX6_bytes_12 : decode cX6_bytes 12 = .ok (.ireturn, 1) := by decide +kernel
theorem dX6_bytes_13 : decode cX6_bytes 13 = .ok (.iload_n 1, 1) := by decide +kernel
theorem dX6_bytes_14 : decode cX6_bytes 14 = .ok (.ifCond .lt 26, 3) := by decide +kernel
theorem dX6_bytes_17 : decode cX6_bytes 17 = .ok (.iload_n 1, 1) := by decide +kernel
theorem dX6_bytes_18 : decode cX6_bytes 18 = .ok (.aload_n 0, 1) := by decide +kernel
theorem dX6_bytes_19 : decode cX6_bytes 19 = .ok (.getfield 25, 3) := by decide +kernel
theorem dX6_bytes_22 : decode cX6_bytes 22 = .ok (.getfield 144, 3) := by decide +kernel
theorem dX6_bytes_25 : decode cX6_bytes 25 = .ok (.if_icmp .ge 15, 3) := by decide +kernel
theorem dX6_bytes_28 : decode cX6_bytes 28 = .ok (.aload_n 0, 1) := by decide +kernel
theorem dX6_bytes_29 : decode cX6_bytes 29 = .ok (.getfield 25, 3) := by decide +kernel
theorem dX6_bytes_32 : decode cX6_bytes 32 = .ok (.getfield 145, 3) := by decide +kernel
theorem dX6_bytes_35 : decode cX6_bytes 35 = .ok (.iload_n 1, 1) := by decide +kernel
theorem dX6_bytes_36 : decode cX6_bytes 36 = .ok (.iaload, 1) := by decide +kernel
theorem dX6_bytes_37 : decode cX6_bytes 37 = .ok (.goto 4, 3) := by decide +kernel
theorem dX6_bytes_40 : decode cX6_bytes 40 = .ok (.iconst (-1), 1) := by decide +kernel
theorem dX6_bytes_41 : decode cX6_bytes 41 = .ok (.ireturn, 1) := by decide +kernel
set_option maxRecDepth 20000 in
theorem ggX6_put_X0_append : GoodIn wsX6_put wsX0_append := goodIn_r _ [7, 8, 9, 15, 16] (by decide +kernel) (by decide +kernel)
set_option maxRecDepth 20000 in
theorem gX6_put_X0_append : GoodIn wsX6_put (wsV RX6 148 RX0 yX0_append wsX0_append) := goodIn_app (goodIn_of _ (by decide +kernel)) ggX6_put_X0_append
theorem dX6_put_0 : decode cX6_put 0 = .ok (.iload_n 1, 1) := by decide +kernel
theorem dX6_put_1 : decode cX6_put 1 = .ok (.iconst 1, 1) := by decide +kernel
theorem dX6_put_2 : decode cX6_put 2 = .ok (.if_icmp .lt 24, 3) := by decide +kernel
theorem dX6_put_5 : decode cX6_put 5 = .ok (.iload_n 1, 1) := by decide +kernel
theorem dX6_put_6 : decode cX6_put 6 = .ok (.bipush 8, 2) := by decide +kernel
theorem dX6_put_8 : decode cX6_put 8 = .ok (.if_icmp .gt 18, 3) := by decide +kernel
theorem dX6_put_11 : decode cX6_put 11 = .ok (.iload_n 1, 1) := by decide +kernel
theorem dX6_put_12 : decode cX6_put 12 = .ok (.sipush 300, 3) := by decide +kernel
theorem dX6_put_15 : decode cX6_put 15 = .ok (.aload_n 0, 1) := by decide +kernel
theorem dX6_put_16 : decode cX6_put 16 = .ok (.getfield 25, 3) := by decide +kernel
theorem dX6_put_19 : decode cX6_put 19 = .ok (.getfield 144, 3) := by decide +kernel
theorem dX6_put_22 : decode cX6_put 22 = .ok (.isub, 1) := by decide +kernel
theorem dX6_put_23 : decode cX6_put 23 = .ok (.if_icmp .le 5, 3) := by decide +kernel
theorem dX6_put_26 : decode cX6_put 26 = .ok (.iconst 0, 1) := by decide +kernel
theorem dX6_put_27 : decode cX6_put 27 = .ok (.ireturn, 1) := by decide +kernel
theorem dX6_put_28 : decode cX6_put 28 = .ok (.iload_n 1, 1) := by decide +kernel
theorem dX6_put_29 : decode cX6_put 29 = .ok (.iconst 1, 1) := by decide +kernel
theorem dX6_put_30 : decode cX6_put 30 = .ok (.isub, 1) := by decide +kernel
theorem dX6_put_31 : decode cX6_put 31 = .ok (.istore 4, 2) := by decide +kernel
theorem dX6_put_33 : decode cX6_put 33 = .ok (.iload 4, 2) := by decide +kernel
theorem dX6_put_35 : decode cX6_put 35 = .ok (.ifCond .lt 28, 3) := by decide +kernel
theorem dX6_put_38 : decode cX6_put 38 = .ok (.aload_n 0, 1) := by decide +kernel
theorem dX6_put_39 : decode cX6_put 39 = .ok (.getfield 25, 3) := by decide +kernel
theorem dX6_put_42 : decode cX6_put 42 = .ok (.lload_n 2, 1) := by decide +kernel
theorem dX6_put_43 : decode cX6_put 43 = .ok (.bipush 8, 2) := by decide +kernel
theorem dX6_put_45 : decode cX6_put 45 = .ok (.iload 4, 2) := by decide +kernel
theorem dX6_put_47 : decode cX6_put 47 = .ok (.imul, 1) := by decide +kernel
theorem dX6_put_48 : decode cX6_put 48 = .ok (.lushr, 1) := by decide +kernel
theorem dX6_put_49 : decode cX6_put 49 = .ok (.l2i, 1) := by decide +kernel
theorem dX6_put_50 : decode cX6_put 50 = .ok (.sipush 255, 3) := by decide +kernel
theorem dX6_put_53 : decode cX6_put 53 = .ok (.iand, 1) := by decide +kernel
theorem dX6_put_54 : decode cX6_put 54 = .ok (.invokevirtual 148, 3) := by decide +kernel
theorem dX6_put_57 : decode cX6_put 57 = .ok (.iinc 4 (-1), 3) := by decide +kernel
theorem dX6_put_60 : decode cX6_put 60 = .ok (.goto (-27), 3) := by decide +kernel
theorem dX6_put_63 : decode cX6_put 63 = .ok (.iconst 1, 1) := by decide +kernel
theorem dX6_put_64 : decode cX6_put 64 = .ok (.ireturn, 1) := by decide +kernel
theorem dX6_cut_0 : decode cX6_cut 0 = .ok (.iload_n 1, 1) := by decide +kernel
theorem dX6_cut_1 : decode cX6_cut 1 = .ok (.ifCond .lt 14, 3) := by decide +kernel
theorem dX6_cut_4 : decode cX6_cut 4 = .ok (.iload_n 1, 1) := by decide +kernel
theorem dX6_cut_5 : decode cX6_cut 5 = .ok (.aload_n 0, 1) := by decide +kernel
theorem dX6_cut_6 : decode cX6_cut 6 = .ok (.getfield 25, 3) := by decide +kernel
theorem dX6_cut_9 : decode cX6_cut 9 = .ok (.getfield 144, 3) := by decide +kernel
theorem dX6_cut_12 : decode cX6_cut 12 = .ok (.if_icmp .le 5, 3) := by decide +kernel
theorem dX6_cut_15 : decode cX6_cut 15 = .ok (.iconst 0, 1) := by decide +kernel
theorem dX6_cut_16 : decode cX6_cut 16 = .ok (.ireturn, 1) := by decide +kernel
theorem dX6_cut_17 : decode cX6_cut 17 = .ok (.aload_n 0, 1) := by decide +kernel
theorem dX6_cut_18 : decode cX6_cut 18 = .ok (.getfield 25, 3) := by decide +kernel
theorem dX6_cut_21 : decode cX6_cut 21 = .ok (.iload_n 1, 1) := by decide +kernel
theorem dX6_cut_22 : decode cX6_cut 22 = .ok (.putfield 144, 3) := by decide +kernel
theorem dX6_cut_25 : decode cX6_cut 25 = .ok (.iconst 1, 1) := by decide +kernel
theorem dX6_cut_26 : decode cX6_cut 26 = .ok (.ireturn, 1) := by decide +kernel
set_option maxRecDepth 20000 in
theorem ggX6_unpack_X6_trackIn : GoodIn wsX6_unpack wsX6_trackIn := goodIn_ca (goodIn_ca (goodIn_r _ [12, 13, 14, 15, 16, 17, 18, 11, 19, 20, 21, 22, 23, 24, 25, 86, 87, 88, 81, 82, 83, 84, 85] (by decide +kernel) (by decide +kernel)) (goodIn_sub (fun _ h => List.mem_cons_of_mem _ (List.mem_append_left _ (List.mem_append_right _ h))) (by decide +kernel))) (goodIn_sub (fun _ h => List.mem_cons_of_mem _ (List.mem_append_right _ h)) (by decide +kernel))
set_option maxRecDepth 20000 in
theorem gX6_unpack_X6_trackIn : GoodIn wsX6_unpack (wsV RX6 44 RX6 yX6_trackIn wsX6_trackIn) := goodIn_app (goodIn_of _ (by decide +kernel)) ggX6_unpack_X6_trackIn
set_option maxRecDepth 20000 in
theorem ggX6_unpack_X6_isBound : GoodIn wsX6_unpack wsX6_isBound := goodIn_r _ [28, 29] (by decide +kernel) (by decide +kernel)
set_option maxRecDepth 20000 in
theorem gX6_unpack_X6_isBound : GoodIn wsX6_unpack (va_wsS RX6 90 yX6_isBound wsX6_isBound) := goodIn_app (goodIn_of _ (by decide +kernel)) ggX6_unpack_X6_isBound
set_option maxRecDepth 20000 in
theorem ggX6_unpack_X1_read : GoodIn wsX6_unpack wsX1_read := goodIn_r _ [34, 35, 36, 37, 38, 39, 40, 41, 42, 43, 33, 44, 45, 46, 47, 48, 49, 50, 51, 52, 53, 54, 55, 56, 57, 58, 59, 60, 61, 62, 63, 64, 65, 66, 67, 68, 89, 90, 91, 92, 93, 94, 95, 96, 97] (by decide +kernel) (by decide +kernel)
set_option maxRecDepth 20000 in
theorem gX6_unpack_X1_read : GoodIn wsX6_unpack (wsV RX6 151 RX1 yX1_read wsX1_read) := goodIn_app (goodIn_of _ (by decide +kernel)) ggX6_unpack_X1_read
set_option maxRecDepth 20000 in
theorem ggX6_unpack_X2_copyFrom : GoodIn wsX6_unpack wsX2_copyFrom := goodIn_r _ [72, 65, 66, 67, 68, 73, 61, 62, 63, 64, 92, 93, 94, 95] (by decide +kernel) (by decide +kernel)
set_option maxRecDepth 20000 in
theorem gX6_unpack_X2_copyFrom : GoodIn wsX6_unpack (wsV RX6 156 RX2 yX2_copyFrom wsX2_copyFrom) := goodIn_app (goodIn_of _ (by decide +kernel)) ggX6_unpack_X2_copyFrom
set_option maxRecDepth 20000 in
theorem ggX6_unpack_X5_become : GoodIn wsX6_unpack wsX5_become := goodIn_r _ [78, 79, 80, 86, 87, 88] (by decide +kernel) (by decide +kernel)
set_option maxRecDepth 20000 in
theorem gX6_unpack_X5_become : GoodIn wsX6_unpack (wsV RX6 100 RX5 yX5_become wsX5_become) := goodIn_app (goodIn_of _ (by decide +kernel)) ggX6_unpack_X5_become
theorem dX6_unpack_0 : decode cX6_unpack 0 = .ok (.aload_n 0, 1) := by decide +kernel
theorem dX6_unpack_1 : decode cX6_unpack 1 = .ok (.iload_n 1, 1) := by decide +kernel
theorem dX6_unpack_2 : decode cX6_unpack 2 = .ok (.iconst 0, 1) := by decide +kernel
theorem dX6_unpack_3 : decode cX6_unpack 3 = .ok (.invokevirtual 44, 3) := by decide +kernel
theorem dX6_unpack_6 : decode cX6_unpack 6 = .ok (.astore_n 3, 1) := by decide +kernel
theorem dX6_unpack_7 : decode cX6_unpack 7 = .ok (.iload_n 2, 1) := by decide +kernel
theorem dX6_unpack_8 : decode cX6_unpack 8 = .ok (.invokestatic 90, 3) := by decide +kernel
theorem dX6_unpack_11 : decode cX6_unpack 11 = .ok (.ifCond .ne 13, 3) := by decide +kernel
theorem dX6_unpack_14 : decode cX6_unpack 14 = .ok (.new 73, 3) := by decide +kernel
theorem dX6_unpack_17 : decode cX6_unpack 17 = .ok (.dup, 1) := by decide +kernel
theorem dX6_unpack_18 : decode cX6_unpack 18 = .ok (.ldc 94, 2) := by decide +kernel
theorem dX6_unpack_20 : decode cX6_unpack 20 = .ok (.invokespecial 77, 3) := by decide +kernel
theorem dX6_unpack_23 : decode cX6_unpack 23 = .ok (.athrow, 1) := by decide +kernel
theorem dX6_unpack_24 : decode cX6_unpack 24 = .ok (.aload_n 0, 1) := by decide +kernel
theorem dX6_unpack_25 : decode cX6_unpack 25 = .ok (.getfield 32, 3) := by decide +kernel
theorem dX6_unpack_28 : decode cX6_unpack 28 = .ok (.aload_n 0, 1) := by decide +kernel
theorem dX6_unpack_29 : decode cX6_unpack 29 = .ok (.getfield 25, 3) := by decide +kernel
theorem dX6_unpack_32 : decode cX6_unpack 32 = .ok (.invokevirtual 151, 3) := by decide +kernel
theorem dX6_unpack_35 : decode cX6_unpack 35 = .ok (.istore 4, 2) := by decide +kernel
theorem dX6_unpack_37 : decode cX6_unpack 37 = .ok (.iload 4, 2) := by decide +kernel
theorem dX6_unpack_39 : decode cX6_unpack 39 = .ok (.iconst (-1), 1) := by decide +kernel
theorem dX6_unpack_40 : decode cX6_unpack 40 = .ok (.if_icmp .eq 9, 3) := by decide +kernel
theorem dX6_unpack_43 : decode cX6_unpack 43 = .ok (.bipush (-2), 2) := by decide +kernel
theorem dX6_unpack_45 : decode cX6_unpack 45 = .ok (.iload 4, 2) := by decide +kernel
theorem dX6_unpack_47 : decode cX6_unpack 47 = .ok (.isub, 1) := by decide +kernel
theorem dX6_unpack_48 : decode cX6_unpack 48 = .ok (.ireturn, 1) := by decide +kernel
theorem dX6_unpack_49 : decode cX6_unpack 49 = .ok (.aload_n 3, 1) := by decide +kernel
theorem dX6_unpack_50 : decode cX6_unpack 50 = .ok (.getfield 52, 3) := by decide +kernel
theorem dX6_unpack_53 : decode cX6_unpack 53 = .ok (.aload_n 0, 1) := by decide +kernel
theorem dX6_unpack_54 : decode cX6_unpack 54 = .ok (.getfield 32, 3) := by decide +kernel
theorem dX6_unpack_57 : decode cX6_unpack 57 = .ok (.getfield 155, 3) := by decide +kernel
theorem dX6_unpack_60 : decode cX6_unpack 60 = .ok (.invokevirtual 156, 3) := by decide +kernel
theorem dX6_unpack_63 : decode cX6_unpack 63 = .ok (.aload_n 3, 1) := by decide +kernel
theorem dX6_unpack_64 : decode cX6_unpack 64 = .ok (.iconst 2, 1) := by decide +kernel
theorem dX6_unpack_65 : decode cX6_unpack 65 = .ok (.iload_n 2, 1) := by decide +kernel
theorem dX6_unpack_66 : decode cX6_unpack 66 = .ok (.invokevirtual 100, 3) := by decide +kernel
theorem dX6_unpack_69 : decode cX6_unpack 69 = .ok (.aload_n 3, 1) := by decide +kernel
theorem dX6_unpack_70 : decode cX6_unpack 70 = .ok (.getfield 52, 3) := by decide +kernel
theorem dX6_unpack_73 : decode cX6_unpack 73 = .ok (.getfield 56, 3) := by decide +kernel
theorem dX6_unpack_76 : decode cX6_unpack 76 = .ok (.ireturn, 1) := by decide +kernel
set_option maxRecDepth 20000 in
theorem ggX6_spans_X6_trackIn : GoodIn wsX6_spans wsX6_trackIn := goodIn_ca (goodIn_ca (goodIn_r _ [12, 13, 14, 15, 16, 17, 18, 11, 19, 20, 21, 22, 23, 24, 25, 82, 83, 84, 68, 69, 70, 71, 72] (by decide +kernel) (by decide +kernel)) (goodIn_sub (fun _ h => List.mem_cons_of_mem _ (List.mem_append_left _ (List.mem_append_right _ h))) (by decide +kernel))) (goodIn_sub (fun _ h => List.mem_cons_of_mem _ (List.mem_append_right _ h)) (by decide +kernel))
set_option maxRecDepth 20000 in
theorem gX6_spans_X6_trackIn : GoodIn wsX6_spans (wsV RX6 44 RX6 yX6_trackIn wsX6_trackIn) := goodIn_app (goodIn_of _ (by decide +kernel)) ggX6_spans_X6_trackIn
set_option maxRecDepth 20000 in
theorem ggX6_spans_X6_isBeyond : GoodIn wsX6_spans wsX6_isBeyond := goodIn_r _ [28] (by decide +kernel) (by decide +kernel)
set_option maxRecDepth 20000 in
theorem gX6_spans_X6_isBeyond : GoodIn wsX6_spans (va_wsS RX6 69 yX6_isBeyond wsX6_isBeyond) := goodIn_app (goodIn_of _ (by decide +kernel)) ggX6_spans_X6_isBeyond
set_option maxRecDepth 20000 in
theorem ggX6_spans_X3_find : GoodIn wsX6_spans wsX3_find := goodIn_r _ [33, 34, 35, 36, 37, 38, 39, 40, 41, 42, 43, 44, 45, 32, 46, 47, 48, 49, 50, 51, 52, 53, 54, 55, 56, 57, 58, 59, 60, 61, 62, 63, 64, 65, 66, 67, 73, 74, 75, 76, 77, 78, 79, 80, 81, 85, 86, 87, 88] (by decide +kernel) (by decide +kernel)
set_option maxRecDepth 20000 in
theorem gX6_spans_X3_find : GoodIn wsX6_spans (wsV RX6 163 RX3 yX3_find wsX3_find) := goodIn_app (goodIn_of _ (by decide +kernel)) ggX6_spans_X3_find
theorem dX6_spans_0 : decode cX6_spans 0 = .ok (.aload_n 0, 1) := by decide +kernel
theorem dX6_spans_1 : decode cX6_spans 1 = .ok (.iload_n 1, 1) := by decide +kernel
theorem dX6_spans_2 : decode cX6_spans 2 = .ok (.iconst 2, 1) := by decide +kernel
theorem dX6_spans_3 : decode cX6_spans 3 = .ok (.invokevirtual 44, 3) := by decide +kernel
theorem dX6_spans_6 : decode cX6_spans 6 = .ok (.astore 6, 2) := by decide +kernel
theorem dX6_spans_8 : decode cX6_spans 8 = .ok (.iload_n 2, 1) := by decide +kernel
theorem dX6_spans_9 : decode cX6_spans 9 = .ok (.ldc 159, 2) := by decide +kernel
theorem dX6_spans_11 : decode cX6_spans 11 = .ok (.invokestatic 69, 3) := by decide +kernel
theorem dX6_spans_14 : decode cX6_spans 14 = .ok (.ifCond .ne 32, 3) := by decide +kernel
theorem dX6_spans_17 : decode cX6_spans 17 = .ok (.iload_n 3, 1) := by decide +kernel
theorem dX6_spans_18 : decode cX6_spans 18 = .ok (.ldc 159, 2) := by decide +kernel
theorem dX6_spans_20 : decode cX6_spans 20 = .ok (.invokestatic 69, 3) := by decide +kernel
theorem dX6_spans_23 : decode cX6_spans 23 = .ok (.ifCond .ne 23, 3) := by decide +kernel
theorem dX6_spans_26 : decode cX6_spans 26 = .ok (.iload 4, 2) := by decide +kernel
theorem dX6_spans_28 : decode cX6_spans 28 = .ok (.ldc 159, 2) := by decide +kernel
theorem dX6_spans_30 : decode cX6_spans 30 = .ok (.invokestatic 69, 3) := by decide +kernel
theorem dX6_spans_33 : decode cX6_spans 33 = .ok (.ifCond .ne 13, 3) := by decide +kernel
theorem dX6_spans_36 : decode cX6_spans 36 = .ok (.iload 5, 2) := by decide +kernel
theorem dX6_spans_38 : decode cX6_spans 38 = .ok (.ldc 159, 2) := by decide +kernel
theorem dX6_spans_40 : decode cX6_spans 40 = .ok (.invokestatic 69, 3) := by decide +kernel
theorem dX6_spans_43 : decode cX6_spans 43 = .ok (.ifCond .eq 13, 3) := by decide +kernel
theorem dX6_spans_46 : decode cX6_spans 46 = .ok (.new 73, 3) := by decide +kernel
theorem dX6_spans_49 : decode cX6_spans 49 = .ok (.dup, 1) := by decide +kernel
theorem dX6_spans_50 : decode cX6_spans 50 = .ok (.ldc 160, 2) := by decide +kernel
theorem dX6_spans_52 : decode cX6_spans 52 = .ok (.invokespecial 77, 3) := by decide +kernel
theorem dX6_spans_55 : decode cX6_spans 55 = .ok (.athrow, 1) := by decide +kernel
theorem dX6_spans_56 : decode cX6_spans 56 = .ok (.iload_n 2, 1) := by decide +kernel
theorem dX6_spans_57 : decode cX6_spans 57 = .ok (.iload 4, 2) := by decide +kernel
theorem dX6_spans_59 : decode cX6_spans 59 = .ok (.if_icmp .gt 9, 3) := by decide +kernel
theorem dX6_spans_62 : decode cX6_spans 62 = .ok (.iload_n 3, 1) := by decide +kernel
theorem dX6_spans_63 : decode cX6_spans 63 = .ok (.iload 5, 2) := by decide +kernel
theorem dX6_spans_65 : decode cX6_spans 65 = .ok (.if_icmp .le 13, 3) := by decide +kernel
theorem dX6_spans_68 : decode cX6_spans 68 = .ok (.aload_n 0, 1) := by decide +kernel
theorem dX6_spans_69 : decode cX6_spans 69 = .ok (.getfield 39, 3) := by decide +kernel
theorem dX6_spans_72 : decode cX6_spans 72 = .ok (.iconst 0, 1) := by decide +kernel
theorem dX6_spans_73 : decode cX6_spans 73 = .ok (.putfield 162, 3) := by decide +kernel
theorem dX6_spans_76 : decode cX6_spans 76 = .ok (.iconst 0, 1) := by decide +kernel
theorem dX6_spans_77 : decode cX6_spans 77 = .ok (.ireturn, 1) := by decide +kernel
theorem dX6_spans_78 : decode cX6_spans 78 = .ok (.aload 6, 2) := by decide +kernel
theorem dX6_spans_80 : decode cX6_spans 80 = .ok (.getfield 105, 3) := by decide +kernel
theorem dX6_spans_83 : decode cX6_spans 83 = .ok (.istore 7, 2) := by decide +kernel
theorem dX6_spans_85 : decode cX6_spans 85 = .ok (.aload_n 0, 1) := by decide +kernel
theorem dX6_spans_86 : decode cX6_spans 86 = .ok (.getfield 39, 3) := by decide +kernel
theorem dX6_spans_89 : decode cX6_spans 89 = .ok (.aload 6, 2) := by decide +kernel
theorem dX6_spans_91 : decode cX6_spans 91 = .ok (.getfield 52, 3) := by decide +kernel
theorem dX6_spans_94 : decode cX6_spans 94 = .ok (.iload_n 2, 1) := by decide +kernel
theorem dX6_spans_95 : decode cX6_spans 95 = .ok (.iload 7, 2) := by decide +kernel
theorem dX6_spans_97 : decode cX6_spans 97 = .ok (.isub, 1) := by decide +kernel
theorem dX6_spans_98 : decode cX6_spans 98 = .ok (.iload 4, 2) := by decide +kernel
theorem dX6_spans_100 : decode cX6_spans 100 = .ok (.iload 7, 2) := by decide +kernel
theorem dX6_spans_102 : decode cX6_spans 102 = .ok (.iadd, 1) := by decide +kernel
theorem dX6_spans_103 : decode cX6_spans 103 = .ok (.iload_n 3, 1) := by decide +kernel
theorem dX6_spans_104 : decode cX6_spans 104 = .ok (.iload 7, 2) := by decide +kernel
theorem dX6_spans_106 : decode cX6_spans 106 = .ok (.isub, 1) := by decide +kernel
theorem dX6_spans_107 : decode cX6_spans 107 = .ok (.iload 5, 2) := by decide +kernel
theorem dX6_spans_109 : decode cX6_spans 109 = .ok (.iload 7, 2) := by decide +kernel
theorem dX6_spans_111 : decode cX6_spans 111 = .ok (.iadd, 1) := by decide +kernel
theorem dX6_spans_112 : decode cX6_spans 112 = .ok (.invokevirtual 163, 3) := by decide +kernel
theorem dX6_spans_115 : decode cX6_spans 115 = .ok (.aload_n 0, 1) := by decide +kernel
theorem dX6_spans_116 : decode cX6_spans 116 = .ok (.getfield 39, 3) := by decide +kernel
theorem dX6_spans_119 : decode cX6_spans 119 = .ok (.getfield 162, 3) := by decide +kernel
theorem dX6_spans_122 : decode cX6_spans 122 = .ok (.ireturn, 1) := by decide +kernel
set_option maxRecDepth 20000 in
theorem ggX6_span_X6_lowestTerm : GoodIn wsX6_span wsX6_lowestTerm := goodIn_r _ [12, 13, 14, 11, 15] (by decide +kernel) (by decide +kernel)
set_option maxRecDepth 20000 in
theorem gX6_span_X6_lowestTerm : GoodIn wsX6_span (va_wsS RX6 136 yX6_lowestTerm wsX6_lowestTerm) := goodIn_app (goodIn_of _ (by decide +kernel)) ggX6_span_X6_lowestTerm
theorem dX6_span_0 : decode cX6_span 0 = .ok (.iload_n 1, 1) := by decide +kernel
theorem dX6_span_1 : decode cX6_span 1 = .ok (.ifCond .lt 14, 3) := by decide +kernel
theorem dX6_span_4 : decode cX6_span 4 = .ok (.iload_n 1, 1) := by decide +kernel
theorem dX6_span_5 : decode cX6_span 5 = .ok (.aload_n 0, 1) := by decide +kernel
theorem dX6_span_6 : decode cX6_span 6 = .ok (.getfield 39, 3) := by decide +kernel
theorem dX6_span_9 : decode cX6_span 9 = .ok (.getfield 162, 3) := by decide +kernel
theorem dX6_span_12 : decode cX6_span 12 = .ok (.if_icmp .lt 13, 3) := by decide +kernel
theorem dX6_span_15 : decode cX6_span 15 = .ok (.new 117, 3) := by decide +kernel
theorem dX6_span_18 : decode cX6_span 18 = .ok (.dup, 1) := by decide +kernel
theorem dX6_span_19 : decode cX6_span 19 = .ok (.ldc 167, 2) := by decide +kernel
theorem dX6_span_21 : decode cX6_span 21 = .ok (.invokespecial 121, 3) := by decide +kernel
theorem dX6_span_24 : decode cX6_span 24 = .ok (.athrow, 1) := by decide +kernel
theorem dX6_span_25 : decode cX6_span 25 = .ok (.iload_n 2, 1) := by decide +kernel
theorem dX6_span_26 : decode cX6_span 26 = .ok (.ifCond .eq 28, 3) := by decide +kernel
theorem dX6_span_29 : decode cX6_span 29 = .ok (.aload_n 0, 1) := by decide +kernel
theorem dX6_span_30 : decode cX6_span 30 = .ok (.getfield 39, 3) := by decide +kernel
theorem dX6_span_33 : decode cX6_span 33 = .ok (.getfield 169, 3) := by decide +kernel
theorem dX6_span_36 : decode cX6_span 36 = .ok (.iload_n 1, 1) := by decide +kernel
theorem dX6_span_37 : decode cX6_span 37 = .ok (.laload, 1) := by decide +kernel
theorem dX6_span_38 : decode cX6_span 38 = .ok (.aload_n 0, 1) := by decide +kernel
theorem dX6_span_39 : decode cX6_span 39 = .ok (.getfield 39, 3) := by decide +kernel
theorem dX6_span_42 : decode cX6_span 42 = .ok (.getfield 173, 3) := by decide +kernel
theorem dX6_span_45 : decode cX6_span 45 = .ok (.iload_n 1, 1) := by decide +kernel
theorem dX6_span_46 : decode cX6_span 46 = .ok (.laload, 1) := by decide +kernel
theorem dX6_span_47 : decode cX6_span 47 = .ok (.iload_n 3, 1) := by decide +kernel
theorem dX6_span_48 : decode cX6_span 48 = .ok (.invokestatic 136, 3) := by decide +kernel
theorem dX6_span_51 : decode cX6_span 51 = .ok (.goto 25, 3) := by decide +kernel
theorem dX6_span_54 : decode cX6_span 54 = .ok (.aload_n 0, 1) := by decide +kernel
theorem dX6_span_55 : decode cX6_span 55 = .ok (.getfield 39, 3) := by decide +kernel
theorem dX6_span_58 : decode cX6_span 58 = .ok (.getfield 176, 3) := by decide +kernel
theorem dX6_span_61 : decode cX6_span 61 = .ok (.iload_n 1, 1) := by decide +kernel
theorem dX6_span_62 : decode cX6_span 62 = .ok (.laload, 1) := by decide +kernel
theorem dX6_span_63 : decode cX6_span 63 = .ok (.aload_n 0, 1) := by decide +kernel
theorem dX6_span_64 : decode cX6_span 64 = .ok (.getfield 39, 3) := by decide +kernel
theorem dX6_span_67 : decode cX6_span 67 = .ok (.getfield 179, 3) := by decide +kernel
theorem dX6_span_70 : decode cX6_span 70 = .ok (.iload_n 1, 1) := by decide +kernel
theorem dX6_span_71 : decode cX6_span 71 = .ok (.laload, 1) := by decide +kernel
theorem dX6_span_72 : decode cX6_span 72 = .ok (.iload_n 3, 1) := by decide +kernel
theorem dX6_span_73 : decode cX6_span 73 = .ok (.invokestatic 136, 3) := by decide +kernel
theorem dX6_span_76 : decode cX6_span 76 = .ok (.lreturn, 1) := by decide +kernel
theorem dX6_isTrack_0 : decode cX6_isTrack 0 = .ok (.iload_n 0, 1) := by decide +kernel
theorem dX6_isTrack_1 : decode cX6_isTrack 1 = .ok (.ifCond .lt 12, 3) := by decide +kernel
theorem dX6_isTrack_4 : decode cX6_isTrack 4 = .ok (.iload_n 0, 1) := by decide +kernel
theorem dX6_isTrack_5 : decode cX6_isTrack 5 = .ok (.iconst 4, 1) := by decide +kernel
theorem dX6_isTrack_6 : decode cX6_isTrack 6 = .ok (.if_icmp .ge 7, 3) := by decide +kernel
theorem dX6_isTrack_9 : decode cX6_isTrack 9 = .ok (.iconst 1, 1) := by decide +kernel
theorem dX6_isTrack_10 : decode cX6_isTrack 10 = .ok (.goto 4, 3) := by decide +kernel
theorem dX6_isTrack_13 : decode cX6_isTrack 13 = .ok (.iconst 0, 1) := by decide +kernel
theorem dX6_isTrack_14 : decode cX6_isTrack 14 = .ok (.ireturn, 1) := by decide +kernel
theorem dX6_isBound_0 : decode cX6_isBound 0 = .ok (.iload_n 0, 1) := by decide +kernel
theorem dX6_isBound_1 : decode cX6_isBound 1 = .ok (.ifCond .lt 13, 3) := by decide +kernel
theorem dX6_isBound_4 : decode cX6_isBound 4 = .ok (.iload_n 0, 1) := by decide +kernel
theorem dX6_isBound_5 : decode cX6_isBound 5 = .ok (.ldc 104, 2) := by decide +kernel
theorem dX6_isBound_7 : decode cX6_isBound 7 = .ok (.if_icmp .gt 7, 3) := by decide +kernel
theorem dX6_isBound_10 : decode cX6_isBound 10 = .ok (.iconst 1, 1) := by decide +kernel
theorem dX6_isBound_11 : decode cX6_isBound 11 = .ok (.goto 4, 3) := by decide +kernel
theorem dX6_isBound_14 : decode cX6_isBound 14 = .ok (.iconst 0, 1) := by decide +kernel
theorem dX6_isBound_15 : decode cX6_isBound 15 = .ok (.ireturn, 1) := by decide +kernel
theorem dX6_isBeyond_0 : decode cX6_isBeyond 0 = .ok (.iload_n 0, 1) := by decide +kernel
theorem dX6_isBeyond_1 : decode cX6_isBeyond 1 = .ok (.iload_n 1, 1) := by decide +kernel
theorem dX6_isBeyond_2 : decode cX6_isBeyond 2 = .ok (.ineg, 1) := by decide +kernel
theorem dX6_isBeyond_3 : decode cX6_isBeyond 3 = .ok (.if_icmp .lt 8, 3) := by decide +kernel
theorem dX6_isBeyond_6 : decode cX6_isBeyond 6 = .ok (.iload_n 0, 1) := by decide +kernel
theorem dX6_isBeyond_7 : decode cX6_isBeyond 7 = .ok (.iload_n 1, 1) := by decide +kernel
theorem dX6_isBeyond_8 : decode cX6_isBeyond 8 = .ok (.if_icmp .le 7, 3) := by decide +kernel
theorem dX6_isBeyond_11 : decode cX6_isBeyond 11 = .ok (.iconst 1, 1) := by decide +kernel
theorem dX6_isBeyond_12 : decode cX6_isBeyond 12 = .ok (.goto 4, 3) := by decide +kernel
theorem dX6_isBeyond_15 : decode cX6_isBeyond 15 = .ok (.iconst 0, 1) := by decide +kernel
theorem dX6_isBeyond_16 : decode cX6_isBeyond 16 = .ok (.ireturn, 1) := by decide +kernel
set_option maxRecDepth 20000 in
theorem ggX6_trackAt_X6_isTrack : GoodIn wsX6_trackAt wsX6_isTrack := goodIn_r _ [7] (by decide +kernel) (by decide +kernel)
set_option maxRecDepth 20000 in
theorem gX6_trackAt_X6_isTrack : GoodIn wsX6_trackAt (va_wsS RX6 110 yX6_isTrack wsX6_isTrack) := goodIn_app (goodIn_of _ (by decide +kernel)) ggX6_trackAt_X6_isTrack
theorem dX6_trackAt_0 : decode cX6_trackAt 0 = .ok (.iload_n 1, 1) := by decide +kernel
theorem dX6_trackAt_1 : decode cX6_trackAt 1 = .ok (.invokestatic 110, 3) := by decide +kernel
theorem dX6_trackAt_4 : decode cX6_trackAt 4 = .ok (.ifCond .ne 13, 3) := by decide +kernel
theorem dX6_trackAt_7 : decode cX6_trackAt 7 = .ok (.new 117, 3) := by decide +kernel
theorem dX6_trackAt_10 : decode cX6_trackAt 10 = .ok (.dup, 1) := by decide +kernel
theorem dX6_trackAt_11 : decode cX6_trackAt 11 = .ok (.ldc 182, 2) := by decide +kernel
theorem dX6_trackAt_13 : decode cX6_trackAt 13 = .ok (.invokespecial 121, 3) := by decide +kernel
theorem dX6_trackAt_16 : decode cX6_trackAt 16 = .ok (.athrow, 1) := by decide +kernel
theorem dX6_trackAt_17 : decode cX6_trackAt 17 = .ok (.aload_n 0, 1) := by decide +kernel
theorem dX6_trackAt_18 : decode cX6_trackAt 18 = .ok (.getfield 11, 3) := by decide +kernel
theorem dX6_trackAt_21 : decode cX6_trackAt 21 = .ok (.iload_n 1, 1) := by decide +kernel
theorem dX6_trackAt_22 : decode cX6_trackAt 22 = .ok (.aaload, 1) := by decide +kernel
theorem dX6_trackAt_23 : decode cX6_trackAt 23 = .ok (.areturn, 1) := by decide +kernel
set_option maxRecDepth 20000 in
theorem ggX6_trackIn_X6_trackAt : GoodIn wsX6_trackIn wsX6_trackAt := goodIn_ca (goodIn_r _ [8, 9, 10, 11, 12, 13, 7, 14, 18, 19, 20, 21, 22] (by decide +kernel) (by decide +kernel)) (goodIn_sub (fun _ h => List.mem_cons_of_mem _ (List.mem_append_right _ h)) (by decide +kernel))
set_option maxRecDepth 20000 in
theorem gX6_trackIn_X6_trackAt : GoodIn wsX6_trackIn (wsV RX6 113 RX6 yX6_trackAt wsX6_trackAt) := goodIn_app (goodIn_of _ (by decide +kernel)) ggX6_trackIn_X6_trackAt
theorem dX6_trackIn_0 : decode cX6_trackIn 0 = .ok (.aload_n 0, 1) := by decide +kernel
theorem dX6_trackIn_1 : decode cX6_trackIn 1 = .ok (.iload_n 1, 1) := by decide +kernel
theorem dX6_trackIn_2 : decode cX6_trackIn 2 = .ok (.invokevirtual 113, 3) := by decide +kernel
theorem dX6_trackIn_5 : decode cX6_trackIn 5 = .ok (.astore_n 3, 1) := by decide +kernel
theorem dX6_trackIn_6 : decode cX6_trackIn 6 = .ok (.aload_n 3, 1) := by decide +kernel
theorem dX6_trackIn_7 : decode cX6_trackIn 7 = .ok (.getfield 48, 3) := by decide +kernel
theorem dX6_trackIn_10 : decode cX6_trackIn 10 = .ok (.iload_n 2, 1) := by decide +kernel
theorem dX6_trackIn_11 : decode cX6_trackIn 11 = .ok (.if_icmp .eq 13, 3) := by decide +kernel
theorem dX6_trackIn_14 : decode cX6_trackIn 14 = .ok (.new 61, 3) := by decide +kernel
theorem dX6_trackIn_17 : decode cX6_trackIn 17 = .ok (.dup, 1) := by decide +kernel
theorem dX6_trackIn_18 : decode cX6_trackIn 18 = .ok (.ldc 184, 2) := by decide +kernel
theorem dX6_trackIn_20 : decode cX6_trackIn 20 = .ok (.invokespecial 65, 3) := by decide +kernel
theorem dX6_trackIn_23 : decode cX6_trackIn 23 = .ok (.athrow, 1) := by decide +kernel
theorem dX6_trackIn_24 : decode cX6_trackIn 24 = .ok (.aload_n 3, 1) := by decide +kernel
theorem dX6_trackIn_25 : decode cX6_trackIn 25 = .ok (.areturn, 1) := by decide +kernel
set_option maxRecDepth 20000 in
theorem ggX6_lowestTerm_X6_commonDivisor : GoodIn wsX6_lowestTerm wsX6_commonDivisor := goodIn_r _ [4] (by decide +kernel) (by decide +kernel)
set_option maxRecDepth 20000 in
theorem gX6_lowestTerm_X6_commonDivisor : GoodIn wsX6_lowestTerm (va_wsS RX6 186 yX6_commonDivisor wsX6_commonDivisor) := goodIn_app (goodIn_of _ (by decide +kernel)) ggX6_lowestTerm_X6_commonDivisor
theorem dX6_lowestTerm_0 : decode cX6_lowestTerm 0 = .ok (.lload_n 0, 1) := by decide +kernel
theorem dX6_lowestTerm_1 : decode cX6_lowestTerm 1 = .ok (.lconst 0, 1) := by decide +kernel
theorem dX6_lowestTerm_2 : decode cX6_lowestTerm 2 = .ok (.lcmp, 1) := by decide +kernel
theorem dX6_lowestTerm_3 : decode cX6_lowestTerm 3 = .ok (.ifCond .ge 8, 3) := by decide +kernel
theorem dX6_lowestTerm_6 : decode cX6_lowestTerm 6 = .ok (.lload_n 0, 1) := by decide +kernel
theorem dX6_lowestTerm_7 : decode cX6_lowestTerm 7 = .ok (.lneg, 1) := by decide +kernel
theorem dX6_lowestTerm_8 : decode cX6_lowestTerm 8 = .ok (.goto 4, 3) := by decide +kernel
theorem dX6_lowestTerm_11 : decode cX6_lowestTerm 11 = .ok (.lload_n 0, 1) := by decide +kernel
theorem dX6_lowestTerm_12 : decode cX6_lowestTerm 12 = .ok (.lload_n 2, 1) := by decide +kernel
theorem dX6_lowestTerm_13 : decode cX6_lowestTerm 13 = .ok (.invokestatic 186, 3) := by decide +kernel
theorem dX6_lowestTerm_16 : decode cX6_lowestTerm 16 = .ok (.lstore 5, 2) := by decide +kernel
theorem dX6_lowestTerm_18 : decode cX6_lowestTerm 18 = .ok (.iload 4, 2) := by decide +kernel
theorem dX6_lowestTerm_20 : decode cX6_lowestTerm 20 = .ok (.ifCond .eq 7, 3) := by decide +kernel
theorem dX6_lowestTerm_23 : decode cX6_lowestTerm 23 = .ok (.lload_n 2, 1) := by decide +kernel
theorem dX6_lowestTerm_24 : decode cX6_lowestTerm 24 = .ok (.goto 4, 3) := by decide +kernel
theorem dX6_lowestTerm_27 : decode cX6_lowestTerm 27 = .ok (.lload_n 0, 1) := by decide +kernel
theorem dX6_lowestTerm_28 : decode cX6_lowestTerm 28 = .ok (.lstore 7, 2) := by decide +kernel
theorem dX6_lowestTerm_30 : decode cX6_lowestTerm 30 = .ok (.lload 5, 2) := by decide +kernel
theorem dX6_lowestTerm_32 : decode cX6_lowestTerm 32 = .ok (.lconst 0, 1) := by decide +kernel
theorem dX6_lowestTerm_33 : decode cX6_lowestTerm 33 = .ok (.lcmp, 1) := by decide +kernel
theorem dX6_lowestTerm_34 : decode cX6_lowestTerm 34 = .ok (.ifCond .le 11, 3) := by decide +kernel
theorem dX6_lowestTerm_37 : decode cX6_lowestTerm 37 = .ok (.lload 7, 2) := by decide +kernel
theorem dX6_lowestTerm_39 : decode cX6_lowestTerm 39 = .ok (.lload 5, 2) := by decide +kernel
theorem dX6_lowestTerm_41 : decode cX6_lowestTerm 41 = .ok (.ldiv, 1) := by decide +kernel
theorem dX6_lowestTerm_42 : decode cX6_lowestTerm 42 = .ok (.goto 5, 3) := by decide +kernel
theorem dX6_lowestTerm_45 : decode cX6_lowestTerm 45 = .ok (.lload 7, 2) := by decide +kernel
theorem dX6_lowestTerm_47 : decode cX6_lowestTerm 47 = .ok (.lreturn, 1) := by decide +kernel
theorem dX6_commonDivisor_0 : decode cX6_commonDivisor 0 = .ok (.lload_n 0, 1) := by decide +kernel
theorem dX6_commonDivisor_1 : decode cX6_commonDivisor 1 = .ok (.lstore 4, 2) := by decide +kernel
theorem dX6_commonDivisor_3 : decode cX6_commonDivisor 3 = .ok (.lload_n 2, 1) := by decide +kernel
theorem dX6_commonDivisor_4 : decode cX6_commonDivisor 4 = .ok (.lstore 6, 2) := by decide +kernel
theorem dX6_commonDivisor_6 : decode cX6_commonDivisor 6 = .ok (.iconst 0, 1) := by decide +kernel
theorem dX6_commonDivisor_7 : decode cX6_commonDivisor 7 = .ok (.istore 8, 2) := by decide +kernel
theorem dX6_commonDivisor_9 : decode cX6_commonDivisor 9 = .ok (.iload 8, 2) := by decide +kernel
theorem dX6_commonDivisor_11 : decode cX6_commonDivisor 11 = .ok (.sipush 200, 3) := by decide +kernel
theorem dX6_commonDivisor_14 : decode cX6_commonDivisor 14 = .ok (.if_icmp .ge 31, 3) := by decide +kernel
theorem dX6_commonDivisor_17 : decode cX6_commonDivisor 17 = .ok (.lload 6, 2) := by decide +kernel
theorem dX6_commonDivisor_19 : decode cX6_commonDivisor 19 = .ok (.lconst 0, 1) := by decide +kernel
theorem dX6_commonDivisor_20 : decode cX6_commonDivisor 20 = .ok (.lcmp, 1) := by decide +kernel
theorem dX6_commonDivisor_21 : decode cX6_commonDivisor 21 = .ok (.ifCond .eq 24, 3) := by decide +kernel
theorem dX6_commonDivisor_24 : decode cX6_commonDivisor 24 = .ok (.lload 4, 2) := by decide +kernel
theorem dX6_commonDivisor_26 : decode cX6_commonDivisor 26 = .ok (.lload 6, 2) := by decide +kernel
theorem dX6_commonDivisor_28 : decode cX6_commonDivisor 28 = .ok (.lrem, 1) := by decide +kernel
theorem dX6_commonDivisor_29 : decode cX6_commonDivisor 29 = .ok (.lstore 9, 2) := by decide +kernel
theorem dX6_commonDivisor_31 : decode cX6_commonDivisor 31 = .ok (.lload 6, 2) := by decide +kernel
theorem dX6_commonDivisor_33 : decode cX6_commonDivisor 33 = .ok (.lstore 4, 2) := by decide +kernel
theorem dX6_commonDivisor_35 : decode cX6_commonDivisor 35 = .ok (.lload 9, 2) := by decide +kernel
theorem dX6_commonDivisor_37 : decode cX6_commonDivisor 37 = .ok (.lstore 6, 2) := by decide +kernel
theorem dX6_commonDivisor_39 : decode cX6_commonDivisor 39 = .ok (.iinc 8 1, 3) := by decide +kernel
theorem dX6_commonDivisor_42 : decode cX6_commonDivisor 42 = .ok (.goto (-33), 3) := by decide +kernel
theorem dX6_commonDivisor_45 : decode cX6_commonDivisor 45 = .ok (.lload 4, 2) := by decide +kernel
theorem dX6_commonDivisor_47 : decode cX6_commonDivisor 47 = .ok (.lreturn, 1) := by decide +kernel
