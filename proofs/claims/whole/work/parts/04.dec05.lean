theorem dX0_init_0 : decode cX0_init 0 = .ok (.aload_n 0, 1) := by decide +kernel
theorem dX0_init_1 : decode cX0_init 1 = .ok (.invokespecial 3, 3) := by decide +kernel
theorem dX0_init_4 : decode cX0_init 4 = .ok (.aload_n 0, 1) := by decide +kernel
theorem dX0_init_5 : decode cX0_init 5 = .ok (.sipush 300, 3) := by decide +kernel
theorem dX0_init_8 : decode cX0_init 8 = .ok (.newarray .int, 2) := by decide +kernel
theorem dX0_init_10 : decode cX0_init 10 = .ok (.putfield 9, 3) := by decide +kernel
theorem dX0_init_13 : decode cX0_init 13 = .ok (.return_, 1) := by decide +kernel
theorem dX0_append_0 : decode cX0_append 0 = .ok (.aload_n 0, 1) := by decide +kernel
theorem dX0_append_1 : decode cX0_append 1 = .ok (.getfield 15, 3) := by decide +kernel
theorem dX0_append_4 : decode cX0_append 4 = .ok (.sipush 300, 3) := by decide +kernel
theorem dX0_append_7 : decode cX0_append 7 = .ok (.if_icmp .ge 23, 3) := by decide +kernel
theorem dX0_append_10 : decode cX0_append 10 = .ok (.aload_n 0, 1) := by decide +kernel
theorem dX0_append_11 : decode cX0_append 11 = .ok (.getfield 9, 3) := by decide +kernel
theorem dX0_append_14 : decode cX0_append 14 = .ok (.aload_n 0, 1) := by decide +kernel
theorem dX0_append_15 : decode cX0_append 15 = .ok (.getfield 15, 3) := by decide +kernel
theorem dX0_append_18 : decode cX0_append 18 = .ok (.iload_n 1, 1) := by decide +kernel
theorem dX0_append_19 : decode cX0_append 19 = .ok (.iastore, 1) := by decide +kernel
theorem dX0_append_20 : decode cX0_append 20 = .ok (.aload_n 0, 1) := by decide +kernel
theorem dX0_append_21 : decode cX0_append 21 = .ok (.dup, 1) := by decide +kernel
theorem dX0_append_22 : decode cX0_append 22 = .ok (.getfield 15, 3) := by decide +kernel
theorem dX0_append_25 : decode cX0_append 25 = .ok (.iconst 1, 1) := by decide +kernel
theorem dX0_append_26 : decode cX0_append 26 = .ok (.iadd, 1) := by decide +kernel
theorem dX0_append_27 : decode cX0_append 27 = .ok (.putfield 15, 3) := by decide +kernel
theorem dX0_append_30 : decode cX0_append 30 = .ok (.return_, 1) := by decide +kernel
set_option maxRecDepth 20000 in
theorem ggX0_write_X0_appendNumber : GoodIn wsX0_write wsX0_appendNumber := goodIn_r _ [10, 11, 12, 13, 9, 14, 1, 15, 19, 20] (by decide +kernel) (by decide +kernel)
set_option maxRecDepth 20000 in
theorem gX0_write_X0_appendNumber : GoodIn wsX0_write (wsV RX0 22 RX0 yX0_appendNumber wsX0_appendNumber) := goodIn_app (goodIn_of _ (by decide +kernel)) ggX0_write_X0_appendNumber
set_option maxRecDepth 20000 in
theorem ggX0_write_X0_folded : GoodIn wsX0_write wsX0_folded := goodIn_r _ [18] (by decide +kernel) (by decide +kernel)
set_option maxRecDepth 20000 in
theorem gX0_write_X0_folded : GoodIn wsX0_write (va_wsS RX0 32 yX0_folded wsX0_folded) := goodIn_app (goodIn_of _ (by decide +kernel)) ggX0_write_X0_folded
theorem dX0_write_0 : decode cX0_write 0 = .ok (.aload_n 0, 1) := by decide +kernel
theorem dX0_write_1 : decode cX0_write 1 = .ok (.iconst 0, 1) := by decide +kernel
theorem dX0_write_2 : decode cX0_write 2 = .ok (.putfield 15, 3) := by decide +kernel
theorem dX0_write_5 : decode cX0_write 5 = .ok (.aload_n 0, 1) := by decide +kernel
theorem dX0_write_6 : decode cX0_write 6 = .ok (.aload_n 1, 1) := by decide +kernel
theorem dX0_write_7 : decode cX0_write 7 = .ok (.getfield 19, 3) := by decide +kernel
theorem dX0_write_10 : decode cX0_write 10 = .ok (.invokevirtual 22, 3) := by decide +kernel
theorem dX0_write_13 : decode cX0_write 13 = .ok (.iconst 0, 1) := by decide +kernel
theorem dX0_write_14 : decode cX0_write 14 = .ok (.istore_n 2, 1) := by decide +kernel
theorem dX0_write_15 : decode cX0_write 15 = .ok (.iconst 0, 1) := by decide +kernel
theorem dX0_write_16 : decode cX0_write 16 = .ok (.istore_n 3, 1) := by decide +kernel
theorem dX0_write_17 : decode cX0_write 17 = .ok (.iconst 0, 1) := by decide +kernel
theorem dX0_write_18 : decode cX0_write 18 = .ok (.istore 4, 2) := by decide +kernel
theorem dX0_write_20 : decode cX0_write 20 = .ok (.iconst 0, 1) := by decide +kernel
theorem dX0_write_21 : decode cX0_write 21 = .ok (.istore 5, 2) := by decide +kernel
theorem dX0_write_23 : decode cX0_write 23 = .ok (.iload 5, 2) := by decide +kernel
theorem dX0_write_25 : decode cX0_write 25 = .ok (.aload_n 1, 1) := by decide +kernel
theorem dX0_write_26 : decode cX0_write 26 = .ok (.getfield 19, 3) := by decide +kernel
theorem dX0_write_29 : decode cX0_write 29 = .ok (.if_icmp .ge 80, 3) := by decide +kernel
theorem dX0_write_32 : decode cX0_write 32 = .ok (.aload_n 0, 1) := by decide +kernel
theorem dX0_write_33 : decode cX0_write 33 = .ok (.aload_n 1, 1) := by decide +kernel
theorem dX0_write_34 : decode cX0_write 34 = .ok (.getfield 26, 3) := by decide +kernel
theorem dX0_write_37 : decode cX0_write 37 = .ok (.iload 5, 2) := by decide +kernel
theorem dX0_write_39 : decode cX0_write 39 = .ok (.iaload, 1) := by decide +kernel
theorem dX0_write_40 : decode cX0_write 40 = .ok (.iload_n 2, 1) := by decide +kernel
theorem dX0_write_41 : decode cX0_write 41 = .ok (.isub, 1) := by decide +kernel
theorem dX0_write_42 : decode cX0_write 42 = .ok (.invokevirtual 22, 3) := by decide +kernel
theorem dX0_write_45 : decode cX0_write 45 = .ok (.aload_n 0, 1) := by decide +kernel
theorem dX0_write_46 : decode cX0_write 46 = .ok (.aload_n 1, 1) := by decide +kernel
theorem dX0_write_47 : decode cX0_write 47 = .ok (.getfield 29, 3) := by decide +kernel
theorem dX0_write_50 : decode cX0_write 50 = .ok (.iload 5, 2) := by decide +kernel
theorem dX0_write_52 : decode cX0_write 52 = .ok (.iaload, 1) := by decide +kernel
theorem dX0_write_53 : decode cX0_write 53 = .ok (.iload_n 3, 1) := by decide +kernel
theorem dX0_write_54 : decode cX0_write 54 = .ok (.isub, 1) := by decide +kernel
theorem dX0_write_55 : decode cX0_write 55 = .ok (.invokestatic 32, 3) := by decide +kernel
theorem dX0_write_58 : decode cX0_write 58 = .ok (.invokevirtual 22, 3) := by decide +kernel
theorem dX0_write_61 : decode cX0_write 61 = .ok (.aload_n 0, 1) := by decide +kernel
theorem dX0_write_62 : decode cX0_write 62 = .ok (.aload_n 1, 1) := by decide +kernel
theorem dX0_write_63 : decode cX0_write 63 = .ok (.getfield 36, 3) := by decide +kernel
theorem dX0_write_66 : decode cX0_write 66 = .ok (.iload 5, 2) := by decide +kernel
theorem dX0_write_68 : decode cX0_write 68 = .ok (.iaload, 1) := by decide +kernel
theorem dX0_write_69 : decode cX0_write 69 = .ok (.iload 4, 2) := by decide +kernel
theorem dX0_write_71 : decode cX0_write 71 = .ok (.isub, 1) := by decide +kernel
theorem dX0_write_72 : decode cX0_write 72 = .ok (.invokestatic 32, 3) := by decide +kernel
theorem dX0_write_75 : decode cX0_write 75 = .ok (.invokevirtual 22, 3) := by decide +kernel
theorem dX0_write_78 : decode cX0_write 78 = .ok (.aload_n 1, 1) := by decide +kernel
theorem dX0_write_79 : decode cX0_write 79 = .ok (.getfield 26, 3) := by decide +kernel
theorem dX0_write_82 : decode cX0_write 82 = .ok (.iload 5, 2) := by decide +kernel
theorem dX0_write_84 : decode cX0_write 84 = .ok (.iaload, 1) := by decide +kernel
theorem dX0_write_85 : decode cX0_write 85 = .ok (.istore_n 2, 1) := by decide +kernel
theorem dX0_write_86 : decode cX0_write 86 = .ok (.aload_n 1, 1) := by decide +kernel
theorem dX0_write_87 : decode cX0_write 87 = .ok (.getfield 29, 3) := by decide +kernel
theorem dX0_write_90 : decode cX0_write 90 = .ok (.iload 5, 2) := by decide +kernel
theorem dX0_write_92 : decode cX0_write 92 = .ok (.iaload, 1) := by decide +kernel
theorem dX0_write_93 : decode cX0_write 93 = .ok (.istore_n 3, 1) := by decide +kernel
theorem dX0_write_94 : decode cX0_write 94 = .ok (.aload_n 1, 1) := by decide +kernel
theorem dX0_write_95 : decode cX0_write 95 = .ok (.getfield 36, 3) := by decide +kernel
theorem dX0_write_98 : decode cX0_write 98 = .ok (.iload 5, 2) := by decide +kernel
theorem dX0_write_100 : decode cX0_write 100 = .ok (.iaload, 1) := by decide +kernel
theorem dX0_write_101 : decode cX0_write 101 = .ok (.istore 4, 2) := by decide +kernel
theorem dX0_write_103 : decode cX0_write 103 = .ok (.iinc 5 1, 3) := by decide +kernel
theorem dX0_write_106 : decode cX0_write 106 = .ok (.goto (-83), 3) := by decide +kernel
theorem dX0_write_109 : decode cX0_write 109 = .ok (.return_, 1) := by decide +kernel
set_option maxRecDepth 20000 in
theorem ggX0_appendNumber_X0_append : GoodIn wsX0_appendNumber wsX0_append := goodIn_r _ [5, 6, 7, 8, 9] (by decide +kernel) (by decide +kernel)
set_option maxRecDepth 20000 in
theorem gX0_appendNumber_X0_append : GoodIn wsX0_appendNumber (wsV RX0 39 RX0 yX0_append wsX0_append) := goodIn_app (goodIn_of _ (by decide +kernel)) ggX0_appendNumber_X0_append
theorem dX0_appendNumber_0 : decode cX0_appendNumber 0 = .ok (.iload_n 1, 1) := by decide +kernel
theorem dX0_appendNumber_1 : decode cX0_appendNumber 1 = .ok (.istore_n 2, 1) := by decide +kernel
theorem dX0_appendNumber_2 : decode cX0_appendNumber 2 = .ok (.iconst 1, 1) := by decide +kernel
theorem dX0_appendNumber_3 : decode cX0_appendNumber 3 = .ok (.istore_n 3, 1) := by decide +kernel
theorem dX0_appendNumber_4 : decode cX0_appendNumber 4 = .ok (.iload_n 3, 1) := by decide +kernel
theorem dX0_appendNumber_5 : decode cX0_appendNumber 5 = .ok (.iconst 5, 1) := by decide +kernel
theorem dX0_appendNumber_6 : decode cX0_appendNumber 6 = .ok (.if_icmp .ge 32, 3) := by decide +kernel
theorem dX0_appendNumber_9 : decode cX0_appendNumber 9 = .ok (.iload_n 2, 1) := by decide +kernel
theorem dX0_appendNumber_10 : decode cX0_appendNumber 10 = .ok (.bipush 127, 2) := by decide +kernel
theorem dX0_appendNumber_12 : decode cX0_appendNumber 12 = .ok (.if_icmp .le 26, 3) := by decide +kernel
theorem dX0_appendNumber_15 : decode cX0_appendNumber 15 = .ok (.aload_n 0, 1) := by decide +kernel
theorem dX0_appendNumber_16 : decode cX0_appendNumber 16 = .ok (.iload_n 2, 1) := by decide +kernel
theorem dX0_appendNumber_17 : decode cX0_appendNumber 17 = .ok (.bipush 127, 2) := by decide +kernel
theorem dX0_appendNumber_19 : decode cX0_appendNumber 19 = .ok (.iand, 1) := by decide +kernel
theorem dX0_appendNumber_20 : decode cX0_appendNumber 20 = .ok (.sipush 128, 3) := by decide +kernel
theorem dX0_appendNumber_23 : decode cX0_appendNumber 23 = .ok (.iadd, 1) := by decide +kernel
theorem dX0_appendNumber_24 : decode cX0_appendNumber 24 = .ok (.invokevirtual 39, 3) := by decide +kernel
theorem dX0_appendNumber_27 : decode cX0_appendNumber 27 = .ok (.iload_n 2, 1) := by decide +kernel
theorem dX0_appendNumber_28 : decode cX0_appendNumber 28 = .ok (.bipush 7, 2) := by decide +kernel
theorem dX0_appendNumber_30 : decode cX0_appendNumber 30 = .ok (.iushr, 1) := by decide +kernel
theorem dX0_appendNumber_31 : decode cX0_appendNumber 31 = .ok (.istore_n 2, 1) := by decide +kernel
theorem dX0_appendNumber_32 : decode cX0_appendNumber 32 = .ok (.iinc 3 1, 3) := by decide +kernel
theorem dX0_appendNumber_35 : decode cX0_appendNumber 35 = .ok (.goto (-31), 3) := by decide +kernel
theorem dX0_appendNumber_38 : decode cX0_appendNumber 38 = .ok (.aload_n 0, 1) := by decide +kernel
theorem dX0_appendNumber_39 : decode cX0_appendNumber 39 = .ok (.iload_n 2, 1) := by decide +kernel
theorem dX0_appendNumber_40 : decode cX0_appendNumber 40 = .ok (.invokevirtual 39, 3) := by decide +kernel
theorem dX0_appendNumber_43 : decode cX0_appendNumber 43 = .ok (.return_, 1) := by decide +kernel
theorem dX0_folded_0 : decode cX0_folded 0 = .ok (.iload_n 0, 1) := by decide +kernel
theorem dX0_folded_1 : decode cX0_folded 1 = .ok (.iconst 1, 1) := by decide +kernel
theorem dX0_folded_2 : decode cX0_folded 2 = .ok (.ishl, 1) := by decide +kernel
theorem dX0_folded_3 : decode cX0_folded 3 = .ok (.iload_n 0, 1) := by decide +kernel
theorem dX0_folded_4 : decode cX0_folded 4 = .ok (.bipush 31, 2) := by decide +kernel
theorem dX0_folded_6 : decode cX0_folded 6 = .ok (.ishr, 1) := by decide +kernel
theorem dX0_folded_7 : decode cX0_folded 7 = .ok (.ixor, 1) := by decide +kernel
theorem dX0_folded_8 : decode cX0_folded 8 = .ok (.ireturn, 1) := by decide +kernel
set_option maxRecDepth 20000 in
theorem ggX1_init_X2_init : GoodIn wsX1_init wsX2_init := goodIn_r _ [9, 10, 2, 3, 11, 12, 13, 14, 15, 16, 17, 18] (by decide +kernel) (by decide +kernel)
set_option maxRecDepth 20000 in
theorem gX1_init_X2_init_n11 : GoodIn wsX1_init (wsX2_init) := ggX1_init_X2_init
theorem dX1_init_0 : decode cX1_init 0 = .ok (.aload_n 0, 1) := by decide +kernel
theorem dX1_init_1 : decode cX1_init 1 = .ok (.invokespecial 3, 3) := by decide +kernel
theorem dX1_init_4 : decode cX1_init 4 = .ok (.aload_n 0, 1) := by decide +kernel
theorem dX1_init_5 : decode cX1_init 5 = .ok (.new 9, 3) := by decide +kernel
theorem dX1_init_8 : decode cX1_init 8 = .ok (.dup, 1) := by decide +kernel
theorem dX1_init_9 : decode cX1_init 9 = .ok (.invokespecial 11, 3) := by decide +kernel
theorem dX1_init_12 : decode cX1_init 12 = .ok (.putfield 12, 3) := by decide +kernel
theorem dX1_init_15 : decode cX1_init 15 = .ok (.return_, 1) := by decide +kernel
set_option maxRecDepth 20000 in
theorem ggX1_read_X1_readNumber : GoodIn wsX1_read wsX1_readNumber := goodIn_r _ [11, 2, 1, 6, 12, 36, 37, 38, 43, 44] (by decide +kernel) (by decide +kernel)
set_option maxRecDepth 20000 in
theorem gX1_read_X1_readNumber : GoodIn wsX1_read (wsV RX1 30 RX1 yX1_readNumber wsX1_readNumber) := goodIn_app (goodIn_of _ (by decide +kernel)) ggX1_read_X1_readNumber
set_option maxRecDepth 20000 in
theorem ggX1_read_X1_readSample : GoodIn wsX1_read wsX1_readSample := goodIn_r _ [16, 3, 4, 17, 18, 19, 20, 2, 7, 8, 9, 10, 11, 1, 6, 12, 21, 22, 23, 24, 25, 26, 27, 28, 29, 30, 31, 32, 33, 34, 35, 36, 37, 38, 39, 40, 41, 42, 43, 44] (by decide +kernel) (by decide +kernel)
set_option maxRecDepth 20000 in
theorem gX1_read_X1_readSample : GoodIn wsX1_read (wsV RX1 34 RX1 yX1_readSample wsX1_readSample) := goodIn_app (goodIn_of _ (by decide +kernel)) ggX1_read_X1_readSample
theorem dX1_read_0 : decode cX1_read 0 = .ok (.aload_n 0, 1) := by decide +kernel
theorem dX1_read_1 : decode cX1_read 1 = .ok (.iconst 0, 1) := by decide +kernel
theorem dX1_read_2 : decode cX1_read 2 = .ok (.putfield 18, 3) := by decide +kernel
theorem dX1_read_5 : decode cX1_read 5 = .ok (.aload_n 0, 1) := by decide +kernel
theorem dX1_read_6 : decode cX1_read 6 = .ok (.iconst (-1), 1) := by decide +kernel
theorem dX1_read_7 : decode cX1_read 7 = .ok (.putfield 22, 3) := by decide +kernel
theorem dX1_read_10 : decode cX1_read 10 = .ok (.aload_n 0, 1) := by decide +kernel
theorem dX1_read_11 : decode cX1_read 11 = .ok (.getfield 12, 3) := by decide +kernel
theorem dX1_read_14 : decode cX1_read 14 = .ok (.iconst 0, 1) := by decide +kernel
theorem dX1_read_15 : decode cX1_read 15 = .ok (.putfield 25, 3) := by decide +kernel
theorem dX1_read_18 : decode cX1_read 18 = .ok (.aload_n 0, 1) := by decide +kernel
theorem dX1_read_19 : decode cX1_read 19 = .ok (.aload_n 1, 1) := by decide +kernel
theorem dX1_read_20 : decode cX1_read 20 = .ok (.lconst 1, 1) := by decide +kernel
theorem dX1_read_21 : decode cX1_read 21 = .ok (.ldc2_w 28, 3) := by decide +kernel
theorem dX1_read_24 : decode cX1_read 24 = .ok (.ldc2_w 28, 3) := by decide +kernel
theorem dX1_read_27 : decode cX1_read 27 = .ok (.invokevirtual 30, 3) := by decide +kernel
theorem dX1_read_30 : decode cX1_read 30 = .ok (.l2i, 1) := by decide +kernel
theorem dX1_read_31 : decode cX1_read 31 = .ok (.istore_n 2, 1) := by decide +kernel
theorem dX1_read_32 : decode cX1_read 32 = .ok (.iconst 0, 1) := by decide +kernel
theorem dX1_read_33 : decode cX1_read 33 = .ok (.istore_n 3, 1) := by decide +kernel
theorem dX1_read_34 : decode cX1_read 34 = .ok (.iload_n 3, 1) := by decide +kernel
theorem dX1_read_35 : decode cX1_read 35 = .ok (.iload_n 2, 1) := by decide +kernel
theorem dX1_read_36 : decode cX1_read 36 = .ok (.if_icmp .ge 27, 3) := by decide +kernel
theorem dX1_read_39 : decode cX1_read 39 = .ok (.aload_n 0, 1) := by decide +kernel
theorem dX1_read_40 : decode cX1_read 40 = .ok (.getfield 22, 3) := by decide +kernel
theorem dX1_read_43 : decode cX1_read 43 = .ok (.iconst (-1), 1) := by decide +kernel
theorem dX1_read_44 : decode cX1_read 44 = .ok (.if_icmp .ne 19, 3) := by decide +kernel
theorem dX1_read_47 : decode cX1_read 47 = .ok (.aload_n 0, 1) := by decide +kernel
theorem dX1_read_48 : decode cX1_read 48 = .ok (.aload_n 1, 1) := by decide +kernel
theorem dX1_read_49 : decode cX1_read 49 = .ok (.iload_n 2, 1) := by decide +kernel
theorem dX1_read_50 : decode cX1_read 50 = .ok (.iconst 1, 1) := by decide +kernel
theorem dX1_read_51 : decode cX1_read 51 = .ok (.isub, 1) := by decide +kernel
theorem dX1_read_52 : decode cX1_read 52 = .ok (.iload_n 3, 1) := by decide +kernel
theorem dX1_read_53 : decode cX1_read 53 = .ok (.isub, 1) := by decide +kernel
theorem dX1_read_54 : decode cX1_read 54 = .ok (.invokevirtual 34, 3) := by decide +kernel
theorem dX1_read_57 : decode cX1_read 57 = .ok (.iinc 3 1, 3) := by decide +kernel
theorem dX1_read_60 : decode cX1_read 60 = .ok (.goto (-26), 3) := by decide +kernel
theorem dX1_read_63 : decode cX1_read 63 = .ok (.aload_n 0, 1) := by decide +kernel
theorem dX1_read_64 : decode cX1_read 64 = .ok (.getfield 22, 3) := by decide +kernel
theorem dX1_read_67 : decode cX1_read 67 = .ok (.iconst (-1), 1) := by decide +kernel
theorem dX1_read_68 : decode cX1_read 68 = .ok (.if_icmp .ne 22, 3) := by decide +kernel
theorem dX1_read_71 : decode cX1_read 71 = .ok (.aload_n 0, 1) := by decide +kernel
theorem dX1_read_72 : decode cX1_read 72 = .ok (.getfield 18, 3) := by decide +kernel
theorem dX1_read_75 : decode cX1_read 75 = .ok (.aload_n 1, 1) := by decide +kernel
theorem dX1_read_76 : decode cX1_read 76 = .ok (.getfield 38, 3) := by decide +kernel
theorem dX1_read_79 : decode cX1_read 79 = .ok (.if_icmp .ge 11, 3) := by decide +kernel
theorem dX1_read_82 : decode cX1_read 82 = .ok (.aload_n 0, 1) := by decide +kernel
theorem dX1_read_83 : decode cX1_read 83 = .ok (.aload_n 0, 1) := by decide +kernel
theorem dX1_read_84 : decode cX1_read 84 = .ok (.getfield 18, 3) := by decide +kernel
theorem dX1_read_87 : decode cX1_read 87 = .ok (.putfield 22, 3) := by decide +kernel
theorem dX1_read_90 : decode cX1_read 90 = .ok (.aload_n 0, 1) := by decide +kernel
theorem dX1_read_91 : decode cX1_read 91 = .ok (.getfield 22, 3) := by decide +kernel
theorem dX1_read_94 : decode cX1_read 94 = .ok (.ireturn, 1) := by decide +kernel
set_option maxRecDepth 20000 in
theorem ggX1_readSample_X1_readNumber : GoodIn wsX1_readSample wsX1_readNumber := goodIn_r _ [12, 7, 13, 14, 15, 31, 32, 33, 38, 39] (by decide +kernel) (by decide +kernel)
set_option maxRecDepth 20000 in
theorem gX1_readSample_X1_readNumber : GoodIn wsX1_readSample (wsV RX1 30 RX1 yX1_readNumber wsX1_readNumber) := goodIn_app (goodIn_of _ (by decide +kernel)) ggX1_readSample_X1_readNumber
set_option maxRecDepth 20000 in
theorem ggX1_readSample_X1_readMove : GoodIn wsX1_readSample wsX1_readMove := goodIn_r _ [19, 20, 21, 8, 9, 10, 11, 12, 7, 13, 14, 15, 31, 32, 33, 38, 39] (by decide +kernel) (by decide +kernel)
set_option maxRecDepth 20000 in
theorem gX1_readSample_X1_readMove : GoodIn wsX1_readSample (wsV RX1 52 RX1 yX1_readMove wsX1_readMove) := goodIn_app (goodIn_of _ (by decide +kernel)) ggX1_readSample_X1_readMove
set_option maxRecDepth 20000 in
theorem ggX1_readSample_X2_append : GoodIn wsX1_readSample wsX2_append := goodIn_r _ [26, 27, 28, 29, 30, 34, 35, 36, 37] (by decide +kernel) (by decide +kernel)
set_option maxRecDepth 20000 in
theorem gX1_readSample_X2_append : GoodIn wsX1_readSample (wsV RX1 56 RX2 yX2_append wsX2_append) := goodIn_app (goodIn_of _ (by decide +kernel)) ggX1_readSample_X2_append
theorem dX1_readSample_0 : decode cX1_readSample 0 = .ok (.aload_n 0, 1) := by decide +kernel
theorem dX1_readSample_1 : decode cX1_readSample 1 = .ok (.getfield 12, 3) := by decide +kernel
theorem dX1_readSample_4 : decode cX1_readSample 4 = .ok (.getfield 25, 3) := by decide +kernel
theorem dX1_readSample_7 : decode cX1_readSample 7 = .ok (.iconst 1, 1) := by decide +kernel
theorem dX1_readSample_8 : decode cX1_readSample 8 = .ok (.isub, 1) := by decide +kernel
theorem dX1_readSample_9 : decode cX1_readSample 9 = .ok (.istore_n 3, 1) := by decide +kernel
theorem dX1_readSample_10 : decode cX1_readSample 10 = .ok (.iload_n 3, 1) := by decide +kernel
theorem dX1_readSample_11 : decode cX1_readSample 11 = .ok (.ifCond .ge 7, 3) := by decide +kernel
theorem dX1_readSample_14 : decode cX1_readSample 14 = .ok (.lconst 0, 1) := by decide +kernel
theorem dX1_readSample_15 : decode cX1_readSample 15 = .ok (.goto 13, 3) := by decide +kernel
theorem dX1_readSample_18 : decode cX1_readSample 18 = .ok (.aload_n 0, 1) := by decide +kernel
theorem dX1_readSample_19 : decode cX1_readSample 19 = .ok (.getfield 12, 3) := by decide +kernel
theorem dX1_readSample_22 : decode cX1_readSample 22 = .ok (.getfield 41, 3) := by decide +kernel
theorem dX1_readSample_25 : decode cX1_readSample 25 = .ok (.iload_n 3, 1) := by decide +kernel
theorem dX1_readSample_26 : decode cX1_readSample 26 = .ok (.iaload, 1) := by decide +kernel
theorem dX1_readSample_27 : decode cX1_readSample 27 = .ok (.i2l, 1) := by decide +kernel
theorem dX1_readSample_28 : decode cX1_readSample 28 = .ok (.lstore 4, 2) := by decide +kernel
theorem dX1_readSample_30 : decode cX1_readSample 30 = .ok (.iload_n 3, 1) := by decide +kernel
theorem dX1_readSample_31 : decode cX1_readSample 31 = .ok (.ifCond .ge 7, 3) := by decide +kernel
theorem dX1_readSample_34 : decode cX1_readSample 34 = .ok (.iconst 0, 1) := by decide +kernel
theorem dX1_readSample_35 : decode cX1_readSample 35 = .ok (.goto 12, 3) := by decide +kernel
theorem dX1_readSample_38 : decode cX1_readSample 38 = .ok (.aload_n 0, 1) := by decide +kernel
theorem dX1_readSample_39 : decode cX1_readSample 39 = .ok (.getfield 12, 3) := by decide +kernel
theorem dX1_readSample_42 : decode cX1_readSample 42 = .ok (.getfield 45, 3) := by decide +kernel
theorem dX1_readSample_45 : decode cX1_readSample 45 = .ok (.iload_n 3, 1) := by decide +kernel
theorem dX1_readSample_46 : decode cX1_readSample 46 = .ok (.iaload, 1) := by decide +kernel
theorem dX1_readSample_47 : decode cX1_readSample 47 = .ok (.istore 6, 2) := by decide +kernel
theorem dX1_readSample_49 : decode cX1_readSample 49 = .ok (.iload_n 3, 1) := by decide +kernel
theorem dX1_readSample_50 : decode cX1_readSample 50 = .ok (.ifCond .ge 7, 3) := by decide +kernel
theorem dX1_readSample_53 : decode cX1_readSample 53 = .ok (.iconst 0, 1) := by decide +kernel
theorem dX1_readSample_54 : decode cX1_readSample 54 = .ok (.goto 12, 3) := by decide +kernel
theorem dX1_readSample_57 : decode cX1_readSample 57 = .ok (.aload_n 0, 1) := by decide +kernel
theorem dX1_readSample_58 : decode cX1_readSample 58 = .ok (.getfield 12, 3) := by decide +kernel
theorem dX1_readSample_61 : decode cX1_readSample 61 = .ok (.getfield 48, 3) := by decide +kernel
theorem dX1_readSample_64 : decode cX1_readSample 64 = .ok (.iload_n 3, 1) := by decide +kernel
theorem dX1_readSample_65 : decode cX1_readSample 65 = .ok (.iaload, 1) := by decide +kernel
theorem dX1_readSample_66 : decode cX1_readSample 66 = .ok (.istore 7, 2) := by decide +kernel
theorem dX1_readSample_68 : decode cX1_readSample 68 = .ok (.ldc 51, 2) := by decide +kernel
theorem dX1_readSample_70 : decode cX1_readSample 70 = .ok (.iload_n 2, 1) := by decide +kernel
theorem dX1_readSample_71 : decode cX1_readSample 71 = .ok (.isub, 1) := by decide +kernel
theorem dX1_readSample_72 : decode cX1_readSample 72 = .ok (.i2l, 1) := by decide +kernel
theorem dX1_readSample_73 : decode cX1_readSample 73 = .ok (.lload 4, 2) := by decide +kernel
theorem dX1_readSample_75 : decode cX1_readSample 75 = .ok (.lsub, 1) := by decide +kernel
theorem dX1_readSample_76 : decode cX1_readSample 76 = .ok (.lstore 8, 2) := by decide +kernel
theorem dX1_readSample_78 : decode cX1_readSample 78 = .ok (.lload 4, 2) := by decide +kernel
theorem dX1_readSample_80 : decode cX1_readSample 80 = .ok (.aload_n 0, 1) := by decide +kernel
theorem dX1_readSample_81 : decode cX1_readSample 81 = .ok (.aload_n 1, 1) := by decide +kernel
theorem dX1_readSample_82 : decode cX1_readSample 82 = .ok (.iload_n 3, 1) := by decide +kernel
theorem dX1_readSample_83 : decode cX1_readSample 83 = .ok (.ifCond .ge 7, 3) := by decide +kernel
theorem dX1_readSample_86 : decode cX1_readSample 86 = .ok (.lconst 0, 1) := by decide +kernel
theorem dX1_readSample_87 : decode cX1_readSample 87 = .ok (.goto 4, 3) := by decide +kernel
theorem dX1_readSample_90 : decode cX1_readSample 90 = .ok (.lconst 1, 1) := by decide +kernel
theorem dX1_readSample_91 : decode cX1_readSample 91 = .ok (.lload 8, 2) := by decide +kernel
theorem dX1_readSample_93 : decode cX1_readSample 93 = .ok (.lload 8, 2) := by decide +kernel
theorem dX1_readSample_95 : decode cX1_readSample 95 = .ok (.invokevirtual 30, 3) := by decide +kernel
theorem dX1_readSample_98 : decode cX1_readSample 98 = .ok (.ladd, 1) := by decide +kernel
theorem dX1_readSample_99 : decode cX1_readSample 99 = .ok (.lstore 4, 2) := by decide +kernel
theorem dX1_readSample_101 : decode cX1_readSample 101 = .ok (.iload 6, 2) := by decide +kernel
theorem dX1_readSample_103 : decode cX1_readSample 103 = .ok (.aload_n 0, 1) := by decide +kernel
theorem dX1_readSample_104 : decode cX1_readSample 104 = .ok (.aload_n 1, 1) := by decide +kernel
theorem dX1_readSample_105 : decode cX1_readSample 105 = .ok (.iload 6, 2) := by decide +kernel
theorem dX1_readSample_107 : decode cX1_readSample 107 = .ok (.invokevirtual 52, 3) := by decide +kernel
theorem dX1_readSample_110 : decode cX1_readSample 110 = .ok (.iadd, 1) := by decide +kernel
theorem dX1_readSample_111 : decode cX1_readSample 111 = .ok (.istore 6, 2) := by decide +kernel
theorem dX1_readSample_113 : decode cX1_readSample 113 = .ok (.iload 7, 2) := by decide +kernel
theorem dX1_readSample_115 : decode cX1_readSample 115 = .ok (.aload_n 0, 1) := by decide +kernel
theorem dX1_readSample_116 : decode cX1_readSample 116 = .ok (.aload_n 1, 1) := by decide +kernel
theorem dX1_readSample_117 : decode cX1_readSample 117 = .ok (.iload 7, 2) := by decide +kernel
theorem dX1_readSample_119 : decode cX1_readSample 119 = .ok (.invokevirtual 52, 3) := by decide +kernel
theorem dX1_readSample_122 : decode cX1_readSample 122 = .ok (.iadd, 1) := by decide +kernel
theorem dX1_readSample_123 : decode cX1_readSample 123 = .ok (.istore 7, 2) := by decide +kernel
theorem dX1_readSample_125 : decode cX1_readSample 125 = .ok (.aload_n 0, 1) := by decide +kernel
theorem dX1_readSample_126 : decode cX1_readSample 126 = .ok (.getfield 22, 3) := by decide +kernel
theorem dX1_readSample_129 : decode cX1_readSample 129 = .ok (.iconst (-1), 1) := by decide +kernel
theorem dX1_readSample_130 : decode cX1_readSample 130 = .ok (.if_icmp .ne 17, 3) := by decide +kernel
theorem dX1_readSample_133 : decode cX1_readSample 133 = .ok (.aload_n 0, 1) := by decide +kernel
theorem dX1_readSample_134 : decode cX1_readSample 134 = .ok (.getfield 12, 3) := by decide +kernel
theorem dX1_readSample_137 : decode cX1_readSample 137 = .ok (.lload 4, 2) := by decide +kernel
theorem dX1_readSample_139 : decode cX1_readSample 139 = .ok (.l2i, 1) := by decide +kernel
theorem dX1_readSample_140 : decode cX1_readSample 140 = .ok (.iload 6, 2) := by decide +kernel
theorem dX1_readSample_142 : decode cX1_readSample 142 = .ok (.iload 7, 2) := by decide +kernel
theorem dX1_readSample_144 : decode cX1_readSample 144 = .ok (.invokevirtual 56, 3) := by decide +kernel
theorem dX1_readSample_147 : decode cX1_readSample 147 = .ok (.return_, 1) := by decide +kernel
set_option maxRecDepth 20000 in
theorem ggX1_readMove_X1_readNumber : GoodIn wsX1_readMove wsX1_readNumber := goodIn_r _ [7, 8, 9, 10, 11, 12, 13, 14, 15, 16] (by decide +kernel) (by decide +kernel)
set_option maxRecDepth 20000 in
theorem gX1_readMove_X1_readNumber : GoodIn wsX1_readMove (wsV RX1 30 RX1 yX1_readNumber wsX1_readNumber) := goodIn_app (goodIn_of _ (by decide +kernel)) ggX1_readMove_X1_readNumber
theorem dX1_readMove_0 : decode cX1_readMove 0 = .ok (.ldc2_w 60, 3) := by decide +kernel
theorem dX1_readMove_3 : decode cX1_readMove 3 = .ok (.ldc 62, 2) := by decide +kernel
theorem dX1_readMove_5 : decode cX1_readMove 5 = .ok (.iload_n 2, 1) := by decide +kernel
theorem dX1_readMove_6 : decode cX1_readMove 6 = .ok (.isub, 1) := by decide +kernel
theorem dX1_readMove_7 : decode cX1_readMove 7 = .ok (.i2l, 1) := by decide +kernel
theorem dX1_readMove_8 : decode cX1_readMove 8 = .ok (.lmul, 1) := by decide +kernel
theorem dX1_readMove_9 : decode cX1_readMove 9 = .ok (.lstore_n 3, 1) := by decide +kernel
theorem dX1_readMove_10 : decode cX1_readMove 10 = .ok (.ldc2_w 60, 3) := by decide +kernel
theorem dX1_readMove_13 : decode cX1_readMove 13 = .ok (.ldc 62, 2) := by decide +kernel
theorem dX1_readMove_15 : decode cX1_readMove 15 = .ok (.iload_n 2, 1) := by decide +kernel
theorem dX1_readMove_16 : decode cX1_readMove 16 = .ok (.iadd, 1) := by decide +kernel
theorem dX1_readMove_17 : decode cX1_readMove 17 = .ok (.i2l, 1) := by decide +kernel
theorem dX1_readMove_18 : decode cX1_readMove 18 = .ok (.lmul, 1) := by decide +kernel
theorem dX1_readMove_19 : decode cX1_readMove 19 = .ok (.lconst 1, 1) := by decide +kernel
theorem dX1_readMove_20 : decode cX1_readMove 20 = .ok (.lsub, 1) := by decide +kernel
theorem dX1_readMove_21 : decode cX1_readMove 21 = .ok (.lstore 5, 2) := by decide +kernel
theorem dX1_readMove_23 : decode cX1_readMove 23 = .ok (.aload_n 0, 1) := by decide +kernel
theorem dX1_readMove_24 : decode cX1_readMove 24 = .ok (.aload_n 1, 1) := by decide +kernel
theorem dX1_readMove_25 : decode cX1_readMove 25 = .ok (.lconst 0, 1) := by decide +kernel
theorem dX1_readMove_26 : decode cX1_readMove 26 = .ok (.lload_n 3, 1) := by decide +kernel
theorem dX1_readMove_27 : decode cX1_readMove 27 = .ok (.lload 5, 2) := by decide +kernel
theorem dX1_readMove_29 : decode cX1_readMove 29 = .ok (.invokevirtual 30, 3) := by decide +kernel
theorem dX1_readMove_32 : decode cX1_readMove 32 = .ok (.l2i, 1) := by decide +kernel
theorem dX1_readMove_33 : decode cX1_readMove 33 = .ok (.istore 7, 2) := by decide +kernel
theorem dX1_readMove_35 : decode cX1_readMove 35 = .ok (.iload 7, 2) := by decide +kernel
theorem dX1_readMove_37 : decode cX1_readMove 37 = .ok (.iconst 1, 1) := by decide +kernel
theorem dX1_readMove_38 : decode cX1_readMove 38 = .ok (.iushr, 1) := by decide +kernel
theorem dX1_readMove_39 : decode cX1_readMove 39 = .ok (.iload 7, 2) := by decide +kernel
theorem dX1_readMove_41 : decode cX1_readMove 41 = .ok (.iconst 1, 1) := by decide +kernel
theorem dX1_readMove_42 : decode cX1_readMove 42 = .ok (.iand, 1) := by decide +kernel
theorem dX1_readMove_43 : decode cX1_readMove 43 = .ok (.ineg, 1) := by decide +kernel
theorem dX1_readMove_44 : decode cX1_readMove 44 = .ok (.ixor, 1) := by decide +kernel
theorem dX1_readMove_45 : decode cX1_readMove 45 = .ok (.ireturn, 1) := by decide +kernel
theorem dX1_readNumber_0 : decode cX1_readNumber 0 = .ok (.lconst 0, 1) := by decide +kernel
theorem dX1_readNumber_1 : decode cX1_readNumber 1 = .ok (.lstore 8, 2) := by decide +kernel
theorem dX1_readNumber_3 : decode cX1_readNumber 3 = .ok (.iconst 0, 1) := by decide +kernel
theorem dX1_readNumber_4 : decode cX1_readNumber 4 = .ok (.istore 10, 2) := by decide +kernel
theorem dX1_readNumber_6 : decode cX1_readNumber 6 = .ok (.iload 10, 2) := by decide +kernel
theorem dX1_readNumber_8 : decode cX1_readNumber 8 = .ok (.iconst 5, 1) := by decide +kernel
theorem dX1_readNumber_9 : decode cX1_readNumber 9 = .ok (.if_icmp .ge 188, 3) := by decide +kernel
theorem dX1_readNumber_12 : decode cX1_readNumber 12 = .ok (.aload_n 0, 1) := by decide +kernel
theorem dX1_readNumber_13 : decode cX1_readNumber 13 = .ok (.getfield 22, 3) := by decide +kernel
theorem dX1_readNumber_16 : decode cX1_readNumber 16 = .ok (.iconst (-1), 1) := by decide +kernel
theorem dX1_readNumber_17 : decode cX1_readNumber 17 = .ok (.if_icmp .ne 180, 3) := by decide +kernel
theorem dX1_readNumber_20 : decode cX1_readNumber 20 = .ok (.aload_n 0, 1) := by decide +kernel
theorem dX1_readNumber_21 : decode cX1_readNumber 21 = .ok (.getfield 18, 3) := by decide +kernel
theorem dX1_readNumber_24 : decode cX1_readNumber 24 = .ok (.aload_n 1, 1) := by decide +kernel
theorem dX1_readNumber_25 : decode cX1_readNumber 25 = .ok (.getfield 38, 3) := by decide +kernel
theorem dX1_readNumber_28 : decode cX1_readNumber 28 = .ok (.if_icmp .lt 13, 3) := by decide +kernel
theorem dX1_readNumber_31 : decode cX1_readNumber 31 = .ok (.aload_n 0, 1) := by decide +kernel
theorem dX1_readNumber_32 : decode cX1_readNumber 32 = .ok (.aload_n 0, 1) := by decide +kernel
theorem dX1_readNumber_33 : decode cX1_readNumber 33 = .ok (.getfield 18, 3) := by decide +kernel
theorem dX1_readNumber_36 : decode cX1_readNumber 36 = .ok (.putfield 22, 3) := by decide +kernel
theorem dX1_readNumber_39 : decode cX1_readNumber 39 = .ok (.lconst 0, 1) := by decide +kernel
theorem dX1_readNumber_40 : decode cX1_readNumber 40 = .ok (.lreturn, 1) := by decide +kernel
theorem dX1_readNumber_41 : decode cX1_readNumber 41 = .ok (.aload_n 1, 1) := by decide +kernel
theorem dX1_readNumber_42 : decode cX1_readNumber 42 = .ok (.getfield 63, 3) := by decide +kernel
theorem dX1_readNumber_45 : decode cX1_readNumber 45 = .ok (.aload_n 0, 1) := by decide +kernel
theorem dX1_readNumber_46 : decode cX1_readNumber 46 = .ok (.getfield 18, 3) := by decide +kernel
theorem dX1_readNumber_49 : decode cX1_readNumber 49 = .ok (.iaload, 1) := by decide +kernel
theorem dX1_readNumber_50 : decode cX1_readNumber 50 = .ok (.istore 11, 2) := by decide +kernel
theorem dX1_readNumber_52 : decode cX1_readNumber 52 = .ok (.iload 11, 2) := by decide +kernel
theorem dX1_readNumber_54 : decode cX1_readNumber 54 = .ok (.bipush 127, 2) := by decide +kernel
theorem dX1_readNumber_56 : decode cX1_readNumber 56 = .ok (.if_icmp .gt 7, 3) := by decide +kernel
theorem dX1_readNumber_59 : decode cX1_readNumber 59 = .ok (.iconst 1, 1) := by decide +kernel
theorem dX1_readNumber_60 : decode cX1_readNumber 60 = .ok (.goto 4, 3) := by decide +kernel
theorem dX1_readNumber_63 : decode cX1_readNumber 63 = .ok (.iconst 0, 1) := by decide +kernel
theorem dX1_readNumber_64 : decode cX1_readNumber 64 = .ok (.istore 12, 2) := by decide +kernel
theorem dX1_readNumber_66 : decode cX1_readNumber 66 = .ok (.iload 11, 2) := by decide +kernel
theorem dX1_readNumber_68 : decode cX1_readNumber 68 = .ok (.ifCond .ne 12, 3) := by decide +kernel
theorem dX1_readNumber_71 : decode cX1_readNumber 71 = .ok (.iload 10, 2) := by decide +kernel
theorem dX1_readNumber_73 : decode cX1_readNumber 73 = .ok (.ifCond .le 7, 3) := by decide +kernel
theorem dX1_readNumber_76 : decode cX1_readNumber 76 = .ok (.iconst 1, 1) := by decide +kernel
theorem dX1_readNumber_77 : decode cX1_readNumber 77 = .ok (.goto 4, 3) := by decide +kernel
theorem dX1_readNumber_80 : decode cX1_readNumber 80 = .ok (.iconst 0, 1) := by decide +kernel
theorem dX1_readNumber_81 : decode cX1_readNumber 81 = .ok (.istore 13, 2) := by decide +kernel
theorem dX1_readNumber_83 : decode cX1_readNumber 83 = .ok (.lload 8, 2) := by decide +kernel
theorem dX1_readNumber_85 : decode cX1_readNumber 85 = .ok (.iload 11, 2) := by decide +kernel
theorem dX1_readNumber_87 : decode cX1_readNumber 87 = .ok (.bipush 127, 2) := by decide +kernel
theorem dX1_readNumber_89 : decode cX1_readNumber 89 = .ok (.iand, 1) := by decide +kernel
theorem dX1_readNumber_90 : decode cX1_readNumber 90 = .ok (.i2l, 1) := by decide +kernel
theorem dX1_readNumber_91 : decode cX1_readNumber 91 = .ok (.bipush 7, 2) := by decide +kernel
theorem dX1_readNumber_93 : decode cX1_readNumber 93 = .ok (.iload 10, 2) := by decide +kernel
theorem dX1_readNumber_95 : decode cX1_readNumber 95 = .ok (.imul, 1) := by decide +kernel
theorem dX1_readNumber_96 : decode cX1_readNumber 96 = .ok (.lshl, 1) := by decide +kernel
theorem dX1_readNumber_97 : decode cX1_readNumber 97 = .ok (.ladd, 1) := by decide +kernel
theorem dX1_readNumber_98 : decode cX1_readNumber 98 = .ok (.lstore 8, 2) := by decide +kernel
theorem dX1_readNumber_100 : decode cX1_readNumber 100 = .ok (.iload 12, 2) := by decide +kernel
theorem dX1_readNumber_102 : decode cX1_readNumber 102 = .ok (.ifCond .eq 8, 3) := by decide +kernel
theorem dX1_readNumber_105 : decode cX1_readNumber 105 = .ok (.lload 8, 2) := by decide +kernel
theorem dX1_readNumber_107 : decode cX1_readNumber 107 = .ok (.goto 16, 3) := by decide +kernel
theorem dX1_readNumber_110 : decode cX1_readNumber 110 = .ok (.lload 8, 2) := by decide +kernel
theorem dX1_readNumber_112 : decode cX1_readNumber 112 = .ok (.lconst 1, 1) := by decide +kernel
theorem dX1_readNumber_113 : decode cX1_readNumber 113 = .ok (.bipush 7, 2) := by decide +kernel
theorem dX1_readNumber_115 : decode cX1_readNumber 115 = .ok (.iload 10, 2) := by decide +kernel
theorem dX1_readNumber_117 : decode cX1_readNumber 117 = .ok (.imul, 1) := by decide +kernel
theorem dX1_readNumber_118 : decode cX1_readNumber 118 = .ok (.bipush 7, 2) := by decide +kernel
theorem dX1_readNumber_120 : decode cX1_readNumber 120 = .ok (.iadd, 1) := by decide +kernel
theorem dX1_readNumber_121 : decode cX1_readNumber 121 = .ok (.lshl, 1) := by decide +kernel
theorem dX1_readNumber_122 : decode cX1_readNumber 122 = .ok (.ladd, 1) := by decide +kernel
theorem dX1_readNumber_123 : decode cX1_readNumber 123 = .ok (.lstore 14, 2) := by decide +kernel
theorem dX1_readNumber_125 : decode cX1_readNumber 125 = .ok (.lload 8, 2) := by decide +kernel
theorem dX1_readNumber_127 : decode cX1_readNumber 127 = .ok (.lconst 1, 1) := by decide +kernel
theorem dX1_readNumber_128 : decode cX1_readNumber 128 = .ok (.land, 1) := by decide +kernel
theorem dX1_readNumber_129 : decode cX1_readNumber 129 = .ok (.lconst 0, 1) := by decide +kernel
theorem dX1_readNumber_130 : decode cX1_readNumber 130 = .ok (.lcmp, 1) := by decide +kernel
theorem dX1_readNumber_131 : decode cX1_readNumber 131 = .ok (.ifCond .ne 8, 3) := by decide +kernel
theorem dX1_readNumber_134 : decode cX1_readNumber 134 = .ok (.lload 4, 2) := by decide +kernel
theorem dX1_readNumber_136 : decode cX1_readNumber 136 = .ok (.goto 5, 3) := by decide +kernel
theorem dX1_readNumber_139 : decode cX1_readNumber 139 = .ok (.lload 6, 2) := by decide +kernel
theorem dX1_readNumber_141 : decode cX1_readNumber 141 = .ok (.lstore 16, 2) := by decide +kernel
theorem dX1_readNumber_143 : decode cX1_readNumber 143 = .ok (.iload 13, 2) := by decide +kernel
theorem dX1_readNumber_145 : decode cX1_readNumber 145 = .ok (.ifCond .ne 18, 3) := by decide +kernel
theorem dX1_readNumber_148 : decode cX1_readNumber 148 = .ok (.lload 14, 2) := by decide +kernel
theorem dX1_readNumber_150 : decode cX1_readNumber 150 = .ok (.lload_n 2, 1) := by decide +kernel
theorem dX1_readNumber_151 : decode cX1_readNumber 151 = .ok (.lcmp, 1) := by decide +kernel
theorem dX1_readNumber_152 : decode cX1_readNumber 152 = .ok (.ifCond .lt 11, 3) := by decide +kernel
theorem dX1_readNumber_155 : decode cX1_readNumber 155 = .ok (.lload 14, 2) := by decide +kernel
theorem dX1_readNumber_157 : decode cX1_readNumber 157 = .ok (.lload 16, 2) := by decide +kernel
theorem dX1_readNumber_159 : decode cX1_readNumber 159 = .ok (.lcmp, 1) := by decide +kernel
theorem dX1_readNumber_160 : decode cX1_readNumber 160 = .ok (.ifCond .le 13, 3) := by decide +kernel
theorem dX1_readNumber_163 : decode cX1_readNumber 163 = .ok (.aload_n 0, 1) := by decide +kernel
theorem dX1_readNumber_164 : decode cX1_readNumber 164 = .ok (.aload_n 0, 1) := by decide +kernel
theorem dX1_readNumber_165 : decode cX1_readNumber 165 = .ok (.getfield 18, 3) := by decide +kernel
theorem dX1_readNumber_168 : decode cX1_readNumber 168 = .ok (.putfield 22, 3) := by decide +kernel
theorem dX1_readNumber_171 : decode cX1_readNumber 171 = .ok (.lconst 0, 1) := by decide +kernel
theorem dX1_readNumber_172 : decode cX1_readNumber 172 = .ok (.lreturn, 1) := by decide +kernel
theorem dX1_readNumber_173 : decode cX1_readNumber 173 = .ok (.aload_n 0, 1) := by decide +kernel
theorem dX1_readNumber_174 : decode cX1_readNumber 174 = .ok (.dup, 1) := by decide +kernel
theorem dX1_readNumber_175 : decode cX1_readNumber 175 = .ok (.getfield 18, 3) := by decide +kernel
theorem dX1_readNumber_178 : decode cX1_readNumber 178 = .ok (.iconst 1, 1) := by decide +kernel
theorem dX1_readNumber_179 : decode cX1_readNumber 179 = .ok (.iadd, 1) := by decide +kernel
theorem dX1_readNumber_180 : decode cX1_readNumber 180 = .ok (.putfield 18, 3) := by decide +kernel
theorem dX1_readNumber_183 : decode cX1_readNumber 183 = .ok (.iload 12, 2) := by decide +kernel
theorem dX1_readNumber_185 : decode cX1_readNumber 185 = .ok (.ifCond .eq 6, 3) := by decide +kernel
theorem dX1_readNumber_188 : decode cX1_readNumber 188 = .ok (.lload 8, 2) := by decide +kernel
theorem dX1_readNumber_190 : decode cX1_readNumber 190 = .ok (.lreturn, 1) := by decide +kernel
theorem dX1_readNumber_191 : decode cX1_readNumber 191 = .ok (.iinc 10 1, 3) := by decide +kernel
theorem dX1_readNumber_194 : decode cX1_readNumber 194 = .ok (.goto (-188), 3) := by decide +kernel
theorem dX1_readNumber_197 : decode cX1_readNumber 197 = .ok (.lconst 0, 1) := by decide +kernel
theorem dX1_readNumber_198 : decode cX1_readNumber 198 = .ok (.lreturn, 1) := by decide +kernel
theorem dX2_init_0 : decode cX2_init 0 = .ok (.aload_n 0, 1) := by decide +kernel
theorem dX2_init_1 : decode cX2_init 1 = .ok (.invokespecial 3, 3) := by decide +kernel
theorem dX2_init_4 : decode cX2_init 4 = .ok (.aload_n 0, 1) := by decide +kernel
theorem dX2_init_5 : decode cX2_init 5 = .ok (.bipush 20, 2) := by decide +kernel
theorem dX2_init_7 : decode cX2_init 7 = .ok (.newarray .int, 2) := by decide +kernel
theorem dX2_init_9 : decode cX2_init 9 = .ok (.putfield 9, 3) := by decide +kernel
theorem dX2_init_12 : decode cX2_init 12 = .ok (.aload_n 0, 1) := by decide +kernel
theorem dX2_init_13 : decode cX2_init 13 = .ok (.bipush 20, 2) := by decide +kernel
theorem dX2_init_15 : decode cX2_init 15 = .ok (.newarray .int, 2) := by decide +kernel
theorem dX2_init_17 : decode cX2_init 17 = .ok (.putfield 15, 3) := by decide +kernel
theorem dX2_init_20 : decode cX2_init 20 = .ok (.aload_n 0, 1) := by decide +kernel
theorem dX2_init_21 : decode cX2_init 21 = .ok (.bipush 20, 2) := by decide +kernel
theorem dX2_init_23 : decode cX2_init 23 = .ok (.newarray .int, 2) := by decide +kernel
theorem dX2_init_25 : decode cX2_init 25 = .ok (.putfield 18, 3) := by decide +kernel
theorem dX2_init_28 : decode cX2_init 28 = .ok (.return_, 1) := by decide +kernel
theorem dX2_append_0 : decode cX2_append 0 = .ok (.aload_n 0, 1) := by decide +kernel
theorem dX2_append_1 : decode cX2_append 1 = .ok (.getfield 21, 3) := by decide +kernel
theorem dX2_append_4 : decode cX2_append 4 = .ok (.bipush 20, 2) := by decide +kernel
theorem dX2_append_6 : decode cX2_append 6 = .ok (.if_icmp .ge 43, 3) := by decide +kernel
theorem dX2_append_9 : decode cX2_append 9 = .ok (.aload_n 0, 1) := by decide +kernel
theorem dX2_append_10 : decode cX2_append 10 = .ok (.getfield 9, 3) := by decide +kernel
theorem dX2_append_13 : decode cX2_append 13 = .ok (.aload_n 0, 1) := by decide +kernel
theorem dX2_append_14 : decode cX2_append 14 = .ok (.getfield 21, 3) := by decide +kernel
theorem dX2_append_17 : decode cX2_append 17 = .ok (.iload_n 1, 1) := by decide +kernel
theorem dX2_append_18 : decode cX2_append 18 = .ok (.iastore, 1) := by decide +kernel
theorem dX2_append_19 : decode cX2_append 19 = .ok (.aload_n 0, 1) := by decide +kernel
theorem dX2_append_20 : decode cX2_append 20 = .ok (.getfield 15, 3) := by decide +kernel
theorem dX2_append_23 : decode cX2_append 23 = .ok (.aload_n 0, 1) := by decide +kernel
theorem dX2_append_24 : decode cX2_append 24 = .ok (.getfield 21, 3) := by decide +kernel
theorem dX2_append_27 : decode cX2_append 27 = .ok (.iload_n 2, 1) := by decide +kernel
theorem dX2_append_28 : decode cX2_append 28 = .ok (.iastore, 1) := by decide +kernel
theorem dX2_append_29 : decode cX2_append 29 = .ok (.aload_n 0, 1) := by decide +kernel
theorem dX2_append_30 : decode cX2_append 30 = .ok (.getfield 18, 3) := by decide +kernel
theorem dX2_append_33 : decode cX2_append 33 = .ok (.aload_n 0, 1) := by decide +kernel
theorem dX2_append_34 : decode cX2_append 34 = .ok (.getfield 21, 3) := by decide +kernel
theorem dX2_append_37 : decode cX2_append 37 = .ok (.iload_n 3, 1) := by decide +kernel
theorem dX2_append_38 : decode cX2_append 38 = .ok (.iastore, 1) := by decide +kernel
theorem dX2_append_39 : decode cX2_append 39 = .ok (.aload_n 0, 1) := by decide +kernel
theorem dX2_append_40 : decode cX2_append 40 = .ok (.dup, 1) := by decide +kernel
theorem dX2_append_41 : decode cX2_append 41 = .ok (.getfield 21, 3) := by decide +kernel
theorem dX2_append_44 : decode cX2_append 44 = .ok (.iconst 1, 1) := by decide +kernel
theorem dX2_append_45 : decode cX2_append 45 = .ok (.iadd, 1) := by decide +kernel
theorem dX2_append_46 : decode cX2_append 46 = .ok (.putfield 21, 3) := by decide +kernel
theorem dX2_append_49 : decode cX2_append 49 = .ok (.return_, 1) := by decide +kernel
set_option maxRecDepth 20000 in
theorem ggX2_copyFrom_X2_append : GoodIn wsX2_copyFrom wsX2_append := goodIn_r _ [9, 1, 2, 3, 4, 10, 11, 12, 13] (by decide +kernel) (by decide +kernel)
set_option maxRecDepth 20000 in
theorem gX2_copyFrom_X2_append : GoodIn wsX2_copyFrom (wsV RX2 25 RX2 yX2_append wsX2_append) := goodIn_app (goodIn_of _ (by decide +kernel)) ggX2_copyFrom_X2_append
theorem dX2_copyFrom_0 : decode cX2_copyFrom 0 = .ok (.aload_n 0, 1) := by decide +kernel
theorem dX2_copyFrom_1 : decode cX2_copyFrom 1 = .ok (.iconst 0, 1) := by decide +kernel
theorem dX2_copyFrom_2 : decode cX2_copyFrom 2 = .ok (.putfield 21, 3) := by decide +kernel
theorem dX2_copyFrom_5 : decode cX2_copyFrom 5 = .ok (.iconst 0, 1) := by decide +kernel
theorem dX2_copyFrom_6 : decode cX2_copyFrom 6 = .ok (.istore_n 2, 1) := by decide +kernel
theorem dX2_copyFrom_7 : decode cX2_copyFrom 7 = .ok (.iload_n 2, 1) := by decide +kernel
theorem dX2_copyFrom_8 : decode cX2_copyFrom 8 = .ok (.aload_n 1, 1) := by decide +kernel
theorem dX2_copyFrom_9 : decode cX2_copyFrom 9 = .ok (.getfield 21, 3) := by decide +kernel
theorem dX2_copyFrom_12 : decode cX2_copyFrom 12 = .ok (.if_icmp .ge 31, 3) := by decide +kernel
theorem dX2_copyFrom_15 : decode cX2_copyFrom 15 = .ok (.aload_n 0, 1) := by decide +kernel
theorem dX2_copyFrom_16 : decode cX2_copyFrom 16 = .ok (.aload_n 1, 1) := by decide +kernel
theorem dX2_copyFrom_17 : decode cX2_copyFrom 17 = .ok (.getfield 9, 3) := by decide +kernel
theorem dX2_copyFrom_20 : decode cX2_copyFrom 20 = .ok (.iload_n 2, 1) := by decide +kernel
theorem dX2_copyFrom_21 : decode cX2_copyFrom 21 = .ok (.iaload, 1) := by decide +kernel
theorem dX2_copyFrom_22 : decode cX2_copyFrom 22 = .ok (.aload_n 1, 1) := by decide +kernel
theorem dX2_copyFrom_23 : decode cX2_copyFrom 23 = .ok (.getfield 15, 3) := by decide +kernel
theorem dX2_copyFrom_26 : decode cX2_copyFrom 26 = .ok (.iload_n 2, 1) := by decide +kernel
theorem dX2_copyFrom_27 : decode cX2_copyFrom 27 = .ok (.iaload, 1) := by decide +kernel
theorem dX2_copyFrom_28 : decode cX2_copyFrom 28 = .ok (.aload_n 1, 1) := by decide +kernel
theorem dX2_copyFrom_29 : decode cX2_copyFrom 29 = .ok (.getfield 18, 3) := by decide +kernel
theorem dX2_copyFrom_32 : decode cX2_copyFrom 32 = .ok (.iload_n 2, 1) := by decide +kernel
theorem dX2_copyFrom_33 : decode cX2_copyFrom 33 = .ok (.iaload, 1) := by decide +kernel
theorem dX2_copyFrom_34 : decode cX2_copyFrom 34 = .ok (.invokevirtual 25, 3) := by decide +kernel
theorem dX2_copyFrom_37 : decode cX2_copyFrom 37 = .ok (.iinc 2 1, 3) := by decide +kernel
theorem dX2_copyFrom_40 : decode cX2_copyFrom 40 = .ok (.goto (-33), 3) := by decide +kernel
theorem dX2_copyFrom_43 : decode cX2_copyFrom 43 = .ok (.return_, 1) := by decide +kernel
theorem dX2_firstNotBefore_0 : decode cX2_firstNotBefore 0 = .ok (.iconst 0, 1) := by decide +kernel
theorem dX2_firstNotBefore_1 : decode cX2_firstNotBefore 1 = .ok (.istore_n 2, 1) := by decide +kernel
theorem dX2_firstNotBefore_2 : decode cX2_firstNotBefore 2 = .ok (.iload_n 2, 1) := by decide +kernel
theorem dX2_firstNotBefore_3 : decode cX2_firstNotBefore 3 = .ok (.aload_n 0, 1) := by decide +kernel
theorem dX2_firstNotBefore_4 : decode cX2_firstNotBefore 4 = .ok (.getfield 21, 3) := by decide +kernel
theorem dX2_firstNotBefore_7 : decode cX2_firstNotBefore 7 = .ok (.if_icmp .ge 19, 3) := by decide +kernel
theorem dX2_firstNotBefore_10 : decode cX2_firstNotBefore 10 = .ok (.aload_n 0, 1) := by decide +kernel
theorem dX2_firstNotBefore_11 : decode cX2_firstNotBefore 11 = .ok (.getfield 9, 3) := by decide +kernel
theorem dX2_firstNotBefore_14 : decode cX2_firstNotBefore 14 = .ok (.iload_n 2, 1) := by decide +kernel
theorem dX2_firstNotBefore_15 : decode cX2_firstNotBefore 15 = .ok (.iaload, 1) := by decide +kernel
theorem dX2_firstNotBefore_16 : decode cX2_firstNotBefore 16 = .ok (.iload_n 1, 1) := by decide +kernel
theorem dX2_firstNotBefore_17 : decode cX2_firstNotBefore 17 = .ok (.if_icmp .ge 9, 3) := by decide +kernel
theorem dX2_firstNotBefore_20 : decode cX2_firstNotBefore 20 = .ok (.iinc 2 1, 3) := by decide +kernel
theorem dX2_firstNotBefore_23 : decode cX2_firstNotBefore 23 = .ok (.goto (-21), 3) := by decide +kernel
theorem dX2_firstNotBefore_26 : decode cX2_firstNotBefore 26 = .ok (.iload_n 2, 1) := by decide +kernel
theorem dX2_firstNotBefore_27 : decode cX2_firstNotBefore 27 = .ok (.ireturn, 1) := by decide +kernel
theorem dX3_init_0 : decode cX3_init 0 = .ok (.aload_n 0, 1) := by decide +kernel
theorem dX3_init_1 : decode cX3_init 1 = .ok (.invokespecial 3, 3) := by decide +kernel
theorem dX3_init_4 : decode cX3_init 4 = .ok (.aload_n 0, 1) := by decide +kernel
theorem dX3_init_5 : decode cX3_init 5 = .ok (.bipush 20, 2) := by decide +kernel
theorem dX3_init_7 : decode cX3_init 7 = .ok (.newarray .long, 2) := by decide +kernel
theorem dX3_init_9 : decode cX3_init 9 = .ok (.putfield 9, 3) := by decide +kernel
theorem dX3_init_12 : decode cX3_init 12 = .ok (.aload_n 0, 1) := by decide +kernel
theorem dX3_init_13 : decode cX3_init 13 = .ok (.bipush 20, 2) := by decide +kernel
theorem dX3_init_15 : decode cX3_init 15 = .ok (.newarray .long, 2) := by decide +kernel
theorem dX3_init_17 : decode cX3_init 17 = .ok (.putfield 15, 3) := by decide +kernel
theorem dX3_init_20 : decode cX3_init 20 = .ok (.aload_n 0, 1) := by decide +kernel
theorem dX3_init_21 : decode cX3_init 21 = .ok (.bipush 20, 2) := by decide +kernel
theorem dX3_init_23 : decode cX3_init 23 = .ok (.newarray .long, 2) := by decide +kernel
theorem dX3_init_25 : decode cX3_init 25 = .ok (.putfield 18, 3) := by decide +kernel
theorem dX3_init_28 : decode cX3_init 28 = .ok (.aload_n 0, 1) := by decide +kernel
theorem dX3_init_29 : decode cX3_init 29 = .ok (.bipush 20, 2) := by decide +kernel
theorem dX3_init_31 : decode cX3_init 31 = .ok (.newarray .long, 2) := by decide +kernel
theorem dX3_init_33 : decode cX3_init 33 = .ok (.putfield 21, 3) := by decide +kernel
theorem dX3_init_36 : decode cX3_init 36 = .ok (.return_, 1) := by decide +kernel
set_option maxRecDepth 20000 in
theorem ggX3_find_X3_takeWholeStretch : GoodIn wsX3_find wsX3_takeWholeStretch := goodIn_r _ [14, 5, 8, 7, 6, 36, 37, 38, 39, 40, 41, 42, 43, 44] (by decide +kernel) (by decide +kernel)
set_option maxRecDepth 20000 in
theorem gX3_find_X3_takeWholeStretch : GoodIn wsX3_find (wsV RX3 31 RX3 yX3_takeWholeStretch wsX3_takeWholeStretch) := goodIn_app (goodIn_of _ (by decide +kernel)) ggX3_find_X3_takeWholeStretch
set_option maxRecDepth 20000 in
theorem ggX3_find_X3_narrow : GoodIn wsX3_find wsX3_narrow := goodIn_r _ [18, 19, 20, 21, 22, 13, 23, 8, 5, 24, 25, 26, 27, 6, 7, 36, 37, 38, 39, 40, 41, 42, 43, 44] (by decide +kernel) (by decide +kernel)
set_option maxRecDepth 20000 in
theorem gX3_find_X3_narrow : GoodIn wsX3_find (wsV RX3 38 RX3 yX3_narrow wsX3_narrow) := goodIn_app (goodIn_of _ (by decide +kernel)) ggX3_find_X3_narrow
set_option maxRecDepth 20000 in
theorem ggX3_find_X3_note : GoodIn wsX3_find wsX3_note := goodIn_r _ [31, 1, 32, 33, 34, 8, 5, 35, 6, 7, 36, 37, 38, 39, 40, 41, 42, 43, 44] (by decide +kernel) (by decide +kernel)
set_option maxRecDepth 20000 in
theorem gX3_find_X3_note : GoodIn wsX3_find (wsV RX3 61 RX3 yX3_note wsX3_note) := goodIn_app (goodIn_of _ (by decide +kernel)) ggX3_find_X3_note
theorem dX3_find_0 : decode cX3_find 0 = .ok (.aload_n 0, 1) := by decide +kernel
theorem dX3_find_1 : decode cX3_find 1 = .ok (.iconst 0, 1) := by decide +kernel
theorem dX3_find_2 : decode cX3_find 2 = .ok (.putfield 24, 3) := by decide +kernel
theorem dX3_find_5 : decode cX3_find 5 = .ok (.aload_n 1, 1) := by decide +kernel
theorem dX3_find_6 : decode cX3_find 6 = .ok (.getfield 28, 3) := by decide +kernel
theorem dX3_find_9 : decode cX3_find 9 = .ok (.iconst 1, 1) := by decide +kernel
theorem dX3_find_10 : decode cX3_find 10 = .ok (.if_icmp .ne 7, 3) := by decide +kernel
theorem dX3_find_13 : decode cX3_find 13 = .ok (.iconst 0, 1) := by decide +kernel
theorem dX3_find_14 : decode cX3_find 14 = .ok (.goto 4, 3) := by decide +kernel
theorem dX3_find_17 : decode cX3_find 17 = .ok (.iconst 1, 1) := by decide +kernel
theorem dX3_find_18 : decode cX3_find 18 = .ok (.istore 6, 2) := by decide +kernel
theorem dX3_find_20 : decode cX3_find 20 = .ok (.iload 6, 2) := by decide +kernel
theorem dX3_find_22 : decode cX3_find 22 = .ok (.istore 7, 2) := by decide +kernel
theorem dX3_find_24 : decode cX3_find 24 = .ok (.iload 7, 2) := by decide +kernel
theorem dX3_find_26 : decode cX3_find 26 = .ok (.aload_n 1, 1) := by decide +kernel
theorem dX3_find_27 : decode cX3_find 27 = .ok (.getfield 28, 3) := by decide +kernel
theorem dX3_find_30 : decode cX3_find 30 = .ok (.if_icmp .ge 112, 3) := by decide +kernel
theorem dX3_find_33 : decode cX3_find 33 = .ok (.iload 7, 2) := by decide +kernel
theorem dX3_find_35 : decode cX3_find 35 = .ok (.ifCond .le 10, 3) := by decide +kernel
theorem dX3_find_38 : decode cX3_find 38 = .ok (.iload 7, 2) := by decide +kernel
theorem dX3_find_40 : decode cX3_find 40 = .ok (.iconst 1, 1) := by decide +kernel
theorem dX3_find_41 : decode cX3_find 41 = .ok (.isub, 1) := by decide +kernel
theorem dX3_find_42 : decode cX3_find 42 = .ok (.goto 4, 3) := by decide +kernel
theorem dX3_find_45 : decode cX3_find 45 = .ok (.iconst 0, 1) := by decide +kernel
theorem dX3_find_46 : decode cX3_find 46 = .ok (.istore 8, 2) := by decide +kernel
theorem dX3_find_48 : decode cX3_find 48 = .ok (.aload_n 0, 1) := by decide +kernel
theorem dX3_find_49 : decode cX3_find 49 = .ok (.invokevirtual 31, 3) := by decide +kernel
theorem dX3_find_52 : decode cX3_find 52 = .ok (.aload_n 0, 1) := by decide +kernel
theorem dX3_find_53 : decode cX3_find 53 = .ok (.aload_n 1, 1) := by decide +kernel
theorem dX3_find_54 : decode cX3_find 54 = .ok (.getfield 34, 3) := by decide +kernel
theorem dX3_find_57 : decode cX3_find 57 = .ok (.iload 8, 2) := by decide +kernel
theorem dX3_find_59 : decode cX3_find 59 = .ok (.iaload, 1) := by decide +kernel
theorem dX3_find_60 : decode cX3_find 60 = .ok (.aload_n 1, 1) := by decide +kernel
theorem dX3_find_61 : decode cX3_find 61 = .ok (.getfield 34, 3) := by decide +kernel
theorem dX3_find_64 : decode cX3_find 64 = .ok (.iload 7, 2) := by decide +kernel
theorem dX3_find_66 : decode cX3_find 66 = .ok (.iaload, 1) := by decide +kernel
theorem dX3_find_67 : decode cX3_find 67 = .ok (.iload_n 2, 1) := by decide +kernel
theorem dX3_find_68 : decode cX3_find 68 = .ok (.iload_n 3, 1) := by decide +kernel
theorem dX3_find_69 : decode cX3_find 69 = .ok (.invokevirtual 38, 3) := by decide +kernel
theorem dX3_find_72 : decode cX3_find 72 = .ok (.aload_n 0, 1) := by decide +kernel
theorem dX3_find_73 : decode cX3_find 73 = .ok (.aload_n 1, 1) := by decide +kernel
theorem dX3_find_74 : decode cX3_find 74 = .ok (.getfield 42, 3) := by decide +kernel
theorem dX3_find_77 : decode cX3_find 77 = .ok (.iload 8, 2) := by decide +kernel
theorem dX3_find_79 : decode cX3_find 79 = .ok (.iaload, 1) := by decide +kernel
theorem dX3_find_80 : decode cX3_find 80 = .ok (.aload_n 1, 1) := by decide +kernel
theorem dX3_find_81 : decode cX3_find 81 = .ok (.getfield 42, 3) := by decide +kernel
theorem dX3_find_84 : decode cX3_find 84 = .ok (.iload 7, 2) := by decide +kernel
theorem dX3_find_86 : decode cX3_find 86 = .ok (.iaload, 1) := by decide +kernel
theorem dX3_find_87 : decode cX3_find 87 = .ok (.iload 4, 2) := by decide +kernel
theorem dX3_find_89 : decode cX3_find 89 = .ok (.iload 5, 2) := by decide +kernel
theorem dX3_find_91 : decode cX3_find 91 = .ok (.invokevirtual 38, 3) := by decide +kernel
theorem dX3_find_94 : decode cX3_find 94 = .ok (.aload_n 0, 1) := by decide +kernel
theorem dX3_find_95 : decode cX3_find 95 = .ok (.getfield 45, 3) := by decide +kernel
theorem dX3_find_98 : decode cX3_find 98 = .ok (.aload_n 0, 1) := by decide +kernel
theorem dX3_find_99 : decode cX3_find 99 = .ok (.getfield 49, 3) := by decide +kernel
theorem dX3_find_102 : decode cX3_find 102 = .ok (.lmul, 1) := by decide +kernel
theorem dX3_find_103 : decode cX3_find 103 = .ok (.aload_n 0, 1) := by decide +kernel
theorem dX3_find_104 : decode cX3_find 104 = .ok (.getfield 52, 3) := by decide +kernel
theorem dX3_find_107 : decode cX3_find 107 = .ok (.aload_n 0, 1) := by decide +kernel
theorem dX3_find_108 : decode cX3_find 108 = .ok (.getfield 55, 3) := by decide +kernel
theorem dX3_find_111 : decode cX3_find 111 = .ok (.lmul, 1) := by decide +kernel
theorem dX3_find_112 : decode cX3_find 112 = .ok (.lcmp, 1) := by decide +kernel
theorem dX3_find_113 : decode cX3_find 113 = .ok (.ifCond .gt 23, 3) := by decide +kernel
theorem dX3_find_116 : decode cX3_find 116 = .ok (.aload_n 0, 1) := by decide +kernel
theorem dX3_find_117 : decode cX3_find 117 = .ok (.aload_n 1, 1) := by decide +kernel
theorem dX3_find_118 : decode cX3_find 118 = .ok (.getfield 58, 3) := by decide +kernel
theorem dX3_find_121 : decode cX3_find 121 = .ok (.iload 8, 2) := by decide +kernel
theorem dX3_find_123 : decode cX3_find 123 = .ok (.iaload, 1) := by decide +kernel
theorem dX3_find_124 : decode cX3_find 124 = .ok (.i2l, 1) := by decide +kernel
theorem dX3_find_125 : decode cX3_find 125 = .ok (.aload_n 1, 1) := by decide +kernel
theorem dX3_find_126 : decode cX3_find 126 = .ok (.getfield 58, 3) := by decide +kernel
theorem dX3_find_129 : decode cX3_find 129 = .ok (.iload 7, 2) := by decide +kernel
theorem dX3_find_131 : decode cX3_find 131 = .ok (.iaload, 1) := by decide +kernel
theorem dX3_find_132 : decode cX3_find 132 = .ok (.i2l, 1) := by decide +kernel
theorem dX3_find_133 : decode cX3_find 133 = .ok (.invokevirtual 61, 3) := by decide +kernel
theorem dX3_find_136 : decode cX3_find 136 = .ok (.iinc 7 1, 3) := by decide +kernel
theorem dX3_find_139 : decode cX3_find 139 = .ok (.goto (-115), 3) := by decide +kernel
theorem dX3_find_142 : decode cX3_find 142 = .ok (.return_, 1) := by decide +kernel
theorem dX3_takeWholeStretch_0 : decode cX3_takeWholeStretch 0 = .ok (.aload_n 0, 1) := by decide +kernel
theorem dX3_takeWholeStretch_1 : decode cX3_takeWholeStretch 1 = .ok (.lconst 0, 1) := by decide +kernel
theorem dX3_takeWholeStretch_2 : decode cX3_takeWholeStretch 2 = .ok (.putfield 45, 3) := by decide +kernel
theorem dX3_takeWholeStretch_5 : decode cX3_takeWholeStretch 5 = .ok (.aload_n 0, 1) := by decide +kernel
theorem dX3_takeWholeStretch_6 : decode cX3_takeWholeStretch 6 = .ok (.lconst 1, 1) := by decide +kernel
theorem dX3_takeWholeStretch_7 : decode cX3_takeWholeStretch 7 = .ok (.putfield 55, 3) := by decide +kernel
theorem dX3_takeWholeStretch_10 : decode cX3_takeWholeStretch 10 = .ok (.aload_n 0, 1) := by decide +kernel
theorem dX3_takeWholeStretch_11 : decode cX3_takeWholeStretch 11 = .ok (.lconst 1, 1) := by decide +kernel
theorem dX3_takeWholeStretch_12 : decode cX3_takeWholeStretch 12 = .ok (.putfield 52, 3) := by decide +kernel
theorem dX3_takeWholeStretch_15 : decode cX3_takeWholeStretch 15 = .ok (.aload_n 0, 1) := by decide +kernel
theorem dX3_takeWholeStretch_16 : decode cX3_takeWholeStretch 16 = .ok (.lconst 1, 1) := by decide +kernel
theorem dX3_takeWholeStretch_17 : decode cX3_takeWholeStretch 17 = .ok (.putfield 49, 3) := by decide +kernel
theorem dX3_takeWholeStretch_20 : decode cX3_takeWholeStretch 20 = .ok (.return_, 1) := by decide +kernel
set_option maxRecDepth 20000 in
theorem ggX3_narrow_X3_beginNotBefore : GoodIn wsX3_narrow wsX3_beginNotBefore := goodIn_r _ [6, 7, 8, 15, 16, 17, 18, 19, 20, 21, 22, 23] (by decide +kernel) (by decide +kernel)
set_option maxRecDepth 20000 in
theorem gX3_narrow_X3_beginNotBefore : GoodIn wsX3_narrow (wsV RX3 65 RX3 yX3_beginNotBefore wsX3_beginNotBefore) := goodIn_app (goodIn_of _ (by decide +kernel)) ggX3_narrow_X3_beginNotBefore
set_option maxRecDepth 20000 in
theorem ggX3_narrow_X3_endNotBehind : GoodIn wsX3_narrow wsX3_endNotBehind := goodIn_r _ [12, 13, 14, 15, 16, 17, 18, 19, 20, 21, 22, 23] (by decide +kernel) (by decide +kernel)
set_option maxRecDepth 20000 in
theorem gX3_narrow_X3_endNotBehind : GoodIn wsX3_narrow (wsV RX3 68 RX3 yX3_endNotBehind wsX3_endNotBehind) := goodIn_app (goodIn_of _ (by decide +kernel)) ggX3_narrow_X3_endNotBehind
theorem dX3_narrow_0 : decode cX3_narrow 0 = .ok (.iload_n 1, 1) := by decide +kernel
theorem dX3_narrow_1 : decode cX3_narrow 1 = .ok (.iload_n 2, 1) := by decide +kernel
theorem dX3_narrow_2 : decode cX3_narrow 2 = .ok (.if_icmp .ge 31, 3) := by decide +kernel
theorem dX3_narrow_5 : decode cX3_narrow 5 = .ok (.aload_n 0, 1) := by decide +kernel
theorem dX3_narrow_6 : decode cX3_narrow 6 = .ok (.iload_n 3, 1) := by decide +kernel
theorem dX3_narrow_7 : decode cX3_narrow 7 = .ok (.iload_n 1, 1) := by decide +kernel
theorem dX3_narrow_8 : decode cX3_narrow 8 = .ok (.isub, 1) := by decide +kernel
theorem dX3_narrow_9 : decode cX3_narrow 9 = .ok (.i2l, 1) := by decide +kernel
theorem dX3_narrow_10 : decode cX3_narrow 10 = .ok (.iload_n 2, 1) := by decide +kernel
theorem dX3_narrow_11 : decode cX3_narrow 11 = .ok (.iload_n 1, 1) := by decide +kernel
theorem dX3_narrow_12 : decode cX3_narrow 12 = .ok (.isub, 1) := by decide +kernel
theorem dX3_narrow_13 : decode cX3_narrow 13 = .ok (.i2l, 1) := by decide +kernel
theorem dX3_narrow_14 : decode cX3_narrow 14 = .ok (.invokevirtual 65, 3) := by decide +kernel
theorem dX3_narrow_17 : decode cX3_narrow 17 = .ok (.aload_n 0, 1) := by decide +kernel
theorem dX3_narrow_18 : decode cX3_narrow 18 = .ok (.iload 4, 2) := by decide +kernel
theorem dX3_narrow_20 : decode cX3_narrow 20 = .ok (.iload_n 1, 1) := by decide +kernel
theorem dX3_narrow_21 : decode cX3_narrow 21 = .ok (.isub, 1) := by decide +kernel
theorem dX3_narrow_22 : decode cX3_narrow 22 = .ok (.i2l, 1) := by decide +kernel
theorem dX3_narrow_23 : decode cX3_narrow 23 = .ok (.iload_n 2, 1) := by decide +kernel
theorem dX3_narrow_24 : decode cX3_narrow 24 = .ok (.iload_n 1, 1) := by decide +kernel
theorem dX3_narrow_25 : decode cX3_narrow 25 = .ok (.isub, 1) := by decide +kernel
theorem dX3_narrow_26 : decode cX3_narrow 26 = .ok (.i2l, 1) := by decide +kernel
theorem dX3_narrow_27 : decode cX3_narrow 27 = .ok (.invokevirtual 68, 3) := by decide +kernel
theorem dX3_narrow_30 : decode cX3_narrow 30 = .ok (.goto 55, 3) := by decide +kernel
theorem dX3_narrow_33 : decode cX3_narrow 33 = .ok (.iload_n 1, 1) := by decide +kernel
theorem dX3_narrow_34 : decode cX3_narrow 34 = .ok (.iload_n 2, 1) := by decide +kernel
theorem dX3_narrow_35 : decode cX3_narrow 35 = .ok (.if_icmp .le 31, 3) := by decide +kernel
theorem dX3_narrow_38 : decode cX3_narrow 38 = .ok (.aload_n 0, 1) := by decide +kernel
theorem dX3_narrow_39 : decode cX3_narrow 39 = .ok (.iload_n 1, 1) := by decide +kernel
theorem dX3_narrow_40 : decode cX3_narrow 40 = .ok (.iload 4, 2) := by decide +kernel
theorem dX3_narrow_42 : decode cX3_narrow 42 = .ok (.isub, 1) := by decide +kernel
theorem dX3_narrow_43 : decode cX3_narrow 43 = .ok (.i2l, 1) := by decide +kernel
theorem dX3_narrow_44 : decode cX3_narrow 44 = .ok (.iload_n 1, 1) := by decide +kernel
theorem dX3_narrow_45 : decode cX3_narrow 45 = .ok (.iload_n 2, 1) := by decide +kernel
theorem dX3_narrow_46 : decode cX3_narrow 46 = .ok (.isub, 1) := by decide +kernel
theorem dX3_narrow_47 : decode cX3_narrow 47 = .ok (.i2l, 1) := by decide +kernel
theorem dX3_narrow_48 : decode cX3_narrow 48 = .ok (.invokevirtual 65, 3) := by decide +kernel
theorem dX3_narrow_51 : decode cX3_narrow 51 = .ok (.aload_n 0, 1) := by decide +kernel
theorem dX3_narrow_52 : decode cX3_narrow 52 = .ok (.iload_n 1, 1) := by decide +kernel
theorem dX3_narrow_53 : decode cX3_narrow 53 = .ok (.iload_n 3, 1) := by decide +kernel
theorem dX3_narrow_54 : decode cX3_narrow 54 = .ok (.isub, 1) := by decide +kernel
theorem dX3_narrow_55 : decode cX3_narrow 55 = .ok (.i2l, 1) := by decide +kernel
theorem dX3_narrow_56 : decode cX3_narrow 56 = .ok (.iload_n 1, 1) := by decide +kernel
theorem dX3_narrow_57 : decode cX3_narrow 57 = .ok (.iload_n 2, 1) := by decide +kernel
theorem dX3_narrow_58 : decode cX3_narrow 58 = .ok (.isub, 1) := by decide +kernel
theorem dX3_narrow_59 : decode cX3_narrow 59 = .ok (.i2l, 1) := by decide +kernel
theorem dX3_narrow_60 : decode cX3_narrow 60 = .ok (.invokevirtual 68, 3) := by decide +kernel
theorem dX3_narrow_63 : decode cX3_narrow 63 = .ok (.goto 22, 3) := by decide +kernel
theorem dX3_narrow_66 : decode cX3_narrow 66 = .ok (.iload_n 1, 1) := by decide +kernel
theorem dX3_narrow_67 : decode cX3_narrow 67 = .ok (.iload_n 3, 1) := by decide +kernel
theorem dX3_narrow_68 : decode cX3_narrow 68 = .ok (.if_icmp .lt 9, 3) := by decide +kernel
theorem dX3_narrow_71 : decode cX3_narrow 71 = .ok (.iload_n 1, 1) := by decide +kernel
theorem dX3_narrow_72 : decode cX3_narrow 72 = .ok (.iload 4, 2) := by decide +kernel
theorem dX3_narrow_74 : decode cX3_narrow 74 = .ok (.if_icmp .le 11, 3) := by decide +kernel
theorem dX3_narrow_77 : decode cX3_narrow 77 = .ok (.aload_n 0, 1) := by decide +kernel
theorem dX3_narrow_78 : decode cX3_narrow 78 = .ok (.ldc2_w 71, 3) := by decide +kernel
theorem dX3_narrow_81 : decode cX3_narrow 81 = .ok (.lconst 1, 1) := by decide +kernel
theorem dX3_narrow_82 : decode cX3_narrow 82 = .ok (.invokevirtual 65, 3) := by decide +kernel
theorem dX3_narrow_85 : decode cX3_narrow 85 = .ok (.return_, 1) := by decide +kernel
theorem dX3_beginNotBefore_0 : decode cX3_beginNotBefore 0 = .ok (.lload_n 1, 1) := by decide +kernel
theorem dX3_beginNotBefore_1 : decode cX3_beginNotBefore 1 = .ok (.aload_n 0, 1) := by decide +kernel
theorem dX3_beginNotBefore_2 : decode cX3_beginNotBefore 2 = .ok (.getfield 55, 3) := by decide +kernel
theorem dX3_beginNotBefore_5 : decode cX3_beginNotBefore 5 = .ok (.lmul, 1) := by decide +kernel
theorem dX3_beginNotBefore_6 : decode cX3_beginNotBefore 6 = .ok (.aload_n 0, 1) := by decide +kernel
theorem dX3_beginNotBefore_7 : decode cX3_beginNotBefore 7 = .ok (.getfield 45, 3) := by decide +kernel
theorem dX3_beginNotBefore_10 : decode cX3_beginNotBefore 10 = .ok (.lload_n 3, 1) := by decide +kernel
theorem dX3_beginNotBefore_11 : decode cX3_beginNotBefore 11 = .ok (.lmul, 1) := by decide +kernel
theorem dX3_beginNotBefore_12 : decode cX3_beginNotBefore 12 = .ok (.lcmp, 1) := by decide +kernel
theorem dX3_beginNotBefore_13 : decode cX3_beginNotBefore 13 = .ok (.ifCond .le 13, 3) := by decide +kernel
theorem dX3_beginNotBefore_16 : decode cX3_beginNotBefore 16 = .ok (.aload_n 0, 1) := by decide +kernel
theorem dX3_beginNotBefore_17 : decode cX3_beginNotBefore 17 = .ok (.lload_n 1, 1) := by decide +kernel
theorem dX3_beginNotBefore_18 : decode cX3_beginNotBefore 18 = .ok (.putfield 45, 3) := by decide +kernel
theorem dX3_beginNotBefore_21 : decode cX3_beginNotBefore 21 = .ok (.aload_n 0, 1) := by decide +kernel
theorem dX3_beginNotBefore_22 : decode cX3_beginNotBefore 22 = .ok (.lload_n 3, 1) := by decide +kernel
theorem dX3_beginNotBefore_23 : decode cX3_beginNotBefore 23 = .ok (.putfield 55, 3) := by decide +kernel
theorem dX3_beginNotBefore_26 : decode cX3_beginNotBefore 26 = .ok (.return_, 1) := by decide +kernel
theorem dX3_endNotBehind_0 : decode cX3_endNotBehind 0 = .ok (.lload_n 1, 1) := by decide +kernel
theorem dX3_endNotBehind_1 : decode cX3_endNotBehind 1 = .ok (.aload_n 0, 1) := by decide +kernel
theorem dX3_endNotBehind_2 : decode cX3_endNotBehind 2 = .ok (.getfield 49, 3) := by decide +kernel
theorem dX3_endNotBehind_5 : decode cX3_endNotBehind 5 = .ok (.lmul, 1) := by decide +kernel
theorem dX3_endNotBehind_6 : decode cX3_endNotBehind 6 = .ok (.aload_n 0, 1) := by decide +kernel
theorem dX3_endNotBehind_7 : decode cX3_endNotBehind 7 = .ok (.getfield 52, 3) := by decide +kernel
theorem dX3_endNotBehind_10 : decode cX3_endNotBehind 10 = .ok (.lload_n 3, 1) := by decide +kernel
theorem dX3_endNotBehind_11 : decode cX3_endNotBehind 11 = .ok (.lmul, 1) := by decide +kernel
theorem dX3_endNotBehind_12 : decode cX3_endNotBehind 12 = .ok (.lcmp, 1) := by decide +kernel
theorem dX3_endNotBehind_13 : decode cX3_endNotBehind 13 = .ok (.ifCond .ge 13, 3) := by decide +kernel
theorem dX3_endNotBehind_16 : decode cX3_endNotBehind 16 = .ok (.aload_n 0, 1) := by decide +kernel
theorem dX3_endNotBehind_17 : decode cX3_endNotBehind 17 = .ok (.lload_n 1, 1) := by decide +kernel
theorem dX3_endNotBehind_18 : decode cX3_endNotBehind 18 = .ok (.putfield 52, 3) := by decide +kernel
theorem dX3_endNotBehind_21 : decode cX3_endNotBehind 21 = .ok (.aload_n 0, 1) := by decide +kernel
theorem dX3_endNotBehind_22 : decode cX3_endNotBehind 22 = .ok (.lload_n 3, 1) := by decide +kernel
theorem dX3_endNotBehind_23 : decode cX3_endNotBehind 23 = .ok (.putfield 49, 3) := by decide +kernel
theorem dX3_endNotBehind_26 : decode cX3_endNotBehind 26 = .ok (.return_, 1) := by decide +kernel
theorem dX3_note_0 : decode cX3_note 0 = .ok (.aload_n 0, 1) := by decide +kernel
theorem dX3_note_1 : decode cX3_note 1 = .ok (.getfield 24, 3) := by decide +kernel
theorem dX3_note_4 : decode cX3_note 4 = .ok (.ifCond .le 35, 3) := by decide +kernel
theorem dX3_note_7 : decode cX3_note 7 = .ok (.aload_n 0, 1) := by decide +kernel
theorem dX3_note_8 : decode cX3_note 8 = .ok (.getfield 18, 3) := by decide +kernel
theorem dX3_note_11 : decode cX3_note 11 = .ok (.aload_n 0, 1) := by decide +kernel
theorem dX3_note_12 : decode cX3_note 12 = .ok (.getfield 24, 3) := by decide +kernel
theorem dX3_note_15 : decode cX3_note 15 = .ok (.iconst 1, 1) := by decide +kernel
theorem dX3_note_16 : decode cX3_note 16 = .ok (.isub, 1) := by decide +kernel
theorem dX3_note_17 : decode cX3_note 17 = .ok (.laload, 1) := by decide +kernel
theorem dX3_note_18 : decode cX3_note 18 = .ok (.lload_n 1, 1) := by decide +kernel
theorem dX3_note_19 : decode cX3_note 19 = .ok (.aload_n 0, 1) := by decide +kernel
theorem dX3_note_20 : decode cX3_note 20 = .ok (.getfield 21, 3) := by decide +kernel
theorem dX3_note_23 : decode cX3_note 23 = .ok (.aload_n 0, 1) := by decide +kernel
theorem dX3_note_24 : decode cX3_note 24 = .ok (.getfield 24, 3) := by decide +kernel
theorem dX3_note_27 : decode cX3_note 27 = .ok (.iconst 1, 1) := by decide +kernel
theorem dX3_note_28 : decode cX3_note 28 = .ok (.isub, 1) := by decide +kernel
theorem dX3_note_29 : decode cX3_note 29 = .ok (.laload, 1) := by decide +kernel
theorem dX3_note_30 : decode cX3_note 30 = .ok (.lmul, 1) := by decide +kernel
theorem dX3_note_31 : decode cX3_note 31 = .ok (.lcmp, 1) := by decide +kernel
theorem dX3_note_32 : decode cX3_note 32 = .ok (.ifCond .ne 7, 3) := by decide +kernel
theorem dX3_note_35 : decode cX3_note 35 = .ok (.iconst 1, 1) := by decide +kernel
theorem dX3_note_36 : decode cX3_note 36 = .ok (.goto 4, 3) := by decide +kernel
theorem dX3_note_39 : decode cX3_note 39 = .ok (.iconst 0, 1) := by decide +kernel
theorem dX3_note_40 : decode cX3_note 40 = .ok (.istore 5, 2) := by decide +kernel
theorem dX3_note_42 : decode cX3_note 42 = .ok (.iload 5, 2) := by decide +kernel
theorem dX3_note_44 : decode cX3_note 44 = .ok (.ifCond .ne 59, 3) := by decide +kernel
theorem dX3_note_47 : decode cX3_note 47 = .ok (.aload_n 0, 1) := by decide +kernel
theorem dX3_note_48 : decode cX3_note 48 = .ok (.getfield 24, 3) := by decide +kernel
theorem dX3_note_51 : decode cX3_note 51 = .ok (.bipush 20, 2) := by decide +kernel
theorem dX3_note_53 : decode cX3_note 53 = .ok (.if_icmp .ge 50, 3) := by decide +kernel
theorem dX3_note_56 : decode cX3_note 56 = .ok (.aload_n 0, 1) := by decide +kernel
theorem dX3_note_57 : decode cX3_note 57 = .ok (.getfield 9, 3) := by decide +kernel
theorem dX3_note_60 : decode cX3_note 60 = .ok (.aload_n 0, 1) := by decide +kernel
theorem dX3_note_61 : decode cX3_note 61 = .ok (.getfield 24, 3) := by decide +kernel
theorem dX3_note_64 : decode cX3_note 64 = .ok (.lload_n 1, 1) := by decide +kernel
theorem dX3_note_65 : decode cX3_note 65 = .ok (.aload_n 0, 1) := by decide +kernel
theorem dX3_note_66 : decode cX3_note 66 = .ok (.getfield 55, 3) := by decide +kernel
theorem dX3_note_69 : decode cX3_note 69 = .ok (.lmul, 1) := by decide +kernel
theorem dX3_note_70 : decode cX3_note 70 = .ok (.aload_n 0, 1) := by decide +kernel
theorem dX3_note_71 : decode cX3_note 71 = .ok (.getfield 45, 3) := by decide +kernel
theorem dX3_note_74 : decode cX3_note 74 = .ok (.lload_n 3, 1) := by decide +kernel
theorem dX3_note_75 : decode cX3_note 75 = .ok (.lload_n 1, 1) := by decide +kernel
theorem dX3_note_76 : decode cX3_note 76 = .ok (.lsub, 1) := by decide +kernel
theorem dX3_note_77 : decode cX3_note 77 = .ok (.lmul, 1) := by decide +kernel
theorem dX3_note_78 : decode cX3_note 78 = .ok (.ladd, 1) := by decide +kernel
theorem dX3_note_79 : decode cX3_note 79 = .ok (.lastore, 1) := by decide +kernel
theorem dX3_note_80 : decode cX3_note 80 = .ok (.aload_n 0, 1) := by decide +kernel
theorem dX3_note_81 : decode cX3_note 81 = .ok (.getfield 15, 3) := by decide +kernel
theorem dX3_note_84 : decode cX3_note 84 = .ok (.aload_n 0, 1) := by decide +kernel
theorem dX3_note_85 : decode cX3_note 85 = .ok (.getfield 24, 3) := by decide +kernel
theorem dX3_note_88 : decode cX3_note 88 = .ok (.aload_n 0, 1) := by decide +kernel
theorem dX3_note_89 : decode cX3_note 89 = .ok (.getfield 55, 3) := by decide +kernel
theorem dX3_note_92 : decode cX3_note 92 = .ok (.lastore, 1) := by decide +kernel
theorem dX3_note_93 : decode cX3_note 93 = .ok (.aload_n 0, 1) := by decide +kernel
theorem dX3_note_94 : decode cX3_note 94 = .ok (.dup, 1) := by decide +kernel
theorem dX3_note_95 : decode cX3_note 95 = .ok (.getfield 24, 3) := by decide +kernel
theorem dX3_note_98 : decode cX3_note 98 = .ok (.iconst 1, 1) := by decide +kernel
theorem dX3_note_99 : decode cX3_note 99 = .ok (.iadd, 1) := by decide +kernel
theorem dX3_note_100 : decode cX3_note 100 = .ok (.putfield 24, 3) := by decide +kernel
theorem dX3_note_103 : decode cX3_note 103 = .ok (.aload_n 0, 1) := by decide +kernel
theorem dX3_note_104 : decode cX3_note 104 = .ok (.getfield 24, 3) := by decide +kernel
theorem dX3_note_107 : decode cX3_note 107 = .ok (.ifCond .le 44, 3) := by decide +kernel
theorem dX3_note_110 : decode cX3_note 110 = .ok (.aload_n 0, 1) := by decide +kernel
theorem dX3_note_111 : decode cX3_note 111 = .ok (.getfield 18, 3) := by decide +kernel
theorem dX3_note_114 : decode cX3_note 114 = .ok (.aload_n 0, 1) := by decide +kernel
theorem dX3_note_115 : decode cX3_note 115 = .ok (.getfield 24, 3) := by decide +kernel
theorem dX3_note_118 : decode cX3_note 118 = .ok (.iconst 1, 1) := by decide +kernel
theorem dX3_note_119 : decode cX3_note 119 = .ok (.isub, 1) := by decide +kernel
theorem dX3_note_120 : decode cX3_note 120 = .ok (.lload_n 1, 1) := by decide +kernel
theorem dX3_note_121 : decode cX3_note 121 = .ok (.aload_n 0, 1) := by decide +kernel
theorem dX3_note_122 : decode cX3_note 122 = .ok (.getfield 49, 3) := by decide +kernel
theorem dX3_note_125 : decode cX3_note 125 = .ok (.lmul, 1) := by decide +kernel
theorem dX3_note_126 : decode cX3_note 126 = .ok (.aload_n 0, 1) := by decide +kernel
theorem dX3_note_127 : decode cX3_note 127 = .ok (.getfield 52, 3) := by decide +kernel
theorem dX3_note_130 : decode cX3_note 130 = .ok (.lload_n 3, 1) := by decide +kernel
theorem dX3_note_131 : decode cX3_note 131 = .ok (.lload_n 1, 1) := by decide +kernel
theorem dX3_note_132 : decode cX3_note 132 = .ok (.lsub, 1) := by decide +kernel
theorem dX3_note_133 : decode cX3_note 133 = .ok (.lmul, 1) := by decide +kernel
theorem dX3_note_134 : decode cX3_note 134 = .ok (.ladd, 1) := by decide +kernel
theorem dX3_note_135 : decode cX3_note 135 = .ok (.lastore, 1) := by decide +kernel
theorem dX3_note_136 : decode cX3_note 136 = .ok (.aload_n 0, 1) := by decide +kernel
theorem dX3_note_137 : decode cX3_note 137 = .ok (.getfield 21, 3) := by decide +kernel
theorem dX3_note_140 : decode cX3_note 140 = .ok (.aload_n 0, 1) := by decide +kernel
theorem dX3_note_141 : decode cX3_note 141 = .ok (.getfield 24, 3) := by decide +kernel
theorem dX3_note_144 : decode cX3_note 144 = .ok (.iconst 1, 1) := by decide +kernel
theorem dX3_note_145 : decode cX3_note 145 = .ok (.isub, 1) := by decide +kernel
theorem dX3_note_146 : decode cX3_note 146 = .ok (.aload_n 0, 1) := by decide +kernel
theorem dX3_note_147 : decode cX3_note 147 = .ok (.getfield 49, 3) := by decide +kernel
theorem dX3_note_150 : decode cX3_note 150 = .ok (.lastore, 1) := by decide +kernel
theorem dX3_note_151 : decode cX3_note 151 = .ok (.return_, 1) := by decide +kernel
theorem dX4_init_0 : decode cX4_init 0 = .ok (.aload_n 0, 1) := by decide +kernel
theorem dX4_init_1 : decode cX4_init 1 = .ok (.invokespecial 3, 3) := by decide +kernel
theorem dX4_init_4 : decode cX4_init 4 = .ok (.aload_n 0, 1) := by decide +kernel
theorem dX4_init_5 : decode cX4_init 5 = .ok (.bipush 20, 2) := by decide +kernel
theorem dX4_init_7 : decode cX4_init 7 = .ok (.newarray .int, 2) := by decide +kernel
theorem dX4_init_9 : decode cX4_init 9 = .ok (.putfield 9, 3) := by decide +kernel
theorem dX4_init_12 : decode cX4_init 12 = .ok (.return_, 1) := by decide +kernel
set_option maxRecDepth 20000 in
theorem ggX4_thin_X4_countSteps : GoodIn wsX4_thin wsX4_countSteps := goodIn_r _ [10, 1, 2, 11, 12, 9, 13, 3, 4, 5, 14, 15, 16, 26, 27, 28, 29, 30] (by decide +kernel) (by decide +kernel)
set_option maxRecDepth 20000 in
theorem gX4_thin_X4_countSteps : GoodIn wsX4_thin (wsV RX4 15 RX4 yX4_countSteps wsX4_countSteps) := goodIn_app (goodIn_of _ (by decide +kernel)) ggX4_thin_X4_countSteps
set_option maxRecDepth 20000 in
theorem ggX4_thin_X4_canStep : GoodIn wsX4_thin wsX4_canStep := goodIn_r _ [13, 3, 4, 5, 14, 15, 9, 16, 26, 27, 28, 29] (by decide +kernel) (by decide +kernel)
set_option maxRecDepth 20000 in
theorem gX4_thin_X4_canStep : GoodIn wsX4_thin (va_wsS RX4 25 yX4_canStep wsX4_canStep) := goodIn_app (goodIn_of _ (by decide +kernel)) ggX4_thin_X4_canStep
set_option maxRecDepth 20000 in
theorem ggX4_thin_X2_append : GoodIn wsX4_thin wsX2_append := goodIn_r _ [21, 22, 23, 24, 25, 26, 27, 28, 29] (by decide +kernel) (by decide +kernel)
set_option maxRecDepth 20000 in
theorem gX4_thin_X2_append : GoodIn wsX4_thin (wsV RX4 38 RX2 yX2_append wsX2_append) := goodIn_app (goodIn_of _ (by decide +kernel)) ggX4_thin_X2_append
theorem dX4_thin_0 : decode cX4_thin 0 = .ok (.aload_n 0, 1) := by decide +kernel
theorem dX4_thin_1 : decode cX4_thin 1 = .ok (.aload_n 1, 1) := by decide +kernel
theorem dX4_thin_2 : decode cX4_thin 2 = .ok (.iload_n 2, 1) := by decide +kernel
theorem dX4_thin_3 : decode cX4_thin 3 = .ok (.invokevirtual 15, 3) := by decide +kernel
theorem dX4_thin_6 : decode cX4_thin 6 = .ok (.aload_n 1, 1) := by decide +kernel
theorem dX4_thin_7 : decode cX4_thin 7 = .ok (.getfield 19, 3) := by decide +kernel
theorem dX4_thin_10 : decode cX4_thin 10 = .ok (.istore_n 3, 1) := by decide +kernel
theorem dX4_thin_11 : decode cX4_thin 11 = .ok (.iconst 0, 1) := by decide +kernel
theorem dX4_thin_12 : decode cX4_thin 12 = .ok (.istore 4, 2) := by decide +kernel
theorem dX4_thin_14 : decode cX4_thin 14 = .ok (.aload_n 1, 1) := by decide +kernel
theorem dX4_thin_15 : decode cX4_thin 15 = .ok (.iload_n 3, 1) := by decide +kernel
theorem dX4_thin_16 : decode cX4_thin 16 = .ok (.ifCond .le 7, 3) := by decide +kernel
theorem dX4_thin_19 : decode cX4_thin 19 = .ok (.iconst 1, 1) := by decide +kernel
theorem dX4_thin_20 : decode cX4_thin 20 = .ok (.goto 4, 3) := by decide +kernel
theorem dX4_thin_23 : decode cX4_thin 23 = .ok (.iconst 0, 1) := by decide +kernel
theorem dX4_thin_24 : decode cX4_thin 24 = .ok (.putfield 19, 3) := by decide +kernel
theorem dX4_thin_27 : decode cX4_thin 27 = .ok (.iconst 1, 1) := by decide +kernel
theorem dX4_thin_28 : decode cX4_thin 28 = .ok (.istore 5, 2) := by decide +kernel
theorem dX4_thin_30 : decode cX4_thin 30 = .ok (.iload 5, 2) := by decide +kernel
theorem dX4_thin_32 : decode cX4_thin 32 = .ok (.iload_n 3, 1) := by decide +kernel
theorem dX4_thin_33 : decode cX4_thin 33 = .ok (.if_icmp .ge 69, 3) := by decide +kernel
theorem dX4_thin_36 : decode cX4_thin 36 = .ok (.aload_n 0, 1) := by decide +kernel
theorem dX4_thin_37 : decode cX4_thin 37 = .ok (.getfield 9, 3) := by decide +kernel
theorem dX4_thin_40 : decode cX4_thin 40 = .ok (.iload 5, 2) := by decide +kernel
theorem dX4_thin_42 : decode cX4_thin 42 = .ok (.iaload, 1) := by decide +kernel
theorem dX4_thin_43 : decode cX4_thin 43 = .ok (.aload_n 0, 1) := by decide +kernel
theorem dX4_thin_44 : decode cX4_thin 44 = .ok (.getfield 9, 3) := by decide +kernel
theorem dX4_thin_47 : decode cX4_thin 47 = .ok (.iload 4, 2) := by decide +kernel
theorem dX4_thin_49 : decode cX4_thin 49 = .ok (.iaload, 1) := by decide +kernel
theorem dX4_thin_50 : decode cX4_thin 50 = .ok (.iconst 1, 1) := by decide +kernel
theorem dX4_thin_51 : decode cX4_thin 51 = .ok (.isub, 1) := by decide +kernel
theorem dX4_thin_52 : decode cX4_thin 52 = .ok (.if_icmp .ne 44, 3) := by decide +kernel
theorem dX4_thin_55 : decode cX4_thin 55 = .ok (.aload_n 1, 1) := by decide +kernel
theorem dX4_thin_56 : decode cX4_thin 56 = .ok (.iload 4, 2) := by decide +kernel
theorem dX4_thin_58 : decode cX4_thin 58 = .ok (.iload 5, 2) := by decide +kernel
theorem dX4_thin_60 : decode cX4_thin 60 = .ok (.iload_n 2, 1) := by decide +kernel
theorem dX4_thin_61 : decode cX4_thin 61 = .ok (.invokestatic 25, 3) := by decide +kernel
theorem dX4_thin_64 : decode cX4_thin 64 = .ok (.ifCond .eq 32, 3) := by decide +kernel
theorem dX4_thin_67 : decode cX4_thin 67 = .ok (.aload_n 1, 1) := by decide +kernel
theorem dX4_thin_68 : decode cX4_thin 68 = .ok (.aload_n 1, 1) := by decide +kernel
theorem dX4_thin_69 : decode cX4_thin 69 = .ok (.getfield 29, 3) := by decide +kernel
theorem dX4_thin_72 : decode cX4_thin 72 = .ok (.iload 5, 2) := by decide +kernel
theorem dX4_thin_74 : decode cX4_thin 74 = .ok (.iaload, 1) := by decide +kernel
theorem dX4_thin_75 : decode cX4_thin 75 = .ok (.aload_n 1, 1) := by decide +kernel
theorem dX4_thin_76 : decode cX4_thin 76 = .ok (.getfield 32, 3) := by decide +kernel
theorem dX4_thin_79 : decode cX4_thin 79 = .ok (.iload 5, 2) := by decide +kernel
theorem dX4_thin_81 : decode cX4_thin 81 = .ok (.iaload, 1) := by decide +kernel
theorem dX4_thin_82 : decode cX4_thin 82 = .ok (.aload_n 1, 1) := by decide +kernel
theorem dX4_thin_83 : decode cX4_thin 83 = .ok (.getfield 35, 3) := by decide +kernel
theorem dX4_thin_86 : decode cX4_thin 86 = .ok (.iload 5, 2) := by decide +kernel
theorem dX4_thin_88 : decode cX4_thin 88 = .ok (.iaload, 1) := by decide +kernel
theorem dX4_thin_89 : decode cX4_thin 89 = .ok (.invokevirtual 38, 3) := by decide +kernel
theorem dX4_thin_92 : decode cX4_thin 92 = .ok (.iload 5, 2) := by decide +kernel
theorem dX4_thin_94 : decode cX4_thin 94 = .ok (.istore 4, 2) := by decide +kernel
theorem dX4_thin_96 : decode cX4_thin 96 = .ok (.iinc 5 1, 3) := by decide +kernel
theorem dX4_thin_99 : decode cX4_thin 99 = .ok (.goto (-69), 3) := by decide +kernel
theorem dX4_thin_102 : decode cX4_thin 102 = .ok (.return_, 1) := by decide +kernel
set_option maxRecDepth 20000 in
theorem ggX4_countSteps_X4_canStep : GoodIn wsX4_countSteps wsX4_canStep := goodIn_r _ [6, 7, 8, 9, 10, 11, 5, 12, 13, 14, 15, 16] (by decide +kernel) (by decide +kernel)
set_option maxRecDepth 20000 in
theorem gX4_countSteps_X4_canStep : GoodIn wsX4_countSteps (va_wsS RX4 25 yX4_canStep wsX4_canStep) := goodIn_app (goodIn_of _ (by decide +kernel)) ggX4_countSteps_X4_canStep
theorem dX4_countSteps_0 : decode cX4_countSteps 0 = .ok (.aload_n 1, 1) := by decide +kernel
theorem dX4_countSteps_1 : decode cX4_countSteps 1 = .ok (.getfield 19, 3) := by decide +kernel
theorem dX4_countSteps_4 : decode cX4_countSteps 4 = .ok (.iconst 1, 1) := by decide +kernel
theorem dX4_countSteps_5 : decode cX4_countSteps 5 = .ok (.isub, 1) := by decide +kernel
theorem dX4_countSteps_6 : decode cX4_countSteps 6 = .ok (.istore_n 3, 1) := by decide +kernel
theorem dX4_countSteps_7 : decode cX4_countSteps 7 = .ok (.iload_n 3, 1) := by decide +kernel
theorem dX4_countSteps_8 : decode cX4_countSteps 8 = .ok (.istore 4, 2) := by decide +kernel
theorem dX4_countSteps_10 : decode cX4_countSteps 10 = .ok (.iload 4, 2) := by decide +kernel
theorem dX4_countSteps_12 : decode cX4_countSteps 12 = .ok (.ifCond .lt 79, 3) := by decide +kernel
theorem dX4_countSteps_15 : decode cX4_countSteps 15 = .ok (.iload_n 3, 1) := by decide +kernel
theorem dX4_countSteps_16 : decode cX4_countSteps 16 = .ok (.iload 4, 2) := by decide +kernel
theorem dX4_countSteps_18 : decode cX4_countSteps 18 = .ok (.isub, 1) := by decide +kernel
theorem dX4_countSteps_19 : decode cX4_countSteps 19 = .ok (.istore 5, 2) := by decide +kernel
theorem dX4_countSteps_21 : decode cX4_countSteps 21 = .ok (.iload 4, 2) := by decide +kernel
theorem dX4_countSteps_23 : decode cX4_countSteps 23 = .ok (.iconst 1, 1) := by decide +kernel
theorem dX4_countSteps_24 : decode cX4_countSteps 24 = .ok (.iadd, 1) := by decide +kernel
theorem dX4_countSteps_25 : decode cX4_countSteps 25 = .ok (.istore 6, 2) := by decide +kernel
theorem dX4_countSteps_27 : decode cX4_countSteps 27 = .ok (.iload 6, 2) := by decide +kernel
theorem dX4_countSteps_29 : decode cX4_countSteps 29 = .ok (.iload_n 3, 1) := by decide +kernel
theorem dX4_countSteps_30 : decode cX4_countSteps 30 = .ok (.if_icmp .gt 46, 3) := by decide +kernel
theorem dX4_countSteps_33 : decode cX4_countSteps 33 = .ok (.aload_n 0, 1) := by decide +kernel
theorem dX4_countSteps_34 : decode cX4_countSteps 34 = .ok (.getfield 9, 3) := by decide +kernel
theorem dX4_countSteps_37 : decode cX4_countSteps 37 = .ok (.iload 6, 2) := by decide +kernel
theorem dX4_countSteps_39 : decode cX4_countSteps 39 = .ok (.iaload, 1) := by decide +kernel
theorem dX4_countSteps_40 : decode cX4_countSteps 40 = .ok (.iconst 1, 1) := by decide +kernel
theorem dX4_countSteps_41 : decode cX4_countSteps 41 = .ok (.iadd, 1) := by decide +kernel
theorem dX4_countSteps_42 : decode cX4_countSteps 42 = .ok (.iload 5, 2) := by decide +kernel
theorem dX4_countSteps_44 : decode cX4_countSteps 44 = .ok (.if_icmp .ge 26, 3) := by decide +kernel
theorem dX4_countSteps_47 : decode cX4_countSteps 47 = .ok (.aload_n 1, 1) := by decide +kernel
theorem dX4_countSteps_48 : decode cX4_countSteps 48 = .ok (.iload 4, 2) := by decide +kernel
theorem dX4_countSteps_50 : decode cX4_countSteps 50 = .ok (.iload 6, 2) := by decide +kernel
theorem dX4_countSteps_52 : decode cX4_countSteps 52 = .ok (.iload_n 2, 1) := by decide +kernel
theorem dX4_countSteps_53 : decode cX4_countSteps 53 = .ok (.invokestatic 25, 3) := by decide +kernel
theorem dX4_countSteps_56 : decode cX4_countSteps 56 = .ok (.ifCond .eq 14, 3) := by decide +kernel
theorem dX4_countSteps_59 : decode cX4_countSteps 59 = .ok (.aload_n 0, 1) := by decide +kernel
theorem dX4_countSteps_60 : decode cX4_countSteps 60 = .ok (.getfield 9, 3) := by decide +kernel
theorem dX4_countSteps_63 : decode cX4_countSteps 63 = .ok (.iload 6, 2) := by decide +kernel
theorem dX4_countSteps_65 : decode cX4_countSteps 65 = .ok (.iaload, 1) := by decide +kernel
theorem dX4_countSteps_66 : decode cX4_countSteps 66 = .ok (.iconst 1, 1) := by decide +kernel
theorem dX4_countSteps_67 : decode cX4_countSteps 67 = .ok (.iadd, 1) := by decide +kernel
theorem dX4_countSteps_68 : decode cX4_countSteps 68 = .ok (.istore 5, 2) := by decide +kernel
theorem dX4_countSteps_70 : decode cX4_countSteps 70 = .ok (.iinc 6 1, 3) := by decide +kernel
theorem dX4_countSteps_73 : decode cX4_countSteps 73 = .ok (.goto (-46), 3) := by decide +kernel
theorem dX4_countSteps_76 : decode cX4_countSteps 76 = .ok (.aload_n 0, 1) := by decide +kernel
theorem dX4_countSteps_77 : decode cX4_countSteps 77 = .ok (.getfield 9, 3) := by decide +kernel
theorem dX4_countSteps_80 : decode cX4_countSteps 80 = .ok (.iload 4, 2) := by decide +kernel
theorem dX4_countSteps_82 : decode cX4_countSteps 82 = .ok (.iload 5, 2) := by decide +kernel
theorem dX4_countSteps_84 : decode cX4_countSteps 84 = .ok (.iastore, 1) := by decide +kernel
theorem dX4_countSteps_85 : decode cX4_countSteps 85 = .ok (.iinc 4 (-1), 3) := by decide +kernel
theorem dX4_countSteps_88 : decode cX4_countSteps 88 = .ok (.goto (-78), 3) := by decide +kernel
theorem dX4_countSteps_91 : decode cX4_countSteps 91 = .ok (.return_, 1) := by decide +kernel
set_option maxRecDepth 20000 in
theorem ggX4_canStep_X4_isNear : GoodIn wsX4_canStep wsX4_isNear := goodIn_r _ [7] (by decide +kernel) (by decide +kernel)
set_option maxRecDepth 20000 in
theorem gX4_canStep_X4_isNear : GoodIn wsX4_canStep (va_wsS RX4 42 yX4_isNear wsX4_isNear) := goodIn_app (goodIn_of _ (by decide +kernel)) ggX4_canStep_X4_isNear
theorem dX4_canStep_0 : decode cX4_canStep 0 = .ok (.iload_n 1, 1) := by decide +kernel
theorem dX4_canStep_1 : decode cX4_canStep 1 = .ok (.iconst 1, 1) := by decide +kernel
theorem dX4_canStep_2 : decode cX4_canStep 2 = .ok (.iadd, 1) := by decide +kernel
theorem dX4_canStep_3 : decode cX4_canStep 3 = .ok (.istore 4, 2) := by decide +kernel
theorem dX4_canStep_5 : decode cX4_canStep 5 = .ok (.iload 4, 2) := by decide +kernel
theorem dX4_canStep_7 : decode cX4_canStep 7 = .ok (.iload_n 2, 1) := by decide +kernel
theorem dX4_canStep_8 : decode cX4_canStep 8 = .ok (.if_icmp .ge 49, 3) := by decide +kernel
theorem dX4_canStep_11 : decode cX4_canStep 11 = .ok (.aload_n 0, 1) := by decide +kernel
theorem dX4_canStep_12 : decode cX4_canStep 12 = .ok (.getfield 29, 3) := by decide +kernel
theorem dX4_canStep_15 : decode cX4_canStep 15 = .ok (.aload_n 0, 1) := by decide +kernel
theorem dX4_canStep_16 : decode cX4_canStep 16 = .ok (.getfield 32, 3) := by decide +kernel
theorem dX4_canStep_19 : decode cX4_canStep 19 = .ok (.iload_n 1, 1) := by decide +kernel
theorem dX4_canStep_20 : decode cX4_canStep 20 = .ok (.iload 4, 2) := by decide +kernel
theorem dX4_canStep_22 : decode cX4_canStep 22 = .ok (.iload_n 2, 1) := by decide +kernel
theorem dX4_canStep_23 : decode cX4_canStep 23 = .ok (.iload_n 3, 1) := by decide +kernel
theorem dX4_canStep_24 : decode cX4_canStep 24 = .ok (.invokestatic 42, 3) := by decide +kernel
theorem dX4_canStep_27 : decode cX4_canStep 27 = .ok (.ifCond .eq 22, 3) := by decide +kernel
theorem dX4_canStep_30 : decode cX4_canStep 30 = .ok (.aload_n 0, 1) := by decide +kernel
theorem dX4_canStep_31 : decode cX4_canStep 31 = .ok (.getfield 29, 3) := by decide +kernel
theorem dX4_canStep_34 : decode cX4_canStep 34 = .ok (.aload_n 0, 1) := by decide +kernel
theorem dX4_canStep_35 : decode cX4_canStep 35 = .ok (.getfield 35, 3) := by decide +kernel
theorem dX4_canStep_38 : decode cX4_canStep 38 = .ok (.iload_n 1, 1) := by decide +kernel
theorem dX4_canStep_39 : decode cX4_canStep 39 = .ok (.iload 4, 2) := by decide +kernel
theorem dX4_canStep_41 : decode cX4_canStep 41 = .ok (.iload_n 2, 1) := by decide +kernel
theorem dX4_canStep_42 : decode cX4_canStep 42 = .ok (.iload_n 3, 1) := by decide +kernel
theorem dX4_canStep_43 : decode cX4_canStep 43 = .ok (.invokestatic 42, 3) := by decide +kernel
theorem dX4_canStep_46 : decode cX4_canStep 46 = .ok (.ifCond .ne 5, 3) := by decide +kernel
theorem dX4_canStep_49 : decode cX4_canStep 49 = .ok (.iconst 0, 1) := by decide +kernel
theorem dX4_canStep_50 : decode cX4_canStep 50 = .ok (.ireturn, 1) := by decide +kernel
theorem dX4_canStep_51 : decode cX4_canStep 51 = .ok (.iinc 4 1, 3) := by decide +kernel
theorem dX4_canStep_54 : decode cX4_canStep 54 = .ok (.goto (-49), 3) := by decide +kernel
theorem dX4_canStep_57 : decode cX4_canStep 57 = .ok (.iconst 1, 1) := by decide +kernel
theorem dX4_canStep_58 : decode cX4_canStep 58 = .ok (.ireturn, 1) := by decide +kernel
theorem dX4_isNear_0 : decode cX4_isNear 0 = .ok (.aload_n 0, 1) := by decide +kernel
theorem dX4_isNear_1 : decode cX4_isNear 1 = .ok (.iload 4, 2) := by decide +kernel
theorem dX4_isNear_3 : decode cX4_isNear 3 = .ok (.iaload, 1) := by decide +kernel
theorem dX4_isNear_4 : decode cX4_isNear 4 = .ok (.aload_n 0, 1) := by decide +kernel
theorem dX4_isNear_5 : decode cX4_isNear 5 = .ok (.iload_n 2, 1) := by decide +kernel
theorem dX4_isNear_6 : decode cX4_isNear 6 = .ok (.iaload, 1) := by decide +kernel
theorem dX4_isNear_7 : decode cX4_isNear 7 = .ok (.isub, 1) := by decide +kernel
theorem dX4_isNear_8 : decode cX4_isNear 8 = .ok (.i2l, 1) := by decide +kernel
theorem dX4_isNear_9 : decode cX4_isNear 9 = .ok (.lstore 6, 2) := by decide +kernel
theorem dX4_isNear_11 : decode cX4_isNear 11 = .ok (.aload_n 0, 1) := by decide +kernel
theorem dX4_isNear_12 : decode cX4_isNear 12 = .ok (.iload_n 3, 1) := by decide +kernel
theorem dX4_isNear_13 : decode cX4_isNear 13 = .ok (.iaload, 1) := by decide +kernel
theorem dX4_isNear_14 : decode cX4_isNear 14 = .ok (.aload_n 0, 1) := by decide +kernel
theorem dX4_isNear_15 : decode cX4_isNear 15 = .ok (.iload_n 2, 1) := by decide +kernel
theorem dX4_isNear_16 : decode cX4_isNear 16 = .ok (.iaload, 1) := by decide +kernel
theorem dX4_isNear_17 : decode cX4_isNear 17 = .ok (.isub, 1) := by decide +kernel
theorem dX4_isNear_18 : decode cX4_isNear 18 = .ok (.i2l, 1) := by decide +kernel
theorem dX4_isNear_19 : decode cX4_isNear 19 = .ok (.lstore 8, 2) := by decide +kernel
theorem dX4_isNear_21 : decode cX4_isNear 21 = .ok (.aload_n 1, 1) := by decide +kernel
theorem dX4_isNear_22 : decode cX4_isNear 22 = .ok (.iload_n 3, 1) := by decide +kernel
theorem dX4_isNear_23 : decode cX4_isNear 23 = .ok (.iaload, 1) := by decide +kernel
theorem dX4_isNear_24 : decode cX4_isNear 24 = .ok (.aload_n 1, 1) := by decide +kernel
theorem dX4_isNear_25 : decode cX4_isNear 25 = .ok (.iload_n 2, 1) := by decide +kernel
theorem dX4_isNear_26 : decode cX4_isNear 26 = .ok (.iaload, 1) := by decide +kernel
theorem dX4_isNear_27 : decode cX4_isNear 27 = .ok (.isub, 1) := by decide +kernel
theorem dX4_isNear_28 : decode cX4_isNear 28 = .ok (.i2l, 1) := by decide +kernel
theorem dX4_isNear_29 : decode cX4_isNear 29 = .ok (.lload 6, 2) := by decide +kernel
theorem dX4_isNear_31 : decode cX4_isNear 31 = .ok (.lmul, 1) := by decide +kernel
theorem dX4_isNear_32 : decode cX4_isNear 32 = .ok (.aload_n 1, 1) := by decide +kernel
theorem dX4_isNear_33 : decode cX4_isNear 33 = .ok (.iload 4, 2) := by decide +kernel
theorem dX4_isNear_35 : decode cX4_isNear 35 = .ok (.iaload, 1) := by decide +kernel
theorem dX4_isNear_36 : decode cX4_isNear 36 = .ok (.aload_n 1, 1) := by decide +kernel
theorem dX4_isNear_37 : decode cX4_isNear 37 = .ok (.iload_n 2, 1) := by decide +kernel
theorem dX4_isNear_38 : decode cX4_isNear 38 = .ok (.iaload, 1) := by decide +kernel
theorem dX4_isNear_39 : decode cX4_isNear 39 = .ok (.isub, 1) := by decide +kernel
theorem dX4_isNear_40 : decode cX4_isNear 40 = .ok (.i2l, 1) := by decide +kernel
theorem dX4_isNear_41 : decode cX4_isNear 41 = .ok (.lload 8, 2) := by decide +kernel
theorem dX4_isNear_43 : decode cX4_isNear 43 = .ok (.lmul, 1) := by decide +kernel
theorem dX4_isNear_44 : decode cX4_isNear 44 = .ok (.lsub, 1) := by decide +kernel
theorem dX4_isNear_45 : decode cX4_isNear 45 = .ok (.lstore 10, 2) := by decide +kernel
theorem dX4_isNear_47 : decode cX4_isNear 47 = .ok (.lload 10, 2) := by decide +kernel
theorem dX4_isNear_49 : decode cX4_isNear 49 = .ok (.lconst 0, 1) := by decide +kernel
theorem dX4_isNear_50 : decode cX4_isNear 50 = .ok (.lcmp, 1) := by decide +kernel
theorem dX4_isNear_51 : decode cX4_isNear 51 = .ok (.ifCond .ge 9, 3) := by decide +kernel
theorem dX4_isNear_54 : decode cX4_isNear 54 = .ok (.lload 10, 2) := by decide +kernel
theorem dX4_isNear_56 : decode cX4_isNear 56 = .ok (.lneg, 1) := by decide +kernel
theorem dX4_isNear_57 : decode cX4_isNear 57 = .ok (.goto 5, 3) := by decide +kernel
theorem dX4_isNear_60 : decode cX4_isNear 60 = .ok (.lload 10, 2) := by decide +kernel
theorem dX4_isNear_62 : decode cX4_isNear 62 = .ok (.iload 5, 2) := by decide +kernel
theorem dX4_isNear_64 : decode cX4_isNear 64 = .ok (.i2l, 1) := by decide +kernel
theorem dX4_isNear_65 : decode cX4_isNear 65 = .ok (.lload 6, 2) := by decide +kernel
theorem dX4_isNear_67 : decode cX4_isNear 67 = .ok (.lmul, 1) := by decide +kernel
theorem dX4_isNear_68 : decode cX4_isNear 68 = .ok (.lcmp, 1) := by decide +kernel
theorem dX4_isNear_69 : decode cX4_isNear 69 = .ok (.ifCond .gt 7, 3) := by decide +kernel
theorem dX4_isNear_72 : decode cX4_isNear 72 = .ok (.iconst 1, 1) := by decide +kernel
theorem dX4_isNear_73 : decode cX4_isNear 73 = .ok (.goto 4, 3) := by decide +kernel
theorem dX4_isNear_76 : decode cX4_isNear 76 = .ok (.iconst 0, 1) := by decide +kernel
theorem dX4_isNear_77 : decode cX4_isNear 77 = .ok (.ireturn, 1) := by decide +kernel
set_option maxRecDepth 20000 in
theorem ggX5_init_X2_init : GoodIn wsX5_init wsX2_init := goodIn_r _ [11, 12, 2, 3, 13, 14, 15, 16, 17, 18, 19, 20] (by decide +kernel) (by decide +kernel)
set_option maxRecDepth 20000 in
theorem gX5_init_X2_init_n11 : GoodIn wsX5_init (wsX2_init) := ggX5_init_X2_init
theorem dX5_init_0 : decode cX5_init 0 = .ok (.aload_n 0, 1) := by decide +kernel
theorem dX5_init_1 : decode cX5_init 1 = .ok (.invokespecial 3, 3) := by decide +kernel
theorem dX5_init_4 : decode cX5_init 4 = .ok (.aload_n 0, 1) := by decide +kernel
theorem dX5_init_5 : decode cX5_init 5 = .ok (.new 9, 3) := by decide +kernel
theorem dX5_init_8 : decode cX5_init 8 = .ok (.dup, 1) := by decide +kernel
theorem dX5_init_9 : decode cX5_init 9 = .ok (.invokespecial 11, 3) := by decide +kernel
theorem dX5_init_12 : decode cX5_init 12 = .ok (.putfield 12, 3) := by decide +kernel
theorem dX5_init_15 : decode cX5_init 15 = .ok (.aload_n 0, 1) := by decide +kernel
theorem dX5_init_16 : decode cX5_init 16 = .ok (.iconst 0, 1) := by decide +kernel
theorem dX5_init_17 : decode cX5_init 17 = .ok (.putfield 18, 3) := by decide +kernel
theorem dX5_init_20 : decode cX5_init 20 = .ok (.aload_n 0, 1) := by decide +kernel
theorem dX5_init_21 : decode cX5_init 21 = .ok (.iconst (-1), 1) := by decide +kernel
theorem dX5_init_22 : decode cX5_init 22 = .ok (.putfield 22, 3) := by decide +kernel
theorem dX5_init_25 : decode cX5_init 25 = .ok (.return_, 1) := by decide +kernel
theorem dX5_become_0 : decode cX5_become 0 = .ok (.aload_n 0, 1) := by decide +kernel
theorem dX5_become_1 : decode cX5_become 1 = .ok (.iload_n 1, 1) := by decide +kernel
theorem dX5_become_2 : decode cX5_become 2 = .ok (.putfield 18, 3) := by decide +kernel
theorem dX5_become_5 : decode cX5_become 5 = .ok (.aload_n 0, 1) := by decide +kernel
theorem dX5_become_6 : decode cX5_become 6 = .ok (.iload_n 2, 1) := by decide +kernel
theorem dX5_become_7 : decode cX5_become 7 = .ok (.putfield 22, 3) := by decide +kernel
theorem dX5_become_10 : decode cX5_become 10 = .ok (.return_, 1) := by decide +kernel
