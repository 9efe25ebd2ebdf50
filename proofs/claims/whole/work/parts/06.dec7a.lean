theorem dX7_init_0 : decode cX7_init 0 = .ok (.aload_n 0, 1) := by decide +kernel
theorem dX7_init_1 : decode cX7_init 1 = .ok (.invokespecial 1, 3) := by decide +kernel
theorem dX7_init_4 : decode cX7_init 4 = .ok (.aload_n 0, 1) := by decide +kernel
theorem dX7_init_5 : decode cX7_init 5 = .ok (.iconst 4, 1) := by decide +kernel
theorem dX7_init_6 : decode cX7_init 6 = .ok (.newarray .int, 2) := by decide +kernel
theorem dX7_init_8 : decode cX7_init 8 = .ok (.putfield 7, 3) := by decide +kernel
theorem dX7_init_11 : decode cX7_init 11 = .ok (.aload_n 0, 1) := by decide +kernel
theorem dX7_init_12 : decode cX7_init 12 = .ok (.iconst 4, 1) := by decide +kernel
theorem dX7_init_13 : decode cX7_init 13 = .ok (.newarray .int, 2) := by decide +kernel
theorem dX7_init_15 : decode cX7_init 15 = .ok (.putfield 13, 3) := by decide +kernel
theorem dX7_init_18 : decode cX7_init 18 = .ok (.aload_n 0, 1) := by decide +kernel
theorem dX7_init_19 : decode cX7_init 19 = .ok (.iconst 4, 1) := by decide +kernel
theorem dX7_init_20 : decode cX7_init 20 = .ok (.newarray .int, 2) := by decide +kernel
theorem dX7_init_22 : decode cX7_init 22 = .ok (.putfield 16, 3) := by decide +kernel
theorem dX7_init_25 : decode cX7_init 25 = .ok (.aload_n 0, 1) := by decide +kernel
theorem dX7_init_26 : decode cX7_init 26 = .ok (.bipush 80, 2) := by decide +kernel
theorem dX7_init_28 : decode cX7_init 28 = .ok (.newarray .int, 2) := by decide +kernel
theorem dX7_init_30 : decode cX7_init 30 = .ok (.putfield 19, 3) := by decide +kernel
theorem dX7_init_33 : decode cX7_init 33 = .ok (.aload_n 0, 1) := by decide +kernel
theorem dX7_init_34 : decode cX7_init 34 = .ok (.bipush 80, 2) := by decide +kernel
theorem dX7_init_36 : decode cX7_init 36 = .ok (.newarray .int, 2) := by decide +kernel
theorem dX7_init_38 : decode cX7_init 38 = .ok (.putfield 22, 3) := by decide +kernel
theorem dX7_init_41 : decode cX7_init 41 = .ok (.aload_n 0, 1) := by decide +kernel
theorem dX7_init_42 : decode cX7_init 42 = .ok (.bipush 80, 2) := by decide +kernel
theorem dX7_init_44 : decode cX7_init 44 = .ok (.newarray .int, 2) := by decide +kernel
theorem dX7_init_46 : decode cX7_init 46 = .ok (.putfield 25, 3) := by decide +kernel
theorem dX7_init_49 : decode cX7_init 49 = .ok (.aload_n 0, 1) := by decide +kernel
theorem dX7_init_50 : decode cX7_init 50 = .ok (.bipush 20, 2) := by decide +kernel
theorem dX7_init_52 : decode cX7_init 52 = .ok (.newarray .int, 2) := by decide +kernel
theorem dX7_init_54 : decode cX7_init 54 = .ok (.putfield 28, 3) := by decide +kernel
theorem dX7_init_57 : decode cX7_init 57 = .ok (.aload_n 0, 1) := by decide +kernel
theorem dX7_init_58 : decode cX7_init 58 = .ok (.sipush 300, 3) := by decide +kernel
theorem dX7_init_61 : decode cX7_init 61 = .ok (.newarray .int, 2) := by decide +kernel
theorem dX7_init_63 : decode cX7_init 63 = .ok (.putfield 31, 3) := by decide +kernel
theorem dX7_init_66 : decode cX7_init 66 = .ok (.aload_n 0, 1) := by decide +kernel
theorem dX7_init_67 : decode cX7_init 67 = .ok (.bipush 20, 2) := by decide +kernel
theorem dX7_init_69 : decode cX7_init 69 = .ok (.newarray .int, 2) := by decide +kernel
theorem dX7_init_71 : decode cX7_init 71 = .ok (.putfield 34, 3) := by decide +kernel
theorem dX7_init_74 : decode cX7_init 74 = .ok (.aload_n 0, 1) := by decide +kernel
theorem dX7_init_75 : decode cX7_init 75 = .ok (.bipush 20, 2) := by decide +kernel
theorem dX7_init_77 : decode cX7_init 77 = .ok (.newarray .int, 2) := by decide +kernel
theorem dX7_init_79 : decode cX7_init 79 = .ok (.putfield 37, 3) := by decide +kernel
theorem dX7_init_82 : decode cX7_init 82 = .ok (.aload_n 0, 1) := by decide +kernel
theorem dX7_init_83 : decode cX7_init 83 = .ok (.bipush 20, 2) := by decide +kernel
theorem dX7_init_85 : decode cX7_init 85 = .ok (.newarray .int, 2) := by decide +kernel
theorem dX7_init_87 : decode cX7_init 87 = .ok (.putfield 40, 3) := by decide +kernel
theorem dX7_init_90 : decode cX7_init 90 = .ok (.aload_n 0, 1) := by decide +kernel
theorem dX7_init_91 : decode cX7_init 91 = .ok (.bipush 20, 2) := by decide +kernel
theorem dX7_init_93 : decode cX7_init 93 = .ok (.newarray .long, 2) := by decide +kernel
theorem dX7_init_95 : decode cX7_init 95 = .ok (.putfield 43, 3) := by decide +kernel
theorem dX7_init_98 : decode cX7_init 98 = .ok (.aload_n 0, 1) := by decide +kernel
theorem dX7_init_99 : decode cX7_init 99 = .ok (.bipush 20, 2) := by decide +kernel
theorem dX7_init_101 : decode cX7_init 101 = .ok (.newarray .long, 2) := by decide +kernel
theorem dX7_init_103 : decode cX7_init 103 = .ok (.putfield 47, 3) := by decide +kernel
theorem dX7_init_106 : decode cX7_init 106 = .ok (.aload_n 0, 1) := by decide +kernel
theorem dX7_init_107 : decode cX7_init 107 = .ok (.bipush 20, 2) := by decide +kernel
theorem dX7_init_109 : decode cX7_init 109 = .ok (.newarray .long, 2) := by decide +kernel
theorem dX7_init_111 : decode cX7_init 111 = .ok (.putfield 50, 3) := by decide +kernel
theorem dX7_init_114 : decode cX7_init 114 = .ok (.aload_n 0, 1) := by decide +kernel
theorem dX7_init_115 : decode cX7_init 115 = .ok (.bipush 20, 2) := by decide +kernel
theorem dX7_init_117 : decode cX7_init 117 = .ok (.newarray .long, 2) := by decide +kernel
theorem dX7_init_119 : decode cX7_init 119 = .ok (.putfield 53, 3) := by decide +kernel
theorem dX7_init_122 : decode cX7_init 122 = .ok (.return_, 1) := by decide +kernel
theorem dX7_thrown_0 : decode cX7_thrown 0 = .ok (.aload_n 0, 1) := by decide +kernel
theorem dX7_thrown_1 : decode cX7_thrown 1 = .ok (.getfield 56, 3) := by decide +kernel
theorem dX7_thrown_4 : decode cX7_thrown 4 = .ok (.ireturn, 1) := by decide +kernel
theorem dX7_isTrack_0 : decode cX7_isTrack 0 = .ok (.iload_n 0, 1) := by decide +kernel
theorem dX7_isTrack_1 : decode cX7_isTrack 1 = .ok (.ifCond .lt 12, 3) := by decide +kernel
theorem dX7_isTrack_4 : decode cX7_isTrack 4 = .ok (.iload_n 0, 1) := by decide +kernel
theorem dX7_isTrack_5 : decode cX7_isTrack 5 = .ok (.iconst 4, 1) := by decide +kernel
theorem dX7_isTrack_6 : decode cX7_isTrack 6 = .ok (.if_icmp .ge 7, 3) := by decide +kernel
theorem dX7_isTrack_9 : decode cX7_isTrack 9 = .ok (.iconst 1, 1) := by decide +kernel
theorem dX7_isTrack_10 : decode cX7_isTrack 10 = .ok (.goto 4, 3) := by decide +kernel
theorem dX7_isTrack_13 : decode cX7_isTrack 13 = .ok (.iconst 0, 1) := by decide +kernel
theorem dX7_isTrack_14 : decode cX7_isTrack 14 = .ok (.ireturn, 1) := by decide +kernel
set_option maxRecDepth 20000 in
theorem ggX7_is_X7_isTrack : GoodIn wsX7_is wsX7_isTrack := goodIn_r _ [5] (by decide +kernel) (by decide +kernel)
set_option maxRecDepth 20000 in
theorem gX7_is_X7_isTrack : GoodIn wsX7_is (va_wsS RX7 60 yX7_isTrack wsX7_isTrack) := goodIn_app (goodIn_of _ (by decide +kernel)) ggX7_is_X7_isTrack
theorem dX7_is_0 : decode cX7_is 0 = .ok (.aload_n 0, 1) := by decide +kernel
theorem dX7_is_1 : decode cX7_is 1 = .ok (.getfield 7, 3) := by decide +kernel
theorem dX7_is_4 : decode cX7_is 4 = .ok (.iload_n 1, 1) := by decide +kernel
theorem dX7_is_5 : decode cX7_is 5 = .ok (.invokestatic 60, 3) := by decide +kernel
theorem dX7_is_8 : decode cX7_is 8 = .ok (.ifCond .eq 7, 3) := by decide +kernel
theorem dX7_is_11 : decode cX7_is 11 = .ok (.iload_n 1, 1) := by decide +kernel
theorem dX7_is_12 : decode cX7_is 12 = .ok (.goto 4, 3) := by decide +kernel
theorem dX7_is_15 : decode cX7_is 15 = .ok (.iconst 0, 1) := by decide +kernel
theorem dX7_is_16 : decode cX7_is 16 = .ok (.iaload, 1) := by decide +kernel
theorem dX7_is_17 : decode cX7_is 17 = .ok (.iload_n 2, 1) := by decide +kernel
theorem dX7_is_18 : decode cX7_is 18 = .ok (.if_icmp .ne 7, 3) := by decide +kernel
theorem dX7_is_21 : decode cX7_is 21 = .ok (.iconst 1, 1) := by decide +kernel
theorem dX7_is_22 : decode cX7_is 22 = .ok (.goto 4, 3) := by decide +kernel
theorem dX7_is_25 : decode cX7_is 25 = .ok (.iconst 0, 1) := by decide +kernel
theorem dX7_is_26 : decode cX7_is 26 = .ok (.ireturn, 1) := by decide +kernel
set_option maxRecDepth 20000 in
theorem ggX7_open_X7_isTrack : GoodIn wsX7_open wsX7_isTrack := goodIn_r _ [7] (by decide +kernel) (by decide +kernel)
set_option maxRecDepth 20000 in
theorem gX7_open_X7_isTrack : GoodIn wsX7_open (va_wsS RX7 60 yX7_isTrack wsX7_isTrack) := goodIn_app (goodIn_of _ (by decide +kernel)) ggX7_open_X7_isTrack
set_option maxRecDepth 20000 in
theorem ggX7_open_X7_is : GoodIn wsX7_open wsX7_is := goodIn_r _ [11, 2, 4, 5, 6, 7, 12, 13, 14, 15, 16, 17, 18, 19, 20, 21, 22, 23, 24, 25, 26, 27, 28, 29, 30, 31, 32, 33, 34, 35] (by decide +kernel) (by decide +kernel)
set_option maxRecDepth 20000 in
theorem gX7_open_X7_is : GoodIn wsX7_open (wsV RX7 64 RX7 yX7_is wsX7_is) := goodIn_app (goodIn_of _ (by decide +kernel)) ggX7_open_X7_is
theorem dX7_open_0 : decode cX7_open 0 = .ok (.aload_n 0, 1) := by decide +kernel
theorem dX7_open_1 : decode cX7_open 1 = .ok (.iload_n 1, 1) := by decide +kernel
theorem dX7_open_2 : decode cX7_open 2 = .ok (.invokestatic 60, 3) := by decide +kernel
theorem dX7_open_5 : decode cX7_open 5 = .ok (.ifCond .ne 7, 3) := by decide +kernel
theorem dX7_open_8 : decode cX7_open 8 = .ok (.iconst 1, 1) := by decide +kernel
theorem dX7_open_9 : decode cX7_open 9 = .ok (.goto 17, 3) := by decide +kernel
theorem dX7_open_12 : decode cX7_open 12 = .ok (.aload_n 0, 1) := by decide +kernel
theorem dX7_open_13 : decode cX7_open 13 = .ok (.iload_n 1, 1) := by decide +kernel
theorem dX7_open_14 : decode cX7_open 14 = .ok (.iconst 0, 1) := by decide +kernel
theorem dX7_open_15 : decode cX7_open 15 = .ok (.invokevirtual 64, 3) := by decide +kernel
theorem dX7_open_18 : decode cX7_open 18 = .ok (.ifCond .ne 7, 3) := by decide +kernel
theorem dX7_open_21 : decode cX7_open 21 = .ok (.iconst 2, 1) := by decide +kernel
theorem dX7_open_22 : decode cX7_open 22 = .ok (.goto 4, 3) := by decide +kernel
theorem dX7_open_25 : decode cX7_open 25 = .ok (.iconst 0, 1) := by decide +kernel
theorem dX7_open_26 : decode cX7_open 26 = .ok (.putfield 56, 3) := by decide +kernel
theorem dX7_open_29 : decode cX7_open 29 = .ok (.aload_n 0, 1) := by decide +kernel
theorem dX7_open_30 : decode cX7_open 30 = .ok (.getfield 56, 3) := by decide +kernel
theorem dX7_open_33 : decode cX7_open 33 = .ok (.ifCond .ne 17, 3) := by decide +kernel
theorem dX7_open_36 : decode cX7_open 36 = .ok (.aload_n 0, 1) := by decide +kernel
theorem dX7_open_37 : decode cX7_open 37 = .ok (.getfield 7, 3) := by decide +kernel
theorem dX7_open_40 : decode cX7_open 40 = .ok (.iload_n 1, 1) := by decide +kernel
theorem dX7_open_41 : decode cX7_open 41 = .ok (.iconst 1, 1) := by decide +kernel
theorem dX7_open_42 : decode cX7_open 42 = .ok (.iastore, 1) := by decide +kernel
theorem dX7_open_43 : decode cX7_open 43 = .ok (.aload_n 0, 1) := by decide +kernel
theorem dX7_open_44 : decode cX7_open 44 = .ok (.getfield 13, 3) := by decide +kernel
theorem dX7_open_47 : decode cX7_open 47 = .ok (.iload_n 1, 1) := by decide +kernel
theorem dX7_open_48 : decode cX7_open 48 = .ok (.iconst 0, 1) := by decide +kernel
theorem dX7_open_49 : decode cX7_open 49 = .ok (.iastore, 1) := by decide +kernel
theorem dX7_open_50 : decode cX7_open 50 = .ok (.return_, 1) := by decide +kernel
theorem dX7_isPlace_0 : decode cX7_isPlace 0 = .ok (.iload_n 0, 1) := by decide +kernel
theorem dX7_isPlace_1 : decode cX7_isPlace 1 = .ok (.ldc 68, 2) := by decide +kernel
theorem dX7_isPlace_3 : decode cX7_isPlace 3 = .ok (.if_icmp .lt 13, 3) := by decide +kernel
theorem dX7_isPlace_6 : decode cX7_isPlace 6 = .ok (.iload_n 0, 1) := by decide +kernel
theorem dX7_isPlace_7 : decode cX7_isPlace 7 = .ok (.ldc 69, 2) := by decide +kernel
theorem dX7_isPlace_9 : decode cX7_isPlace 9 = .ok (.if_icmp .gt 7, 3) := by decide +kernel
theorem dX7_isPlace_12 : decode cX7_isPlace 12 = .ok (.iconst 1, 1) := by decide +kernel
theorem dX7_isPlace_13 : decode cX7_isPlace 13 = .ok (.goto 4, 3) := by decide +kernel
theorem dX7_isPlace_16 : decode cX7_isPlace 16 = .ok (.iconst 0, 1) := by decide +kernel
theorem dX7_isPlace_17 : decode cX7_isPlace 17 = .ok (.ireturn, 1) := by decide +kernel
set_option maxRecDepth 20000 in
theorem ggX7_add_X7_isTrack : GoodIn wsX7_add wsX7_isTrack := goodIn_r _ [9] (by decide +kernel) (by decide +kernel)
set_option maxRecDepth 20000 in
theorem gX7_add_X7_isTrack : GoodIn wsX7_add (va_wsS RX7 60 yX7_isTrack wsX7_isTrack) := goodIn_app (goodIn_of _ (by decide +kernel)) ggX7_add_X7_isTrack
set_option maxRecDepth 20000 in
theorem ggX7_add_X7_is : GoodIn wsX7_add wsX7_is := goodIn_r _ [13, 14, 6, 7, 8, 9, 20, 21, 22, 23, 24, 25, 26, 27, 28, 29, 30, 31, 32, 33, 34, 35, 36, 37, 38, 39, 40, 41, 42, 43] (by decide +kernel) (by decide +kernel)
set_option maxRecDepth 20000 in
theorem gX7_add_X7_is : GoodIn wsX7_add (wsV RX7 64 RX7 yX7_is wsX7_is) := goodIn_app (goodIn_of _ (by decide +kernel)) ggX7_add_X7_is
set_option maxRecDepth 20000 in
theorem ggX7_add_X7_isPlace : GoodIn wsX7_add wsX7_isPlace := goodIn_r _ [17, 18, 19] (by decide +kernel) (by decide +kernel)
set_option maxRecDepth 20000 in
theorem gX7_add_X7_isPlace : GoodIn wsX7_add (va_wsS RX7 70 yX7_isPlace wsX7_isPlace) := goodIn_app (goodIn_of _ (by decide +kernel)) ggX7_add_X7_isPlace
theorem dX7_add_0 : decode cX7_add 0 = .ok (.aload_n 0, 1) := by decide +kernel
theorem dX7_add_1 : decode cX7_add 1 = .ok (.iload_n 1, 1) := by decide +kernel
theorem dX7_add_2 : decode cX7_add 2 = .ok (.invokestatic 60, 3) := by decide +kernel
theorem dX7_add_5 : decode cX7_add 5 = .ok (.ifCond .ne 7, 3) := by decide +kernel
theorem dX7_add_8 : decode cX7_add 8 = .ok (.iconst 1, 1) := by decide +kernel
theorem dX7_add_9 : decode cX7_add 9 = .ok (.goto 17, 3) := by decide +kernel
theorem dX7_add_12 : decode cX7_add 12 = .ok (.aload_n 0, 1) := by decide +kernel
theorem dX7_add_13 : decode cX7_add 13 = .ok (.iload_n 1, 1) := by decide +kernel
theorem dX7_add_14 : decode cX7_add 14 = .ok (.iconst 1, 1) := by decide +kernel
theorem dX7_add_15 : decode cX7_add 15 = .ok (.invokevirtual 64, 3) := by decide +kernel
theorem dX7_add_18 : decode cX7_add 18 = .ok (.ifCond .ne 7, 3) := by decide +kernel
theorem dX7_add_21 : decode cX7_add 21 = .ok (.iconst 2, 1) := by decide +kernel
theorem dX7_add_22 : decode cX7_add 22 = .ok (.goto 4, 3) := by decide +kernel
theorem dX7_add_25 : decode cX7_add 25 = .ok (.iconst 0, 1) := by decide +kernel
theorem dX7_add_26 : decode cX7_add 26 = .ok (.putfield 56, 3) := by decide +kernel
theorem dX7_add_29 : decode cX7_add 29 = .ok (.aload_n 0, 1) := by decide +kernel
theorem dX7_add_30 : decode cX7_add 30 = .ok (.getfield 56, 3) := by decide +kernel
theorem dX7_add_33 : decode cX7_add 33 = .ok (.ifCond .le 5, 3) := by decide +kernel
theorem dX7_add_36 : decode cX7_add 36 = .ok (.iconst 0, 1) := by decide +kernel
theorem dX7_add_37 : decode cX7_add 37 = .ok (.ireturn, 1) := by decide +kernel
theorem dX7_add_38 : decode cX7_add 38 = .ok (.aload_n 0, 1) := by decide +kernel
theorem dX7_add_39 : decode cX7_add 39 = .ok (.getfield 13, 3) := by decide +kernel
theorem dX7_add_42 : decode cX7_add 42 = .ok (.iload_n 1, 1) := by decide +kernel
theorem dX7_add_43 : decode cX7_add 43 = .ok (.iaload, 1) := by decide +kernel
theorem dX7_add_44 : decode cX7_add 44 = .ok (.istore 5, 2) := by decide +kernel
theorem dX7_add_46 : decode cX7_add 46 = .ok (.iload_n 2, 1) := by decide +kernel
theorem dX7_add_47 : decode cX7_add 47 = .ok (.ifCond .lt 39, 3) := by decide +kernel
theorem dX7_add_50 : decode cX7_add 50 = .ok (.iload 5, 2) := by decide +kernel
theorem dX7_add_52 : decode cX7_add 52 = .ok (.ifCond .eq 30, 3) := by decide +kernel
theorem dX7_add_55 : decode cX7_add 55 = .ok (.iload_n 2, 1) := by decide +kernel
theorem dX7_add_56 : decode cX7_add 56 = .ok (.aload_n 0, 1) := by decide +kernel
theorem dX7_add_57 : decode cX7_add 57 = .ok (.getfield 19, 3) := by decide +kernel
theorem dX7_add_60 : decode cX7_add 60 = .ok (.bipush 20, 2) := by decide +kernel
theorem dX7_add_62 : decode cX7_add 62 = .ok (.iload_n 1, 1) := by decide +kernel
theorem dX7_add_63 : decode cX7_add 63 = .ok (.imul, 1) := by decide +kernel
theorem dX7_add_64 : decode cX7_add 64 = .ok (.iload 5, 2) := by decide +kernel
theorem dX7_add_66 : decode cX7_add 66 = .ok (.ifCond .ne 7, 3) := by decide +kernel
theorem dX7_add_69 : decode cX7_add 69 = .ok (.iconst 0, 1) := by decide +kernel
theorem dX7_add_70 : decode cX7_add 70 = .ok (.goto 7, 3) := by decide +kernel
theorem dX7_add_73 : decode cX7_add 73 = .ok (.iload 5, 2) := by decide +kernel
theorem dX7_add_75 : decode cX7_add 75 = .ok (.iconst 1, 1) := by decide +kernel
theorem dX7_add_76 : decode cX7_add 76 = .ok (.isub, 1) := by decide +kernel
theorem dX7_add_77 : decode cX7_add 77 = .ok (.iadd, 1) := by decide +kernel
theorem dX7_add_78 : decode cX7_add 78 = .ok (.iaload, 1) := by decide +kernel
theorem dX7_add_79 : decode cX7_add 79 = .ok (.if_icmp .le 7, 3) := by decide +kernel
theorem dX7_add_82 : decode cX7_add 82 = .ok (.iconst 1, 1) := by decide +kernel
theorem dX7_add_83 : decode cX7_add 83 = .ok (.goto 4, 3) := by decide +kernel
theorem dX7_add_86 : decode cX7_add 86 = .ok (.iconst 0, 1) := by decide +kernel
theorem dX7_add_87 : decode cX7_add 87 = .ok (.istore 6, 2) := by decide +kernel
theorem dX7_add_89 : decode cX7_add 89 = .ok (.aload_n 0, 1) := by decide +kernel
theorem dX7_add_90 : decode cX7_add 90 = .ok (.iload 5, 2) := by decide +kernel
theorem dX7_add_92 : decode cX7_add 92 = .ok (.bipush 20, 2) := by decide +kernel
theorem dX7_add_94 : decode cX7_add 94 = .ok (.if_icmp .ne 7, 3) := by decide +kernel
theorem dX7_add_97 : decode cX7_add 97 = .ok (.iconst 2, 1) := by decide +kernel
theorem dX7_add_98 : decode cX7_add 98 = .ok (.goto 28, 3) := by decide +kernel
theorem dX7_add_101 : decode cX7_add 101 = .ok (.iload 6, 2) := by decide +kernel
theorem dX7_add_103 : decode cX7_add 103 = .ok (.ifCond .eq 18, 3) := by decide +kernel
theorem dX7_add_106 : decode cX7_add 106 = .ok (.iload_n 3, 1) := by decide +kernel
theorem dX7_add_107 : decode cX7_add 107 = .ok (.invokestatic 70, 3) := by decide +kernel
theorem dX7_add_110 : decode cX7_add 110 = .ok (.ifCond .eq 11, 3) := by decide +kernel
theorem dX7_add_113 : decode cX7_add 113 = .ok (.iload 4, 2) := by decide +kernel
theorem dX7_add_115 : decode cX7_add 115 = .ok (.invokestatic 70, 3) := by decide +kernel
theorem dX7_add_118 : decode cX7_add 118 = .ok (.ifCond .ne 7, 3) := by decide +kernel
theorem dX7_add_121 : decode cX7_add 121 = .ok (.iconst 3, 1) := by decide +kernel
theorem dX7_add_122 : decode cX7_add 122 = .ok (.goto 4, 3) := by decide +kernel
theorem dX7_add_125 : decode cX7_add 125 = .ok (.iconst 0, 1) := by decide +kernel
theorem dX7_add_126 : decode cX7_add 126 = .ok (.putfield 56, 3) := by decide +kernel
theorem dX7_add_129 : decode cX7_add 129 = .ok (.aload_n 0, 1) := by decide +kernel
theorem dX7_add_130 : decode cX7_add 130 = .ok (.getfield 56, 3) := by decide +kernel
theorem dX7_add_133 : decode cX7_add 133 = .ok (.ifCond .le 5, 3) := by decide +kernel
theorem dX7_add_136 : decode cX7_add 136 = .ok (.iconst 0, 1) := by decide +kernel
theorem dX7_add_137 : decode cX7_add 137 = .ok (.ireturn, 1) := by decide +kernel
theorem dX7_add_138 : decode cX7_add 138 = .ok (.aload_n 0, 1) := by decide +kernel
theorem dX7_add_139 : decode cX7_add 139 = .ok (.getfield 19, 3) := by decide +kernel
theorem dX7_add_142 : decode cX7_add 142 = .ok (.bipush 20, 2) := by decide +kernel
theorem dX7_add_144 : decode cX7_add 144 = .ok (.iload_n 1, 1) := by decide +kernel
theorem dX7_add_145 : decode cX7_add 145 = .ok (.imul, 1) := by decide +kernel
theorem dX7_add_146 : decode cX7_add 146 = .ok (.iload 5, 2) := by decide +kernel
theorem dX7_add_148 : decode cX7_add 148 = .ok (.iadd, 1) := by decide +kernel
theorem dX7_add_149 : decode cX7_add 149 = .ok (.iload_n 2, 1) := by decide +kernel
theorem dX7_add_150 : decode cX7_add 150 = .ok (.iastore, 1) := by decide +kernel
theorem dX7_add_151 : decode cX7_add 151 = .ok (.aload_n 0, 1) := by decide +kernel
theorem dX7_add_152 : decode cX7_add 152 = .ok (.getfield 22, 3) := by decide +kernel
theorem dX7_add_155 : decode cX7_add 155 = .ok (.bipush 20, 2) := by decide +kernel
theorem dX7_add_157 : decode cX7_add 157 = .ok (.iload_n 1, 1) := by decide +kernel
theorem dX7_add_158 : decode cX7_add 158 = .ok (.imul, 1) := by decide +kernel
theorem dX7_add_159 : decode cX7_add 159 = .ok (.iload 5, 2) := by decide +kernel
theorem dX7_add_161 : decode cX7_add 161 = .ok (.iadd, 1) := by decide +kernel
theorem dX7_add_162 : decode cX7_add 162 = .ok (.iload_n 3, 1) := by decide +kernel
theorem dX7_add_163 : decode cX7_add 163 = .ok (.iastore, 1) := by decide +kernel
theorem dX7_add_164 : decode cX7_add 164 = .ok (.aload_n 0, 1) := by decide +kernel
theorem dX7_add_165 : decode cX7_add 165 = .ok (.getfield 25, 3) := by decide +kernel
theorem dX7_add_168 : decode cX7_add 168 = .ok (.bipush 20, 2) := by decide +kernel
theorem dX7_add_170 : decode cX7_add 170 = .ok (.iload_n 1, 1) := by decide +kernel
theorem dX7_add_171 : decode cX7_add 171 = .ok (.imul, 1) := by decide +kernel
theorem dX7_add_172 : decode cX7_add 172 = .ok (.iload 5, 2) := by decide +kernel
theorem dX7_add_174 : decode cX7_add 174 = .ok (.iadd, 1) := by decide +kernel
theorem dX7_add_175 : decode cX7_add 175 = .ok (.iload 4, 2) := by decide +kernel
theorem dX7_add_177 : decode cX7_add 177 = .ok (.iastore, 1) := by decide +kernel
theorem dX7_add_178 : decode cX7_add 178 = .ok (.aload_n 0, 1) := by decide +kernel
theorem dX7_add_179 : decode cX7_add 179 = .ok (.getfield 13, 3) := by decide +kernel
theorem dX7_add_182 : decode cX7_add 182 = .ok (.iload_n 1, 1) := by decide +kernel
theorem dX7_add_183 : decode cX7_add 183 = .ok (.dup2, 1) := by decide +kernel
theorem dX7_add_184 : decode cX7_add 184 = .ok (.iaload, 1) := by decide +kernel
theorem dX7_add_185 : decode cX7_add 185 = .ok (.iconst 1, 1) := by decide +kernel
theorem dX7_add_186 : decode cX7_add 186 = .ok (.iadd, 1) := by decide +kernel
theorem dX7_add_187 : decode cX7_add 187 = .ok (.iastore, 1) := by decide +kernel
theorem dX7_add_188 : decode cX7_add 188 = .ok (.iload 5, 2) := by decide +kernel
theorem dX7_add_190 : decode cX7_add 190 = .ok (.iconst 1, 1) := by decide +kernel
theorem dX7_add_191 : decode cX7_add 191 = .ok (.iadd, 1) := by decide +kernel
theorem dX7_add_192 : decode cX7_add 192 = .ok (.ireturn, 1) := by decide +kernel
theorem dX7_amount_0 : decode cX7_amount 0 = .ok (.lload_n 0, 1) := by decide +kernel
theorem dX7_amount_1 : decode cX7_amount 1 = .ok (.lconst 0, 1) := by decide +kernel
theorem dX7_amount_2 : decode cX7_amount 2 = .ok (.lcmp, 1) := by decide +kernel
theorem dX7_amount_3 : decode cX7_amount 3 = .ok (.ifCond .ge 8, 3) := by decide +kernel
theorem dX7_amount_6 : decode cX7_amount 6 = .ok (.lload_n 0, 1) := by decide +kernel
theorem dX7_amount_7 : decode cX7_amount 7 = .ok (.lneg, 1) := by decide +kernel
theorem dX7_amount_8 : decode cX7_amount 8 = .ok (.goto 4, 3) := by decide +kernel
theorem dX7_amount_11 : decode cX7_amount 11 = .ok (.lload_n 0, 1) := by decide +kernel
theorem dX7_amount_12 : decode cX7_amount 12 = .ok (.lreturn, 1) := by decide +kernel
set_option maxRecDepth 20000 in
theorem ggX7_follows_X7_amount : GoodIn wsX7_follows wsX7_amount := goodIn_r _ [7] (by decide +kernel) (by decide +kernel)
set_option maxRecDepth 20000 in
theorem gX7_follows_X7_amount : GoodIn wsX7_follows (va_wsS RX7 73 yX7_amount wsX7_amount) := goodIn_app (goodIn_of _ (by decide +kernel)) ggX7_follows_X7_amount
theorem dX7_follows_0 : decode cX7_follows 0 = .ok (.aload_n 0, 1) := by decide +kernel
theorem dX7_follows_1 : decode cX7_follows 1 = .ok (.getfield 19, 3) := by decide +kernel
theorem dX7_follows_4 : decode cX7_follows 4 = .ok (.iload_n 2, 1) := by decide +kernel
theorem dX7_follows_5 : decode cX7_follows 5 = .ok (.iaload, 1) := by decide +kernel
theorem dX7_follows_6 : decode cX7_follows 6 = .ok (.i2l, 1) := by decide +kernel
theorem dX7_follows_7 : decode cX7_follows 7 = .ok (.aload_n 0, 1) := by decide +kernel
theorem dX7_follows_8 : decode cX7_follows 8 = .ok (.getfield 19, 3) := by decide +kernel
theorem dX7_follows_11 : decode cX7_follows 11 = .ok (.iload_n 1, 1) := by decide +kernel
theorem dX7_follows_12 : decode cX7_follows 12 = .ok (.iaload, 1) := by decide +kernel
theorem dX7_follows_13 : decode cX7_follows 13 = .ok (.i2l, 1) := by decide +kernel
theorem dX7_follows_14 : decode cX7_follows 14 = .ok (.lsub, 1) := by decide +kernel
theorem dX7_follows_15 : decode cX7_follows 15 = .ok (.lstore 4, 2) := by decide +kernel
theorem dX7_follows_17 : decode cX7_follows 17 = .ok (.iload_n 1, 1) := by decide +kernel
theorem dX7_follows_18 : decode cX7_follows 18 = .ok (.iconst 1, 1) := by decide +kernel
theorem dX7_follows_19 : decode cX7_follows 19 = .ok (.iadd, 1) := by decide +kernel
theorem dX7_follows_20 : decode cX7_follows 20 = .ok (.istore 6, 2) := by decide +kernel
theorem dX7_follows_22 : decode cX7_follows 22 = .ok (.iload 6, 2) := by decide +kernel
theorem dX7_follows_24 : decode cX7_follows 24 = .ok (.iload_n 2, 1) := by decide +kernel
theorem dX7_follows_25 : decode cX7_follows 25 = .ok (.if_icmp .ge 137, 3) := by decide +kernel
theorem dX7_follows_28 : decode cX7_follows 28 = .ok (.aload_n 0, 1) := by decide +kernel
theorem dX7_follows_29 : decode cX7_follows 29 = .ok (.getfield 19, 3) := by decide +kernel
theorem dX7_follows_32 : decode cX7_follows 32 = .ok (.iload 6, 2) := by decide +kernel
theorem dX7_follows_34 : decode cX7_follows 34 = .ok (.iaload, 1) := by decide +kernel
theorem dX7_follows_35 : decode cX7_follows 35 = .ok (.i2l, 1) := by decide +kernel
theorem dX7_follows_36 : decode cX7_follows 36 = .ok (.aload_n 0, 1) := by decide +kernel
theorem dX7_follows_37 : decode cX7_follows 37 = .ok (.getfield 19, 3) := by decide +kernel
theorem dX7_follows_40 : decode cX7_follows 40 = .ok (.iload_n 1, 1) := by decide +kernel
theorem dX7_follows_41 : decode cX7_follows 41 = .ok (.iaload, 1) := by decide +kernel
theorem dX7_follows_42 : decode cX7_follows 42 = .ok (.i2l, 1) := by decide +kernel
theorem dX7_follows_43 : decode cX7_follows 43 = .ok (.lsub, 1) := by decide +kernel
theorem dX7_follows_44 : decode cX7_follows 44 = .ok (.lstore 7, 2) := by decide +kernel
theorem dX7_follows_46 : decode cX7_follows 46 = .ok (.aload_n 0, 1) := by decide +kernel
theorem dX7_follows_47 : decode cX7_follows 47 = .ok (.getfield 22, 3) := by decide +kernel
theorem dX7_follows_50 : decode cX7_follows 50 = .ok (.iload 6, 2) := by decide +kernel
theorem dX7_follows_52 : decode cX7_follows 52 = .ok (.iaload, 1) := by decide +kernel
theorem dX7_follows_53 : decode cX7_follows 53 = .ok (.i2l, 1) := by decide +kernel
theorem dX7_follows_54 : decode cX7_follows 54 = .ok (.aload_n 0, 1) := by decide +kernel
theorem dX7_follows_55 : decode cX7_follows 55 = .ok (.getfield 22, 3) := by decide +kernel
theorem dX7_follows_58 : decode cX7_follows 58 = .ok (.iload_n 1, 1) := by decide +kernel
theorem dX7_follows_59 : decode cX7_follows 59 = .ok (.iaload, 1) := by decide +kernel
theorem dX7_follows_60 : decode cX7_follows 60 = .ok (.i2l, 1) := by decide +kernel
theorem dX7_follows_61 : decode cX7_follows 61 = .ok (.lsub, 1) := by decide +kernel
theorem dX7_follows_62 : decode cX7_follows 62 = .ok (.lload 4, 2) := by decide +kernel
theorem dX7_follows_64 : decode cX7_follows 64 = .ok (.lmul, 1) := by decide +kernel
theorem dX7_follows_65 : decode cX7_follows 65 = .ok (.aload_n 0, 1) := by decide +kernel
theorem dX7_follows_66 : decode cX7_follows 66 = .ok (.getfield 22, 3) := by decide +kernel
theorem dX7_follows_69 : decode cX7_follows 69 = .ok (.iload_n 2, 1) := by decide +kernel
theorem dX7_follows_70 : decode cX7_follows 70 = .ok (.iaload, 1) := by decide +kernel
theorem dX7_follows_71 : decode cX7_follows 71 = .ok (.i2l, 1) := by decide +kernel
theorem dX7_follows_72 : decode cX7_follows 72 = .ok (.aload_n 0, 1) := by decide +kernel
theorem dX7_follows_73 : decode cX7_follows 73 = .ok (.getfield 22, 3) := by decide +kernel
theorem dX7_follows_76 : decode cX7_follows 76 = .ok (.iload_n 1, 1) := by decide +kernel
theorem dX7_follows_77 : decode cX7_follows 77 = .ok (.iaload, 1) := by decide +kernel
theorem dX7_follows_78 : decode cX7_follows 78 = .ok (.i2l, 1) := by decide +kernel
theorem dX7_follows_79 : decode cX7_follows 79 = .ok (.lsub, 1) := by decide +kernel
theorem dX7_follows_80 : decode cX7_follows 80 = .ok (.lload 7, 2) := by decide +kernel
theorem dX7_follows_82 : decode cX7_follows 82 = .ok (.lmul, 1) := by decide +kernel
theorem dX7_follows_83 : decode cX7_follows 83 = .ok (.lsub, 1) := by decide +kernel
theorem dX7_follows_84 : decode cX7_follows 84 = .ok (.lstore 9, 2) := by decide +kernel
theorem dX7_follows_86 : decode cX7_follows 86 = .ok (.aload_n 0, 1) := by decide +kernel
theorem dX7_follows_87 : decode cX7_follows 87 = .ok (.getfield 25, 3) := by decide +kernel
theorem dX7_follows_90 : decode cX7_follows 90 = .ok (.iload 6, 2) := by decide +kernel
theorem dX7_follows_92 : decode cX7_follows 92 = .ok (.iaload, 1) := by decide +kernel
theorem dX7_follows_93 : decode cX7_follows 93 = .ok (.i2l, 1) := by decide +kernel
theorem dX7_follows_94 : decode cX7_follows 94 = .ok (.aload_n 0, 1) := by decide +kernel
theorem dX7_follows_95 : decode cX7_follows 95 = .ok (.getfield 25, 3) := by decide +kernel
theorem dX7_follows_98 : decode cX7_follows 98 = .ok (.iload_n 1, 1) := by decide +kernel
theorem dX7_follows_99 : decode cX7_follows 99 = .ok (.iaload, 1) := by decide +kernel
theorem dX7_follows_100 : decode cX7_follows 100 = .ok (.i2l, 1) := by decide +kernel
theorem dX7_follows_101 : decode cX7_follows 101 = .ok (.lsub, 1) := by decide +kernel
theorem dX7_follows_102 : decode cX7_follows 102 = .ok (.lload 4, 2) := by decide +kernel
theorem dX7_follows_104 : decode cX7_follows 104 = .ok (.lmul, 1) := by decide +kernel
theorem dX7_follows_105 : decode cX7_follows 105 = .ok (.aload_n 0, 1) := by decide +kernel
theorem dX7_follows_106 : decode cX7_follows 106 = .ok (.getfield 25, 3) := by decide +kernel
theorem dX7_follows_109 : decode cX7_follows 109 = .ok (.iload_n 2, 1) := by decide +kernel
theorem dX7_follows_110 : decode cX7_follows 110 = .ok (.iaload, 1) := by decide +kernel
theorem dX7_follows_111 : decode cX7_follows 111 = .ok (.i2l, 1) := by decide +kernel
theorem dX7_follows_112 : decode cX7_follows 112 = .ok (.aload_n 0, 1) := by decide +kernel
theorem dX7_follows_113 : decode cX7_follows 113 = .ok (.getfield 25, 3) := by decide +kernel
theorem dX7_follows_116 : decode cX7_follows 116 = .ok (.iload_n 1, 1) := by decide +kernel
theorem dX7_follows_117 : decode cX7_follows 117 = .ok (.iaload, 1) := by decide +kernel
theorem dX7_follows_118 : decode cX7_follows 118 = .ok (.i2l, 1) := by decide +kernel
theorem dX7_follows_119 : decode cX7_follows 119 = .ok (.lsub, 1) := by decide +kernel
theorem dX7_follows_120 : decode cX7_follows 120 = .ok (.lload 7, 2) := by decide +kernel
theorem dX7_follows_122 : decode cX7_follows 122 = .ok (.lmul, 1) := by decide +kernel
theorem dX7_follows_123 : decode cX7_follows 123 = .ok (.lsub, 1) := by decide +kernel
theorem dX7_follows_124 : decode cX7_follows 124 = .ok (.lstore 11, 2) := by decide +kernel
theorem dX7_follows_126 : decode cX7_follows 126 = .ok (.lload 9, 2) := by decide +kernel
theorem dX7_follows_128 : decode cX7_follows 128 = .ok (.invokestatic 73, 3) := by decide +kernel
theorem dX7_follows_131 : decode cX7_follows 131 = .ok (.iload_n 3, 1) := by decide +kernel
theorem dX7_follows_132 : decode cX7_follows 132 = .ok (.i2l, 1) := by decide +kernel
theorem dX7_follows_133 : decode cX7_follows 133 = .ok (.lload 4, 2) := by decide +kernel
theorem dX7_follows_135 : decode cX7_follows 135 = .ok (.lmul, 1) := by decide +kernel
theorem dX7_follows_136 : decode cX7_follows 136 = .ok (.lcmp, 1) := by decide +kernel
theorem dX7_follows_137 : decode cX7_follows 137 = .ok (.ifCond .gt 17, 3) := by decide +kernel
theorem dX7_follows_140 : decode cX7_follows 140 = .ok (.lload 11, 2) := by decide +kernel
theorem dX7_follows_142 : decode cX7_follows 142 = .ok (.invokestatic 73, 3) := by decide +kernel
theorem dX7_follows_145 : decode cX7_follows 145 = .ok (.iload_n 3, 1) := by decide +kernel
theorem dX7_follows_146 : decode cX7_follows 146 = .ok (.i2l, 1) := by decide +kernel
theorem dX7_follows_147 : decode cX7_follows 147 = .ok (.lload 4, 2) := by decide +kernel
theorem dX7_follows_149 : decode cX7_follows 149 = .ok (.lmul, 1) := by decide +kernel
theorem dX7_follows_150 : decode cX7_follows 150 = .ok (.lcmp, 1) := by decide +kernel
theorem dX7_follows_151 : decode cX7_follows 151 = .ok (.ifCond .le 5, 3) := by decide +kernel
theorem dX7_follows_154 : decode cX7_follows 154 = .ok (.iconst 0, 1) := by decide +kernel
theorem dX7_follows_155 : decode cX7_follows 155 = .ok (.ireturn, 1) := by decide +kernel
theorem dX7_follows_156 : decode cX7_follows 156 = .ok (.iinc 6 1, 3) := by decide +kernel
theorem dX7_follows_159 : decode cX7_follows 159 = .ok (.goto (-137), 3) := by decide +kernel
theorem dX7_follows_162 : decode cX7_follows 162 = .ok (.iconst 1, 1) := by decide +kernel
theorem dX7_follows_163 : decode cX7_follows 163 = .ok (.ireturn, 1) := by decide +kernel
set_option maxRecDepth 20000 in
theorem ggX7_thin_X7_follows : GoodIn wsX7_thin wsX7_follows := goodIn_r _ [7, 8, 9, 10, 11, 12, 6, 13, 18, 19, 20, 21, 22, 23, 24, 25, 26, 27, 28, 29, 30, 31, 32, 33, 34, 35, 36, 37, 38, 39, 40, 41] (by decide +kernel) (by decide +kernel)
set_option maxRecDepth 20000 in
theorem gX7_thin_X7_follows : GoodIn wsX7_thin (wsV RX7 77 RX7 yX7_follows wsX7_follows) := goodIn_app (goodIn_of _ (by decide +kernel)) ggX7_thin_X7_follows
set_option maxRecDepth 20000 in
theorem ggX7_thin_X7_keep : GoodIn wsX7_thin wsX7_keep := goodIn_r _ [17, 8, 9, 10, 18, 19, 20, 21, 22, 23, 24, 25, 26, 27, 28, 29, 30, 31, 32, 33, 34, 35, 36, 37, 38, 39, 40, 41] (by decide +kernel) (by decide +kernel)
set_option maxRecDepth 20000 in
theorem gX7_thin_X7_keep : GoodIn wsX7_thin (wsV RX7 81 RX7 yX7_keep wsX7_keep) := goodIn_app (goodIn_of _ (by decide +kernel)) ggX7_thin_X7_keep
theorem dX7_thin_0 : decode cX7_thin 0 = .ok (.bipush 20, 2) := by decide +kernel
theorem dX7_thin_2 : decode cX7_thin 2 = .ok (.iload_n 1, 1) := by decide +kernel
theorem dX7_thin_3 : decode cX7_thin 3 = .ok (.imul, 1) := by decide +kernel
theorem dX7_thin_4 : decode cX7_thin 4 = .ok (.istore_n 3, 1) := by decide +kernel
theorem dX7_thin_5 : decode cX7_thin 5 = .ok (.aload_n 0, 1) := by decide +kernel
theorem dX7_thin_6 : decode cX7_thin 6 = .ok (.getfield 13, 3) := by decide +kernel
theorem dX7_thin_9 : decode cX7_thin 9 = .ok (.iload_n 1, 1) := by decide +kernel
theorem dX7_thin_10 : decode cX7_thin 10 = .ok (.iaload, 1) := by decide +kernel
theorem dX7_thin_11 : decode cX7_thin 11 = .ok (.istore 4, 2) := by decide +kernel
theorem dX7_thin_13 : decode cX7_thin 13 = .ok (.iload 4, 2) := by decide +kernel
theorem dX7_thin_15 : decode cX7_thin 15 = .ok (.iconst 1, 1) := by decide +kernel
theorem dX7_thin_16 : decode cX7_thin 16 = .ok (.isub, 1) := by decide +kernel
theorem dX7_thin_17 : decode cX7_thin 17 = .ok (.istore 5, 2) := by decide +kernel
theorem dX7_thin_19 : decode cX7_thin 19 = .ok (.iload 5, 2) := by decide +kernel
theorem dX7_thin_21 : decode cX7_thin 21 = .ok (.ifCond .lt 123, 3) := by decide +kernel
theorem dX7_thin_24 : decode cX7_thin 24 = .ok (.aload_n 0, 1) := by decide +kernel
theorem dX7_thin_25 : decode cX7_thin 25 = .ok (.getfield 28, 3) := by decide +kernel
theorem dX7_thin_28 : decode cX7_thin 28 = .ok (.iload 5, 2) := by decide +kernel
theorem dX7_thin_30 : decode cX7_thin 30 = .ok (.iload 5, 2) := by decide +kernel
theorem dX7_thin_32 : decode cX7_thin 32 = .ok (.iload 4, 2) := by decide +kernel
theorem dX7_thin_34 : decode cX7_thin 34 = .ok (.iconst 1, 1) := by decide +kernel
theorem dX7_thin_35 : decode cX7_thin 35 = .ok (.isub, 1) := by decide +kernel
theorem dX7_thin_36 : decode cX7_thin 36 = .ok (.if_icmp .ne 7, 3) := by decide +kernel
theorem dX7_thin_39 : decode cX7_thin 39 = .ok (.iconst 1, 1) := by decide +kernel
theorem dX7_thin_40 : decode cX7_thin 40 = .ok (.goto 5, 3) := by decide +kernel
theorem dX7_thin_43 : decode cX7_thin 43 = .ok (.bipush 100, 2) := by decide +kernel
theorem dX7_thin_45 : decode cX7_thin 45 = .ok (.iastore, 1) := by decide +kernel
theorem dX7_thin_46 : decode cX7_thin 46 = .ok (.iload 5, 2) := by decide +kernel
theorem dX7_thin_48 : decode cX7_thin 48 = .ok (.iconst 1, 1) := by decide +kernel
theorem dX7_thin_49 : decode cX7_thin 49 = .ok (.iadd, 1) := by decide +kernel
theorem dX7_thin_50 : decode cX7_thin 50 = .ok (.istore 6, 2) := by decide +kernel
theorem dX7_thin_52 : decode cX7_thin 52 = .ok (.iload 6, 2) := by decide +kernel
theorem dX7_thin_54 : decode cX7_thin 54 = .ok (.iload 4, 2) := by decide +kernel
theorem dX7_thin_56 : decode cX7_thin 56 = .ok (.if_icmp .ge 82, 3) := by decide +kernel
theorem dX7_thin_59 : decode cX7_thin 59 = .ok (.aload_n 0, 1) := by decide +kernel
theorem dX7_thin_60 : decode cX7_thin 60 = .ok (.getfield 28, 3) := by decide +kernel
theorem dX7_thin_63 : decode cX7_thin 63 = .ok (.iload 6, 2) := by decide +kernel
theorem dX7_thin_65 : decode cX7_thin 65 = .ok (.iaload, 1) := by decide +kernel
theorem dX7_thin_66 : decode cX7_thin 66 = .ok (.iconst 1, 1) := by decide +kernel
theorem dX7_thin_67 : decode cX7_thin 67 = .ok (.iadd, 1) := by decide +kernel
theorem dX7_thin_68 : decode cX7_thin 68 = .ok (.aload_n 0, 1) := by decide +kernel
theorem dX7_thin_69 : decode cX7_thin 69 = .ok (.getfield 28, 3) := by decide +kernel
theorem dX7_thin_72 : decode cX7_thin 72 = .ok (.iload 5, 2) := by decide +kernel
theorem dX7_thin_74 : decode cX7_thin 74 = .ok (.iaload, 1) := by decide +kernel
theorem dX7_thin_75 : decode cX7_thin 75 = .ok (.if_icmp .ge 23, 3) := by decide +kernel
theorem dX7_thin_78 : decode cX7_thin 78 = .ok (.aload_n 0, 1) := by decide +kernel
theorem dX7_thin_79 : decode cX7_thin 79 = .ok (.iload_n 3, 1) := by decide +kernel
theorem dX7_thin_80 : decode cX7_thin 80 = .ok (.iload 5, 2) := by decide +kernel
theorem dX7_thin_82 : decode cX7_thin 82 = .ok (.iadd, 1) := by decide +kernel
theorem dX7_thin_83 : decode cX7_thin 83 = .ok (.iload_n 3, 1) := by decide +kernel
theorem dX7_thin_84 : decode cX7_thin 84 = .ok (.iload 6, 2) := by decide +kernel
theorem dX7_thin_86 : decode cX7_thin 86 = .ok (.iadd, 1) := by decide +kernel
theorem dX7_thin_87 : decode cX7_thin 87 = .ok (.iload_n 2, 1) := by decide +kernel
theorem dX7_thin_88 : decode cX7_thin 88 = .ok (.invokevirtual 77, 3) := by decide +kernel
theorem dX7_thin_91 : decode cX7_thin 91 = .ok (.ifCond .eq 7, 3) := by decide +kernel
theorem dX7_thin_94 : decode cX7_thin 94 = .ok (.iconst 1, 1) := by decide +kernel
theorem dX7_thin_95 : decode cX7_thin 95 = .ok (.goto 4, 3) := by decide +kernel
theorem dX7_thin_98 : decode cX7_thin 98 = .ok (.iconst 0, 1) := by decide +kernel
theorem dX7_thin_99 : decode cX7_thin 99 = .ok (.istore 7, 2) := by decide +kernel
theorem dX7_thin_101 : decode cX7_thin 101 = .ok (.aload_n 0, 1) := by decide +kernel
theorem dX7_thin_102 : decode cX7_thin 102 = .ok (.getfield 28, 3) := by decide +kernel
theorem dX7_thin_105 : decode cX7_thin 105 = .ok (.iload 5, 2) := by decide +kernel
theorem dX7_thin_107 : decode cX7_thin 107 = .ok (.iload 7, 2) := by decide +kernel
theorem dX7_thin_109 : decode cX7_thin 109 = .ok (.ifCond .eq 15, 3) := by decide +kernel
theorem dX7_thin_112 : decode cX7_thin 112 = .ok (.aload_n 0, 1) := by decide +kernel
theorem dX7_thin_113 : decode cX7_thin 113 = .ok (.getfield 28, 3) := by decide +kernel
theorem dX7_thin_116 : decode cX7_thin 116 = .ok (.iload 6, 2) := by decide +kernel
theorem dX7_thin_118 : decode cX7_thin 118 = .ok (.iaload, 1) := by decide +kernel
theorem dX7_thin_119 : decode cX7_thin 119 = .ok (.iconst 1, 1) := by decide +kernel
theorem dX7_thin_120 : decode cX7_thin 120 = .ok (.iadd, 1) := by decide +kernel
theorem dX7_thin_121 : decode cX7_thin 121 = .ok (.goto 10, 3) := by decide +kernel
theorem dX7_thin_124 : decode cX7_thin 124 = .ok (.aload_n 0, 1) := by decide +kernel
theorem dX7_thin_125 : decode cX7_thin 125 = .ok (.getfield 28, 3) := by decide +kernel
theorem dX7_thin_128 : decode cX7_thin 128 = .ok (.iload 5, 2) := by decide +kernel
theorem dX7_thin_130 : decode cX7_thin 130 = .ok (.iaload, 1) := by decide +kernel
theorem dX7_thin_131 : decode cX7_thin 131 = .ok (.iastore, 1) := by decide +kernel
theorem dX7_thin_132 : decode cX7_thin 132 = .ok (.iinc 6 1, 3) := by decide +kernel
theorem dX7_thin_135 : decode cX7_thin 135 = .ok (.goto (-83), 3) := by decide +kernel
theorem dX7_thin_138 : decode cX7_thin 138 = .ok (.iinc 5 (-1), 3) := by decide +kernel
theorem dX7_thin_141 : decode cX7_thin 141 = .ok (.goto (-122), 3) := by decide +kernel
theorem dX7_thin_144 : decode cX7_thin 144 = .ok (.iconst 0, 1) := by decide +kernel
theorem dX7_thin_145 : decode cX7_thin 145 = .ok (.istore 5, 2) := by decide +kernel
theorem dX7_thin_147 : decode cX7_thin 147 = .ok (.iconst 0, 1) := by decide +kernel
theorem dX7_thin_148 : decode cX7_thin 148 = .ok (.istore 6, 2) := by decide +kernel
theorem dX7_thin_150 : decode cX7_thin 150 = .ok (.aload_n 0, 1) := by decide +kernel
theorem dX7_thin_151 : decode cX7_thin 151 = .ok (.getfield 28, 3) := by decide +kernel
theorem dX7_thin_154 : decode cX7_thin 154 = .ok (.iconst 0, 1) := by decide +kernel
theorem dX7_thin_155 : decode cX7_thin 155 = .ok (.iaload, 1) := by decide +kernel
theorem dX7_thin_156 : decode cX7_thin 156 = .ok (.istore 7, 2) := by decide +kernel
theorem dX7_thin_158 : decode cX7_thin 158 = .ok (.iload 7, 2) := by decide +kernel
theorem dX7_thin_160 : decode cX7_thin 160 = .ok (.ifCond .le 76, 3) := by decide +kernel
theorem dX7_thin_163 : decode cX7_thin 163 = .ok (.iload 6, 2) := by decide +kernel
theorem dX7_thin_165 : decode cX7_thin 165 = .ok (.iconst 1, 1) := by decide +kernel
theorem dX7_thin_166 : decode cX7_thin 166 = .ok (.iadd, 1) := by decide +kernel
theorem dX7_thin_167 : decode cX7_thin 167 = .ok (.istore 8, 2) := by decide +kernel
theorem dX7_thin_169 : decode cX7_thin 169 = .ok (.iload 7, 2) := by decide +kernel
theorem dX7_thin_171 : decode cX7_thin 171 = .ok (.iconst 1, 1) := by decide +kernel
theorem dX7_thin_172 : decode cX7_thin 172 = .ok (.if_icmp .le 39, 3) := by decide +kernel
theorem dX7_thin_175 : decode cX7_thin 175 = .ok (.aload_n 0, 1) := by decide +kernel
theorem dX7_thin_176 : decode cX7_thin 176 = .ok (.getfield 28, 3) := by decide +kernel
theorem dX7_thin_179 : decode cX7_thin 179 = .ok (.iload 8, 2) := by decide +kernel
theorem dX7_thin_181 : decode cX7_thin 181 = .ok (.iaload, 1) := by decide +kernel
theorem dX7_thin_182 : decode cX7_thin 182 = .ok (.iload 7, 2) := by decide +kernel
theorem dX7_thin_184 : decode cX7_thin 184 = .ok (.iconst 1, 1) := by decide +kernel
theorem dX7_thin_185 : decode cX7_thin 185 = .ok (.isub, 1) := by decide +kernel
theorem dX7_thin_186 : decode cX7_thin 186 = .ok (.if_icmp .ne 19, 3) := by decide +kernel
theorem dX7_thin_189 : decode cX7_thin 189 = .ok (.aload_n 0, 1) := by decide +kernel
theorem dX7_thin_190 : decode cX7_thin 190 = .ok (.iload_n 3, 1) := by decide +kernel
theorem dX7_thin_191 : decode cX7_thin 191 = .ok (.iload 6, 2) := by decide +kernel
theorem dX7_thin_193 : decode cX7_thin 193 = .ok (.iadd, 1) := by decide +kernel
theorem dX7_thin_194 : decode cX7_thin 194 = .ok (.iload_n 3, 1) := by decide +kernel
theorem dX7_thin_195 : decode cX7_thin 195 = .ok (.iload 8, 2) := by decide +kernel
theorem dX7_thin_197 : decode cX7_thin 197 = .ok (.iadd, 1) := by decide +kernel
theorem dX7_thin_198 : decode cX7_thin 198 = .ok (.iload_n 2, 1) := by decide +kernel
theorem dX7_thin_199 : decode cX7_thin 199 = .ok (.invokevirtual 77, 3) := by decide +kernel
theorem dX7_thin_202 : decode cX7_thin 202 = .ok (.ifCond .ne 9, 3) := by decide +kernel
theorem dX7_thin_205 : decode cX7_thin 205 = .ok (.iinc 8 1, 3) := by decide +kernel
theorem dX7_thin_208 : decode cX7_thin 208 = .ok (.goto (-39), 3) := by decide +kernel
theorem dX7_thin_211 : decode cX7_thin 211 = .ok (.aload_n 0, 1) := by decide +kernel
theorem dX7_thin_212 : decode cX7_thin 212 = .ok (.iload_n 3, 1) := by decide +kernel
theorem dX7_thin_213 : decode cX7_thin 213 = .ok (.iload 5, 2) := by decide +kernel
theorem dX7_thin_215 : decode cX7_thin 215 = .ok (.iadd, 1) := by decide +kernel
theorem dX7_thin_216 : decode cX7_thin 216 = .ok (.iload_n 3, 1) := by decide +kernel
theorem dX7_thin_217 : decode cX7_thin 217 = .ok (.iload 6, 2) := by decide +kernel
theorem dX7_thin_219 : decode cX7_thin 219 = .ok (.iadd, 1) := by decide +kernel
theorem dX7_thin_220 : decode cX7_thin 220 = .ok (.invokevirtual 81, 3) := by decide +kernel
theorem dX7_thin_223 : decode cX7_thin 223 = .ok (.iinc 5 1, 3) := by decide +kernel
theorem dX7_thin_226 : decode cX7_thin 226 = .ok (.iload 8, 2) := by decide +kernel
theorem dX7_thin_228 : decode cX7_thin 228 = .ok (.istore 6, 2) := by decide +kernel
theorem dX7_thin_230 : decode cX7_thin 230 = .ok (.iinc 7 (-1), 3) := by decide +kernel
theorem dX7_thin_233 : decode cX7_thin 233 = .ok (.goto (-75), 3) := by decide +kernel
theorem dX7_thin_236 : decode cX7_thin 236 = .ok (.aload_n 0, 1) := by decide +kernel
theorem dX7_thin_237 : decode cX7_thin 237 = .ok (.getfield 13, 3) := by decide +kernel
theorem dX7_thin_240 : decode cX7_thin 240 = .ok (.iload_n 1, 1) := by decide +kernel
theorem dX7_thin_241 : decode cX7_thin 241 = .ok (.iload 5, 2) := by decide +kernel
theorem dX7_thin_243 : decode cX7_thin 243 = .ok (.iastore, 1) := by decide +kernel
theorem dX7_thin_244 : decode cX7_thin 244 = .ok (.return_, 1) := by decide +kernel
theorem dX7_keep_0 : decode cX7_keep 0 = .ok (.aload_n 0, 1) := by decide +kernel
theorem dX7_keep_1 : decode cX7_keep 1 = .ok (.getfield 19, 3) := by decide +kernel
theorem dX7_keep_4 : decode cX7_keep 4 = .ok (.iload_n 1, 1) := by decide +kernel
theorem dX7_keep_5 : decode cX7_keep 5 = .ok (.aload_n 0, 1) := by decide +kernel
theorem dX7_keep_6 : decode cX7_keep 6 = .ok (.getfield 19, 3) := by decide +kernel
theorem dX7_keep_9 : decode cX7_keep 9 = .ok (.iload_n 2, 1) := by decide +kernel
theorem dX7_keep_10 : decode cX7_keep 10 = .ok (.iaload, 1) := by decide +kernel
theorem dX7_keep_11 : decode cX7_keep 11 = .ok (.iastore, 1) := by decide +kernel
theorem dX7_keep_12 : decode cX7_keep 12 = .ok (.aload_n 0, 1) := by decide +kernel
theorem dX7_keep_13 : decode cX7_keep 13 = .ok (.getfield 22, 3) := by decide +kernel
theorem dX7_keep_16 : decode cX7_keep 16 = .ok (.iload_n 1, 1) := by decide +kernel
theorem dX7_keep_17 : decode cX7_keep 17 = .ok (.aload_n 0, 1) := by decide +kernel
theorem dX7_keep_18 : decode cX7_keep 18 = .ok (.getfield 22, 3) := by decide +kernel
theorem dX7_keep_21 : decode cX7_keep 21 = .ok (.iload_n 2, 1) := by decide +kernel
theorem dX7_keep_22 : decode cX7_keep 22 = .ok (.iaload, 1) := by decide +kernel
theorem dX7_keep_23 : decode cX7_keep 23 = .ok (.iastore, 1) := by decide +kernel
theorem dX7_keep_24 : decode cX7_keep 24 = .ok (.aload_n 0, 1) := by decide +kernel
theorem dX7_keep_25 : decode cX7_keep 25 = .ok (.getfield 25, 3) := by decide +kernel
theorem dX7_keep_28 : decode cX7_keep 28 = .ok (.iload_n 1, 1) := by decide +kernel
theorem dX7_keep_29 : decode cX7_keep 29 = .ok (.aload_n 0, 1) := by decide +kernel
theorem dX7_keep_30 : decode cX7_keep 30 = .ok (.getfield 25, 3) := by decide +kernel
theorem dX7_keep_33 : decode cX7_keep 33 = .ok (.iload_n 2, 1) := by decide +kernel
theorem dX7_keep_34 : decode cX7_keep 34 = .ok (.iaload, 1) := by decide +kernel
theorem dX7_keep_35 : decode cX7_keep 35 = .ok (.iastore, 1) := by decide +kernel
theorem dX7_keep_36 : decode cX7_keep 36 = .ok (.return_, 1) := by decide +kernel
set_option maxRecDepth 20000 in
theorem ggX7_seal_X7_isTrack : GoodIn wsX7_seal wsX7_isTrack := goodIn_r _ [9] (by decide +kernel) (by decide +kernel)
set_option maxRecDepth 20000 in
theorem gX7_seal_X7_isTrack : GoodIn wsX7_seal (va_wsS RX7 60 yX7_isTrack wsX7_isTrack) := goodIn_app (goodIn_of _ (by decide +kernel)) ggX7_seal_X7_isTrack
set_option maxRecDepth 20000 in
theorem ggX7_seal_X7_is : GoodIn wsX7_seal wsX7_is := goodIn_r _ [13, 4, 6, 7, 8, 9, 33, 34, 35, 36, 37, 38, 39, 40, 41, 42, 43, 44, 45, 46, 47, 48, 49, 50, 51, 52, 53, 54, 55, 56] (by decide +kernel) (by decide +kernel)
set_option maxRecDepth 20000 in
theorem gX7_seal_X7_is : GoodIn wsX7_seal (wsV RX7 64 RX7 yX7_is wsX7_is) := goodIn_app (goodIn_of _ (by decide +kernel)) ggX7_seal_X7_is
set_option maxRecDepth 20000 in
theorem ggX7_seal_X7_thin : GoodIn wsX7_seal wsX7_thin := goodIn_r _ [17, 2, 18, 19, 20, 21, 8, 22, 23, 24, 25, 26, 27, 28, 29, 30, 31, 32, 33, 34, 35, 36, 37, 38, 39, 40, 41, 42, 43, 44, 45, 46, 47, 48, 49, 50, 51, 52, 53, 54, 55, 56] (by decide +kernel) (by decide +kernel)
set_option maxRecDepth 20000 in
theorem gX7_seal_X7_thin : GoodIn wsX7_seal (wsV RX7 86 RX7 yX7_thin wsX7_thin) := goodIn_app (goodIn_of _ (by decide +kernel)) ggX7_seal_X7_thin
theorem dX7_seal_0 : decode cX7_seal 0 = .ok (.aload_n 0, 1) := by decide +kernel
theorem dX7_seal_1 : decode cX7_seal 1 = .ok (.iload_n 1, 1) := by decide +kernel
theorem dX7_seal_2 : decode cX7_seal 2 = .ok (.invokestatic 60, 3) := by decide +kernel
theorem dX7_seal_5 : decode cX7_seal 5 = .ok (.ifCond .ne 7, 3) := by decide +kernel
theorem dX7_seal_8 : decode cX7_seal 8 = .ok (.iconst 1, 1) := by decide +kernel
theorem dX7_seal_9 : decode cX7_seal 9 = .ok (.goto 17, 3) := by decide +kernel
theorem dX7_seal_12 : decode cX7_seal 12 = .ok (.aload_n 0, 1) := by decide +kernel
theorem dX7_seal_13 : decode cX7_seal 13 = .ok (.iload_n 1, 1) := by decide +kernel
theorem dX7_seal_14 : decode cX7_seal 14 = .ok (.iconst 1, 1) := by decide +kernel
theorem dX7_seal_15 : decode cX7_seal 15 = .ok (.invokevirtual 64, 3) := by decide +kernel
theorem dX7_seal_18 : decode cX7_seal 18 = .ok (.ifCond .ne 7, 3) := by decide +kernel
theorem dX7_seal_21 : decode cX7_seal 21 = .ok (.iconst 2, 1) := by decide +kernel
theorem dX7_seal_22 : decode cX7_seal 22 = .ok (.goto 4, 3) := by decide +kernel
theorem dX7_seal_25 : decode cX7_seal 25 = .ok (.iconst 0, 1) := by decide +kernel
theorem dX7_seal_26 : decode cX7_seal 26 = .ok (.putfield 56, 3) := by decide +kernel
theorem dX7_seal_29 : decode cX7_seal 29 = .ok (.aload_n 0, 1) := by decide +kernel
theorem dX7_seal_30 : decode cX7_seal 30 = .ok (.getfield 56, 3) := by decide +kernel
theorem dX7_seal_33 : decode cX7_seal 33 = .ok (.ifCond .le 5, 3) := by decide +kernel
theorem dX7_seal_36 : decode cX7_seal 36 = .ok (.iconst 0, 1) := by decide +kernel
theorem dX7_seal_37 : decode cX7_seal 37 = .ok (.ireturn, 1) := by decide +kernel
theorem dX7_seal_38 : decode cX7_seal 38 = .ok (.aload_n 0, 1) := by decide +kernel
theorem dX7_seal_39 : decode cX7_seal 39 = .ok (.aload_n 0, 1) := by decide +kernel
theorem dX7_seal_40 : decode cX7_seal 40 = .ok (.getfield 13, 3) := by decide +kernel
theorem dX7_seal_43 : decode cX7_seal 43 = .ok (.iload_n 1, 1) := by decide +kernel
theorem dX7_seal_44 : decode cX7_seal 44 = .ok (.iaload, 1) := by decide +kernel
theorem dX7_seal_45 : decode cX7_seal 45 = .ok (.ifCond .ne 7, 3) := by decide +kernel
theorem dX7_seal_48 : decode cX7_seal 48 = .ok (.iconst 2, 1) := by decide +kernel
theorem dX7_seal_49 : decode cX7_seal 49 = .ok (.goto 18, 3) := by decide +kernel
theorem dX7_seal_52 : decode cX7_seal 52 = .ok (.iload_n 2, 1) := by decide +kernel
theorem dX7_seal_53 : decode cX7_seal 53 = .ok (.ifCond .lt 9, 3) := by decide +kernel
theorem dX7_seal_56 : decode cX7_seal 56 = .ok (.iload_n 2, 1) := by decide +kernel
theorem dX7_seal_57 : decode cX7_seal 57 = .ok (.ldc 85, 2) := by decide +kernel
theorem dX7_seal_59 : decode cX7_seal 59 = .ok (.if_icmp .le 7, 3) := by decide +kernel
theorem dX7_seal_62 : decode cX7_seal 62 = .ok (.iconst 3, 1) := by decide +kernel
theorem dX7_seal_63 : decode cX7_seal 63 = .ok (.goto 4, 3) := by decide +kernel
theorem dX7_seal_66 : decode cX7_seal 66 = .ok (.iconst 0, 1) := by decide +kernel
theorem dX7_seal_67 : decode cX7_seal 67 = .ok (.putfield 56, 3) := by decide +kernel
theorem dX7_seal_70 : decode cX7_seal 70 = .ok (.aload_n 0, 1) := by decide +kernel
theorem dX7_seal_71 : decode cX7_seal 71 = .ok (.getfield 56, 3) := by decide +kernel
theorem dX7_seal_74 : decode cX7_seal 74 = .ok (.ifCond .le 5, 3) := by decide +kernel
theorem dX7_seal_77 : decode cX7_seal 77 = .ok (.iconst 0, 1) := by decide +kernel
theorem dX7_seal_78 : decode cX7_seal 78 = .ok (.ireturn, 1) := by decide +kernel
theorem dX7_seal_79 : decode cX7_seal 79 = .ok (.aload_n 0, 1) := by decide +kernel
theorem dX7_seal_80 : decode cX7_seal 80 = .ok (.iload_n 1, 1) := by decide +kernel
theorem dX7_seal_81 : decode cX7_seal 81 = .ok (.iload_n 2, 1) := by decide +kernel
theorem dX7_seal_82 : decode cX7_seal 82 = .ok (.invokevirtual 86, 3) := by decide +kernel
theorem dX7_seal_85 : decode cX7_seal 85 = .ok (.aload_n 0, 1) := by decide +kernel
theorem dX7_seal_86 : decode cX7_seal 86 = .ok (.getfield 7, 3) := by decide +kernel
theorem dX7_seal_89 : decode cX7_seal 89 = .ok (.iload_n 1, 1) := by decide +kernel
theorem dX7_seal_90 : decode cX7_seal 90 = .ok (.iconst 2, 1) := by decide +kernel
theorem dX7_seal_91 : decode cX7_seal 91 = .ok (.iastore, 1) := by decide +kernel
theorem dX7_seal_92 : decode cX7_seal 92 = .ok (.aload_n 0, 1) := by decide +kernel
theorem dX7_seal_93 : decode cX7_seal 93 = .ok (.getfield 16, 3) := by decide +kernel
theorem dX7_seal_96 : decode cX7_seal 96 = .ok (.iload_n 1, 1) := by decide +kernel
theorem dX7_seal_97 : decode cX7_seal 97 = .ok (.iload_n 2, 1) := by decide +kernel
theorem dX7_seal_98 : decode cX7_seal 98 = .ok (.iastore, 1) := by decide +kernel
theorem dX7_seal_99 : decode cX7_seal 99 = .ok (.aload_n 0, 1) := by decide +kernel
theorem dX7_seal_100 : decode cX7_seal 100 = .ok (.getfield 13, 3) := by decide +kernel
theorem dX7_seal_103 : decode cX7_seal 103 = .ok (.iload_n 1, 1) := by decide +kernel
theorem dX7_seal_104 : decode cX7_seal 104 = .ok (.iaload, 1) := by decide +kernel
theorem dX7_seal_105 : decode cX7_seal 105 = .ok (.ireturn, 1) := by decide +kernel
set_option maxRecDepth 20000 in
theorem ggX7_again_X7_isTrack : GoodIn wsX7_again wsX7_isTrack := goodIn_r _ [8] (by decide +kernel) (by decide +kernel)
set_option maxRecDepth 20000 in
theorem gX7_again_X7_isTrack : GoodIn wsX7_again (va_wsS RX7 60 yX7_isTrack wsX7_isTrack) := goodIn_app (goodIn_of _ (by decide +kernel)) ggX7_again_X7_isTrack
set_option maxRecDepth 20000 in
theorem ggX7_again_X7_is : GoodIn wsX7_again wsX7_is := goodIn_r _ [12, 13, 5, 6, 7, 8, 33, 34, 35, 36, 37, 38, 39, 40, 41, 42, 43, 44, 45, 46, 47, 48, 49, 50, 51, 52, 53, 54, 55, 56] (by decide +kernel) (by decide +kernel)
set_option maxRecDepth 20000 in
theorem gX7_again_X7_is : GoodIn wsX7_again (wsV RX7 64 RX7 yX7_is wsX7_is) := goodIn_app (goodIn_of _ (by decide +kernel)) ggX7_again_X7_is
set_option maxRecDepth 20000 in
theorem ggX7_again_X7_thin : GoodIn wsX7_again wsX7_thin := goodIn_r _ [17, 4, 18, 19, 20, 21, 7, 22, 23, 24, 25, 26, 27, 28, 29, 30, 31, 32, 33, 34, 35, 36, 37, 38, 39, 40, 41, 42, 43, 44, 45, 46, 47, 48, 49, 50, 51, 52, 53, 54, 55, 56] (by decide +kernel) (by decide +kernel)
set_option maxRecDepth 20000 in
theorem gX7_again_X7_thin : GoodIn wsX7_again (wsV RX7 86 RX7 yX7_thin wsX7_thin) := goodIn_app (goodIn_of _ (by decide +kernel)) ggX7_again_X7_thin
theorem dX7_again_0 : decode cX7_again 0 = .ok (.aload_n 0, 1) := by decide +kernel
theorem dX7_again_1 : decode cX7_again 1 = .ok (.iload_n 1, 1) := by decide +kernel
theorem dX7_again_2 : decode cX7_again 2 = .ok (.invokestatic 60, 3) := by decide +kernel
theorem dX7_again_5 : decode cX7_again 5 = .ok (.ifCond .ne 7, 3) := by decide +kernel
theorem dX7_again_8 : decode cX7_again 8 = .ok (.iconst 1, 1) := by decide +kernel
theorem dX7_again_9 : decode cX7_again 9 = .ok (.goto 17, 3) := by decide +kernel
theorem dX7_again_12 : decode cX7_again 12 = .ok (.aload_n 0, 1) := by decide +kernel
theorem dX7_again_13 : decode cX7_again 13 = .ok (.iload_n 1, 1) := by decide +kernel
theorem dX7_again_14 : decode cX7_again 14 = .ok (.iconst 2, 1) := by decide +kernel
theorem dX7_again_15 : decode cX7_again 15 = .ok (.invokevirtual 64, 3) := by decide +kernel
theorem dX7_again_18 : decode cX7_again 18 = .ok (.ifCond .ne 7, 3) := by decide +kernel
theorem dX7_again_21 : decode cX7_again 21 = .ok (.iconst 2, 1) := by decide +kernel
theorem dX7_again_22 : decode cX7_again 22 = .ok (.goto 4, 3) := by decide +kernel
theorem dX7_again_25 : decode cX7_again 25 = .ok (.iconst 0, 1) := by decide +kernel
theorem dX7_again_26 : decode cX7_again 26 = .ok (.putfield 56, 3) := by decide +kernel
theorem dX7_again_29 : decode cX7_again 29 = .ok (.aload_n 0, 1) := by decide +kernel
theorem dX7_again_30 : decode cX7_again 30 = .ok (.getfield 56, 3) := by decide +kernel
theorem dX7_again_33 : decode cX7_again 33 = .ok (.ifCond .le 5, 3) := by decide +kernel
theorem dX7_again_36 : decode cX7_again 36 = .ok (.iconst 0, 1) := by decide +kernel
theorem dX7_again_37 : decode cX7_again 37 = .ok (.ireturn, 1) := by decide +kernel
theorem dX7_again_38 : decode cX7_again 38 = .ok (.aload_n 0, 1) := by decide +kernel
theorem dX7_again_39 : decode cX7_again 39 = .ok (.iload_n 2, 1) := by decide +kernel
theorem dX7_again_40 : decode cX7_again 40 = .ok (.ifCond .lt 16, 3) := by decide +kernel
theorem dX7_again_43 : decode cX7_again 43 = .ok (.iload_n 2, 1) := by decide +kernel
theorem dX7_again_44 : decode cX7_again 44 = .ok (.ldc 85, 2) := by decide +kernel
theorem dX7_again_46 : decode cX7_again 46 = .ok (.aload_n 0, 1) := by decide +kernel
theorem dX7_again_47 : decode cX7_again 47 = .ok (.getfield 16, 3) := by decide +kernel
theorem dX7_again_50 : decode cX7_again 50 = .ok (.iload_n 1, 1) := by decide +kernel
theorem dX7_again_51 : decode cX7_again 51 = .ok (.iaload, 1) := by decide +kernel
theorem dX7_again_52 : decode cX7_again 52 = .ok (.isub, 1) := by decide +kernel
theorem dX7_again_53 : decode cX7_again 53 = .ok (.if_icmp .le 7, 3) := by decide +kernel
theorem dX7_again_56 : decode cX7_again 56 = .ok (.iconst 3, 1) := by decide +kernel
theorem dX7_again_57 : decode cX7_again 57 = .ok (.goto 4, 3) := by decide +kernel
theorem dX7_again_60 : decode cX7_again 60 = .ok (.iconst 0, 1) := by decide +kernel
theorem dX7_again_61 : decode cX7_again 61 = .ok (.putfield 56, 3) := by decide +kernel
theorem dX7_again_64 : decode cX7_again 64 = .ok (.aload_n 0, 1) := by decide +kernel
theorem dX7_again_65 : decode cX7_again 65 = .ok (.getfield 56, 3) := by decide +kernel
theorem dX7_again_68 : decode cX7_again 68 = .ok (.ifCond .le 5, 3) := by decide +kernel
theorem dX7_again_71 : decode cX7_again 71 = .ok (.iconst 0, 1) := by decide +kernel
theorem dX7_again_72 : decode cX7_again 72 = .ok (.ireturn, 1) := by decide +kernel
theorem dX7_again_73 : decode cX7_again 73 = .ok (.aload_n 0, 1) := by decide +kernel
theorem dX7_again_74 : decode cX7_again 74 = .ok (.iload_n 1, 1) := by decide +kernel
theorem dX7_again_75 : decode cX7_again 75 = .ok (.iload_n 2, 1) := by decide +kernel
theorem dX7_again_76 : decode cX7_again 76 = .ok (.invokevirtual 86, 3) := by decide +kernel
theorem dX7_again_79 : decode cX7_again 79 = .ok (.aload_n 0, 1) := by decide +kernel
theorem dX7_again_80 : decode cX7_again 80 = .ok (.getfield 16, 3) := by decide +kernel
theorem dX7_again_83 : decode cX7_again 83 = .ok (.iload_n 1, 1) := by decide +kernel
theorem dX7_again_84 : decode cX7_again 84 = .ok (.dup2, 1) := by decide +kernel
theorem dX7_again_85 : decode cX7_again 85 = .ok (.iaload, 1) := by decide +kernel
theorem dX7_again_86 : decode cX7_again 86 = .ok (.iload_n 2, 1) := by decide +kernel
theorem dX7_again_87 : decode cX7_again 87 = .ok (.iadd, 1) := by decide +kernel
theorem dX7_again_88 : decode cX7_again 88 = .ok (.iastore, 1) := by decide +kernel
theorem dX7_again_89 : decode cX7_again 89 = .ok (.aload_n 0, 1) := by decide +kernel
theorem dX7_again_90 : decode cX7_again 90 = .ok (.getfield 13, 3) := by decide +kernel
theorem dX7_again_93 : decode cX7_again 93 = .ok (.iload_n 1, 1) := by decide +kernel
theorem dX7_again_94 : decode cX7_again 94 = .ok (.iaload, 1) := by decide +kernel
theorem dX7_again_95 : decode cX7_again 95 = .ok (.ireturn, 1) := by decide +kernel
set_option maxRecDepth 20000 in
theorem ggX7_drop_X7_isTrack : GoodIn wsX7_drop wsX7_isTrack := goodIn_r _ [7] (by decide +kernel) (by decide +kernel)
set_option maxRecDepth 20000 in
theorem gX7_drop_X7_isTrack : GoodIn wsX7_drop (va_wsS RX7 60 yX7_isTrack wsX7_isTrack) := goodIn_app (goodIn_of _ (by decide +kernel)) ggX7_drop_X7_isTrack
theorem dX7_drop_0 : decode cX7_drop 0 = .ok (.aload_n 0, 1) := by decide +kernel
theorem dX7_drop_1 : decode cX7_drop 1 = .ok (.iconst 0, 1) := by decide +kernel
theorem dX7_drop_2 : decode cX7_drop 2 = .ok (.putfield 56, 3) := by decide +kernel
theorem dX7_drop_5 : decode cX7_drop 5 = .ok (.iload_n 1, 1) := by decide +kernel
theorem dX7_drop_6 : decode cX7_drop 6 = .ok (.invokestatic 60, 3) := by decide +kernel
theorem dX7_drop_9 : decode cX7_drop 9 = .ok (.ifCond .ne 5, 3) := by decide +kernel
theorem dX7_drop_12 : decode cX7_drop 12 = .ok (.iconst 0, 1) := by decide +kernel
theorem dX7_drop_13 : decode cX7_drop 13 = .ok (.ireturn, 1) := by decide +kernel
theorem dX7_drop_14 : decode cX7_drop 14 = .ok (.aload_n 0, 1) := by decide +kernel
theorem dX7_drop_15 : decode cX7_drop 15 = .ok (.getfield 7, 3) := by decide +kernel
theorem dX7_drop_18 : decode cX7_drop 18 = .ok (.iload_n 1, 1) := by decide +kernel
theorem dX7_drop_19 : decode cX7_drop 19 = .ok (.iaload, 1) := by decide +kernel
theorem dX7_drop_20 : decode cX7_drop 20 = .ok (.ifCond .le 7, 3) := by decide +kernel
theorem dX7_drop_23 : decode cX7_drop 23 = .ok (.iconst 1, 1) := by decide +kernel
theorem dX7_drop_24 : decode cX7_drop 24 = .ok (.goto 4, 3) := by decide +kernel
theorem dX7_drop_27 : decode cX7_drop 27 = .ok (.iconst 0, 1) := by decide +kernel
theorem dX7_drop_28 : decode cX7_drop 28 = .ok (.istore_n 2, 1) := by decide +kernel
theorem dX7_drop_29 : decode cX7_drop 29 = .ok (.aload_n 0, 1) := by decide +kernel
theorem dX7_drop_30 : decode cX7_drop 30 = .ok (.getfield 7, 3) := by decide +kernel
theorem dX7_drop_33 : decode cX7_drop 33 = .ok (.iload_n 1, 1) := by decide +kernel
theorem dX7_drop_34 : decode cX7_drop 34 = .ok (.iconst 0, 1) := by decide +kernel
theorem dX7_drop_35 : decode cX7_drop 35 = .ok (.iastore, 1) := by decide +kernel
theorem dX7_drop_36 : decode cX7_drop 36 = .ok (.aload_n 0, 1) := by decide +kernel
theorem dX7_drop_37 : decode cX7_drop 37 = .ok (.getfield 13, 3) := by decide +kernel
theorem dX7_drop_40 : decode cX7_drop 40 = .ok (.iload_n 1, 1) := by decide +kernel
theorem dX7_drop_41 : decode cX7_drop 41 = .ok (.iconst 0, 1) := by decide +kernel
theorem dX7_drop_42 : decode cX7_drop 42 = .ok (.iastore, 1) := by decide +kernel
theorem dX7_drop_43 : decode cX7_drop 43 = .ok (.iload_n 2, 1) := by decide +kernel
theorem dX7_drop_44 : decode cX7_drop 44 = .ok (.ireturn, 1) := by decide +kernel
set_option maxRecDepth 20000 in
theorem ggX7_track_X7_isTrack : GoodIn wsX7_track wsX7_isTrack := goodIn_r _ [8] (by decide +kernel) (by decide +kernel)
set_option maxRecDepth 20000 in
theorem gX7_track_X7_isTrack : GoodIn wsX7_track (va_wsS RX7 60 yX7_isTrack wsX7_isTrack) := goodIn_app (goodIn_of _ (by decide +kernel)) ggX7_track_X7_isTrack
theorem dX7_track_0 : decode cX7_track 0 = .ok (.aload_n 0, 1) := by decide +kernel
theorem dX7_track_1 : decode cX7_track 1 = .ok (.iconst 0, 1) := by decide +kernel
theorem dX7_track_2 : decode cX7_track 2 = .ok (.putfield 56, 3) := by decide +kernel
theorem dX7_track_5 : decode cX7_track 5 = .ok (.iload_n 1, 1) := by decide +kernel
theorem dX7_track_6 : decode cX7_track 6 = .ok (.invokestatic 60, 3) := by decide +kernel
theorem dX7_track_9 : decode cX7_track 9 = .ok (.ifCond .ne 5, 3) := by decide +kernel
theorem dX7_track_12 : decode cX7_track 12 = .ok (.iconst (-1), 1) := by decide +kernel
theorem dX7_track_13 : decode cX7_track 13 = .ok (.ireturn, 1) := by decide +kernel
theorem dX7_track_14 : decode cX7_track 14 = .ok (.iload_n 2, 1) := by decide +kernel
theorem dX7_track_15 : decode cX7_track 15 = .ok (.ifCond .ne 12, 3) := by decide +kernel
theorem dX7_track_18 : decode cX7_track 18 = .ok (.aload_n 0, 1) := by decide +kernel
theorem dX7_track_19 : decode cX7_track 19 = .ok (.getfield 7, 3) := by decide +kernel
theorem dX7_track_22 : decode cX7_track 22 = .ok (.iload_n 1, 1) := by decide +kernel
theorem dX7_track_23 : decode cX7_track 23 = .ok (.iaload, 1) := by decide +kernel
theorem dX7_track_24 : decode cX7_track 24 = .ok (.goto 42, 3) := by decide +kernel
theorem dX7_track_27 : decode cX7_track 27 = .ok (.iload_n 2, 1) := by decide +kernel
theorem dX7_track_28 : decode cX7_track 28 = .ok (.iconst 1, 1) := by decide +kernel
theorem dX7_track_29 : decode cX7_track 29 = .ok (.if_icmp .ne 12, 3) := by decide +kernel
theorem dX7_track_32 : decode cX7_track 32 = .ok (.aload_n 0, 1) := by decide +kernel
theorem dX7_track_33 : decode cX7_track 33 = .ok (.getfield 13, 3) := by decide +kernel
theorem dX7_track_36 : decode cX7_track 36 = .ok (.iload_n 1, 1) := by decide +kernel
theorem dX7_track_37 : decode cX7_track 37 = .ok (.iaload, 1) := by decide +kernel
theorem dX7_track_38 : decode cX7_track 38 = .ok (.goto 28, 3) := by decide +kernel
theorem dX7_track_41 : decode cX7_track 41 = .ok (.iload_n 2, 1) := by decide +kernel
theorem dX7_track_42 : decode cX7_track 42 = .ok (.iconst 2, 1) := by decide +kernel
theorem dX7_track_43 : decode cX7_track 43 = .ok (.if_icmp .ne 22, 3) := by decide +kernel
theorem dX7_track_46 : decode cX7_track 46 = .ok (.aload_n 0, 1) := by decide +kernel
theorem dX7_track_47 : decode cX7_track 47 = .ok (.getfield 7, 3) := by decide +kernel
theorem dX7_track_50 : decode cX7_track 50 = .ok (.iload_n 1, 1) := by decide +kernel
theorem dX7_track_51 : decode cX7_track 51 = .ok (.iaload, 1) := by decide +kernel
theorem dX7_track_52 : decode cX7_track 52 = .ok (.iconst 2, 1) := by decide +kernel
theorem dX7_track_53 : decode cX7_track 53 = .ok (.if_icmp .ne 12, 3) := by decide +kernel
theorem dX7_track_56 : decode cX7_track 56 = .ok (.aload_n 0, 1) := by decide +kernel
theorem dX7_track_57 : decode cX7_track 57 = .ok (.getfield 16, 3) := by decide +kernel
theorem dX7_track_60 : decode cX7_track 60 = .ok (.iload_n 1, 1) := by decide +kernel
theorem dX7_track_61 : decode cX7_track 61 = .ok (.iaload, 1) := by decide +kernel
theorem dX7_track_62 : decode cX7_track 62 = .ok (.goto 4, 3) := by decide +kernel
theorem dX7_track_65 : decode cX7_track 65 = .ok (.iconst (-1), 1) := by decide +kernel
theorem dX7_track_66 : decode cX7_track 66 = .ok (.ireturn, 1) := by decide +kernel
set_option maxRecDepth 20000 in
theorem ggX7_sample_X7_isTrack : GoodIn wsX7_sample wsX7_isTrack := goodIn_r _ [9] (by decide +kernel) (by decide +kernel)
set_option maxRecDepth 20000 in
theorem gX7_sample_X7_isTrack : GoodIn wsX7_sample (va_wsS RX7 60 yX7_isTrack wsX7_isTrack) := goodIn_app (goodIn_of _ (by decide +kernel)) ggX7_sample_X7_isTrack
theorem dX7_sample_0 : decode cX7_sample 0 = .ok (.aload_n 0, 1) := by decide +kernel
theorem dX7_sample_1 : decode cX7_sample 1 = .ok (.iload_n 1, 1) := by decide +kernel
theorem dX7_sample_2 : decode cX7_sample 2 = .ok (.invokestatic 60, 3) := by decide +kernel
theorem dX7_sample_5 : decode cX7_sample 5 = .ok (.ifCond .eq 12, 3) := by decide +kernel
theorem dX7_sample_8 : decode cX7_sample 8 = .ok (.iload_n 3, 1) := by decide +kernel
theorem dX7_sample_9 : decode cX7_sample 9 = .ok (.ifCond .lt 8, 3) := by decide +kernel
theorem dX7_sample_12 : decode cX7_sample 12 = .ok (.iload_n 3, 1) := by decide +kernel
theorem dX7_sample_13 : decode cX7_sample 13 = .ok (.iconst 2, 1) := by decide +kernel
theorem dX7_sample_14 : decode cX7_sample 14 = .ok (.if_icmp .le 7, 3) := by decide +kernel
theorem dX7_sample_17 : decode cX7_sample 17 = .ok (.iconst 1, 1) := by decide +kernel
theorem dX7_sample_18 : decode cX7_sample 18 = .ok (.goto 4, 3) := by decide +kernel
theorem dX7_sample_21 : decode cX7_sample 21 = .ok (.iconst 0, 1) := by decide +kernel
theorem dX7_sample_22 : decode cX7_sample 22 = .ok (.putfield 56, 3) := by decide +kernel
theorem dX7_sample_25 : decode cX7_sample 25 = .ok (.aload_n 0, 1) := by decide +kernel
theorem dX7_sample_26 : decode cX7_sample 26 = .ok (.getfield 56, 3) := by decide +kernel
theorem dX7_sample_29 : decode cX7_sample 29 = .ok (.ifCond .le 5, 3) := by decide +kernel
theorem dX7_sample_32 : decode cX7_sample 32 = .ok (.iconst 0, 1) := by decide +kernel
theorem dX7_sample_33 : decode cX7_sample 33 = .ok (.ireturn, 1) := by decide +kernel
theorem dX7_sample_34 : decode cX7_sample 34 = .ok (.aload_n 0, 1) := by decide +kernel
theorem dX7_sample_35 : decode cX7_sample 35 = .ok (.iload_n 2, 1) := by decide +kernel
theorem dX7_sample_36 : decode cX7_sample 36 = .ok (.ifCond .lt 13, 3) := by decide +kernel
theorem dX7_sample_39 : decode cX7_sample 39 = .ok (.iload_n 2, 1) := by decide +kernel
theorem dX7_sample_40 : decode cX7_sample 40 = .ok (.aload_n 0, 1) := by decide +kernel
theorem dX7_sample_41 : decode cX7_sample 41 = .ok (.getfield 13, 3) := by decide +kernel
theorem dX7_sample_44 : decode cX7_sample 44 = .ok (.iload_n 1, 1) := by decide +kernel
theorem dX7_sample_45 : decode cX7_sample 45 = .ok (.iaload, 1) := by decide +kernel
theorem dX7_sample_46 : decode cX7_sample 46 = .ok (.if_icmp .lt 7, 3) := by decide +kernel
theorem dX7_sample_49 : decode cX7_sample 49 = .ok (.iconst 1, 1) := by decide +kernel
theorem dX7_sample_50 : decode cX7_sample 50 = .ok (.goto 4, 3) := by decide +kernel
theorem dX7_sample_53 : decode cX7_sample 53 = .ok (.iconst 0, 1) := by decide +kernel
theorem dX7_sample_54 : decode cX7_sample 54 = .ok (.putfield 56, 3) := by decide +kernel
theorem dX7_sample_57 : decode cX7_sample 57 = .ok (.aload_n 0, 1) := by decide +kernel
theorem dX7_sample_58 : decode cX7_sample 58 = .ok (.getfield 56, 3) := by decide +kernel
theorem dX7_sample_61 : decode cX7_sample 61 = .ok (.ifCond .le 5, 3) := by decide +kernel
theorem dX7_sample_64 : decode cX7_sample 64 = .ok (.iconst 0, 1) := by decide +kernel
theorem dX7_sample_65 : decode cX7_sample 65 = .ok (.ireturn, 1) := by decide +kernel
theorem dX7_sample_66 : decode cX7_sample 66 = .ok (.bipush 20, 2) := by decide +kernel
theorem dX7_sample_68 : decode cX7_sample 68 = .ok (.iload_n 1, 1) := by decide +kernel
theorem dX7_sample_69 : decode cX7_sample 69 = .ok (.imul, 1) := by decide +kernel
theorem dX7_sample_70 : decode cX7_sample 70 = .ok (.iload_n 2, 1) := by decide +kernel
theorem dX7_sample_71 : decode cX7_sample 71 = .ok (.iadd, 1) := by decide +kernel
theorem dX7_sample_72 : decode cX7_sample 72 = .ok (.istore 4, 2) := by decide +kernel
theorem dX7_sample_74 : decode cX7_sample 74 = .ok (.iload_n 3, 1) := by decide +kernel
theorem dX7_sample_75 : decode cX7_sample 75 = .ok (.ifCond .ne 13, 3) := by decide +kernel
theorem dX7_sample_78 : decode cX7_sample 78 = .ok (.aload_n 0, 1) := by decide +kernel
theorem dX7_sample_79 : decode cX7_sample 79 = .ok (.getfield 19, 3) := by decide +kernel
theorem dX7_sample_82 : decode cX7_sample 82 = .ok (.iload 4, 2) := by decide +kernel
theorem dX7_sample_84 : decode cX7_sample 84 = .ok (.iaload, 1) := by decide +kernel
theorem dX7_sample_85 : decode cX7_sample 85 = .ok (.goto 25, 3) := by decide +kernel
theorem dX7_sample_88 : decode cX7_sample 88 = .ok (.iload_n 3, 1) := by decide +kernel
theorem dX7_sample_89 : decode cX7_sample 89 = .ok (.iconst 1, 1) := by decide +kernel
theorem dX7_sample_90 : decode cX7_sample 90 = .ok (.if_icmp .ne 13, 3) := by decide +kernel
theorem dX7_sample_93 : decode cX7_sample 93 = .ok (.aload_n 0, 1) := by decide +kernel
theorem dX7_sample_94 : decode cX7_sample 94 = .ok (.getfield 22, 3) := by decide +kernel
theorem dX7_sample_97 : decode cX7_sample 97 = .ok (.iload 4, 2) := by decide +kernel
theorem dX7_sample_99 : decode cX7_sample 99 = .ok (.iaload, 1) := by decide +kernel
theorem dX7_sample_100 : decode cX7_sample 100 = .ok (.goto 10, 3) := by decide +kernel
theorem dX7_sample_103 : decode cX7_sample 103 = .ok (.aload_n 0, 1) := by decide +kernel
theorem dX7_sample_104 : decode cX7_sample 104 = .ok (.getfield 25, 3) := by decide +kernel
theorem dX7_sample_107 : decode cX7_sample 107 = .ok (.iload 4, 2) := by decide +kernel
theorem dX7_sample_109 : decode cX7_sample 109 = .ok (.iaload, 1) := by decide +kernel
theorem dX7_sample_110 : decode cX7_sample 110 = .ok (.ireturn, 1) := by decide +kernel
set_option maxRecDepth 20000 in
theorem ggX7_divisor_X7_amount : GoodIn wsX7_divisor wsX7_amount := goodIn_r _ [4] (by decide +kernel) (by decide +kernel)
set_option maxRecDepth 20000 in
theorem gX7_divisor_X7_amount : GoodIn wsX7_divisor (va_wsS RX7 73 yX7_amount wsX7_amount) := goodIn_app (goodIn_of _ (by decide +kernel)) ggX7_divisor_X7_amount
theorem dX7_divisor_0 : decode cX7_divisor 0 = .ok (.lload_n 0, 1) := by decide +kernel
theorem dX7_divisor_1 : decode cX7_divisor 1 = .ok (.invokestatic 73, 3) := by decide +kernel
theorem dX7_divisor_4 : decode cX7_divisor 4 = .ok (.lstore 4, 2) := by decide +kernel
theorem dX7_divisor_6 : decode cX7_divisor 6 = .ok (.lload_n 2, 1) := by decide +kernel
theorem dX7_divisor_7 : decode cX7_divisor 7 = .ok (.lstore 6, 2) := by decide +kernel
theorem dX7_divisor_9 : decode cX7_divisor 9 = .ok (.lload 4, 2) := by decide +kernel
theorem dX7_divisor_11 : decode cX7_divisor 11 = .ok (.lconst 0, 1) := by decide +kernel
theorem dX7_divisor_12 : decode cX7_divisor 12 = .ok (.lcmp, 1) := by decide +kernel
theorem dX7_divisor_13 : decode cX7_divisor 13 = .ok (.ifCond .eq 21, 3) := by decide +kernel
theorem dX7_divisor_16 : decode cX7_divisor 16 = .ok (.lload 6, 2) := by decide +kernel
theorem dX7_divisor_18 : decode cX7_divisor 18 = .ok (.lload 4, 2) := by decide +kernel
theorem dX7_divisor_20 : decode cX7_divisor 20 = .ok (.lrem, 1) := by decide +kernel
theorem dX7_divisor_21 : decode cX7_divisor 21 = .ok (.lstore 8, 2) := by decide +kernel
theorem dX7_divisor_23 : decode cX7_divisor 23 = .ok (.lload 4, 2) := by decide +kernel
theorem dX7_divisor_25 : decode cX7_divisor 25 = .ok (.lstore 6, 2) := by decide +kernel
theorem dX7_divisor_27 : decode cX7_divisor 27 = .ok (.lload 8, 2) := by decide +kernel
theorem dX7_divisor_29 : decode cX7_divisor 29 = .ok (.lstore 4, 2) := by decide +kernel
theorem dX7_divisor_31 : decode cX7_divisor 31 = .ok (.goto (-22), 3) := by decide +kernel
theorem dX7_divisor_34 : decode cX7_divisor 34 = .ok (.lload 6, 2) := by decide +kernel
theorem dX7_divisor_36 : decode cX7_divisor 36 = .ok (.lreturn, 1) := by decide +kernel
set_option maxRecDepth 20000 in
theorem ggX7_place_X7_isTrack : GoodIn wsX7_place wsX7_isTrack := goodIn_r _ [9] (by decide +kernel) (by decide +kernel)
set_option maxRecDepth 20000 in
theorem gX7_place_X7_isTrack : GoodIn wsX7_place (va_wsS RX7 60 yX7_isTrack wsX7_isTrack) := goodIn_app (goodIn_of _ (by decide +kernel)) ggX7_place_X7_isTrack
set_option maxRecDepth 20000 in
theorem ggX7_place_X7_is : GoodIn wsX7_place wsX7_is := goodIn_r _ [13, 14, 6, 7, 8, 9, 21, 22, 23, 24, 25, 26, 27, 28, 29, 30, 31, 32, 33, 34, 35, 36, 37, 38, 39, 40, 41, 42, 43, 44] (by decide +kernel) (by decide +kernel)
set_option maxRecDepth 20000 in
theorem gX7_place_X7_is : GoodIn wsX7_place (wsV RX7 64 RX7 yX7_is wsX7_is) := goodIn_app (goodIn_of _ (by decide +kernel)) ggX7_place_X7_is
set_option maxRecDepth 20000 in
theorem ggX7_place_X7_divisor : GoodIn wsX7_place wsX7_divisor := goodIn_r _ [17, 18, 19, 8, 20] (by decide +kernel) (by decide +kernel)
set_option maxRecDepth 20000 in
theorem gX7_place_X7_divisor : GoodIn wsX7_place (va_wsS RX7 89 yX7_divisor wsX7_divisor) := goodIn_app (goodIn_of _ (by decide +kernel)) ggX7_place_X7_divisor
theorem dX7_place_0 : decode cX7_place 0 = .ok (.aload_n 0, 1) := by decide +kernel
theorem dX7_place_1 : decode cX7_place 1 = .ok (.iload_n 1, 1) := by decide +kernel
theorem dX7_place_2 : decode cX7_place 2 = .ok (.invokestatic 60, 3) := by decide +kernel
theorem dX7_place_5 : decode cX7_place 5 = .ok (.ifCond .ne 7, 3) := by decide +kernel
theorem dX7_place_8 : decode cX7_place 8 = .ok (.iconst 1, 1) := by decide +kernel
theorem dX7_place_9 : decode cX7_place 9 = .ok (.goto 17, 3) := by decide +kernel
theorem dX7_place_12 : decode cX7_place 12 = .ok (.aload_n 0, 1) := by decide +kernel
theorem dX7_place_13 : decode cX7_place 13 = .ok (.iload_n 1, 1) := by decide +kernel
theorem dX7_place_14 : decode cX7_place 14 = .ok (.iconst 2, 1) := by decide +kernel
theorem dX7_place_15 : decode cX7_place 15 = .ok (.invokevirtual 64, 3) := by decide +kernel
theorem dX7_place_18 : decode cX7_place 18 = .ok (.ifCond .ne 7, 3) := by decide +kernel
theorem dX7_place_21 : decode cX7_place 21 = .ok (.iconst 2, 1) := by decide +kernel
theorem dX7_place_22 : decode cX7_place 22 = .ok (.goto 4, 3) := by decide +kernel
theorem dX7_place_25 : decode cX7_place 25 = .ok (.iconst 0, 1) := by decide +kernel
theorem dX7_place_26 : decode cX7_place 26 = .ok (.putfield 56, 3) := by decide +kernel
theorem dX7_place_29 : decode cX7_place 29 = .ok (.aload_n 0, 1) := by decide +kernel
theorem dX7_place_30 : decode cX7_place 30 = .ok (.getfield 56, 3) := by decide +kernel
theorem dX7_place_33 : decode cX7_place 33 = .ok (.ifCond .le 5, 3) := by decide +kernel
theorem dX7_place_36 : decode cX7_place 36 = .ok (.lconst 0, 1) := by decide +kernel
theorem dX7_place_37 : decode cX7_place 37 = .ok (.lreturn, 1) := by decide +kernel
theorem dX7_place_38 : decode cX7_place 38 = .ok (.bipush 20, 2) := by decide +kernel
theorem dX7_place_40 : decode cX7_place 40 = .ok (.iload_n 1, 1) := by decide +kernel
theorem dX7_place_41 : decode cX7_place 41 = .ok (.imul, 1) := by decide +kernel
theorem dX7_place_42 : decode cX7_place 42 = .ok (.istore 5, 2) := by decide +kernel
theorem dX7_place_44 : decode cX7_place 44 = .ok (.aload_n 0, 1) := by decide +kernel
theorem dX7_place_45 : decode cX7_place 45 = .ok (.getfield 13, 3) := by decide +kernel
theorem dX7_place_48 : decode cX7_place 48 = .ok (.iload_n 1, 1) := by decide +kernel
theorem dX7_place_49 : decode cX7_place 49 = .ok (.iaload, 1) := by decide +kernel
theorem dX7_place_50 : decode cX7_place 50 = .ok (.istore 6, 2) := by decide +kernel
theorem dX7_place_52 : decode cX7_place 52 = .ok (.aload_n 0, 1) := by decide +kernel
theorem dX7_place_53 : decode cX7_place 53 = .ok (.iload_n 2, 1) := by decide +kernel
theorem dX7_place_54 : decode cX7_place 54 = .ok (.aload_n 0, 1) := by decide +kernel
theorem dX7_place_55 : decode cX7_place 55 = .ok (.getfield 19, 3) := by decide +kernel
theorem dX7_place_58 : decode cX7_place 58 = .ok (.iload 5, 2) := by decide +kernel
theorem dX7_place_60 : decode cX7_place 60 = .ok (.iaload, 1) := by decide +kernel
theorem dX7_place_61 : decode cX7_place 61 = .ok (.if_icmp .lt 19, 3) := by decide +kernel
theorem dX7_place_64 : decode cX7_place 64 = .ok (.iload_n 2, 1) := by decide +kernel
theorem dX7_place_65 : decode cX7_place 65 = .ok (.aload_n 0, 1) := by decide +kernel
theorem dX7_place_66 : decode cX7_place 66 = .ok (.getfield 19, 3) := by decide +kernel
theorem dX7_place_69 : decode cX7_place 69 = .ok (.iload 5, 2) := by decide +kernel
theorem dX7_place_71 : decode cX7_place 71 = .ok (.iload 6, 2) := by decide +kernel
theorem dX7_place_73 : decode cX7_place 73 = .ok (.iadd, 1) := by decide +kernel
theorem dX7_place_74 : decode cX7_place 74 = .ok (.iconst 1, 1) := by decide +kernel
theorem dX7_place_75 : decode cX7_place 75 = .ok (.isub, 1) := by decide +kernel
theorem dX7_place_76 : decode cX7_place 76 = .ok (.iaload, 1) := by decide +kernel
theorem dX7_place_77 : decode cX7_place 77 = .ok (.if_icmp .le 7, 3) := by decide +kernel
theorem dX7_place_80 : decode cX7_place 80 = .ok (.iconst 3, 1) := by decide +kernel
theorem dX7_place_81 : decode cX7_place 81 = .ok (.goto 4, 3) := by decide +kernel
theorem dX7_place_84 : decode cX7_place 84 = .ok (.iconst 0, 1) := by decide +kernel
theorem dX7_place_85 : decode cX7_place 85 = .ok (.putfield 56, 3) := by decide +kernel
theorem dX7_place_88 : decode cX7_place 88 = .ok (.aload_n 0, 1) := by decide +kernel
theorem dX7_place_89 : decode cX7_place 89 = .ok (.getfield 56, 3) := by decide +kernel
theorem dX7_place_92 : decode cX7_place 92 = .ok (.ifCond .le 5, 3) := by decide +kernel
theorem dX7_place_95 : decode cX7_place 95 = .ok (.lconst 0, 1) := by decide +kernel
theorem dX7_place_96 : decode cX7_place 96 = .ok (.lreturn, 1) := by decide +kernel
theorem dX7_place_97 : decode cX7_place 97 = .ok (.iload 5, 2) := by decide +kernel
theorem dX7_place_99 : decode cX7_place 99 = .ok (.istore 7, 2) := by decide +kernel
theorem dX7_place_101 : decode cX7_place 101 = .ok (.iload 7, 2) := by decide +kernel
theorem dX7_place_103 : decode cX7_place 103 = .ok (.iload 5, 2) := by decide +kernel
theorem dX7_place_105 : decode cX7_place 105 = .ok (.iload 6, 2) := by decide +kernel
theorem dX7_place_107 : decode cX7_place 107 = .ok (.iadd, 1) := by decide +kernel
theorem dX7_place_108 : decode cX7_place 108 = .ok (.iconst 1, 1) := by decide +kernel
theorem dX7_place_109 : decode cX7_place 109 = .ok (.isub, 1) := by decide +kernel
theorem dX7_place_110 : decode cX7_place 110 = .ok (.if_icmp .ge 22, 3) := by decide +kernel
theorem dX7_place_113 : decode cX7_place 113 = .ok (.aload_n 0, 1) := by decide +kernel
theorem dX7_place_114 : decode cX7_place 114 = .ok (.getfield 19, 3) := by decide +kernel
theorem dX7_place_117 : decode cX7_place 117 = .ok (.iload 7, 2) := by decide +kernel
theorem dX7_place_119 : decode cX7_place 119 = .ok (.iconst 1, 1) := by decide +kernel
theorem dX7_place_120 : decode cX7_place 120 = .ok (.iadd, 1) := by decide +kernel
theorem dX7_place_121 : decode cX7_place 121 = .ok (.iaload, 1) := by decide +kernel
theorem dX7_place_122 : decode cX7_place 122 = .ok (.iload_n 2, 1) := by decide +kernel
theorem dX7_place_123 : decode cX7_place 123 = .ok (.if_icmp .gt 9, 3) := by decide +kernel
theorem dX7_place_126 : decode cX7_place 126 = .ok (.iinc 7 1, 3) := by decide +kernel
theorem dX7_place_129 : decode cX7_place 129 = .ok (.goto (-28), 3) := by decide +kernel
theorem dX7_place_132 : decode cX7_place 132 = .ok (.iload_n 3, 1) := by decide +kernel
theorem dX7_place_133 : decode cX7_place 133 = .ok (.ifCond .eq 14, 3) := by decide +kernel
theorem dX7_place_136 : decode cX7_place 136 = .ok (.aload_n 0, 1) := by decide +kernel
theorem dX7_place_137 : decode cX7_place 137 = .ok (.getfield 25, 3) := by decide +kernel
theorem dX7_place_140 : decode cX7_place 140 = .ok (.iload 7, 2) := by decide +kernel
theorem dX7_place_142 : decode cX7_place 142 = .ok (.iaload, 1) := by decide +kernel
theorem dX7_place_143 : decode cX7_place 143 = .ok (.i2l, 1) := by decide +kernel
theorem dX7_place_144 : decode cX7_place 144 = .ok (.goto 11, 3) := by decide +kernel
theorem dX7_place_147 : decode cX7_place 147 = .ok (.aload_n 0, 1) := by decide +kernel
theorem dX7_place_148 : decode cX7_place 148 = .ok (.getfield 22, 3) := by decide +kernel
theorem dX7_place_151 : decode cX7_place 151 = .ok (.iload 7, 2) := by decide +kernel
theorem dX7_place_153 : decode cX7_place 153 = .ok (.iaload, 1) := by decide +kernel
theorem dX7_place_154 : decode cX7_place 154 = .ok (.i2l, 1) := by decide +kernel
theorem dX7_place_155 : decode cX7_place 155 = .ok (.lstore 8, 2) := by decide +kernel
theorem dX7_place_157 : decode cX7_place 157 = .ok (.aload_n 0, 1) := by decide +kernel
theorem dX7_place_158 : decode cX7_place 158 = .ok (.getfield 19, 3) := by decide +kernel
theorem dX7_place_161 : decode cX7_place 161 = .ok (.iload 7, 2) := by decide +kernel
theorem dX7_place_163 : decode cX7_place 163 = .ok (.iaload, 1) := by decide +kernel
theorem dX7_place_164 : decode cX7_place 164 = .ok (.iload_n 2, 1) := by decide +kernel
theorem dX7_place_165 : decode cX7_place 165 = .ok (.if_icmp .ne 15, 3) := by decide +kernel
theorem dX7_place_168 : decode cX7_place 168 = .ok (.iload 4, 2) := by decide +kernel
theorem dX7_place_170 : decode cX7_place 170 = .ok (.ifCond .eq 7, 3) := by decide +kernel
theorem dX7_place_173 : decode cX7_place 173 = .ok (.lconst 1, 1) := by decide +kernel
theorem dX7_place_174 : decode cX7_place 174 = .ok (.goto 5, 3) := by decide +kernel
theorem dX7_place_177 : decode cX7_place 177 = .ok (.lload 8, 2) := by decide +kernel
theorem dX7_place_179 : decode cX7_place 179 = .ok (.lreturn, 1) := by decide +kernel
theorem dX7_place_180 : decode cX7_place 180 = .ok (.iload_n 3, 1) := by decide +kernel
theorem dX7_place_181 : decode cX7_place 181 = .ok (.ifCond .eq 16, 3) := by decide +kernel
theorem dX7_place_184 : decode cX7_place 184 = .ok (.aload_n 0, 1) := by decide +kernel
theorem dX7_place_185 : decode cX7_place 185 = .ok (.getfield 25, 3) := by decide +kernel
theorem dX7_place_188 : decode cX7_place 188 = .ok (.iload 7, 2) := by decide +kernel
theorem dX7_place_190 : decode cX7_place 190 = .ok (.iconst 1, 1) := by decide +kernel
theorem dX7_place_191 : decode cX7_place 191 = .ok (.iadd, 1) := by decide +kernel
theorem dX7_place_192 : decode cX7_place 192 = .ok (.iaload, 1) := by decide +kernel
theorem dX7_place_193 : decode cX7_place 193 = .ok (.i2l, 1) := by decide +kernel
theorem dX7_place_194 : decode cX7_place 194 = .ok (.goto 13, 3) := by decide +kernel
theorem dX7_place_197 : decode cX7_place 197 = .ok (.aload_n 0, 1) := by decide +kernel
theorem dX7_place_198 : decode cX7_place 198 = .ok (.getfield 22, 3) := by decide +kernel
theorem dX7_place_201 : decode cX7_place 201 = .ok (.iload 7, 2) := by decide +kernel
theorem dX7_place_203 : decode cX7_place 203 = .ok (.iconst 1, 1) := by decide +kernel
theorem dX7_place_204 : decode cX7_place 204 = .ok (.iadd, 1) := by decide +kernel
theorem dX7_place_205 : decode cX7_place 205 = .ok (.iaload, 1) := by decide +kernel
theorem dX7_place_206 : decode cX7_place 206 = .ok (.i2l, 1) := by decide +kernel
theorem dX7_place_207 : decode cX7_place 207 = .ok (.lstore 10, 2) := by decide +kernel
theorem dX7_place_209 : decode cX7_place 209 = .ok (.aload_n 0, 1) := by decide +kernel
theorem dX7_place_210 : decode cX7_place 210 = .ok (.getfield 19, 3) := by decide +kernel
theorem dX7_place_213 : decode cX7_place 213 = .ok (.iload 7, 2) := by decide +kernel
theorem dX7_place_215 : decode cX7_place 215 = .ok (.iconst 1, 1) := by decide +kernel
theorem dX7_place_216 : decode cX7_place 216 = .ok (.iadd, 1) := by decide +kernel
theorem dX7_place_217 : decode cX7_place 217 = .ok (.iaload, 1) := by decide +kernel
theorem dX7_place_218 : decode cX7_place 218 = .ok (.i2l, 1) := by decide +kernel
theorem dX7_place_219 : decode cX7_place 219 = .ok (.aload_n 0, 1) := by decide +kernel
theorem dX7_place_220 : decode cX7_place 220 = .ok (.getfield 19, 3) := by decide +kernel
theorem dX7_place_223 : decode cX7_place 223 = .ok (.iload 7, 2) := by decide +kernel
theorem dX7_place_225 : decode cX7_place 225 = .ok (.iaload, 1) := by decide +kernel
theorem dX7_place_226 : decode cX7_place 226 = .ok (.i2l, 1) := by decide +kernel
theorem dX7_place_227 : decode cX7_place 227 = .ok (.lsub, 1) := by decide +kernel
theorem dX7_place_228 : decode cX7_place 228 = .ok (.lstore 12, 2) := by decide +kernel
theorem dX7_place_230 : decode cX7_place 230 = .ok (.lload 8, 2) := by decide +kernel
theorem dX7_place_232 : decode cX7_place 232 = .ok (.lload 12, 2) := by decide +kernel
theorem dX7_place_234 : decode cX7_place 234 = .ok (.lmul, 1) := by decide +kernel
theorem dX7_place_235 : decode cX7_place 235 = .ok (.lload 10, 2) := by decide +kernel
theorem dX7_place_237 : decode cX7_place 237 = .ok (.lload 8, 2) := by decide +kernel
theorem dX7_place_239 : decode cX7_place 239 = .ok (.lsub, 1) := by decide +kernel
theorem dX7_place_240 : decode cX7_place 240 = .ok (.iload_n 2, 1) := by decide +kernel
theorem dX7_place_241 : decode cX7_place 241 = .ok (.i2l, 1) := by decide +kernel
theorem dX7_place_242 : decode cX7_place 242 = .ok (.aload_n 0, 1) := by decide +kernel
theorem dX7_place_243 : decode cX7_place 243 = .ok (.getfield 19, 3) := by decide +kernel
theorem dX7_place_246 : decode cX7_place 246 = .ok (.iload 7, 2) := by decide +kernel
theorem dX7_place_248 : decode cX7_place 248 = .ok (.iaload, 1) := by decide +kernel
theorem dX7_place_249 : decode cX7_place 249 = .ok (.i2l, 1) := by decide +kernel
theorem dX7_place_250 : decode cX7_place 250 = .ok (.lsub, 1) := by decide +kernel
theorem dX7_place_251 : decode cX7_place 251 = .ok (.lmul, 1) := by decide +kernel
theorem dX7_place_252 : decode cX7_place 252 = .ok (.ladd, 1) := by decide +kernel
theorem dX7_place_253 : decode cX7_place 253 = .ok (.lstore 14, 2) := by decide +kernel
theorem dX7_place_255 : decode cX7_place 255 = .ok (.lload 14, 2) := by decide +kernel
theorem dX7_place_257 : decode cX7_place 257 = .ok (.lload 12, 2) := by decide +kernel
theorem dX7_place_259 : decode cX7_place 259 = .ok (.invokestatic 89, 3) := by decide +kernel
theorem dX7_place_262 : decode cX7_place 262 = .ok (.lstore 16, 2) := by decide +kernel
theorem dX7_place_264 : decode cX7_place 264 = .ok (.iload 4, 2) := by decide +kernel
theorem dX7_place_266 : decode cX7_place 266 = .ok (.ifCond .eq 11, 3) := by decide +kernel
theorem dX7_place_269 : decode cX7_place 269 = .ok (.lload 12, 2) := by decide +kernel
theorem dX7_place_271 : decode cX7_place 271 = .ok (.lload 16, 2) := by decide +kernel
theorem dX7_place_273 : decode cX7_place 273 = .ok (.ldiv, 1) := by decide +kernel
theorem dX7_place_274 : decode cX7_place 274 = .ok (.goto 8, 3) := by decide +kernel
theorem dX7_place_277 : decode cX7_place 277 = .ok (.lload 14, 2) := by decide +kernel
theorem dX7_place_279 : decode cX7_place 279 = .ok (.lload 16, 2) := by decide +kernel
theorem dX7_place_281 : decode cX7_place 281 = .ok (.ldiv, 1) := by decide +kernel
theorem dX7_place_282 : decode cX7_place 282 = .ok (.lreturn, 1) := by decide +kernel
theorem dX7_write_0 : decode cX7_write 0 = .ok (.lload_n 1, 1) := by decide +kernel
theorem dX7_write_1 : decode cX7_write 1 = .ok (.lstore_n 3, 1) := by decide +kernel
theorem dX7_write_2 : decode cX7_write 2 = .ok (.lload_n 3, 1) := by decide +kernel
theorem dX7_write_3 : decode cX7_write 3 = .ok (.ldc2_w 93, 3) := by decide +kernel
theorem dX7_write_6 : decode cX7_write 6 = .ok (.lcmp, 1) := by decide +kernel
theorem dX7_write_7 : decode cX7_write 7 = .ok (.ifCond .le 40, 3) := by decide +kernel
theorem dX7_write_10 : decode cX7_write 10 = .ok (.aload_n 0, 1) := by decide +kernel
theorem dX7_write_11 : decode cX7_write 11 = .ok (.getfield 31, 3) := by decide +kernel
theorem dX7_write_14 : decode cX7_write 14 = .ok (.aload_n 0, 1) := by decide +kernel
theorem dX7_write_15 : decode cX7_write 15 = .ok (.getfield 95, 3) := by decide +kernel
theorem dX7_write_18 : decode cX7_write 18 = .ok (.lload_n 3, 1) := by decide +kernel
theorem dX7_write_19 : decode cX7_write 19 = .ok (.ldc2_w 93, 3) := by decide +kernel
theorem dX7_write_22 : decode cX7_write 22 = .ok (.land, 1) := by decide +kernel
theorem dX7_write_23 : decode cX7_write 23 = .ok (.l2i, 1) := by decide +kernel
theorem dX7_write_24 : decode cX7_write 24 = .ok (.sipush 128, 3) := by decide +kernel
theorem dX7_write_27 : decode cX7_write 27 = .ok (.iadd, 1) := by decide +kernel
theorem dX7_write_28 : decode cX7_write 28 = .ok (.iastore, 1) := by decide +kernel
theorem dX7_write_29 : decode cX7_write 29 = .ok (.aload_n 0, 1) := by decide +kernel
theorem dX7_write_30 : decode cX7_write 30 = .ok (.dup, 1) := by decide +kernel
theorem dX7_write_31 : decode cX7_write 31 = .ok (.getfield 95, 3) := by decide +kernel
theorem dX7_write_34 : decode cX7_write 34 = .ok (.iconst 1, 1) := by decide +kernel
theorem dX7_write_35 : decode cX7_write 35 = .ok (.iadd, 1) := by decide +kernel
theorem dX7_write_36 : decode cX7_write 36 = .ok (.putfield 95, 3) := by decide +kernel
theorem dX7_write_39 : decode cX7_write 39 = .ok (.lload_n 3, 1) := by decide +kernel
theorem dX7_write_40 : decode cX7_write 40 = .ok (.bipush 7, 2) := by decide +kernel
theorem dX7_write_42 : decode cX7_write 42 = .ok (.lshr, 1) := by decide +kernel
theorem dX7_write_43 : decode cX7_write 43 = .ok (.lstore_n 3, 1) := by decide +kernel
theorem dX7_write_44 : decode cX7_write 44 = .ok (.goto (-42), 3) := by decide +kernel
theorem dX7_write_47 : decode cX7_write 47 = .ok (.aload_n 0, 1) := by decide +kernel
theorem dX7_write_48 : decode cX7_write 48 = .ok (.getfield 31, 3) := by decide +kernel
theorem dX7_write_51 : decode cX7_write 51 = .ok (.aload_n 0, 1) := by decide +kernel
theorem dX7_write_52 : decode cX7_write 52 = .ok (.getfield 95, 3) := by decide +kernel
theorem dX7_write_55 : decode cX7_write 55 = .ok (.lload_n 3, 1) := by decide +kernel
theorem dX7_write_56 : decode cX7_write 56 = .ok (.l2i, 1) := by decide +kernel
theorem dX7_write_57 : decode cX7_write 57 = .ok (.iastore, 1) := by decide +kernel
theorem dX7_write_58 : decode cX7_write 58 = .ok (.aload_n 0, 1) := by decide +kernel
theorem dX7_write_59 : decode cX7_write 59 = .ok (.dup, 1) := by decide +kernel
theorem dX7_write_60 : decode cX7_write 60 = .ok (.getfield 95, 3) := by decide +kernel
theorem dX7_write_63 : decode cX7_write 63 = .ok (.iconst 1, 1) := by decide +kernel
theorem dX7_write_64 : decode cX7_write 64 = .ok (.iadd, 1) := by decide +kernel
theorem dX7_write_65 : decode cX7_write 65 = .ok (.putfield 95, 3) := by decide +kernel
theorem dX7_write_68 : decode cX7_write 68 = .ok (.return_, 1) := by decide +kernel
theorem dX7_turned_0 : decode cX7_turned 0 = .ok (.lload_n 0, 1) := by decide +kernel
theorem dX7_turned_1 : decode cX7_turned 1 = .ok (.lconst 0, 1) := by decide +kernel
theorem dX7_turned_2 : decode cX7_turned 2 = .ok (.lcmp, 1) := by decide +kernel
theorem dX7_turned_3 : decode cX7_turned 3 = .ok (.ifCond .ge 13, 3) := by decide +kernel
theorem dX7_turned_6 : decode cX7_turned 6 = .ok (.ldc2_w 98, 3) := by decide +kernel
theorem dX7_turned_9 : decode cX7_turned 9 = .ok (.lload_n 0, 1) := by decide +kernel
theorem dX7_turned_10 : decode cX7_turned 10 = .ok (.lmul, 1) := by decide +kernel
theorem dX7_turned_11 : decode cX7_turned 11 = .ok (.lconst 1, 1) := by decide +kernel
theorem dX7_turned_12 : decode cX7_turned 12 = .ok (.lsub, 1) := by decide +kernel
theorem dX7_turned_13 : decode cX7_turned 13 = .ok (.goto 8, 3) := by decide +kernel
theorem dX7_turned_16 : decode cX7_turned 16 = .ok (.ldc2_w 100, 3) := by decide +kernel
theorem dX7_turned_19 : decode cX7_turned 19 = .ok (.lload_n 0, 1) := by decide +kernel
theorem dX7_turned_20 : decode cX7_turned 20 = .ok (.lmul, 1) := by decide +kernel
theorem dX7_turned_21 : decode cX7_turned 21 = .ok (.lreturn, 1) := by decide +kernel
set_option maxRecDepth 20000 in
theorem ggX7_pack_X7_isTrack : GoodIn wsX7_pack wsX7_isTrack := goodIn_r _ [10] (by decide +kernel) (by decide +kernel)
set_option maxRecDepth 20000 in
theorem gX7_pack_X7_isTrack : GoodIn wsX7_pack (va_wsS RX7 60 yX7_isTrack wsX7_isTrack) := goodIn_app (goodIn_of _ (by decide +kernel)) ggX7_pack_X7_isTrack
set_option maxRecDepth 20000 in
theorem ggX7_pack_X7_is : GoodIn wsX7_pack wsX7_is := goodIn_r _ [14, 15, 7, 8, 9, 10, 27, 28, 29, 30, 31, 32, 33, 34, 35, 36, 37, 38, 39, 40, 41, 42, 43, 44, 45, 46, 47, 48, 49, 50] (by decide +kernel) (by decide +kernel)
set_option maxRecDepth 20000 in
theorem gX7_pack_X7_is : GoodIn wsX7_pack (wsV RX7 64 RX7 yX7_is wsX7_is) := goodIn_app (goodIn_of _ (by decide +kernel)) ggX7_pack_X7_is
set_option maxRecDepth 20000 in
theorem ggX7_pack_X7_write : GoodIn wsX7_pack wsX7_write := goodIn_r _ [19, 20, 21, 2, 27, 28, 29, 30, 31, 32, 33, 34, 35, 36, 37, 38, 39, 40, 41, 42, 43, 44, 45, 46, 47, 48, 49, 50] (by decide +kernel) (by decide +kernel)
set_option maxRecDepth 20000 in
theorem gX7_pack_X7_write : GoodIn wsX7_pack (wsV RX7 102 RX7 yX7_write wsX7_write) := goodIn_app (goodIn_of _ (by decide +kernel)) ggX7_pack_X7_write
set_option maxRecDepth 20000 in
theorem ggX7_pack_X7_turned : GoodIn wsX7_pack wsX7_turned := goodIn_r _ [24, 25, 26] (by decide +kernel) (by decide +kernel)
set_option maxRecDepth 20000 in
theorem gX7_pack_X7_turned : GoodIn wsX7_pack (va_wsS RX7 106 yX7_turned wsX7_turned) := goodIn_app (goodIn_of _ (by decide +kernel)) ggX7_pack_X7_turned
theorem dX7_pack_0 : decode cX7_pack 0 = .ok (.aload_n 0, 1) := by decide +kernel
theorem dX7_pack_1 : decode cX7_pack 1 = .ok (.iload_n 1, 1) := by decide +kernel
theorem dX7_pack_2 : decode cX7_pack 2 = .ok (.invokestatic 60, 3) := by decide +kernel
theorem dX7_pack_5 : decode cX7_pack 5 = .ok (.ifCond .ne 7, 3) := by decide +kernel
theorem dX7_pack_8 : decode cX7_pack 8 = .ok (.iconst 1, 1) := by decide +kernel
theorem dX7_pack_9 : decode cX7_pack 9 = .ok (.goto 17, 3) := by decide +kernel
theorem dX7_pack_12 : decode cX7_pack 12 = .ok (.aload_n 0, 1) := by decide +kernel
theorem dX7_pack_13 : decode cX7_pack 13 = .ok (.iload_n 1, 1) := by decide +kernel
theorem dX7_pack_14 : decode cX7_pack 14 = .ok (.iconst 2, 1) := by decide +kernel
theorem dX7_pack_15 : decode cX7_pack 15 = .ok (.invokevirtual 64, 3) := by decide +kernel
theorem dX7_pack_18 : decode cX7_pack 18 = .ok (.ifCond .ne 7, 3) := by decide +kernel
theorem dX7_pack_21 : decode cX7_pack 21 = .ok (.iconst 2, 1) := by decide +kernel
theorem dX7_pack_22 : decode cX7_pack 22 = .ok (.goto 4, 3) := by decide +kernel
theorem dX7_pack_25 : decode cX7_pack 25 = .ok (.iconst 0, 1) := by decide +kernel
theorem dX7_pack_26 : decode cX7_pack 26 = .ok (.putfield 56, 3) := by decide +kernel
theorem dX7_pack_29 : decode cX7_pack 29 = .ok (.aload_n 0, 1) := by decide +kernel
theorem dX7_pack_30 : decode cX7_pack 30 = .ok (.getfield 56, 3) := by decide +kernel
theorem dX7_pack_33 : decode cX7_pack 33 = .ok (.ifCond .le 5, 3) := by decide +kernel
theorem dX7_pack_36 : decode cX7_pack 36 = .ok (.iconst 0, 1) := by decide +kernel
theorem dX7_pack_37 : decode cX7_pack 37 = .ok (.ireturn, 1) := by decide +kernel
theorem dX7_pack_38 : decode cX7_pack 38 = .ok (.aload_n 0, 1) := by decide +kernel
theorem dX7_pack_39 : decode cX7_pack 39 = .ok (.iconst 0, 1) := by decide +kernel
theorem dX7_pack_40 : decode cX7_pack 40 = .ok (.putfield 95, 3) := by decide +kernel
theorem dX7_pack_43 : decode cX7_pack 43 = .ok (.aload_n 0, 1) := by decide +kernel
theorem dX7_pack_44 : decode cX7_pack 44 = .ok (.aload_n 0, 1) := by decide +kernel
theorem dX7_pack_45 : decode cX7_pack 45 = .ok (.getfield 13, 3) := by decide +kernel
theorem dX7_pack_48 : decode cX7_pack 48 = .ok (.iload_n 1, 1) := by decide +kernel
theorem dX7_pack_49 : decode cX7_pack 49 = .ok (.iaload, 1) := by decide +kernel
theorem dX7_pack_50 : decode cX7_pack 50 = .ok (.i2l, 1) := by decide +kernel
theorem dX7_pack_51 : decode cX7_pack 51 = .ok (.invokevirtual 102, 3) := by decide +kernel
theorem dX7_pack_54 : decode cX7_pack 54 = .ok (.iconst 0, 1) := by decide +kernel
theorem dX7_pack_55 : decode cX7_pack 55 = .ok (.istore_n 2, 1) := by decide +kernel
theorem dX7_pack_56 : decode cX7_pack 56 = .ok (.iload_n 2, 1) := by decide +kernel
theorem dX7_pack_57 : decode cX7_pack 57 = .ok (.aload_n 0, 1) := by decide +kernel
theorem dX7_pack_58 : decode cX7_pack 58 = .ok (.getfield 13, 3) := by decide +kernel
theorem dX7_pack_61 : decode cX7_pack 61 = .ok (.iload_n 1, 1) := by decide +kernel
theorem dX7_pack_62 : decode cX7_pack 62 = .ok (.iaload, 1) := by decide +kernel
theorem dX7_pack_63 : decode cX7_pack 63 = .ok (.if_icmp .ge 133, 3) := by decide +kernel
theorem dX7_pack_66 : decode cX7_pack 66 = .ok (.bipush 20, 2) := by decide +kernel
theorem dX7_pack_68 : decode cX7_pack 68 = .ok (.iload_n 1, 1) := by decide +kernel
