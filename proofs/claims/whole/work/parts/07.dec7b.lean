theorem dX7_pack_69 : decode cX7_pack 69 = .ok (.imul, 1) := by decide +kernel
theorem dX7_pack_70 : decode cX7_pack 70 = .ok (.iload_n 2, 1) := by decide +kernel
theorem dX7_pack_71 : decode cX7_pack 71 = .ok (.iadd, 1) := by decide +kernel
theorem dX7_pack_72 : decode cX7_pack 72 = .ok (.istore_n 3, 1) := by decide +kernel
theorem dX7_pack_73 : decode cX7_pack 73 = .ok (.aload_n 0, 1) := by decide +kernel
theorem dX7_pack_74 : decode cX7_pack 74 = .ok (.aload_n 0, 1) := by decide +kernel
theorem dX7_pack_75 : decode cX7_pack 75 = .ok (.getfield 19, 3) := by decide +kernel
theorem dX7_pack_78 : decode cX7_pack 78 = .ok (.iload_n 3, 1) := by decide +kernel
theorem dX7_pack_79 : decode cX7_pack 79 = .ok (.iaload, 1) := by decide +kernel
theorem dX7_pack_80 : decode cX7_pack 80 = .ok (.i2l, 1) := by decide +kernel
theorem dX7_pack_81 : decode cX7_pack 81 = .ok (.iload_n 2, 1) := by decide +kernel
theorem dX7_pack_82 : decode cX7_pack 82 = .ok (.ifCond .ne 7, 3) := by decide +kernel
theorem dX7_pack_85 : decode cX7_pack 85 = .ok (.iconst 0, 1) := by decide +kernel
theorem dX7_pack_86 : decode cX7_pack 86 = .ok (.goto 19, 3) := by decide +kernel
theorem dX7_pack_89 : decode cX7_pack 89 = .ok (.aload_n 0, 1) := by decide +kernel
theorem dX7_pack_90 : decode cX7_pack 90 = .ok (.getfield 19, 3) := by decide +kernel
theorem dX7_pack_93 : decode cX7_pack 93 = .ok (.iload_n 2, 1) := by decide +kernel
theorem dX7_pack_94 : decode cX7_pack 94 = .ok (.ifCond .ne 7, 3) := by decide +kernel
theorem dX7_pack_97 : decode cX7_pack 97 = .ok (.iload_n 3, 1) := by decide +kernel
theorem dX7_pack_98 : decode cX7_pack 98 = .ok (.goto 6, 3) := by decide +kernel
theorem dX7_pack_101 : decode cX7_pack 101 = .ok (.iload_n 3, 1) := by decide +kernel
theorem dX7_pack_102 : decode cX7_pack 102 = .ok (.iconst 1, 1) := by decide +kernel
theorem dX7_pack_103 : decode cX7_pack 103 = .ok (.isub, 1) := by decide +kernel
theorem dX7_pack_104 : decode cX7_pack 104 = .ok (.iaload, 1) := by decide +kernel
theorem dX7_pack_105 : decode cX7_pack 105 = .ok (.i2l, 1) := by decide +kernel
theorem dX7_pack_106 : decode cX7_pack 106 = .ok (.lsub, 1) := by decide +kernel
theorem dX7_pack_107 : decode cX7_pack 107 = .ok (.invokevirtual 102, 3) := by decide +kernel
theorem dX7_pack_110 : decode cX7_pack 110 = .ok (.aload_n 0, 1) := by decide +kernel
theorem dX7_pack_111 : decode cX7_pack 111 = .ok (.aload_n 0, 1) := by decide +kernel
theorem dX7_pack_112 : decode cX7_pack 112 = .ok (.getfield 22, 3) := by decide +kernel
theorem dX7_pack_115 : decode cX7_pack 115 = .ok (.iload_n 3, 1) := by decide +kernel
theorem dX7_pack_116 : decode cX7_pack 116 = .ok (.iaload, 1) := by decide +kernel
theorem dX7_pack_117 : decode cX7_pack 117 = .ok (.i2l, 1) := by decide +kernel
theorem dX7_pack_118 : decode cX7_pack 118 = .ok (.iload_n 2, 1) := by decide +kernel
theorem dX7_pack_119 : decode cX7_pack 119 = .ok (.ifCond .ne 7, 3) := by decide +kernel
theorem dX7_pack_122 : decode cX7_pack 122 = .ok (.iconst 0, 1) := by decide +kernel
theorem dX7_pack_123 : decode cX7_pack 123 = .ok (.goto 19, 3) := by decide +kernel
theorem dX7_pack_126 : decode cX7_pack 126 = .ok (.aload_n 0, 1) := by decide +kernel
theorem dX7_pack_127 : decode cX7_pack 127 = .ok (.getfield 22, 3) := by decide +kernel
theorem dX7_pack_130 : decode cX7_pack 130 = .ok (.iload_n 2, 1) := by decide +kernel
theorem dX7_pack_131 : decode cX7_pack 131 = .ok (.ifCond .ne 7, 3) := by decide +kernel
theorem dX7_pack_134 : decode cX7_pack 134 = .ok (.iload_n 3, 1) := by decide +kernel
theorem dX7_pack_135 : decode cX7_pack 135 = .ok (.goto 6, 3) := by decide +kernel
theorem dX7_pack_138 : decode cX7_pack 138 = .ok (.iload_n 3, 1) := by decide +kernel
theorem dX7_pack_139 : decode cX7_pack 139 = .ok (.iconst 1, 1) := by decide +kernel
theorem dX7_pack_140 : decode cX7_pack 140 = .ok (.isub, 1) := by decide +kernel
theorem dX7_pack_141 : decode cX7_pack 141 = .ok (.iaload, 1) := by decide +kernel
theorem dX7_pack_142 : decode cX7_pack 142 = .ok (.i2l, 1) := by decide +kernel
theorem dX7_pack_143 : decode cX7_pack 143 = .ok (.lsub, 1) := by decide +kernel
theorem dX7_pack_144 : decode cX7_pack 144 = .ok (.invokestatic 106, 3) := by decide +kernel
theorem dX7_pack_147 : decode cX7_pack 147 = .ok (.invokevirtual 102, 3) := by decide +kernel
theorem dX7_pack_150 : decode cX7_pack 150 = .ok (.aload_n 0, 1) := by decide +kernel
theorem dX7_pack_151 : decode cX7_pack 151 = .ok (.aload_n 0, 1) := by decide +kernel
theorem dX7_pack_152 : decode cX7_pack 152 = .ok (.getfield 25, 3) := by decide +kernel
theorem dX7_pack_155 : decode cX7_pack 155 = .ok (.iload_n 3, 1) := by decide +kernel
theorem dX7_pack_156 : decode cX7_pack 156 = .ok (.iaload, 1) := by decide +kernel
theorem dX7_pack_157 : decode cX7_pack 157 = .ok (.i2l, 1) := by decide +kernel
theorem dX7_pack_158 : decode cX7_pack 158 = .ok (.iload_n 2, 1) := by decide +kernel
theorem dX7_pack_159 : decode cX7_pack 159 = .ok (.ifCond .ne 7, 3) := by decide +kernel
theorem dX7_pack_162 : decode cX7_pack 162 = .ok (.iconst 0, 1) := by decide +kernel
theorem dX7_pack_163 : decode cX7_pack 163 = .ok (.goto 19, 3) := by decide +kernel
theorem dX7_pack_166 : decode cX7_pack 166 = .ok (.aload_n 0, 1) := by decide +kernel
theorem dX7_pack_167 : decode cX7_pack 167 = .ok (.getfield 25, 3) := by decide +kernel
theorem dX7_pack_170 : decode cX7_pack 170 = .ok (.iload_n 2, 1) := by decide +kernel
theorem dX7_pack_171 : decode cX7_pack 171 = .ok (.ifCond .ne 7, 3) := by decide +kernel
theorem dX7_pack_174 : decode cX7_pack 174 = .ok (.iload_n 3, 1) := by decide +kernel
theorem dX7_pack_175 : decode cX7_pack 175 = .ok (.goto 6, 3) := by decide +kernel
theorem dX7_pack_178 : decode cX7_pack 178 = .ok (.iload_n 3, 1) := by decide +kernel
theorem dX7_pack_179 : decode cX7_pack 179 = .ok (.iconst 1, 1) := by decide +kernel
theorem dX7_pack_180 : decode cX7_pack 180 = .ok (.isub, 1) := by decide +kernel
theorem dX7_pack_181 : decode cX7_pack 181 = .ok (.iaload, 1) := by decide +kernel
theorem dX7_pack_182 : decode cX7_pack 182 = .ok (.i2l, 1) := by decide +kernel
theorem dX7_pack_183 : decode cX7_pack 183 = .ok (.lsub, 1) := by decide +kernel
theorem dX7_pack_184 : decode cX7_pack 184 = .ok (.invokestatic 106, 3) := by decide +kernel
theorem dX7_pack_187 : decode cX7_pack 187 = .ok (.invokevirtual 102, 3) := by decide +kernel
theorem dX7_pack_190 : decode cX7_pack 190 = .ok (.iinc 2 1, 3) := by decide +kernel
theorem dX7_pack_193 : decode cX7_pack 193 = .ok (.goto (-137), 3) := by decide +kernel
theorem dX7_pack_196 : decode cX7_pack 196 = .ok (.aload_n 0, 1) := by decide +kernel
theorem dX7_pack_197 : decode cX7_pack 197 = .ok (.getfield 95, 3) := by decide +kernel
theorem dX7_pack_200 : decode cX7_pack 200 = .ok (.ireturn, 1) := by decide +kernel
theorem dX7_bytes_0 : decode cX7_bytes 0 = .ok (.aload_n 0, 1) := by decide +kernel
theorem dX7_bytes_1 : decode cX7_bytes 1 = .ok (.iconst 0, 1) := by decide +kernel
theorem dX7_bytes_2 : decode cX7_bytes 2 = .ok (.putfield 56, 3) := by decide +kernel
theorem dX7_bytes_5 : decode cX7_bytes 5 = .ok (.iload_n 1, 1) := by decide +kernel
theorem dX7_bytes_6 : decode cX7_bytes 6 = .ok (.iconst (-1), 1) := by decide +kernel
theorem dX7_bytes_7 : decode cX7_bytes 7 = .ok (.if_icmp .ne 10, 3) := by decide +kernel
theorem dX7_bytes_10 : decode cX7_bytes 10 = .ok (.aload_n 0, 1) := by decide +kernel
theorem dX7_bytes_11 : decode cX7_bytes 11 = .ok (.getfield 95, 3) := by decide +kernel
theorem dX7_bytes_14 : decode cX7_bytes 14 = .ok (.goto 25, 3) := by decide +kernel
theorem dX7_bytes_17 : decode cX7_bytes 17 = .ok (.iload_n 1, 1) := by decide +kernel
theorem dX7_bytes_18 : decode cX7_bytes 18 = .ok (.ifCond .lt 11, 3) := by decide +kernel
theorem dX7_bytes_21 : decode cX7_bytes 21 = .ok (.iload_n 1, 1) := by decide +kernel
theorem dX7_bytes_22 : decode cX7_bytes 22 = .ok (.aload_n 0, 1) := by decide +kernel
theorem dX7_bytes_23 : decode cX7_bytes 23 = .ok (.getfield 95, 3) := by decide +kernel
theorem dX7_bytes_26 : decode cX7_bytes 26 = .ok (.if_icmp .lt 7, 3) := by decide +kernel
theorem dX7_bytes_29 : decode cX7_bytes 29 = .ok (.iconst (-1), 1) := by decide +kernel
theorem dX7_bytes_30 : decode cX7_bytes 30 = .ok (.goto 9, 3) := by decide +kernel
theorem dX7_bytes_33 : decode cX7_bytes 33 = .ok (.aload_n 0, 1) := by decide +kernel
theorem dX7_bytes_34 : decode cX7_bytes 34 = .ok (.getfield 31, 3) := by decide +kernel
theorem dX7_bytes_37 : decode cX7_bytes 37 = .ok (.iload_n 1, 1) := by decide +kernel
theorem dX7_bytes_38 : decode cX7_bytes 38 = .ok (.iaload, 1) := by decide +kernel
theorem dX7_bytes_39 : decode cX7_bytes 39 = .ok (.ireturn, 1) := by decide +kernel
theorem dX7_put_0 : decode cX7_put 0 = .ok (.aload_n 0, 1) := by decide +kernel
theorem dX7_put_1 : decode cX7_put 1 = .ok (.iconst 0, 1) := by decide +kernel
theorem dX7_put_2 : decode cX7_put 2 = .ok (.putfield 56, 3) := by decide +kernel
theorem dX7_put_5 : decode cX7_put 5 = .ok (.iload_n 1, 1) := by decide +kernel
theorem dX7_put_6 : decode cX7_put 6 = .ok (.iconst 1, 1) := by decide +kernel
theorem dX7_put_7 : decode cX7_put 7 = .ok (.if_icmp .lt 21, 3) := by decide +kernel
theorem dX7_put_10 : decode cX7_put 10 = .ok (.iload_n 1, 1) := by decide +kernel
theorem dX7_put_11 : decode cX7_put 11 = .ok (.bipush 8, 2) := by decide +kernel
theorem dX7_put_13 : decode cX7_put 13 = .ok (.if_icmp .gt 15, 3) := by decide +kernel
theorem dX7_put_16 : decode cX7_put 16 = .ok (.aload_n 0, 1) := by decide +kernel
theorem dX7_put_17 : decode cX7_put 17 = .ok (.getfield 95, 3) := by decide +kernel
theorem dX7_put_20 : decode cX7_put 20 = .ok (.iload_n 1, 1) := by decide +kernel
theorem dX7_put_21 : decode cX7_put 21 = .ok (.iadd, 1) := by decide +kernel
theorem dX7_put_22 : decode cX7_put 22 = .ok (.sipush 300, 3) := by decide +kernel
theorem dX7_put_25 : decode cX7_put 25 = .ok (.if_icmp .le 5, 3) := by decide +kernel
theorem dX7_put_28 : decode cX7_put 28 = .ok (.iconst 0, 1) := by decide +kernel
theorem dX7_put_29 : decode cX7_put 29 = .ok (.ireturn, 1) := by decide +kernel
theorem dX7_put_30 : decode cX7_put 30 = .ok (.iload_n 1, 1) := by decide +kernel
theorem dX7_put_31 : decode cX7_put 31 = .ok (.iconst 1, 1) := by decide +kernel
theorem dX7_put_32 : decode cX7_put 32 = .ok (.isub, 1) := by decide +kernel
theorem dX7_put_33 : decode cX7_put 33 = .ok (.istore 4, 2) := by decide +kernel
theorem dX7_put_35 : decode cX7_put 35 = .ok (.iload 4, 2) := by decide +kernel
theorem dX7_put_37 : decode cX7_put 37 = .ok (.ifCond .lt 40, 3) := by decide +kernel
theorem dX7_put_40 : decode cX7_put 40 = .ok (.aload_n 0, 1) := by decide +kernel
theorem dX7_put_41 : decode cX7_put 41 = .ok (.getfield 31, 3) := by decide +kernel
theorem dX7_put_44 : decode cX7_put 44 = .ok (.aload_n 0, 1) := by decide +kernel
theorem dX7_put_45 : decode cX7_put 45 = .ok (.getfield 95, 3) := by decide +kernel
theorem dX7_put_48 : decode cX7_put 48 = .ok (.lload_n 2, 1) := by decide +kernel
theorem dX7_put_49 : decode cX7_put 49 = .ok (.bipush 8, 2) := by decide +kernel
theorem dX7_put_51 : decode cX7_put 51 = .ok (.iload 4, 2) := by decide +kernel
theorem dX7_put_53 : decode cX7_put 53 = .ok (.imul, 1) := by decide +kernel
theorem dX7_put_54 : decode cX7_put 54 = .ok (.lshr, 1) := by decide +kernel
theorem dX7_put_55 : decode cX7_put 55 = .ok (.l2i, 1) := by decide +kernel
theorem dX7_put_56 : decode cX7_put 56 = .ok (.sipush 255, 3) := by decide +kernel
theorem dX7_put_59 : decode cX7_put 59 = .ok (.iand, 1) := by decide +kernel
theorem dX7_put_60 : decode cX7_put 60 = .ok (.iastore, 1) := by decide +kernel
theorem dX7_put_61 : decode cX7_put 61 = .ok (.aload_n 0, 1) := by decide +kernel
theorem dX7_put_62 : decode cX7_put 62 = .ok (.dup, 1) := by decide +kernel
theorem dX7_put_63 : decode cX7_put 63 = .ok (.getfield 95, 3) := by decide +kernel
theorem dX7_put_66 : decode cX7_put 66 = .ok (.iconst 1, 1) := by decide +kernel
theorem dX7_put_67 : decode cX7_put 67 = .ok (.iadd, 1) := by decide +kernel
theorem dX7_put_68 : decode cX7_put 68 = .ok (.putfield 95, 3) := by decide +kernel
theorem dX7_put_71 : decode cX7_put 71 = .ok (.iinc 4 (-1), 3) := by decide +kernel
theorem dX7_put_74 : decode cX7_put 74 = .ok (.goto (-39), 3) := by decide +kernel
theorem dX7_put_77 : decode cX7_put 77 = .ok (.iconst 1, 1) := by decide +kernel
theorem dX7_put_78 : decode cX7_put 78 = .ok (.ireturn, 1) := by decide +kernel
theorem dX7_cut_0 : decode cX7_cut 0 = .ok (.aload_n 0, 1) := by decide +kernel
theorem dX7_cut_1 : decode cX7_cut 1 = .ok (.iconst 0, 1) := by decide +kernel
theorem dX7_cut_2 : decode cX7_cut 2 = .ok (.putfield 56, 3) := by decide +kernel
theorem dX7_cut_5 : decode cX7_cut 5 = .ok (.iload_n 1, 1) := by decide +kernel
theorem dX7_cut_6 : decode cX7_cut 6 = .ok (.ifCond .lt 11, 3) := by decide +kernel
theorem dX7_cut_9 : decode cX7_cut 9 = .ok (.iload_n 1, 1) := by decide +kernel
theorem dX7_cut_10 : decode cX7_cut 10 = .ok (.aload_n 0, 1) := by decide +kernel
theorem dX7_cut_11 : decode cX7_cut 11 = .ok (.getfield 95, 3) := by decide +kernel
theorem dX7_cut_14 : decode cX7_cut 14 = .ok (.if_icmp .le 5, 3) := by decide +kernel
theorem dX7_cut_17 : decode cX7_cut 17 = .ok (.iconst 0, 1) := by decide +kernel
theorem dX7_cut_18 : decode cX7_cut 18 = .ok (.ireturn, 1) := by decide +kernel
theorem dX7_cut_19 : decode cX7_cut 19 = .ok (.aload_n 0, 1) := by decide +kernel
theorem dX7_cut_20 : decode cX7_cut 20 = .ok (.iload_n 1, 1) := by decide +kernel
theorem dX7_cut_21 : decode cX7_cut 21 = .ok (.putfield 95, 3) := by decide +kernel
theorem dX7_cut_24 : decode cX7_cut 24 = .ok (.iconst 1, 1) := by decide +kernel
theorem dX7_cut_25 : decode cX7_cut 25 = .ok (.ireturn, 1) := by decide +kernel
theorem dX7_take_0 : decode cX7_take 0 = .ok (.aload_n 0, 1) := by decide +kernel
theorem dX7_take_1 : decode cX7_take 1 = .ok (.lconst 0, 1) := by decide +kernel
theorem dX7_take_2 : decode cX7_take 2 = .ok (.putfield 109, 3) := by decide +kernel
theorem dX7_take_5 : decode cX7_take 5 = .ok (.lconst 1, 1) := by decide +kernel
theorem dX7_take_6 : decode cX7_take 6 = .ok (.lstore 7, 2) := by decide +kernel
theorem dX7_take_8 : decode cX7_take 8 = .ok (.aload_n 0, 1) := by decide +kernel
theorem dX7_take_9 : decode cX7_take 9 = .ok (.getfield 113, 3) := by decide +kernel
theorem dX7_take_12 : decode cX7_take 12 = .ok (.aload_n 0, 1) := by decide +kernel
theorem dX7_take_13 : decode cX7_take 13 = .ok (.getfield 95, 3) := by decide +kernel
theorem dX7_take_16 : decode cX7_take 16 = .ok (.if_icmp .ge 155, 3) := by decide +kernel
theorem dX7_take_19 : decode cX7_take 19 = .ok (.aload_n 0, 1) := by decide +kernel
theorem dX7_take_20 : decode cX7_take 20 = .ok (.getfield 31, 3) := by decide +kernel
theorem dX7_take_23 : decode cX7_take 23 = .ok (.aload_n 0, 1) := by decide +kernel
theorem dX7_take_24 : decode cX7_take 24 = .ok (.getfield 113, 3) := by decide +kernel
theorem dX7_take_27 : decode cX7_take 27 = .ok (.iaload, 1) := by decide +kernel
theorem dX7_take_28 : decode cX7_take 28 = .ok (.istore 9, 2) := by decide +kernel
theorem dX7_take_30 : decode cX7_take 30 = .ok (.aload_n 0, 1) := by decide +kernel
theorem dX7_take_31 : decode cX7_take 31 = .ok (.dup, 1) := by decide +kernel
theorem dX7_take_32 : decode cX7_take 32 = .ok (.getfield 109, 3) := by decide +kernel
theorem dX7_take_35 : decode cX7_take 35 = .ok (.iload 9, 2) := by decide +kernel
theorem dX7_take_37 : decode cX7_take 37 = .ok (.bipush 127, 2) := by decide +kernel
theorem dX7_take_39 : decode cX7_take 39 = .ok (.iand, 1) := by decide +kernel
theorem dX7_take_40 : decode cX7_take 40 = .ok (.i2l, 1) := by decide +kernel
theorem dX7_take_41 : decode cX7_take 41 = .ok (.lload 7, 2) := by decide +kernel
theorem dX7_take_43 : decode cX7_take 43 = .ok (.lmul, 1) := by decide +kernel
theorem dX7_take_44 : decode cX7_take 44 = .ok (.ladd, 1) := by decide +kernel
theorem dX7_take_45 : decode cX7_take 45 = .ok (.putfield 109, 3) := by decide +kernel
theorem dX7_take_48 : decode cX7_take 48 = .ok (.aload_n 0, 1) := by decide +kernel
theorem dX7_take_49 : decode cX7_take 49 = .ok (.getfield 109, 3) := by decide +kernel
theorem dX7_take_52 : decode cX7_take 52 = .ok (.lconst 1, 1) := by decide +kernel
theorem dX7_take_53 : decode cX7_take 53 = .ok (.land, 1) := by decide +kernel
theorem dX7_take_54 : decode cX7_take 54 = .ok (.lconst 0, 1) := by decide +kernel
theorem dX7_take_55 : decode cX7_take 55 = .ok (.lcmp, 1) := by decide +kernel
theorem dX7_take_56 : decode cX7_take 56 = .ok (.ifCond .ne 7, 3) := by decide +kernel
theorem dX7_take_59 : decode cX7_take 59 = .ok (.lload_n 3, 1) := by decide +kernel
theorem dX7_take_60 : decode cX7_take 60 = .ok (.goto 5, 3) := by decide +kernel
theorem dX7_take_63 : decode cX7_take 63 = .ok (.lload 5, 2) := by decide +kernel
theorem dX7_take_65 : decode cX7_take 65 = .ok (.lstore 10, 2) := by decide +kernel
theorem dX7_take_67 : decode cX7_take 67 = .ok (.iload 9, 2) := by decide +kernel
theorem dX7_take_69 : decode cX7_take 69 = .ok (.sipush 128, 3) := by decide +kernel
theorem dX7_take_72 : decode cX7_take 72 = .ok (.if_icmp .ge 63, 3) := by decide +kernel
theorem dX7_take_75 : decode cX7_take 75 = .ok (.aload_n 0, 1) := by decide +kernel
theorem dX7_take_76 : decode cX7_take 76 = .ok (.getfield 109, 3) := by decide +kernel
theorem dX7_take_79 : decode cX7_take 79 = .ok (.lload_n 1, 1) := by decide +kernel
theorem dX7_take_80 : decode cX7_take 80 = .ok (.lcmp, 1) := by decide +kernel
theorem dX7_take_81 : decode cX7_take 81 = .ok (.ifCond .lt 29, 3) := by decide +kernel
theorem dX7_take_84 : decode cX7_take 84 = .ok (.aload_n 0, 1) := by decide +kernel
theorem dX7_take_85 : decode cX7_take 85 = .ok (.getfield 109, 3) := by decide +kernel
theorem dX7_take_88 : decode cX7_take 88 = .ok (.lload 10, 2) := by decide +kernel
theorem dX7_take_90 : decode cX7_take 90 = .ok (.lcmp, 1) := by decide +kernel
theorem dX7_take_91 : decode cX7_take 91 = .ok (.ifCond .gt 19, 3) := by decide +kernel
theorem dX7_take_94 : decode cX7_take 94 = .ok (.iload 9, 2) := by decide +kernel
theorem dX7_take_96 : decode cX7_take 96 = .ok (.ifCond .gt 10, 3) := by decide +kernel
theorem dX7_take_99 : decode cX7_take 99 = .ok (.lload 7, 2) := by decide +kernel
theorem dX7_take_101 : decode cX7_take 101 = .ok (.lconst 1, 1) := by decide +kernel
theorem dX7_take_102 : decode cX7_take 102 = .ok (.lcmp, 1) := by decide +kernel
theorem dX7_take_103 : decode cX7_take 103 = .ok (.ifCond .ne 7, 3) := by decide +kernel
theorem dX7_take_106 : decode cX7_take 106 = .ok (.iconst 1, 1) := by decide +kernel
theorem dX7_take_107 : decode cX7_take 107 = .ok (.goto 4, 3) := by decide +kernel
theorem dX7_take_110 : decode cX7_take 110 = .ok (.iconst 0, 1) := by decide +kernel
theorem dX7_take_111 : decode cX7_take 111 = .ok (.istore 12, 2) := by decide +kernel
theorem dX7_take_113 : decode cX7_take 113 = .ok (.aload_n 0, 1) := by decide +kernel
theorem dX7_take_114 : decode cX7_take 114 = .ok (.dup, 1) := by decide +kernel
theorem dX7_take_115 : decode cX7_take 115 = .ok (.getfield 113, 3) := by decide +kernel
theorem dX7_take_118 : decode cX7_take 118 = .ok (.iload 12, 2) := by decide +kernel
theorem dX7_take_120 : decode cX7_take 120 = .ok (.ifCond .eq 7, 3) := by decide +kernel
theorem dX7_take_123 : decode cX7_take 123 = .ok (.iconst 1, 1) := by decide +kernel
theorem dX7_take_124 : decode cX7_take 124 = .ok (.goto 4, 3) := by decide +kernel
theorem dX7_take_127 : decode cX7_take 127 = .ok (.iconst 0, 1) := by decide +kernel
theorem dX7_take_128 : decode cX7_take 128 = .ok (.iadd, 1) := by decide +kernel
theorem dX7_take_129 : decode cX7_take 129 = .ok (.putfield 113, 3) := by decide +kernel
theorem dX7_take_132 : decode cX7_take 132 = .ok (.iload 12, 2) := by decide +kernel
theorem dX7_take_134 : decode cX7_take 134 = .ok (.ireturn, 1) := by decide +kernel
theorem dX7_take_135 : decode cX7_take 135 = .ok (.lload 7, 2) := by decide +kernel
theorem dX7_take_137 : decode cX7_take 137 = .ok (.ldc2_w 116, 3) := by decide +kernel
theorem dX7_take_140 : decode cX7_take 140 = .ok (.lmul, 1) := by decide +kernel
theorem dX7_take_141 : decode cX7_take 141 = .ok (.lstore 7, 2) := by decide +kernel
theorem dX7_take_143 : decode cX7_take 143 = .ok (.aload_n 0, 1) := by decide +kernel
theorem dX7_take_144 : decode cX7_take 144 = .ok (.getfield 109, 3) := by decide +kernel
theorem dX7_take_147 : decode cX7_take 147 = .ok (.lload 7, 2) := by decide +kernel
theorem dX7_take_149 : decode cX7_take 149 = .ok (.ladd, 1) := by decide +kernel
theorem dX7_take_150 : decode cX7_take 150 = .ok (.lload 10, 2) := by decide +kernel
theorem dX7_take_152 : decode cX7_take 152 = .ok (.lcmp, 1) := by decide +kernel
theorem dX7_take_153 : decode cX7_take 153 = .ok (.ifCond .le 5, 3) := by decide +kernel
theorem dX7_take_156 : decode cX7_take 156 = .ok (.iconst 0, 1) := by decide +kernel
theorem dX7_take_157 : decode cX7_take 157 = .ok (.ireturn, 1) := by decide +kernel
theorem dX7_take_158 : decode cX7_take 158 = .ok (.aload_n 0, 1) := by decide +kernel
theorem dX7_take_159 : decode cX7_take 159 = .ok (.dup, 1) := by decide +kernel
theorem dX7_take_160 : decode cX7_take 160 = .ok (.getfield 113, 3) := by decide +kernel
theorem dX7_take_163 : decode cX7_take 163 = .ok (.iconst 1, 1) := by decide +kernel
theorem dX7_take_164 : decode cX7_take 164 = .ok (.iadd, 1) := by decide +kernel
theorem dX7_take_165 : decode cX7_take 165 = .ok (.putfield 113, 3) := by decide +kernel
theorem dX7_take_168 : decode cX7_take 168 = .ok (.goto (-160), 3) := by decide +kernel
theorem dX7_take_171 : decode cX7_take 171 = .ok (.iconst 0, 1) := by decide +kernel
theorem dX7_take_172 : decode cX7_take 172 = .ok (.ireturn, 1) := by decide +kernel
theorem dX7_back_0 : decode cX7_back 0 = .ok (.lload_n 0, 1) := by decide +kernel
theorem dX7_back_1 : decode cX7_back 1 = .ok (.lconst 1, 1) := by decide +kernel
theorem dX7_back_2 : decode cX7_back 2 = .ok (.land, 1) := by decide +kernel
theorem dX7_back_3 : decode cX7_back 3 = .ok (.lconst 0, 1) := by decide +kernel
theorem dX7_back_4 : decode cX7_back 4 = .ok (.lcmp, 1) := by decide +kernel
theorem dX7_back_5 : decode cX7_back 5 = .ok (.ifCond .ne 11, 3) := by decide +kernel
theorem dX7_back_8 : decode cX7_back 8 = .ok (.lload_n 0, 1) := by decide +kernel
theorem dX7_back_9 : decode cX7_back 9 = .ok (.ldc2_w 100, 3) := by decide +kernel
theorem dX7_back_12 : decode cX7_back 12 = .ok (.ldiv, 1) := by decide +kernel
theorem dX7_back_13 : decode cX7_back 13 = .ok (.goto 11, 3) := by decide +kernel
theorem dX7_back_16 : decode cX7_back 16 = .ok (.lload_n 0, 1) := by decide +kernel
theorem dX7_back_17 : decode cX7_back 17 = .ok (.lconst 1, 1) := by decide +kernel
theorem dX7_back_18 : decode cX7_back 18 = .ok (.ladd, 1) := by decide +kernel
theorem dX7_back_19 : decode cX7_back 19 = .ok (.lneg, 1) := by decide +kernel
theorem dX7_back_20 : decode cX7_back 20 = .ok (.ldc2_w 100, 3) := by decide +kernel
theorem dX7_back_23 : decode cX7_back 23 = .ok (.ldiv, 1) := by decide +kernel
theorem dX7_back_24 : decode cX7_back 24 = .ok (.lreturn, 1) := by decide +kernel
set_option maxRecDepth 20000 in
theorem ggX7_takePlace_X7_take : GoodIn wsX7_takePlace wsX7_take := goodIn_r _ [8, 3, 9, 10, 11, 12, 16, 17, 18, 19, 20, 21, 22, 23, 24, 25, 26, 27, 28, 29, 30, 31, 32, 33, 34, 35, 36, 37, 38, 39] (by decide +kernel) (by decide +kernel)
set_option maxRecDepth 20000 in
theorem gX7_takePlace_X7_take : GoodIn wsX7_takePlace (wsV RX7 120 RX7 yX7_take wsX7_take) := goodIn_app (goodIn_of _ (by decide +kernel)) ggX7_takePlace_X7_take
set_option maxRecDepth 20000 in
theorem ggX7_takePlace_X7_back : GoodIn wsX7_takePlace wsX7_back := goodIn_r _ [15, 1] (by decide +kernel) (by decide +kernel)
set_option maxRecDepth 20000 in
theorem gX7_takePlace_X7_back : GoodIn wsX7_takePlace (va_wsS RX7 124 yX7_back wsX7_back) := goodIn_app (goodIn_of _ (by decide +kernel)) ggX7_takePlace_X7_back
theorem dX7_takePlace_0 : decode cX7_takePlace 0 = .ok (.aload_n 0, 1) := by decide +kernel
theorem dX7_takePlace_1 : decode cX7_takePlace 1 = .ok (.lconst 0, 1) := by decide +kernel
theorem dX7_takePlace_2 : decode cX7_takePlace 2 = .ok (.ldc2_w 100, 3) := by decide +kernel
theorem dX7_takePlace_5 : decode cX7_takePlace 5 = .ok (.ldc2_w 118, 3) := by decide +kernel
theorem dX7_takePlace_8 : decode cX7_takePlace 8 = .ok (.lload_n 1, 1) := by decide +kernel
theorem dX7_takePlace_9 : decode cX7_takePlace 9 = .ok (.lsub, 1) := by decide +kernel
theorem dX7_takePlace_10 : decode cX7_takePlace 10 = .ok (.lmul, 1) := by decide +kernel
theorem dX7_takePlace_11 : decode cX7_takePlace 11 = .ok (.ldc2_w 100, 3) := by decide +kernel
theorem dX7_takePlace_14 : decode cX7_takePlace 14 = .ok (.ldc2_w 118, 3) := by decide +kernel
theorem dX7_takePlace_17 : decode cX7_takePlace 17 = .ok (.lload_n 1, 1) := by decide +kernel
theorem dX7_takePlace_18 : decode cX7_takePlace 18 = .ok (.ladd, 1) := by decide +kernel
theorem dX7_takePlace_19 : decode cX7_takePlace 19 = .ok (.lmul, 1) := by decide +kernel
theorem dX7_takePlace_20 : decode cX7_takePlace 20 = .ok (.lconst 1, 1) := by decide +kernel
theorem dX7_takePlace_21 : decode cX7_takePlace 21 = .ok (.lsub, 1) := by decide +kernel
theorem dX7_takePlace_22 : decode cX7_takePlace 22 = .ok (.invokevirtual 120, 3) := by decide +kernel
theorem dX7_takePlace_25 : decode cX7_takePlace 25 = .ok (.ifCond .ne 5, 3) := by decide +kernel
theorem dX7_takePlace_28 : decode cX7_takePlace 28 = .ok (.iconst 0, 1) := by decide +kernel
theorem dX7_takePlace_29 : decode cX7_takePlace 29 = .ok (.ireturn, 1) := by decide +kernel
theorem dX7_takePlace_30 : decode cX7_takePlace 30 = .ok (.aload_n 0, 1) := by decide +kernel
theorem dX7_takePlace_31 : decode cX7_takePlace 31 = .ok (.lload_n 1, 1) := by decide +kernel
theorem dX7_takePlace_32 : decode cX7_takePlace 32 = .ok (.aload_n 0, 1) := by decide +kernel
theorem dX7_takePlace_33 : decode cX7_takePlace 33 = .ok (.getfield 109, 3) := by decide +kernel
theorem dX7_takePlace_36 : decode cX7_takePlace 36 = .ok (.invokestatic 124, 3) := by decide +kernel
theorem dX7_takePlace_39 : decode cX7_takePlace 39 = .ok (.ladd, 1) := by decide +kernel
theorem dX7_takePlace_40 : decode cX7_takePlace 40 = .ok (.putfield 109, 3) := by decide +kernel
theorem dX7_takePlace_43 : decode cX7_takePlace 43 = .ok (.iconst 1, 1) := by decide +kernel
theorem dX7_takePlace_44 : decode cX7_takePlace 44 = .ok (.ireturn, 1) := by decide +kernel
set_option maxRecDepth 20000 in
theorem ggX7_readAll_X7_take : GoodIn wsX7_readAll wsX7_take := goodIn_r _ [13, 3, 1, 8, 14, 15, 25, 26, 27, 28, 29, 30, 31, 32, 33, 34, 35, 36, 37, 38, 39, 40, 41, 42, 43, 44, 45, 46, 47, 48] (by decide +kernel) (by decide +kernel)
set_option maxRecDepth 20000 in
theorem gX7_readAll_X7_take : GoodIn wsX7_readAll (wsV RX7 120 RX7 yX7_take wsX7_take) := goodIn_app (goodIn_of _ (by decide +kernel)) ggX7_readAll_X7_take
set_option maxRecDepth 20000 in
theorem ggX7_readAll_X7_takePlace : GoodIn wsX7_readAll wsX7_takePlace := goodIn_r _ [19, 20, 21, 3, 9, 10, 11, 12, 13, 1, 8, 14, 15, 22, 23, 24, 25, 26, 27, 28, 29, 30, 31, 32, 33, 34, 35, 36, 37, 38, 39, 40, 41, 42, 43, 44, 45, 46, 47, 48] (by decide +kernel) (by decide +kernel)
set_option maxRecDepth 20000 in
theorem gX7_readAll_X7_takePlace : GoodIn wsX7_readAll (wsV RX7 131 RX7 yX7_takePlace wsX7_takePlace) := goodIn_app (goodIn_of _ (by decide +kernel)) ggX7_readAll_X7_takePlace
theorem dX7_readAll_0 : decode cX7_readAll 0 = .ok (.aload_n 0, 1) := by decide +kernel
theorem dX7_readAll_1 : decode cX7_readAll 1 = .ok (.iconst 0, 1) := by decide +kernel
theorem dX7_readAll_2 : decode cX7_readAll 2 = .ok (.putfield 113, 3) := by decide +kernel
theorem dX7_readAll_5 : decode cX7_readAll 5 = .ok (.aload_n 0, 1) := by decide +kernel
theorem dX7_readAll_6 : decode cX7_readAll 6 = .ok (.lconst 1, 1) := by decide +kernel
theorem dX7_readAll_7 : decode cX7_readAll 7 = .ok (.ldc2_w 127, 3) := by decide +kernel
theorem dX7_readAll_10 : decode cX7_readAll 10 = .ok (.ldc2_w 127, 3) := by decide +kernel
theorem dX7_readAll_13 : decode cX7_readAll 13 = .ok (.invokevirtual 120, 3) := by decide +kernel
theorem dX7_readAll_16 : decode cX7_readAll 16 = .ok (.ifCond .ne 5, 3) := by decide +kernel
theorem dX7_readAll_19 : decode cX7_readAll 19 = .ok (.iconst (-1), 1) := by decide +kernel
theorem dX7_readAll_20 : decode cX7_readAll 20 = .ok (.ireturn, 1) := by decide +kernel
theorem dX7_readAll_21 : decode cX7_readAll 21 = .ok (.aload_n 0, 1) := by decide +kernel
theorem dX7_readAll_22 : decode cX7_readAll 22 = .ok (.getfield 109, 3) := by decide +kernel
theorem dX7_readAll_25 : decode cX7_readAll 25 = .ok (.l2i, 1) := by decide +kernel
theorem dX7_readAll_26 : decode cX7_readAll 26 = .ok (.istore_n 1, 1) := by decide +kernel
theorem dX7_readAll_27 : decode cX7_readAll 27 = .ok (.lconst 0, 1) := by decide +kernel
theorem dX7_readAll_28 : decode cX7_readAll 28 = .ok (.lstore_n 2, 1) := by decide +kernel
theorem dX7_readAll_29 : decode cX7_readAll 29 = .ok (.lconst 0, 1) := by decide +kernel
theorem dX7_readAll_30 : decode cX7_readAll 30 = .ok (.lstore 4, 2) := by decide +kernel
theorem dX7_readAll_32 : decode cX7_readAll 32 = .ok (.lconst 0, 1) := by decide +kernel
theorem dX7_readAll_33 : decode cX7_readAll 33 = .ok (.lstore 6, 2) := by decide +kernel
theorem dX7_readAll_35 : decode cX7_readAll 35 = .ok (.iconst 0, 1) := by decide +kernel
theorem dX7_readAll_36 : decode cX7_readAll 36 = .ok (.istore 8, 2) := by decide +kernel
theorem dX7_readAll_38 : decode cX7_readAll 38 = .ok (.iload 8, 2) := by decide +kernel
theorem dX7_readAll_40 : decode cX7_readAll 40 = .ok (.iload_n 1, 1) := by decide +kernel
theorem dX7_readAll_41 : decode cX7_readAll 41 = .ok (.if_icmp .ge 117, 3) := by decide +kernel
theorem dX7_readAll_44 : decode cX7_readAll 44 = .ok (.ldc2_w 129, 3) := by decide +kernel
theorem dX7_readAll_47 : decode cX7_readAll 47 = .ok (.iload_n 1, 1) := by decide +kernel
theorem dX7_readAll_48 : decode cX7_readAll 48 = .ok (.iconst 1, 1) := by decide +kernel
theorem dX7_readAll_49 : decode cX7_readAll 49 = .ok (.isub, 1) := by decide +kernel
theorem dX7_readAll_50 : decode cX7_readAll 50 = .ok (.iload 8, 2) := by decide +kernel
theorem dX7_readAll_52 : decode cX7_readAll 52 = .ok (.isub, 1) := by decide +kernel
theorem dX7_readAll_53 : decode cX7_readAll 53 = .ok (.i2l, 1) := by decide +kernel
theorem dX7_readAll_54 : decode cX7_readAll 54 = .ok (.lsub, 1) := by decide +kernel
theorem dX7_readAll_55 : decode cX7_readAll 55 = .ok (.lload_n 2, 1) := by decide +kernel
theorem dX7_readAll_56 : decode cX7_readAll 56 = .ok (.lsub, 1) := by decide +kernel
theorem dX7_readAll_57 : decode cX7_readAll 57 = .ok (.lstore 9, 2) := by decide +kernel
theorem dX7_readAll_59 : decode cX7_readAll 59 = .ok (.aload_n 0, 1) := by decide +kernel
theorem dX7_readAll_60 : decode cX7_readAll 60 = .ok (.iload 8, 2) := by decide +kernel
theorem dX7_readAll_62 : decode cX7_readAll 62 = .ok (.ifCond .ne 7, 3) := by decide +kernel
theorem dX7_readAll_65 : decode cX7_readAll 65 = .ok (.lconst 0, 1) := by decide +kernel
theorem dX7_readAll_66 : decode cX7_readAll 66 = .ok (.goto 4, 3) := by decide +kernel
theorem dX7_readAll_69 : decode cX7_readAll 69 = .ok (.lconst 1, 1) := by decide +kernel
theorem dX7_readAll_70 : decode cX7_readAll 70 = .ok (.lload 9, 2) := by decide +kernel
theorem dX7_readAll_72 : decode cX7_readAll 72 = .ok (.lload 9, 2) := by decide +kernel
theorem dX7_readAll_74 : decode cX7_readAll 74 = .ok (.invokevirtual 120, 3) := by decide +kernel
theorem dX7_readAll_77 : decode cX7_readAll 77 = .ok (.ifCond .ne 5, 3) := by decide +kernel
theorem dX7_readAll_80 : decode cX7_readAll 80 = .ok (.iconst (-1), 1) := by decide +kernel
theorem dX7_readAll_81 : decode cX7_readAll 81 = .ok (.ireturn, 1) := by decide +kernel
theorem dX7_readAll_82 : decode cX7_readAll 82 = .ok (.lload_n 2, 1) := by decide +kernel
theorem dX7_readAll_83 : decode cX7_readAll 83 = .ok (.aload_n 0, 1) := by decide +kernel
theorem dX7_readAll_84 : decode cX7_readAll 84 = .ok (.getfield 109, 3) := by decide +kernel
theorem dX7_readAll_87 : decode cX7_readAll 87 = .ok (.ladd, 1) := by decide +kernel
theorem dX7_readAll_88 : decode cX7_readAll 88 = .ok (.lstore_n 2, 1) := by decide +kernel
theorem dX7_readAll_89 : decode cX7_readAll 89 = .ok (.aload_n 0, 1) := by decide +kernel
theorem dX7_readAll_90 : decode cX7_readAll 90 = .ok (.lload 4, 2) := by decide +kernel
theorem dX7_readAll_92 : decode cX7_readAll 92 = .ok (.invokevirtual 131, 3) := by decide +kernel
theorem dX7_readAll_95 : decode cX7_readAll 95 = .ok (.ifCond .ne 5, 3) := by decide +kernel
theorem dX7_readAll_98 : decode cX7_readAll 98 = .ok (.iconst (-1), 1) := by decide +kernel
theorem dX7_readAll_99 : decode cX7_readAll 99 = .ok (.ireturn, 1) := by decide +kernel
theorem dX7_readAll_100 : decode cX7_readAll 100 = .ok (.aload_n 0, 1) := by decide +kernel
theorem dX7_readAll_101 : decode cX7_readAll 101 = .ok (.getfield 109, 3) := by decide +kernel
theorem dX7_readAll_104 : decode cX7_readAll 104 = .ok (.lstore 4, 2) := by decide +kernel
theorem dX7_readAll_106 : decode cX7_readAll 106 = .ok (.aload_n 0, 1) := by decide +kernel
theorem dX7_readAll_107 : decode cX7_readAll 107 = .ok (.lload 6, 2) := by decide +kernel
theorem dX7_readAll_109 : decode cX7_readAll 109 = .ok (.invokevirtual 131, 3) := by decide +kernel
theorem dX7_readAll_112 : decode cX7_readAll 112 = .ok (.ifCond .ne 5, 3) := by decide +kernel
theorem dX7_readAll_115 : decode cX7_readAll 115 = .ok (.iconst (-1), 1) := by decide +kernel
theorem dX7_readAll_116 : decode cX7_readAll 116 = .ok (.ireturn, 1) := by decide +kernel
theorem dX7_readAll_117 : decode cX7_readAll 117 = .ok (.aload_n 0, 1) := by decide +kernel
theorem dX7_readAll_118 : decode cX7_readAll 118 = .ok (.getfield 109, 3) := by decide +kernel
theorem dX7_readAll_121 : decode cX7_readAll 121 = .ok (.lstore 6, 2) := by decide +kernel
theorem dX7_readAll_123 : decode cX7_readAll 123 = .ok (.aload_n 0, 1) := by decide +kernel
theorem dX7_readAll_124 : decode cX7_readAll 124 = .ok (.getfield 34, 3) := by decide +kernel
theorem dX7_readAll_127 : decode cX7_readAll 127 = .ok (.iload 8, 2) := by decide +kernel
theorem dX7_readAll_129 : decode cX7_readAll 129 = .ok (.lload_n 2, 1) := by decide +kernel
theorem dX7_readAll_130 : decode cX7_readAll 130 = .ok (.l2i, 1) := by decide +kernel
theorem dX7_readAll_131 : decode cX7_readAll 131 = .ok (.iastore, 1) := by decide +kernel
theorem dX7_readAll_132 : decode cX7_readAll 132 = .ok (.aload_n 0, 1) := by decide +kernel
theorem dX7_readAll_133 : decode cX7_readAll 133 = .ok (.getfield 37, 3) := by decide +kernel
theorem dX7_readAll_136 : decode cX7_readAll 136 = .ok (.iload 8, 2) := by decide +kernel
theorem dX7_readAll_138 : decode cX7_readAll 138 = .ok (.lload 4, 2) := by decide +kernel
theorem dX7_readAll_140 : decode cX7_readAll 140 = .ok (.l2i, 1) := by decide +kernel
theorem dX7_readAll_141 : decode cX7_readAll 141 = .ok (.iastore, 1) := by decide +kernel
theorem dX7_readAll_142 : decode cX7_readAll 142 = .ok (.aload_n 0, 1) := by decide +kernel
theorem dX7_readAll_143 : decode cX7_readAll 143 = .ok (.getfield 40, 3) := by decide +kernel
theorem dX7_readAll_146 : decode cX7_readAll 146 = .ok (.iload 8, 2) := by decide +kernel
theorem dX7_readAll_148 : decode cX7_readAll 148 = .ok (.lload 6, 2) := by decide +kernel
theorem dX7_readAll_150 : decode cX7_readAll 150 = .ok (.l2i, 1) := by decide +kernel
theorem dX7_readAll_151 : decode cX7_readAll 151 = .ok (.iastore, 1) := by decide +kernel
theorem dX7_readAll_152 : decode cX7_readAll 152 = .ok (.iinc 8 1, 3) := by decide +kernel
theorem dX7_readAll_155 : decode cX7_readAll 155 = .ok (.goto (-117), 3) := by decide +kernel
theorem dX7_readAll_158 : decode cX7_readAll 158 = .ok (.aload_n 0, 1) := by decide +kernel
theorem dX7_readAll_159 : decode cX7_readAll 159 = .ok (.getfield 113, 3) := by decide +kernel
theorem dX7_readAll_162 : decode cX7_readAll 162 = .ok (.aload_n 0, 1) := by decide +kernel
theorem dX7_readAll_163 : decode cX7_readAll 163 = .ok (.getfield 95, 3) := by decide +kernel
theorem dX7_readAll_166 : decode cX7_readAll 166 = .ok (.if_icmp .ge 7, 3) := by decide +kernel
theorem dX7_readAll_169 : decode cX7_readAll 169 = .ok (.iconst (-1), 1) := by decide +kernel
theorem dX7_readAll_170 : decode cX7_readAll 170 = .ok (.goto 4, 3) := by decide +kernel
theorem dX7_readAll_173 : decode cX7_readAll 173 = .ok (.iload_n 1, 1) := by decide +kernel
theorem dX7_readAll_174 : decode cX7_readAll 174 = .ok (.ireturn, 1) := by decide +kernel
set_option maxRecDepth 20000 in
theorem ggX7_unpack_X7_isTrack : GoodIn wsX7_unpack wsX7_isTrack := goodIn_r _ [16] (by decide +kernel) (by decide +kernel)
set_option maxRecDepth 20000 in
theorem gX7_unpack_X7_isTrack : GoodIn wsX7_unpack (va_wsS RX7 60 yX7_isTrack wsX7_isTrack) := goodIn_app (goodIn_of _ (by decide +kernel)) ggX7_unpack_X7_isTrack
set_option maxRecDepth 20000 in
theorem ggX7_unpack_X7_is : GoodIn wsX7_unpack wsX7_is := goodIn_r _ [20, 12, 13, 14, 15, 16, 44, 45, 46, 47, 48, 49, 50, 51, 52, 53, 54, 55, 56, 57, 58, 59, 60, 61, 62, 63, 64, 65, 66, 67] (by decide +kernel) (by decide +kernel)
set_option maxRecDepth 20000 in
theorem gX7_unpack_X7_is : GoodIn wsX7_unpack (wsV RX7 64 RX7 yX7_is wsX7_is) := goodIn_app (goodIn_of _ (by decide +kernel)) ggX7_unpack_X7_is
set_option maxRecDepth 20000 in
theorem ggX7_unpack_X7_readAll : GoodIn wsX7_unpack wsX7_readAll := goodIn_r _ [24, 3, 25, 26, 27, 5, 7, 9, 28, 29, 30, 31, 15, 32, 33, 34, 35, 36, 37, 38, 39, 40, 41, 42, 43, 44, 45, 46, 47, 48, 49, 50, 51, 52, 53, 54, 55, 56, 57, 58, 59, 60, 61, 62, 63, 64, 65, 66, 67] (by decide +kernel) (by decide +kernel)
set_option maxRecDepth 20000 in
theorem gX7_unpack_X7_readAll : GoodIn wsX7_unpack (wsV RX7 135 RX7 yX7_readAll wsX7_readAll) := goodIn_app (goodIn_of _ (by decide +kernel)) ggX7_unpack_X7_readAll
theorem dX7_unpack_0 : decode cX7_unpack 0 = .ok (.aload_n 0, 1) := by decide +kernel
theorem dX7_unpack_1 : decode cX7_unpack 1 = .ok (.iload_n 1, 1) := by decide +kernel
theorem dX7_unpack_2 : decode cX7_unpack 2 = .ok (.invokestatic 60, 3) := by decide +kernel
theorem dX7_unpack_5 : decode cX7_unpack 5 = .ok (.ifCond .ne 7, 3) := by decide +kernel
theorem dX7_unpack_8 : decode cX7_unpack 8 = .ok (.iconst 1, 1) := by decide +kernel
theorem dX7_unpack_9 : decode cX7_unpack 9 = .ok (.goto 31, 3) := by decide +kernel
theorem dX7_unpack_12 : decode cX7_unpack 12 = .ok (.aload_n 0, 1) := by decide +kernel
theorem dX7_unpack_13 : decode cX7_unpack 13 = .ok (.iload_n 1, 1) := by decide +kernel
theorem dX7_unpack_14 : decode cX7_unpack 14 = .ok (.iconst 0, 1) := by decide +kernel
theorem dX7_unpack_15 : decode cX7_unpack 15 = .ok (.invokevirtual 64, 3) := by decide +kernel
theorem dX7_unpack_18 : decode cX7_unpack 18 = .ok (.ifCond .ne 7, 3) := by decide +kernel
theorem dX7_unpack_21 : decode cX7_unpack 21 = .ok (.iconst 2, 1) := by decide +kernel
theorem dX7_unpack_22 : decode cX7_unpack 22 = .ok (.goto 18, 3) := by decide +kernel
theorem dX7_unpack_25 : decode cX7_unpack 25 = .ok (.iload_n 2, 1) := by decide +kernel
theorem dX7_unpack_26 : decode cX7_unpack 26 = .ok (.ifCond .lt 9, 3) := by decide +kernel
theorem dX7_unpack_29 : decode cX7_unpack 29 = .ok (.iload_n 2, 1) := by decide +kernel
theorem dX7_unpack_30 : decode cX7_unpack 30 = .ok (.ldc 85, 2) := by decide +kernel
theorem dX7_unpack_32 : decode cX7_unpack 32 = .ok (.if_icmp .le 7, 3) := by decide +kernel
theorem dX7_unpack_35 : decode cX7_unpack 35 = .ok (.iconst 3, 1) := by decide +kernel
theorem dX7_unpack_36 : decode cX7_unpack 36 = .ok (.goto 4, 3) := by decide +kernel
theorem dX7_unpack_39 : decode cX7_unpack 39 = .ok (.iconst 0, 1) := by decide +kernel
theorem dX7_unpack_40 : decode cX7_unpack 40 = .ok (.putfield 56, 3) := by decide +kernel
theorem dX7_unpack_43 : decode cX7_unpack 43 = .ok (.aload_n 0, 1) := by decide +kernel
theorem dX7_unpack_44 : decode cX7_unpack 44 = .ok (.getfield 56, 3) := by decide +kernel
theorem dX7_unpack_47 : decode cX7_unpack 47 = .ok (.ifCond .le 5, 3) := by decide +kernel
theorem dX7_unpack_50 : decode cX7_unpack 50 = .ok (.iconst 0, 1) := by decide +kernel
theorem dX7_unpack_51 : decode cX7_unpack 51 = .ok (.ireturn, 1) := by decide +kernel
theorem dX7_unpack_52 : decode cX7_unpack 52 = .ok (.aload_n 0, 1) := by decide +kernel
theorem dX7_unpack_53 : decode cX7_unpack 53 = .ok (.invokevirtual 135, 3) := by decide +kernel
theorem dX7_unpack_56 : decode cX7_unpack 56 = .ok (.istore_n 3, 1) := by decide +kernel
theorem dX7_unpack_57 : decode cX7_unpack 57 = .ok (.iload_n 3, 1) := by decide +kernel
theorem dX7_unpack_58 : decode cX7_unpack 58 = .ok (.ifCond .ge 11, 3) := by decide +kernel
theorem dX7_unpack_61 : decode cX7_unpack 61 = .ok (.bipush (-2), 2) := by decide +kernel
theorem dX7_unpack_63 : decode cX7_unpack 63 = .ok (.aload_n 0, 1) := by decide +kernel
theorem dX7_unpack_64 : decode cX7_unpack 64 = .ok (.getfield 113, 3) := by decide +kernel
theorem dX7_unpack_67 : decode cX7_unpack 67 = .ok (.isub, 1) := by decide +kernel
theorem dX7_unpack_68 : decode cX7_unpack 68 = .ok (.ireturn, 1) := by decide +kernel
theorem dX7_unpack_69 : decode cX7_unpack 69 = .ok (.iconst 0, 1) := by decide +kernel
theorem dX7_unpack_70 : decode cX7_unpack 70 = .ok (.istore 4, 2) := by decide +kernel
theorem dX7_unpack_72 : decode cX7_unpack 72 = .ok (.iload 4, 2) := by decide +kernel
theorem dX7_unpack_74 : decode cX7_unpack 74 = .ok (.iload_n 3, 1) := by decide +kernel
theorem dX7_unpack_75 : decode cX7_unpack 75 = .ok (.if_icmp .ge 66, 3) := by decide +kernel
theorem dX7_unpack_78 : decode cX7_unpack 78 = .ok (.aload_n 0, 1) := by decide +kernel
theorem dX7_unpack_79 : decode cX7_unpack 79 = .ok (.getfield 19, 3) := by decide +kernel
theorem dX7_unpack_82 : decode cX7_unpack 82 = .ok (.bipush 20, 2) := by decide +kernel
theorem dX7_unpack_84 : decode cX7_unpack 84 = .ok (.iload_n 1, 1) := by decide +kernel
theorem dX7_unpack_85 : decode cX7_unpack 85 = .ok (.imul, 1) := by decide +kernel
theorem dX7_unpack_86 : decode cX7_unpack 86 = .ok (.iload 4, 2) := by decide +kernel
theorem dX7_unpack_88 : decode cX7_unpack 88 = .ok (.iadd, 1) := by decide +kernel
theorem dX7_unpack_89 : decode cX7_unpack 89 = .ok (.aload_n 0, 1) := by decide +kernel
theorem dX7_unpack_90 : decode cX7_unpack 90 = .ok (.getfield 34, 3) := by decide +kernel
theorem dX7_unpack_93 : decode cX7_unpack 93 = .ok (.iload 4, 2) := by decide +kernel
theorem dX7_unpack_95 : decode cX7_unpack 95 = .ok (.iaload, 1) := by decide +kernel
theorem dX7_unpack_96 : decode cX7_unpack 96 = .ok (.iastore, 1) := by decide +kernel
theorem dX7_unpack_97 : decode cX7_unpack 97 = .ok (.aload_n 0, 1) := by decide +kernel
theorem dX7_unpack_98 : decode cX7_unpack 98 = .ok (.getfield 22, 3) := by decide +kernel
theorem dX7_unpack_101 : decode cX7_unpack 101 = .ok (.bipush 20, 2) := by decide +kernel
theorem dX7_unpack_103 : decode cX7_unpack 103 = .ok (.iload_n 1, 1) := by decide +kernel
theorem dX7_unpack_104 : decode cX7_unpack 104 = .ok (.imul, 1) := by decide +kernel
theorem dX7_unpack_105 : decode cX7_unpack 105 = .ok (.iload 4, 2) := by decide +kernel
theorem dX7_unpack_107 : decode cX7_unpack 107 = .ok (.iadd, 1) := by decide +kernel
theorem dX7_unpack_108 : decode cX7_unpack 108 = .ok (.aload_n 0, 1) := by decide +kernel
theorem dX7_unpack_109 : decode cX7_unpack 109 = .ok (.getfield 37, 3) := by decide +kernel
theorem dX7_unpack_112 : decode cX7_unpack 112 = .ok (.iload 4, 2) := by decide +kernel
theorem dX7_unpack_114 : decode cX7_unpack 114 = .ok (.iaload, 1) := by decide +kernel
theorem dX7_unpack_115 : decode cX7_unpack 115 = .ok (.iastore, 1) := by decide +kernel
theorem dX7_unpack_116 : decode cX7_unpack 116 = .ok (.aload_n 0, 1) := by decide +kernel
theorem dX7_unpack_117 : decode cX7_unpack 117 = .ok (.getfield 25, 3) := by decide +kernel
theorem dX7_unpack_120 : decode cX7_unpack 120 = .ok (.bipush 20, 2) := by decide +kernel
theorem dX7_unpack_122 : decode cX7_unpack 122 = .ok (.iload_n 1, 1) := by decide +kernel
theorem dX7_unpack_123 : decode cX7_unpack 123 = .ok (.imul, 1) := by decide +kernel
theorem dX7_unpack_124 : decode cX7_unpack 124 = .ok (.iload 4, 2) := by decide +kernel
theorem dX7_unpack_126 : decode cX7_unpack 126 = .ok (.iadd, 1) := by decide +kernel
theorem dX7_unpack_127 : decode cX7_unpack 127 = .ok (.aload_n 0, 1) := by decide +kernel
theorem dX7_unpack_128 : decode cX7_unpack 128 = .ok (.getfield 40, 3) := by decide +kernel
theorem dX7_unpack_131 : decode cX7_unpack 131 = .ok (.iload 4, 2) := by decide +kernel
theorem dX7_unpack_133 : decode cX7_unpack 133 = .ok (.iaload, 1) := by decide +kernel
theorem dX7_unpack_134 : decode cX7_unpack 134 = .ok (.iastore, 1) := by decide +kernel
theorem dX7_unpack_135 : decode cX7_unpack 135 = .ok (.iinc 4 1, 3) := by decide +kernel
theorem dX7_unpack_138 : decode cX7_unpack 138 = .ok (.goto (-66), 3) := by decide +kernel
theorem dX7_unpack_141 : decode cX7_unpack 141 = .ok (.aload_n 0, 1) := by decide +kernel
theorem dX7_unpack_142 : decode cX7_unpack 142 = .ok (.getfield 13, 3) := by decide +kernel
theorem dX7_unpack_145 : decode cX7_unpack 145 = .ok (.iload_n 1, 1) := by decide +kernel
theorem dX7_unpack_146 : decode cX7_unpack 146 = .ok (.iload_n 3, 1) := by decide +kernel
theorem dX7_unpack_147 : decode cX7_unpack 147 = .ok (.iastore, 1) := by decide +kernel
theorem dX7_unpack_148 : decode cX7_unpack 148 = .ok (.aload_n 0, 1) := by decide +kernel
theorem dX7_unpack_149 : decode cX7_unpack 149 = .ok (.getfield 16, 3) := by decide +kernel
theorem dX7_unpack_152 : decode cX7_unpack 152 = .ok (.iload_n 1, 1) := by decide +kernel
theorem dX7_unpack_153 : decode cX7_unpack 153 = .ok (.iload_n 2, 1) := by decide +kernel
theorem dX7_unpack_154 : decode cX7_unpack 154 = .ok (.iastore, 1) := by decide +kernel
theorem dX7_unpack_155 : decode cX7_unpack 155 = .ok (.aload_n 0, 1) := by decide +kernel
theorem dX7_unpack_156 : decode cX7_unpack 156 = .ok (.getfield 7, 3) := by decide +kernel
theorem dX7_unpack_159 : decode cX7_unpack 159 = .ok (.iload_n 1, 1) := by decide +kernel
theorem dX7_unpack_160 : decode cX7_unpack 160 = .ok (.iconst 2, 1) := by decide +kernel
theorem dX7_unpack_161 : decode cX7_unpack 161 = .ok (.iastore, 1) := by decide +kernel
theorem dX7_unpack_162 : decode cX7_unpack 162 = .ok (.iload_n 3, 1) := by decide +kernel
theorem dX7_unpack_163 : decode cX7_unpack 163 = .ok (.ireturn, 1) := by decide +kernel
theorem dX7_whole_0 : decode cX7_whole 0 = .ok (.lload_n 0, 1) := by decide +kernel
theorem dX7_whole_1 : decode cX7_whole 1 = .ok (.lload_n 2, 1) := by decide +kernel
theorem dX7_whole_2 : decode cX7_whole 2 = .ok (.ldiv, 1) := by decide +kernel
theorem dX7_whole_3 : decode cX7_whole 3 = .ok (.lstore 4, 2) := by decide +kernel
theorem dX7_whole_5 : decode cX7_whole 5 = .ok (.lload_n 0, 1) := by decide +kernel
theorem dX7_whole_6 : decode cX7_whole 6 = .ok (.lload_n 2, 1) := by decide +kernel
theorem dX7_whole_7 : decode cX7_whole 7 = .ok (.lrem, 1) := by decide +kernel
theorem dX7_whole_8 : decode cX7_whole 8 = .ok (.lconst 0, 1) := by decide +kernel
theorem dX7_whole_9 : decode cX7_whole 9 = .ok (.lcmp, 1) := by decide +kernel
theorem dX7_whole_10 : decode cX7_whole 10 = .ok (.ifCond .ge 10, 3) := by decide +kernel
theorem dX7_whole_13 : decode cX7_whole 13 = .ok (.lload 4, 2) := by decide +kernel
theorem dX7_whole_15 : decode cX7_whole 15 = .ok (.lconst 1, 1) := by decide +kernel
theorem dX7_whole_16 : decode cX7_whole 16 = .ok (.lsub, 1) := by decide +kernel
theorem dX7_whole_17 : decode cX7_whole 17 = .ok (.goto 5, 3) := by decide +kernel
theorem dX7_whole_20 : decode cX7_whole 20 = .ok (.lload 4, 2) := by decide +kernel
theorem dX7_whole_22 : decode cX7_whole 22 = .ok (.lreturn, 1) := by decide +kernel
set_option maxRecDepth 20000 in
theorem ggX7_below_X7_whole : GoodIn wsX7_below wsX7_whole := goodIn_r _ [4] (by decide +kernel) (by decide +kernel)
set_option maxRecDepth 20000 in
theorem gX7_below_X7_whole : GoodIn wsX7_below (va_wsS RX7 139 yX7_whole wsX7_whole) := goodIn_app (goodIn_of _ (by decide +kernel)) ggX7_below_X7_whole
theorem dX7_below_0 : decode cX7_below 0 = .ok (.lload_n 0, 1) := by decide +kernel
theorem dX7_below_1 : decode cX7_below 1 = .ok (.lload_n 2, 1) := by decide +kernel
theorem dX7_below_2 : decode cX7_below 2 = .ok (.invokestatic 139, 3) := by decide +kernel
theorem dX7_below_5 : decode cX7_below 5 = .ok (.lstore 8, 2) := by decide +kernel
theorem dX7_below_7 : decode cX7_below 7 = .ok (.lload 4, 2) := by decide +kernel
theorem dX7_below_9 : decode cX7_below 9 = .ok (.lload 6, 2) := by decide +kernel
theorem dX7_below_11 : decode cX7_below 11 = .ok (.invokestatic 139, 3) := by decide +kernel
theorem dX7_below_14 : decode cX7_below 14 = .ok (.lstore 10, 2) := by decide +kernel
theorem dX7_below_16 : decode cX7_below 16 = .ok (.lload 8, 2) := by decide +kernel
theorem dX7_below_18 : decode cX7_below 18 = .ok (.lload 10, 2) := by decide +kernel
theorem dX7_below_20 : decode cX7_below 20 = .ok (.lcmp, 1) := by decide +kernel
theorem dX7_below_21 : decode cX7_below 21 = .ok (.ifCond .eq 19, 3) := by decide +kernel
theorem dX7_below_24 : decode cX7_below 24 = .ok (.lload 8, 2) := by decide +kernel
theorem dX7_below_26 : decode cX7_below 26 = .ok (.lload 10, 2) := by decide +kernel
theorem dX7_below_28 : decode cX7_below 28 = .ok (.lcmp, 1) := by decide +kernel
theorem dX7_below_29 : decode cX7_below 29 = .ok (.ifCond .ge 7, 3) := by decide +kernel
theorem dX7_below_32 : decode cX7_below 32 = .ok (.iconst 1, 1) := by decide +kernel
theorem dX7_below_33 : decode cX7_below 33 = .ok (.goto 35, 3) := by decide +kernel
theorem dX7_below_36 : decode cX7_below 36 = .ok (.iconst 0, 1) := by decide +kernel
theorem dX7_below_37 : decode cX7_below 37 = .ok (.goto 31, 3) := by decide +kernel
theorem dX7_below_40 : decode cX7_below 40 = .ok (.lload_n 0, 1) := by decide +kernel
theorem dX7_below_41 : decode cX7_below 41 = .ok (.lload 8, 2) := by decide +kernel
theorem dX7_below_43 : decode cX7_below 43 = .ok (.lload_n 2, 1) := by decide +kernel
theorem dX7_below_44 : decode cX7_below 44 = .ok (.lmul, 1) := by decide +kernel
theorem dX7_below_45 : decode cX7_below 45 = .ok (.lsub, 1) := by decide +kernel
theorem dX7_below_46 : decode cX7_below 46 = .ok (.lload 6, 2) := by decide +kernel
theorem dX7_below_48 : decode cX7_below 48 = .ok (.lmul, 1) := by decide +kernel
theorem dX7_below_49 : decode cX7_below 49 = .ok (.lload 4, 2) := by decide +kernel
theorem dX7_below_51 : decode cX7_below 51 = .ok (.lload 10, 2) := by decide +kernel
theorem dX7_below_53 : decode cX7_below 53 = .ok (.lload 6, 2) := by decide +kernel
theorem dX7_below_55 : decode cX7_below 55 = .ok (.lmul, 1) := by decide +kernel
theorem dX7_below_56 : decode cX7_below 56 = .ok (.lsub, 1) := by decide +kernel
theorem dX7_below_57 : decode cX7_below 57 = .ok (.lload_n 2, 1) := by decide +kernel
theorem dX7_below_58 : decode cX7_below 58 = .ok (.lmul, 1) := by decide +kernel
theorem dX7_below_59 : decode cX7_below 59 = .ok (.lcmp, 1) := by decide +kernel
theorem dX7_below_60 : decode cX7_below 60 = .ok (.ifCond .ge 7, 3) := by decide +kernel
theorem dX7_below_63 : decode cX7_below 63 = .ok (.iconst 1, 1) := by decide +kernel
theorem dX7_below_64 : decode cX7_below 64 = .ok (.goto 4, 3) := by decide +kernel
theorem dX7_below_67 : decode cX7_below 67 = .ok (.iconst 0, 1) := by decide +kernel
theorem dX7_below_68 : decode cX7_below 68 = .ok (.ireturn, 1) := by decide +kernel
set_option maxRecDepth 20000 in
theorem ggX7_raise_X7_below : GoodIn wsX7_raise wsX7_below := goodIn_r _ [6, 7, 8, 5, 9] (by decide +kernel) (by decide +kernel)
set_option maxRecDepth 20000 in
theorem gX7_raise_X7_below : GoodIn wsX7_raise (va_wsS RX7 148 yX7_below wsX7_below) := goodIn_app (goodIn_of _ (by decide +kernel)) ggX7_raise_X7_below
theorem dX7_raise_0 : decode cX7_raise 0 = .ok (.aload_n 0, 1) := by decide +kernel
theorem dX7_raise_1 : decode cX7_raise 1 = .ok (.getfield 142, 3) := by decide +kernel
theorem dX7_raise_4 : decode cX7_raise 4 = .ok (.aload_n 0, 1) := by decide +kernel
theorem dX7_raise_5 : decode cX7_raise 5 = .ok (.getfield 145, 3) := by decide +kernel
theorem dX7_raise_8 : decode cX7_raise 8 = .ok (.lload_n 1, 1) := by decide +kernel
theorem dX7_raise_9 : decode cX7_raise 9 = .ok (.lload_n 3, 1) := by decide +kernel
theorem dX7_raise_10 : decode cX7_raise 10 = .ok (.invokestatic 148, 3) := by decide +kernel
theorem dX7_raise_13 : decode cX7_raise 13 = .ok (.ifCond .eq 13, 3) := by decide +kernel
theorem dX7_raise_16 : decode cX7_raise 16 = .ok (.aload_n 0, 1) := by decide +kernel
theorem dX7_raise_17 : decode cX7_raise 17 = .ok (.lload_n 1, 1) := by decide +kernel
theorem dX7_raise_18 : decode cX7_raise 18 = .ok (.putfield 142, 3) := by decide +kernel
theorem dX7_raise_21 : decode cX7_raise 21 = .ok (.aload_n 0, 1) := by decide +kernel
theorem dX7_raise_22 : decode cX7_raise 22 = .ok (.lload_n 3, 1) := by decide +kernel
theorem dX7_raise_23 : decode cX7_raise 23 = .ok (.putfield 145, 3) := by decide +kernel
theorem dX7_raise_26 : decode cX7_raise 26 = .ok (.return_, 1) := by decide +kernel
set_option maxRecDepth 20000 in
theorem ggX7_lower_X7_below : GoodIn wsX7_lower wsX7_below := goodIn_r _ [6, 7, 8, 5, 9] (by decide +kernel) (by decide +kernel)
set_option maxRecDepth 20000 in
theorem gX7_lower_X7_below : GoodIn wsX7_lower (va_wsS RX7 148 yX7_below wsX7_below) := goodIn_app (goodIn_of _ (by decide +kernel)) ggX7_lower_X7_below
theorem dX7_lower_0 : decode cX7_lower 0 = .ok (.lload_n 1, 1) := by decide +kernel
theorem dX7_lower_1 : decode cX7_lower 1 = .ok (.lload_n 3, 1) := by decide +kernel
theorem dX7_lower_2 : decode cX7_lower 2 = .ok (.aload_n 0, 1) := by decide +kernel
theorem dX7_lower_3 : decode cX7_lower 3 = .ok (.getfield 152, 3) := by decide +kernel
theorem dX7_lower_6 : decode cX7_lower 6 = .ok (.aload_n 0, 1) := by decide +kernel
theorem dX7_lower_7 : decode cX7_lower 7 = .ok (.getfield 155, 3) := by decide +kernel
theorem dX7_lower_10 : decode cX7_lower 10 = .ok (.invokestatic 148, 3) := by decide +kernel
theorem dX7_lower_13 : decode cX7_lower 13 = .ok (.ifCond .eq 13, 3) := by decide +kernel
theorem dX7_lower_16 : decode cX7_lower 16 = .ok (.aload_n 0, 1) := by decide +kernel
theorem dX7_lower_17 : decode cX7_lower 17 = .ok (.lload_n 1, 1) := by decide +kernel
theorem dX7_lower_18 : decode cX7_lower 18 = .ok (.putfield 152, 3) := by decide +kernel
theorem dX7_lower_21 : decode cX7_lower 21 = .ok (.aload_n 0, 1) := by decide +kernel
theorem dX7_lower_22 : decode cX7_lower 22 = .ok (.lload_n 3, 1) := by decide +kernel
theorem dX7_lower_23 : decode cX7_lower 23 = .ok (.putfield 155, 3) := by decide +kernel
theorem dX7_lower_26 : decode cX7_lower 26 = .ok (.return_, 1) := by decide +kernel
set_option maxRecDepth 20000 in
theorem ggX7_within_X7_raise : GoodIn wsX7_within wsX7_raise := goodIn_r _ [8, 9, 10, 11, 12, 7, 13, 14, 15, 16, 23, 24, 25, 26, 27, 28, 29, 30, 31, 32, 33, 34, 35, 36, 37, 38, 39, 40, 41, 42, 43, 44, 45, 46] (by decide +kernel) (by decide +kernel)
set_option maxRecDepth 20000 in
theorem gX7_within_X7_raise : GoodIn wsX7_within (wsV RX7 158 RX7 yX7_raise wsX7_raise) := goodIn_app (goodIn_of _ (by decide +kernel)) ggX7_within_X7_raise
set_option maxRecDepth 20000 in
theorem ggX7_within_X7_lower : GoodIn wsX7_within wsX7_lower := goodIn_r _ [20, 21, 22, 11, 12, 7, 13, 14, 15, 16, 23, 24, 25, 26, 27, 28, 29, 30, 31, 32, 33, 34, 35, 36, 37, 38, 39, 40, 41, 42, 43, 44, 45, 46] (by decide +kernel) (by decide +kernel)
set_option maxRecDepth 20000 in
theorem gX7_within_X7_lower : GoodIn wsX7_within (wsV RX7 162 RX7 yX7_lower wsX7_lower) := goodIn_app (goodIn_of _ (by decide +kernel)) ggX7_within_X7_lower
theorem dX7_within_0 : decode cX7_within 0 = .ok (.iload_n 2, 1) := by decide +kernel
theorem dX7_within_1 : decode cX7_within 1 = .ok (.ifCond .eq 13, 3) := by decide +kernel
theorem dX7_within_4 : decode cX7_within 4 = .ok (.aload_n 0, 1) := by decide +kernel
theorem dX7_within_5 : decode cX7_within 5 = .ok (.getfield 25, 3) := by decide +kernel
theorem dX7_within_8 : decode cX7_within 8 = .ok (.iload_n 1, 1) := by decide +kernel
theorem dX7_within_9 : decode cX7_within 9 = .ok (.iaload, 1) := by decide +kernel
theorem dX7_within_10 : decode cX7_within 10 = .ok (.i2l, 1) := by decide +kernel
theorem dX7_within_11 : decode cX7_within 11 = .ok (.goto 10, 3) := by decide +kernel
theorem dX7_within_14 : decode cX7_within 14 = .ok (.aload_n 0, 1) := by decide +kernel
theorem dX7_within_15 : decode cX7_within 15 = .ok (.getfield 22, 3) := by decide +kernel
theorem dX7_within_18 : decode cX7_within 18 = .ok (.iload_n 1, 1) := by decide +kernel
theorem dX7_within_19 : decode cX7_within 19 = .ok (.iaload, 1) := by decide +kernel
theorem dX7_within_20 : decode cX7_within 20 = .ok (.i2l, 1) := by decide +kernel
theorem dX7_within_21 : decode cX7_within 21 = .ok (.lstore 7, 2) := by decide +kernel
theorem dX7_within_23 : decode cX7_within 23 = .ok (.iload_n 2, 1) := by decide +kernel
theorem dX7_within_24 : decode cX7_within 24 = .ok (.ifCond .eq 15, 3) := by decide +kernel
theorem dX7_within_27 : decode cX7_within 27 = .ok (.aload_n 0, 1) := by decide +kernel
theorem dX7_within_28 : decode cX7_within 28 = .ok (.getfield 25, 3) := by decide +kernel
theorem dX7_within_31 : decode cX7_within 31 = .ok (.iload_n 1, 1) := by decide +kernel
theorem dX7_within_32 : decode cX7_within 32 = .ok (.iconst 1, 1) := by decide +kernel
theorem dX7_within_33 : decode cX7_within 33 = .ok (.iadd, 1) := by decide +kernel
theorem dX7_within_34 : decode cX7_within 34 = .ok (.iaload, 1) := by decide +kernel
theorem dX7_within_35 : decode cX7_within 35 = .ok (.i2l, 1) := by decide +kernel
theorem dX7_within_36 : decode cX7_within 36 = .ok (.goto 12, 3) := by decide +kernel
theorem dX7_within_39 : decode cX7_within 39 = .ok (.aload_n 0, 1) := by decide +kernel
theorem dX7_within_40 : decode cX7_within 40 = .ok (.getfield 22, 3) := by decide +kernel
theorem dX7_within_43 : decode cX7_within 43 = .ok (.iload_n 1, 1) := by decide +kernel
theorem dX7_within_44 : decode cX7_within 44 = .ok (.iconst 1, 1) := by decide +kernel
theorem dX7_within_45 : decode cX7_within 45 = .ok (.iadd, 1) := by decide +kernel
theorem dX7_within_46 : decode cX7_within 46 = .ok (.iaload, 1) := by decide +kernel
theorem dX7_within_47 : decode cX7_within 47 = .ok (.i2l, 1) := by decide +kernel
theorem dX7_within_48 : decode cX7_within 48 = .ok (.lstore 9, 2) := by decide +kernel
theorem dX7_within_50 : decode cX7_within 50 = .ok (.lload 9, 2) := by decide +kernel
theorem dX7_within_52 : decode cX7_within 52 = .ok (.lload 7, 2) := by decide +kernel
theorem dX7_within_54 : decode cX7_within 54 = .ok (.lsub, 1) := by decide +kernel
theorem dX7_within_55 : decode cX7_within 55 = .ok (.lstore 11, 2) := by decide +kernel
theorem dX7_within_57 : decode cX7_within 57 = .ok (.aload_n 0, 1) := by decide +kernel
theorem dX7_within_58 : decode cX7_within 58 = .ok (.getfield 19, 3) := by decide +kernel
theorem dX7_within_61 : decode cX7_within 61 = .ok (.iload_n 1, 1) := by decide +kernel
theorem dX7_within_62 : decode cX7_within 62 = .ok (.iaload, 1) := by decide +kernel
theorem dX7_within_63 : decode cX7_within 63 = .ok (.i2l, 1) := by decide +kernel
theorem dX7_within_64 : decode cX7_within 64 = .ok (.lstore 13, 2) := by decide +kernel
theorem dX7_within_66 : decode cX7_within 66 = .ok (.aload_n 0, 1) := by decide +kernel
theorem dX7_within_67 : decode cX7_within 67 = .ok (.getfield 19, 3) := by decide +kernel
theorem dX7_within_70 : decode cX7_within 70 = .ok (.iload_n 1, 1) := by decide +kernel
theorem dX7_within_71 : decode cX7_within 71 = .ok (.iconst 1, 1) := by decide +kernel
theorem dX7_within_72 : decode cX7_within 72 = .ok (.iadd, 1) := by decide +kernel
theorem dX7_within_73 : decode cX7_within 73 = .ok (.iaload, 1) := by decide +kernel
theorem dX7_within_74 : decode cX7_within 74 = .ok (.i2l, 1) := by decide +kernel
theorem dX7_within_75 : decode cX7_within 75 = .ok (.lload 13, 2) := by decide +kernel
theorem dX7_within_77 : decode cX7_within 77 = .ok (.lsub, 1) := by decide +kernel
theorem dX7_within_78 : decode cX7_within 78 = .ok (.lstore 15, 2) := by decide +kernel
theorem dX7_within_80 : decode cX7_within 80 = .ok (.lload 11, 2) := by decide +kernel
theorem dX7_within_82 : decode cX7_within 82 = .ok (.lconst 0, 1) := by decide +kernel
theorem dX7_within_83 : decode cX7_within 83 = .ok (.lcmp, 1) := by decide +kernel
theorem dX7_within_84 : decode cX7_within 84 = .ok (.ifCond .ne 24, 3) := by decide +kernel
theorem dX7_within_87 : decode cX7_within 87 = .ok (.lload 7, 2) := by decide +kernel
theorem dX7_within_89 : decode cX7_within 89 = .ok (.lload_n 3, 1) := by decide +kernel
theorem dX7_within_90 : decode cX7_within 90 = .ok (.lcmp, 1) := by decide +kernel
theorem dX7_within_91 : decode cX7_within 91 = .ok (.ifCond .lt 15, 3) := by decide +kernel
theorem dX7_within_94 : decode cX7_within 94 = .ok (.lload 7, 2) := by decide +kernel
theorem dX7_within_96 : decode cX7_within 96 = .ok (.lload 5, 2) := by decide +kernel
theorem dX7_within_98 : decode cX7_within 98 = .ok (.lcmp, 1) := by decide +kernel
theorem dX7_within_99 : decode cX7_within 99 = .ok (.ifCond .gt 7, 3) := by decide +kernel
theorem dX7_within_102 : decode cX7_within 102 = .ok (.iconst 1, 1) := by decide +kernel
theorem dX7_within_103 : decode cX7_within 103 = .ok (.goto 4, 3) := by decide +kernel
theorem dX7_within_106 : decode cX7_within 106 = .ok (.iconst 0, 1) := by decide +kernel
theorem dX7_within_107 : decode cX7_within 107 = .ok (.ireturn, 1) := by decide +kernel
theorem dX7_within_108 : decode cX7_within 108 = .ok (.lload 13, 2) := by decide +kernel
theorem dX7_within_110 : decode cX7_within 110 = .ok (.lload 11, 2) := by decide +kernel
theorem dX7_within_112 : decode cX7_within 112 = .ok (.lmul, 1) := by decide +kernel
theorem dX7_within_113 : decode cX7_within 113 = .ok (.lload_n 3, 1) := by decide +kernel
theorem dX7_within_114 : decode cX7_within 114 = .ok (.lload 7, 2) := by decide +kernel
theorem dX7_within_116 : decode cX7_within 116 = .ok (.lsub, 1) := by decide +kernel
theorem dX7_within_117 : decode cX7_within 117 = .ok (.lload 15, 2) := by decide +kernel
theorem dX7_within_119 : decode cX7_within 119 = .ok (.lmul, 1) := by decide +kernel
theorem dX7_within_120 : decode cX7_within 120 = .ok (.ladd, 1) := by decide +kernel
theorem dX7_within_121 : decode cX7_within 121 = .ok (.lstore 17, 2) := by decide +kernel
theorem dX7_within_123 : decode cX7_within 123 = .ok (.lload 13, 2) := by decide +kernel
theorem dX7_within_125 : decode cX7_within 125 = .ok (.lload 11, 2) := by decide +kernel
theorem dX7_within_127 : decode cX7_within 127 = .ok (.lmul, 1) := by decide +kernel
theorem dX7_within_128 : decode cX7_within 128 = .ok (.lload 5, 2) := by decide +kernel
theorem dX7_within_130 : decode cX7_within 130 = .ok (.lload 7, 2) := by decide +kernel
theorem dX7_within_132 : decode cX7_within 132 = .ok (.lsub, 1) := by decide +kernel
theorem dX7_within_133 : decode cX7_within 133 = .ok (.lload 15, 2) := by decide +kernel
theorem dX7_within_135 : decode cX7_within 135 = .ok (.lmul, 1) := by decide +kernel
theorem dX7_within_136 : decode cX7_within 136 = .ok (.ladd, 1) := by decide +kernel
theorem dX7_within_137 : decode cX7_within 137 = .ok (.lstore 19, 2) := by decide +kernel
theorem dX7_within_139 : decode cX7_within 139 = .ok (.lload 11, 2) := by decide +kernel
theorem dX7_within_141 : decode cX7_within 141 = .ok (.lconst 0, 1) := by decide +kernel
theorem dX7_within_142 : decode cX7_within 142 = .ok (.lcmp, 1) := by decide +kernel
theorem dX7_within_143 : decode cX7_within 143 = .ok (.ifCond .le 22, 3) := by decide +kernel
theorem dX7_within_146 : decode cX7_within 146 = .ok (.aload_n 0, 1) := by decide +kernel
theorem dX7_within_147 : decode cX7_within 147 = .ok (.lload 17, 2) := by decide +kernel
theorem dX7_within_149 : decode cX7_within 149 = .ok (.lload 11, 2) := by decide +kernel
theorem dX7_within_151 : decode cX7_within 151 = .ok (.invokevirtual 158, 3) := by decide +kernel
theorem dX7_within_154 : decode cX7_within 154 = .ok (.aload_n 0, 1) := by decide +kernel
theorem dX7_within_155 : decode cX7_within 155 = .ok (.lload 19, 2) := by decide +kernel
theorem dX7_within_157 : decode cX7_within 157 = .ok (.lload 11, 2) := by decide +kernel
theorem dX7_within_159 : decode cX7_within 159 = .ok (.invokevirtual 162, 3) := by decide +kernel
theorem dX7_within_162 : decode cX7_within 162 = .ok (.goto 23, 3) := by decide +kernel
theorem dX7_within_165 : decode cX7_within 165 = .ok (.aload_n 0, 1) := by decide +kernel
theorem dX7_within_166 : decode cX7_within 166 = .ok (.lload 19, 2) := by decide +kernel
theorem dX7_within_168 : decode cX7_within 168 = .ok (.lneg, 1) := by decide +kernel
theorem dX7_within_169 : decode cX7_within 169 = .ok (.lload 11, 2) := by decide +kernel
theorem dX7_within_171 : decode cX7_within 171 = .ok (.lneg, 1) := by decide +kernel
theorem dX7_within_172 : decode cX7_within 172 = .ok (.invokevirtual 158, 3) := by decide +kernel
theorem dX7_within_175 : decode cX7_within 175 = .ok (.aload_n 0, 1) := by decide +kernel
theorem dX7_within_176 : decode cX7_within 176 = .ok (.lload 17, 2) := by decide +kernel
theorem dX7_within_178 : decode cX7_within 178 = .ok (.lneg, 1) := by decide +kernel
theorem dX7_within_179 : decode cX7_within 179 = .ok (.lload 11, 2) := by decide +kernel
theorem dX7_within_181 : decode cX7_within 181 = .ok (.lneg, 1) := by decide +kernel
theorem dX7_within_182 : decode cX7_within 182 = .ok (.invokevirtual 162, 3) := by decide +kernel
theorem dX7_within_185 : decode cX7_within 185 = .ok (.iconst 1, 1) := by decide +kernel
theorem dX7_within_186 : decode cX7_within 186 = .ok (.ireturn, 1) := by decide +kernel
set_option maxRecDepth 20000 in
theorem ggX7_note_X7_divisor : GoodIn wsX7_note wsX7_divisor := goodIn_r _ [13, 14, 15, 12, 16] (by decide +kernel) (by decide +kernel)
set_option maxRecDepth 20000 in
theorem gX7_note_X7_divisor : GoodIn wsX7_note (va_wsS RX7 89 yX7_divisor wsX7_divisor) := goodIn_app (goodIn_of _ (by decide +kernel)) ggX7_note_X7_divisor
theorem dX7_note_0 : decode cX7_note 0 = .ok (.aload_n 0, 1) := by decide +kernel
theorem dX7_note_1 : decode cX7_note 1 = .ok (.getfield 142, 3) := by decide +kernel
theorem dX7_note_4 : decode cX7_note 4 = .ok (.aload_n 0, 1) := by decide +kernel
theorem dX7_note_5 : decode cX7_note 5 = .ok (.getfield 145, 3) := by decide +kernel
theorem dX7_note_8 : decode cX7_note 8 = .ok (.invokestatic 89, 3) := by decide +kernel
theorem dX7_note_11 : decode cX7_note 11 = .ok (.lstore_n 1, 1) := by decide +kernel
theorem dX7_note_12 : decode cX7_note 12 = .ok (.aload_n 0, 1) := by decide +kernel
theorem dX7_note_13 : decode cX7_note 13 = .ok (.getfield 152, 3) := by decide +kernel
theorem dX7_note_16 : decode cX7_note 16 = .ok (.aload_n 0, 1) := by decide +kernel
theorem dX7_note_17 : decode cX7_note 17 = .ok (.getfield 155, 3) := by decide +kernel
theorem dX7_note_20 : decode cX7_note 20 = .ok (.invokestatic 89, 3) := by decide +kernel
theorem dX7_note_23 : decode cX7_note 23 = .ok (.lstore_n 3, 1) := by decide +kernel
theorem dX7_note_24 : decode cX7_note 24 = .ok (.aload_n 0, 1) := by decide +kernel
theorem dX7_note_25 : decode cX7_note 25 = .ok (.getfield 165, 3) := by decide +kernel
theorem dX7_note_28 : decode cX7_note 28 = .ok (.ifCond .le 71, 3) := by decide +kernel
theorem dX7_note_31 : decode cX7_note 31 = .ok (.aload_n 0, 1) := by decide +kernel
theorem dX7_note_32 : decode cX7_note 32 = .ok (.getfield 50, 3) := by decide +kernel
theorem dX7_note_35 : decode cX7_note 35 = .ok (.aload_n 0, 1) := by decide +kernel
theorem dX7_note_36 : decode cX7_note 36 = .ok (.getfield 165, 3) := by decide +kernel
theorem dX7_note_39 : decode cX7_note 39 = .ok (.ifCond .le 12, 3) := by decide +kernel
theorem dX7_note_42 : decode cX7_note 42 = .ok (.aload_n 0, 1) := by decide +kernel
theorem dX7_note_43 : decode cX7_note 43 = .ok (.getfield 165, 3) := by decide +kernel
theorem dX7_note_46 : decode cX7_note 46 = .ok (.iconst 1, 1) := by decide +kernel
theorem dX7_note_47 : decode cX7_note 47 = .ok (.isub, 1) := by decide +kernel
theorem dX7_note_48 : decode cX7_note 48 = .ok (.goto 4, 3) := by decide +kernel
theorem dX7_note_51 : decode cX7_note 51 = .ok (.iconst 0, 1) := by decide +kernel
theorem dX7_note_52 : decode cX7_note 52 = .ok (.laload, 1) := by decide +kernel
theorem dX7_note_53 : decode cX7_note 53 = .ok (.aload_n 0, 1) := by decide +kernel
theorem dX7_note_54 : decode cX7_note 54 = .ok (.getfield 142, 3) := by decide +kernel
theorem dX7_note_57 : decode cX7_note 57 = .ok (.lload_n 1, 1) := by decide +kernel
theorem dX7_note_58 : decode cX7_note 58 = .ok (.ldiv, 1) := by decide +kernel
theorem dX7_note_59 : decode cX7_note 59 = .ok (.lcmp, 1) := by decide +kernel
theorem dX7_note_60 : decode cX7_note 60 = .ok (.ifCond .ne 39, 3) := by decide +kernel
theorem dX7_note_63 : decode cX7_note 63 = .ok (.aload_n 0, 1) := by decide +kernel
theorem dX7_note_64 : decode cX7_note 64 = .ok (.getfield 53, 3) := by decide +kernel
theorem dX7_note_67 : decode cX7_note 67 = .ok (.aload_n 0, 1) := by decide +kernel
theorem dX7_note_68 : decode cX7_note 68 = .ok (.getfield 165, 3) := by decide +kernel
theorem dX7_note_71 : decode cX7_note 71 = .ok (.ifCond .le 12, 3) := by decide +kernel
theorem dX7_note_74 : decode cX7_note 74 = .ok (.aload_n 0, 1) := by decide +kernel
theorem dX7_note_75 : decode cX7_note 75 = .ok (.getfield 165, 3) := by decide +kernel
theorem dX7_note_78 : decode cX7_note 78 = .ok (.iconst 1, 1) := by decide +kernel
theorem dX7_note_79 : decode cX7_note 79 = .ok (.isub, 1) := by decide +kernel
theorem dX7_note_80 : decode cX7_note 80 = .ok (.goto 4, 3) := by decide +kernel
theorem dX7_note_83 : decode cX7_note 83 = .ok (.iconst 0, 1) := by decide +kernel
theorem dX7_note_84 : decode cX7_note 84 = .ok (.laload, 1) := by decide +kernel
theorem dX7_note_85 : decode cX7_note 85 = .ok (.aload_n 0, 1) := by decide +kernel
theorem dX7_note_86 : decode cX7_note 86 = .ok (.getfield 145, 3) := by decide +kernel
theorem dX7_note_89 : decode cX7_note 89 = .ok (.lload_n 1, 1) := by decide +kernel
theorem dX7_note_90 : decode cX7_note 90 = .ok (.ldiv, 1) := by decide +kernel
theorem dX7_note_91 : decode cX7_note 91 = .ok (.lcmp, 1) := by decide +kernel
theorem dX7_note_92 : decode cX7_note 92 = .ok (.ifCond .ne 7, 3) := by decide +kernel
theorem dX7_note_95 : decode cX7_note 95 = .ok (.iconst 1, 1) := by decide +kernel
theorem dX7_note_96 : decode cX7_note 96 = .ok (.goto 4, 3) := by decide +kernel
theorem dX7_note_99 : decode cX7_note 99 = .ok (.iconst 0, 1) := by decide +kernel
theorem dX7_note_100 : decode cX7_note 100 = .ok (.istore 5, 2) := by decide +kernel
theorem dX7_note_102 : decode cX7_note 102 = .ok (.iload 5, 2) := by decide +kernel
theorem dX7_note_104 : decode cX7_note 104 = .ok (.ifCond .ne 43, 3) := by decide +kernel
theorem dX7_note_107 : decode cX7_note 107 = .ok (.aload_n 0, 1) := by decide +kernel
theorem dX7_note_108 : decode cX7_note 108 = .ok (.getfield 43, 3) := by decide +kernel
theorem dX7_note_111 : decode cX7_note 111 = .ok (.aload_n 0, 1) := by decide +kernel
theorem dX7_note_112 : decode cX7_note 112 = .ok (.getfield 165, 3) := by decide +kernel
theorem dX7_note_115 : decode cX7_note 115 = .ok (.aload_n 0, 1) := by decide +kernel
theorem dX7_note_116 : decode cX7_note 116 = .ok (.getfield 142, 3) := by decide +kernel
theorem dX7_note_119 : decode cX7_note 119 = .ok (.lload_n 1, 1) := by decide +kernel
theorem dX7_note_120 : decode cX7_note 120 = .ok (.ldiv, 1) := by decide +kernel
theorem dX7_note_121 : decode cX7_note 121 = .ok (.lastore, 1) := by decide +kernel
theorem dX7_note_122 : decode cX7_note 122 = .ok (.aload_n 0, 1) := by decide +kernel
theorem dX7_note_123 : decode cX7_note 123 = .ok (.getfield 47, 3) := by decide +kernel
theorem dX7_note_126 : decode cX7_note 126 = .ok (.aload_n 0, 1) := by decide +kernel
theorem dX7_note_127 : decode cX7_note 127 = .ok (.getfield 165, 3) := by decide +kernel
theorem dX7_note_130 : decode cX7_note 130 = .ok (.aload_n 0, 1) := by decide +kernel
theorem dX7_note_131 : decode cX7_note 131 = .ok (.getfield 145, 3) := by decide +kernel
theorem dX7_note_134 : decode cX7_note 134 = .ok (.lload_n 1, 1) := by decide +kernel
theorem dX7_note_135 : decode cX7_note 135 = .ok (.ldiv, 1) := by decide +kernel
theorem dX7_note_136 : decode cX7_note 136 = .ok (.lastore, 1) := by decide +kernel
theorem dX7_note_137 : decode cX7_note 137 = .ok (.aload_n 0, 1) := by decide +kernel
theorem dX7_note_138 : decode cX7_note 138 = .ok (.dup, 1) := by decide +kernel
theorem dX7_note_139 : decode cX7_note 139 = .ok (.getfield 165, 3) := by decide +kernel
theorem dX7_note_142 : decode cX7_note 142 = .ok (.iconst 1, 1) := by decide +kernel
theorem dX7_note_143 : decode cX7_note 143 = .ok (.iadd, 1) := by decide +kernel
theorem dX7_note_144 : decode cX7_note 144 = .ok (.putfield 165, 3) := by decide +kernel
theorem dX7_note_147 : decode cX7_note 147 = .ok (.aload_n 0, 1) := by decide +kernel
theorem dX7_note_148 : decode cX7_note 148 = .ok (.getfield 50, 3) := by decide +kernel
theorem dX7_note_151 : decode cX7_note 151 = .ok (.aload_n 0, 1) := by decide +kernel
theorem dX7_note_152 : decode cX7_note 152 = .ok (.getfield 165, 3) := by decide +kernel
theorem dX7_note_155 : decode cX7_note 155 = .ok (.iconst 1, 1) := by decide +kernel
theorem dX7_note_156 : decode cX7_note 156 = .ok (.isub, 1) := by decide +kernel
theorem dX7_note_157 : decode cX7_note 157 = .ok (.aload_n 0, 1) := by decide +kernel
theorem dX7_note_158 : decode cX7_note 158 = .ok (.getfield 152, 3) := by decide +kernel
theorem dX7_note_161 : decode cX7_note 161 = .ok (.lload_n 3, 1) := by decide +kernel
theorem dX7_note_162 : decode cX7_note 162 = .ok (.ldiv, 1) := by decide +kernel
theorem dX7_note_163 : decode cX7_note 163 = .ok (.lastore, 1) := by decide +kernel
theorem dX7_note_164 : decode cX7_note 164 = .ok (.aload_n 0, 1) := by decide +kernel
theorem dX7_note_165 : decode cX7_note 165 = .ok (.getfield 53, 3) := by decide +kernel
theorem dX7_note_168 : decode cX7_note 168 = .ok (.aload_n 0, 1) := by decide +kernel
theorem dX7_note_169 : decode cX7_note 169 = .ok (.getfield 165, 3) := by decide +kernel
theorem dX7_note_172 : decode cX7_note 172 = .ok (.iconst 1, 1) := by decide +kernel
theorem dX7_note_173 : decode cX7_note 173 = .ok (.isub, 1) := by decide +kernel
theorem dX7_note_174 : decode cX7_note 174 = .ok (.aload_n 0, 1) := by decide +kernel
theorem dX7_note_175 : decode cX7_note 175 = .ok (.getfield 155, 3) := by decide +kernel
theorem dX7_note_178 : decode cX7_note 178 = .ok (.lload_n 3, 1) := by decide +kernel
theorem dX7_note_179 : decode cX7_note 179 = .ok (.ldiv, 1) := by decide +kernel
theorem dX7_note_180 : decode cX7_note 180 = .ok (.lastore, 1) := by decide +kernel
theorem dX7_note_181 : decode cX7_note 181 = .ok (.return_, 1) := by decide +kernel
theorem dX7_isFrame_0 : decode cX7_isFrame 0 = .ok (.iload_n 0, 1) := by decide +kernel
theorem dX7_isFrame_1 : decode cX7_isFrame 1 = .ok (.ldc 168, 2) := by decide +kernel
theorem dX7_isFrame_3 : decode cX7_isFrame 3 = .ok (.if_icmp .lt 13, 3) := by decide +kernel
theorem dX7_isFrame_6 : decode cX7_isFrame 6 = .ok (.iload_n 0, 1) := by decide +kernel
theorem dX7_isFrame_7 : decode cX7_isFrame 7 = .ok (.ldc 169, 2) := by decide +kernel
theorem dX7_isFrame_9 : decode cX7_isFrame 9 = .ok (.if_icmp .gt 7, 3) := by decide +kernel
theorem dX7_isFrame_12 : decode cX7_isFrame 12 = .ok (.iconst 1, 1) := by decide +kernel
theorem dX7_isFrame_13 : decode cX7_isFrame 13 = .ok (.goto 4, 3) := by decide +kernel
theorem dX7_isFrame_16 : decode cX7_isFrame 16 = .ok (.iconst 0, 1) := by decide +kernel
theorem dX7_isFrame_17 : decode cX7_isFrame 17 = .ok (.ireturn, 1) := by decide +kernel
set_option maxRecDepth 20000 in
theorem ggX7_spans_X7_isTrack : GoodIn wsX7_spans wsX7_isTrack := goodIn_r _ [15] (by decide +kernel) (by decide +kernel)
set_option maxRecDepth 20000 in
theorem gX7_spans_X7_isTrack : GoodIn wsX7_spans (va_wsS RX7 60 yX7_isTrack wsX7_isTrack) := goodIn_app (goodIn_of _ (by decide +kernel)) ggX7_spans_X7_isTrack
set_option maxRecDepth 20000 in
theorem ggX7_spans_X7_is : GoodIn wsX7_spans wsX7_is := goodIn_r _ [19, 20, 12, 13, 14, 15, 58, 59, 60, 61, 62, 63, 64, 65, 66, 67, 68, 69, 70, 71, 72, 73, 74, 75, 76, 77, 78, 79, 80, 81] (by decide +kernel) (by decide +kernel)
set_option maxRecDepth 20000 in
theorem gX7_spans_X7_is : GoodIn wsX7_spans (wsV RX7 64 RX7 yX7_is wsX7_is) := goodIn_app (goodIn_of _ (by decide +kernel)) ggX7_spans_X7_is
set_option maxRecDepth 20000 in
theorem ggX7_spans_X7_isFrame : GoodIn wsX7_spans wsX7_isFrame := goodIn_r _ [23, 24, 25] (by decide +kernel) (by decide +kernel)
set_option maxRecDepth 20000 in
theorem gX7_spans_X7_isFrame : GoodIn wsX7_spans (va_wsS RX7 170 yX7_isFrame wsX7_isFrame) := goodIn_app (goodIn_of _ (by decide +kernel)) ggX7_spans_X7_isFrame
set_option maxRecDepth 20000 in
theorem ggX7_spans_X7_note : GoodIn wsX7_spans wsX7_note := goodIn_r _ [29, 8, 9, 10, 11, 2, 30, 31, 32, 33, 34, 35, 14, 36, 37, 38, 39, 58, 59, 60, 61, 62, 63, 64, 65, 66, 67, 68, 69, 70, 71, 72, 73, 74, 75, 76, 77, 78, 79, 80, 81] (by decide +kernel) (by decide +kernel)
set_option maxRecDepth 20000 in
theorem gX7_spans_X7_note : GoodIn wsX7_spans (wsV RX7 173 RX7 yX7_note wsX7_note) := goodIn_app (goodIn_of _ (by decide +kernel)) ggX7_spans_X7_note
set_option maxRecDepth 20000 in
theorem ggX7_spans_X7_within : GoodIn wsX7_spans wsX7_within := goodIn_r _ [43, 6, 5, 7, 44, 45, 46, 14, 47, 8, 9, 48, 49, 50, 51, 52, 53, 54, 55, 56, 57, 10, 11, 58, 59, 60, 61, 62, 63, 64, 65, 66, 67, 68, 69, 70, 71, 72, 73, 74, 75, 76, 77, 78, 79, 80, 81] (by decide +kernel) (by decide +kernel)
set_option maxRecDepth 20000 in
theorem gX7_spans_X7_within : GoodIn wsX7_spans (wsV RX7 176 RX7 yX7_within wsX7_within) := goodIn_app (goodIn_of _ (by decide +kernel)) ggX7_spans_X7_within
set_option maxRecDepth 20000 in
theorem ggX7_spans_X7_below : GoodIn wsX7_spans wsX7_below := goodIn_r _ [50, 51, 52, 14, 53] (by decide +kernel) (by decide +kernel)
set_option maxRecDepth 20000 in
theorem gX7_spans_X7_below : GoodIn wsX7_spans (va_wsS RX7 148 yX7_below wsX7_below) := goodIn_app (goodIn_of _ (by decide +kernel)) ggX7_spans_X7_below
theorem dX7_spans_0 : decode cX7_spans 0 = .ok (.aload_n 0, 1) := by decide +kernel
theorem dX7_spans_1 : decode cX7_spans 1 = .ok (.iload_n 1, 1) := by decide +kernel
theorem dX7_spans_2 : decode cX7_spans 2 = .ok (.invokestatic 60, 3) := by decide +kernel
theorem dX7_spans_5 : decode cX7_spans 5 = .ok (.ifCond .ne 7, 3) := by decide +kernel
theorem dX7_spans_8 : decode cX7_spans 8 = .ok (.iconst 1, 1) := by decide +kernel
theorem dX7_spans_9 : decode cX7_spans 9 = .ok (.goto 51, 3) := by decide +kernel
theorem dX7_spans_12 : decode cX7_spans 12 = .ok (.aload_n 0, 1) := by decide +kernel
theorem dX7_spans_13 : decode cX7_spans 13 = .ok (.iload_n 1, 1) := by decide +kernel
theorem dX7_spans_14 : decode cX7_spans 14 = .ok (.iconst 2, 1) := by decide +kernel
theorem dX7_spans_15 : decode cX7_spans 15 = .ok (.invokevirtual 64, 3) := by decide +kernel
theorem dX7_spans_18 : decode cX7_spans 18 = .ok (.ifCond .ne 7, 3) := by decide +kernel
theorem dX7_spans_21 : decode cX7_spans 21 = .ok (.iconst 2, 1) := by decide +kernel
theorem dX7_spans_22 : decode cX7_spans 22 = .ok (.goto 38, 3) := by decide +kernel
theorem dX7_spans_25 : decode cX7_spans 25 = .ok (.iload_n 2, 1) := by decide +kernel
theorem dX7_spans_26 : decode cX7_spans 26 = .ok (.invokestatic 170, 3) := by decide +kernel
theorem dX7_spans_29 : decode cX7_spans 29 = .ok (.ifCond .eq 26, 3) := by decide +kernel
theorem dX7_spans_32 : decode cX7_spans 32 = .ok (.iload_n 3, 1) := by decide +kernel
theorem dX7_spans_33 : decode cX7_spans 33 = .ok (.invokestatic 170, 3) := by decide +kernel
theorem dX7_spans_36 : decode cX7_spans 36 = .ok (.ifCond .eq 19, 3) := by decide +kernel
theorem dX7_spans_39 : decode cX7_spans 39 = .ok (.iload 4, 2) := by decide +kernel
theorem dX7_spans_41 : decode cX7_spans 41 = .ok (.invokestatic 170, 3) := by decide +kernel
theorem dX7_spans_44 : decode cX7_spans 44 = .ok (.ifCond .eq 11, 3) := by decide +kernel
theorem dX7_spans_47 : decode cX7_spans 47 = .ok (.iload 5, 2) := by decide +kernel
theorem dX7_spans_49 : decode cX7_spans 49 = .ok (.invokestatic 170, 3) := by decide +kernel
theorem dX7_spans_52 : decode cX7_spans 52 = .ok (.ifCond .ne 7, 3) := by decide +kernel
theorem dX7_spans_55 : decode cX7_spans 55 = .ok (.iconst 3, 1) := by decide +kernel
theorem dX7_spans_56 : decode cX7_spans 56 = .ok (.goto 4, 3) := by decide +kernel
theorem dX7_spans_59 : decode cX7_spans 59 = .ok (.iconst 0, 1) := by decide +kernel
theorem dX7_spans_60 : decode cX7_spans 60 = .ok (.putfield 56, 3) := by decide +kernel
theorem dX7_spans_63 : decode cX7_spans 63 = .ok (.aload_n 0, 1) := by decide +kernel
theorem dX7_spans_64 : decode cX7_spans 64 = .ok (.getfield 56, 3) := by decide +kernel
theorem dX7_spans_67 : decode cX7_spans 67 = .ok (.ifCond .le 5, 3) := by decide +kernel
theorem dX7_spans_70 : decode cX7_spans 70 = .ok (.iconst 0, 1) := by decide +kernel
theorem dX7_spans_71 : decode cX7_spans 71 = .ok (.ireturn, 1) := by decide +kernel
theorem dX7_spans_72 : decode cX7_spans 72 = .ok (.aload_n 0, 1) := by decide +kernel
theorem dX7_spans_73 : decode cX7_spans 73 = .ok (.iconst 0, 1) := by decide +kernel
theorem dX7_spans_74 : decode cX7_spans 74 = .ok (.putfield 165, 3) := by decide +kernel
theorem dX7_spans_77 : decode cX7_spans 77 = .ok (.iload_n 2, 1) := by decide +kernel
theorem dX7_spans_78 : decode cX7_spans 78 = .ok (.iload 4, 2) := by decide +kernel
theorem dX7_spans_80 : decode cX7_spans 80 = .ok (.if_icmp .gt 9, 3) := by decide +kernel
theorem dX7_spans_83 : decode cX7_spans 83 = .ok (.iload_n 3, 1) := by decide +kernel
theorem dX7_spans_84 : decode cX7_spans 84 = .ok (.iload 5, 2) := by decide +kernel
theorem dX7_spans_86 : decode cX7_spans 86 = .ok (.if_icmp .le 5, 3) := by decide +kernel
theorem dX7_spans_89 : decode cX7_spans 89 = .ok (.iconst 0, 1) := by decide +kernel
theorem dX7_spans_90 : decode cX7_spans 90 = .ok (.ireturn, 1) := by decide +kernel
theorem dX7_spans_91 : decode cX7_spans 91 = .ok (.bipush 20, 2) := by decide +kernel
theorem dX7_spans_93 : decode cX7_spans 93 = .ok (.iload_n 1, 1) := by decide +kernel
theorem dX7_spans_94 : decode cX7_spans 94 = .ok (.imul, 1) := by decide +kernel
theorem dX7_spans_95 : decode cX7_spans 95 = .ok (.istore 6, 2) := by decide +kernel
theorem dX7_spans_97 : decode cX7_spans 97 = .ok (.aload_n 0, 1) := by decide +kernel
theorem dX7_spans_98 : decode cX7_spans 98 = .ok (.getfield 16, 3) := by decide +kernel
theorem dX7_spans_101 : decode cX7_spans 101 = .ok (.iload_n 1, 1) := by decide +kernel
theorem dX7_spans_102 : decode cX7_spans 102 = .ok (.iaload, 1) := by decide +kernel
theorem dX7_spans_103 : decode cX7_spans 103 = .ok (.istore 7, 2) := by decide +kernel
theorem dX7_spans_105 : decode cX7_spans 105 = .ok (.aload_n 0, 1) := by decide +kernel
theorem dX7_spans_106 : decode cX7_spans 106 = .ok (.getfield 13, 3) := by decide +kernel
theorem dX7_spans_109 : decode cX7_spans 109 = .ok (.iload_n 1, 1) := by decide +kernel
theorem dX7_spans_110 : decode cX7_spans 110 = .ok (.iaload, 1) := by decide +kernel
theorem dX7_spans_111 : decode cX7_spans 111 = .ok (.iconst 1, 1) := by decide +kernel
theorem dX7_spans_112 : decode cX7_spans 112 = .ok (.if_icmp .ne 107, 3) := by decide +kernel
theorem dX7_spans_115 : decode cX7_spans 115 = .ok (.aload_n 0, 1) := by decide +kernel
theorem dX7_spans_116 : decode cX7_spans 116 = .ok (.getfield 22, 3) := by decide +kernel
theorem dX7_spans_119 : decode cX7_spans 119 = .ok (.iload 6, 2) := by decide +kernel
theorem dX7_spans_121 : decode cX7_spans 121 = .ok (.iaload, 1) := by decide +kernel
theorem dX7_spans_122 : decode cX7_spans 122 = .ok (.iload_n 2, 1) := by decide +kernel
theorem dX7_spans_123 : decode cX7_spans 123 = .ok (.iload 7, 2) := by decide +kernel
theorem dX7_spans_125 : decode cX7_spans 125 = .ok (.isub, 1) := by decide +kernel
theorem dX7_spans_126 : decode cX7_spans 126 = .ok (.if_icmp .lt 51, 3) := by decide +kernel
theorem dX7_spans_129 : decode cX7_spans 129 = .ok (.aload_n 0, 1) := by decide +kernel
theorem dX7_spans_130 : decode cX7_spans 130 = .ok (.getfield 22, 3) := by decide +kernel
theorem dX7_spans_133 : decode cX7_spans 133 = .ok (.iload 6, 2) := by decide +kernel
theorem dX7_spans_135 : decode cX7_spans 135 = .ok (.iaload, 1) := by decide +kernel
theorem dX7_spans_136 : decode cX7_spans 136 = .ok (.iload 4, 2) := by decide +kernel
theorem dX7_spans_138 : decode cX7_spans 138 = .ok (.iload 7, 2) := by decide +kernel
theorem dX7_spans_140 : decode cX7_spans 140 = .ok (.iadd, 1) := by decide +kernel
theorem dX7_spans_141 : decode cX7_spans 141 = .ok (.if_icmp .gt 36, 3) := by decide +kernel
theorem dX7_spans_144 : decode cX7_spans 144 = .ok (.aload_n 0, 1) := by decide +kernel
theorem dX7_spans_145 : decode cX7_spans 145 = .ok (.getfield 25, 3) := by decide +kernel
theorem dX7_spans_148 : decode cX7_spans 148 = .ok (.iload 6, 2) := by decide +kernel
theorem dX7_spans_150 : decode cX7_spans 150 = .ok (.iaload, 1) := by decide +kernel
theorem dX7_spans_151 : decode cX7_spans 151 = .ok (.iload_n 3, 1) := by decide +kernel
theorem dX7_spans_152 : decode cX7_spans 152 = .ok (.iload 7, 2) := by decide +kernel
theorem dX7_spans_154 : decode cX7_spans 154 = .ok (.isub, 1) := by decide +kernel
theorem dX7_spans_155 : decode cX7_spans 155 = .ok (.if_icmp .lt 22, 3) := by decide +kernel
theorem dX7_spans_158 : decode cX7_spans 158 = .ok (.aload_n 0, 1) := by decide +kernel
theorem dX7_spans_159 : decode cX7_spans 159 = .ok (.getfield 25, 3) := by decide +kernel
theorem dX7_spans_162 : decode cX7_spans 162 = .ok (.iload 6, 2) := by decide +kernel
theorem dX7_spans_164 : decode cX7_spans 164 = .ok (.iaload, 1) := by decide +kernel
theorem dX7_spans_165 : decode cX7_spans 165 = .ok (.iload 5, 2) := by decide +kernel
theorem dX7_spans_167 : decode cX7_spans 167 = .ok (.iload 7, 2) := by decide +kernel
theorem dX7_spans_169 : decode cX7_spans 169 = .ok (.iadd, 1) := by decide +kernel
theorem dX7_spans_170 : decode cX7_spans 170 = .ok (.if_icmp .gt 7, 3) := by decide +kernel
theorem dX7_spans_173 : decode cX7_spans 173 = .ok (.iconst 1, 1) := by decide +kernel
theorem dX7_spans_174 : decode cX7_spans 174 = .ok (.goto 4, 3) := by decide +kernel
theorem dX7_spans_177 : decode cX7_spans 177 = .ok (.iconst 0, 1) := by decide +kernel
theorem dX7_spans_178 : decode cX7_spans 178 = .ok (.istore 8, 2) := by decide +kernel
theorem dX7_spans_180 : decode cX7_spans 180 = .ok (.aload_n 0, 1) := by decide +kernel
theorem dX7_spans_181 : decode cX7_spans 181 = .ok (.aload_n 0, 1) := by decide +kernel
theorem dX7_spans_182 : decode cX7_spans 182 = .ok (.getfield 19, 3) := by decide +kernel
theorem dX7_spans_185 : decode cX7_spans 185 = .ok (.iload 6, 2) := by decide +kernel
theorem dX7_spans_187 : decode cX7_spans 187 = .ok (.iaload, 1) := by decide +kernel
theorem dX7_spans_188 : decode cX7_spans 188 = .ok (.i2l, 1) := by decide +kernel
theorem dX7_spans_189 : decode cX7_spans 189 = .ok (.putfield 142, 3) := by decide +kernel
theorem dX7_spans_192 : decode cX7_spans 192 = .ok (.aload_n 0, 1) := by decide +kernel
theorem dX7_spans_193 : decode cX7_spans 193 = .ok (.lconst 1, 1) := by decide +kernel
theorem dX7_spans_194 : decode cX7_spans 194 = .ok (.putfield 145, 3) := by decide +kernel
theorem dX7_spans_197 : decode cX7_spans 197 = .ok (.aload_n 0, 1) := by decide +kernel
theorem dX7_spans_198 : decode cX7_spans 198 = .ok (.aload_n 0, 1) := by decide +kernel
theorem dX7_spans_199 : decode cX7_spans 199 = .ok (.getfield 142, 3) := by decide +kernel
theorem dX7_spans_202 : decode cX7_spans 202 = .ok (.putfield 152, 3) := by decide +kernel
theorem dX7_spans_205 : decode cX7_spans 205 = .ok (.aload_n 0, 1) := by decide +kernel
theorem dX7_spans_206 : decode cX7_spans 206 = .ok (.lconst 1, 1) := by decide +kernel
theorem dX7_spans_207 : decode cX7_spans 207 = .ok (.putfield 155, 3) := by decide +kernel
theorem dX7_spans_210 : decode cX7_spans 210 = .ok (.iload 8, 2) := by decide +kernel
theorem dX7_spans_212 : decode cX7_spans 212 = .ok (.ifCond .eq 7, 3) := by decide +kernel
theorem dX7_spans_215 : decode cX7_spans 215 = .ok (.aload_n 0, 1) := by decide +kernel
theorem dX7_spans_216 : decode cX7_spans 216 = .ok (.invokevirtual 173, 3) := by decide +kernel
theorem dX7_spans_219 : decode cX7_spans 219 = .ok (.iload 6, 2) := by decide +kernel
theorem dX7_spans_221 : decode cX7_spans 221 = .ok (.istore 8, 2) := by decide +kernel
theorem dX7_spans_223 : decode cX7_spans 223 = .ok (.iload 8, 2) := by decide +kernel
theorem dX7_spans_225 : decode cX7_spans 225 = .ok (.iload 6, 2) := by decide +kernel
theorem dX7_spans_227 : decode cX7_spans 227 = .ok (.aload_n 0, 1) := by decide +kernel
theorem dX7_spans_228 : decode cX7_spans 228 = .ok (.getfield 13, 3) := by decide +kernel
theorem dX7_spans_231 : decode cX7_spans 231 = .ok (.iload_n 1, 1) := by decide +kernel
theorem dX7_spans_232 : decode cX7_spans 232 = .ok (.iaload, 1) := by decide +kernel
theorem dX7_spans_233 : decode cX7_spans 233 = .ok (.iadd, 1) := by decide +kernel
theorem dX7_spans_234 : decode cX7_spans 234 = .ok (.iconst 1, 1) := by decide +kernel
theorem dX7_spans_235 : decode cX7_spans 235 = .ok (.isub, 1) := by decide +kernel
theorem dX7_spans_236 : decode cX7_spans 236 = .ok (.if_icmp .ge 129, 3) := by decide +kernel
theorem dX7_spans_239 : decode cX7_spans 239 = .ok (.aload_n 0, 1) := by decide +kernel
theorem dX7_spans_240 : decode cX7_spans 240 = .ok (.aload_n 0, 1) := by decide +kernel
theorem dX7_spans_241 : decode cX7_spans 241 = .ok (.getfield 19, 3) := by decide +kernel
theorem dX7_spans_244 : decode cX7_spans 244 = .ok (.iload 8, 2) := by decide +kernel
theorem dX7_spans_246 : decode cX7_spans 246 = .ok (.iaload, 1) := by decide +kernel
theorem dX7_spans_247 : decode cX7_spans 247 = .ok (.i2l, 1) := by decide +kernel
theorem dX7_spans_248 : decode cX7_spans 248 = .ok (.putfield 142, 3) := by decide +kernel
theorem dX7_spans_251 : decode cX7_spans 251 = .ok (.aload_n 0, 1) := by decide +kernel
theorem dX7_spans_252 : decode cX7_spans 252 = .ok (.lconst 1, 1) := by decide +kernel
theorem dX7_spans_253 : decode cX7_spans 253 = .ok (.putfield 145, 3) := by decide +kernel
theorem dX7_spans_256 : decode cX7_spans 256 = .ok (.aload_n 0, 1) := by decide +kernel
theorem dX7_spans_257 : decode cX7_spans 257 = .ok (.aload_n 0, 1) := by decide +kernel
theorem dX7_spans_258 : decode cX7_spans 258 = .ok (.getfield 19, 3) := by decide +kernel
theorem dX7_spans_261 : decode cX7_spans 261 = .ok (.iload 8, 2) := by decide +kernel
theorem dX7_spans_263 : decode cX7_spans 263 = .ok (.iconst 1, 1) := by decide +kernel
theorem dX7_spans_264 : decode cX7_spans 264 = .ok (.iadd, 1) := by decide +kernel
theorem dX7_spans_265 : decode cX7_spans 265 = .ok (.iaload, 1) := by decide +kernel
theorem dX7_spans_266 : decode cX7_spans 266 = .ok (.i2l, 1) := by decide +kernel
theorem dX7_spans_267 : decode cX7_spans 267 = .ok (.putfield 152, 3) := by decide +kernel
theorem dX7_spans_270 : decode cX7_spans 270 = .ok (.aload_n 0, 1) := by decide +kernel
theorem dX7_spans_271 : decode cX7_spans 271 = .ok (.lconst 1, 1) := by decide +kernel
theorem dX7_spans_272 : decode cX7_spans 272 = .ok (.putfield 155, 3) := by decide +kernel
theorem dX7_spans_275 : decode cX7_spans 275 = .ok (.aload_n 0, 1) := by decide +kernel
theorem dX7_spans_276 : decode cX7_spans 276 = .ok (.iload 8, 2) := by decide +kernel
theorem dX7_spans_278 : decode cX7_spans 278 = .ok (.iconst 0, 1) := by decide +kernel
theorem dX7_spans_279 : decode cX7_spans 279 = .ok (.iload_n 2, 1) := by decide +kernel
theorem dX7_spans_280 : decode cX7_spans 280 = .ok (.i2l, 1) := by decide +kernel
theorem dX7_spans_281 : decode cX7_spans 281 = .ok (.iload 7, 2) := by decide +kernel
theorem dX7_spans_283 : decode cX7_spans 283 = .ok (.i2l, 1) := by decide +kernel
theorem dX7_spans_284 : decode cX7_spans 284 = .ok (.lsub, 1) := by decide +kernel
theorem dX7_spans_285 : decode cX7_spans 285 = .ok (.iload 4, 2) := by decide +kernel
theorem dX7_spans_287 : decode cX7_spans 287 = .ok (.i2l, 1) := by decide +kernel
theorem dX7_spans_288 : decode cX7_spans 288 = .ok (.iload 7, 2) := by decide +kernel
theorem dX7_spans_290 : decode cX7_spans 290 = .ok (.i2l, 1) := by decide +kernel
theorem dX7_spans_291 : decode cX7_spans 291 = .ok (.ladd, 1) := by decide +kernel
theorem dX7_spans_292 : decode cX7_spans 292 = .ok (.invokevirtual 176, 3) := by decide +kernel
theorem dX7_spans_295 : decode cX7_spans 295 = .ok (.ifCond .eq 30, 3) := by decide +kernel
theorem dX7_spans_298 : decode cX7_spans 298 = .ok (.aload_n 0, 1) := by decide +kernel
theorem dX7_spans_299 : decode cX7_spans 299 = .ok (.iload 8, 2) := by decide +kernel
theorem dX7_spans_301 : decode cX7_spans 301 = .ok (.iconst 1, 1) := by decide +kernel
theorem dX7_spans_302 : decode cX7_spans 302 = .ok (.iload_n 3, 1) := by decide +kernel
theorem dX7_spans_303 : decode cX7_spans 303 = .ok (.i2l, 1) := by decide +kernel
theorem dX7_spans_304 : decode cX7_spans 304 = .ok (.iload 7, 2) := by decide +kernel
theorem dX7_spans_306 : decode cX7_spans 306 = .ok (.i2l, 1) := by decide +kernel
theorem dX7_spans_307 : decode cX7_spans 307 = .ok (.lsub, 1) := by decide +kernel
theorem dX7_spans_308 : decode cX7_spans 308 = .ok (.iload 5, 2) := by decide +kernel
theorem dX7_spans_310 : decode cX7_spans 310 = .ok (.i2l, 1) := by decide +kernel
theorem dX7_spans_311 : decode cX7_spans 311 = .ok (.iload 7, 2) := by decide +kernel
theorem dX7_spans_313 : decode cX7_spans 313 = .ok (.i2l, 1) := by decide +kernel
theorem dX7_spans_314 : decode cX7_spans 314 = .ok (.ladd, 1) := by decide +kernel
theorem dX7_spans_315 : decode cX7_spans 315 = .ok (.invokevirtual 176, 3) := by decide +kernel
theorem dX7_spans_318 : decode cX7_spans 318 = .ok (.ifCond .eq 7, 3) := by decide +kernel
theorem dX7_spans_321 : decode cX7_spans 321 = .ok (.iconst 1, 1) := by decide +kernel
theorem dX7_spans_322 : decode cX7_spans 322 = .ok (.goto 4, 3) := by decide +kernel
theorem dX7_spans_325 : decode cX7_spans 325 = .ok (.iconst 0, 1) := by decide +kernel
theorem dX7_spans_326 : decode cX7_spans 326 = .ok (.istore 9, 2) := by decide +kernel
theorem dX7_spans_328 : decode cX7_spans 328 = .ok (.iload 9, 2) := by decide +kernel
theorem dX7_spans_330 : decode cX7_spans 330 = .ok (.ifCond .eq 29, 3) := by decide +kernel
theorem dX7_spans_333 : decode cX7_spans 333 = .ok (.aload_n 0, 1) := by decide +kernel
theorem dX7_spans_334 : decode cX7_spans 334 = .ok (.getfield 152, 3) := by decide +kernel
theorem dX7_spans_337 : decode cX7_spans 337 = .ok (.aload_n 0, 1) := by decide +kernel
theorem dX7_spans_338 : decode cX7_spans 338 = .ok (.getfield 155, 3) := by decide +kernel
theorem dX7_spans_341 : decode cX7_spans 341 = .ok (.aload_n 0, 1) := by decide +kernel
theorem dX7_spans_342 : decode cX7_spans 342 = .ok (.getfield 142, 3) := by decide +kernel
theorem dX7_spans_345 : decode cX7_spans 345 = .ok (.aload_n 0, 1) := by decide +kernel
theorem dX7_spans_346 : decode cX7_spans 346 = .ok (.getfield 145, 3) := by decide +kernel
theorem dX7_spans_349 : decode cX7_spans 349 = .ok (.invokestatic 148, 3) := by decide +kernel
theorem dX7_spans_352 : decode cX7_spans 352 = .ok (.ifCond .ne 7, 3) := by decide +kernel
theorem dX7_spans_355 : decode cX7_spans 355 = .ok (.aload_n 0, 1) := by decide +kernel
theorem dX7_spans_356 : decode cX7_spans 356 = .ok (.invokevirtual 173, 3) := by decide +kernel
theorem dX7_spans_359 : decode cX7_spans 359 = .ok (.iinc 8 1, 3) := by decide +kernel
theorem dX7_spans_362 : decode cX7_spans 362 = .ok (.goto (-139), 3) := by decide +kernel
theorem dX7_spans_365 : decode cX7_spans 365 = .ok (.aload_n 0, 1) := by decide +kernel
theorem dX7_spans_366 : decode cX7_spans 366 = .ok (.getfield 165, 3) := by decide +kernel
theorem dX7_spans_369 : decode cX7_spans 369 = .ok (.ireturn, 1) := by decide +kernel
theorem dX7_span_0 : decode cX7_span 0 = .ok (.aload_n 0, 1) := by decide +kernel
theorem dX7_span_1 : decode cX7_span 1 = .ok (.iload_n 1, 1) := by decide +kernel
theorem dX7_span_2 : decode cX7_span 2 = .ok (.ifCond .lt 11, 3) := by decide +kernel
theorem dX7_span_5 : decode cX7_span 5 = .ok (.iload_n 1, 1) := by decide +kernel
theorem dX7_span_6 : decode cX7_span 6 = .ok (.aload_n 0, 1) := by decide +kernel
theorem dX7_span_7 : decode cX7_span 7 = .ok (.getfield 165, 3) := by decide +kernel
theorem dX7_span_10 : decode cX7_span 10 = .ok (.if_icmp .lt 7, 3) := by decide +kernel
theorem dX7_span_13 : decode cX7_span 13 = .ok (.iconst 1, 1) := by decide +kernel
theorem dX7_span_14 : decode cX7_span 14 = .ok (.goto 4, 3) := by decide +kernel
theorem dX7_span_17 : decode cX7_span 17 = .ok (.iconst 0, 1) := by decide +kernel
theorem dX7_span_18 : decode cX7_span 18 = .ok (.putfield 56, 3) := by decide +kernel
theorem dX7_span_21 : decode cX7_span 21 = .ok (.aload_n 0, 1) := by decide +kernel
theorem dX7_span_22 : decode cX7_span 22 = .ok (.getfield 56, 3) := by decide +kernel
theorem dX7_span_25 : decode cX7_span 25 = .ok (.ifCond .le 5, 3) := by decide +kernel
theorem dX7_span_28 : decode cX7_span 28 = .ok (.lconst 0, 1) := by decide +kernel
theorem dX7_span_29 : decode cX7_span 29 = .ok (.lreturn, 1) := by decide +kernel
theorem dX7_span_30 : decode cX7_span 30 = .ok (.iload_n 2, 1) := by decide +kernel
theorem dX7_span_31 : decode cX7_span 31 = .ok (.ifCond .eq 25, 3) := by decide +kernel
theorem dX7_span_34 : decode cX7_span 34 = .ok (.iload_n 3, 1) := by decide +kernel
theorem dX7_span_35 : decode cX7_span 35 = .ok (.ifCond .eq 12, 3) := by decide +kernel
theorem dX7_span_38 : decode cX7_span 38 = .ok (.aload_n 0, 1) := by decide +kernel
theorem dX7_span_39 : decode cX7_span 39 = .ok (.getfield 53, 3) := by decide +kernel
theorem dX7_span_42 : decode cX7_span 42 = .ok (.iload_n 1, 1) := by decide +kernel
theorem dX7_span_43 : decode cX7_span 43 = .ok (.laload, 1) := by decide +kernel
theorem dX7_span_44 : decode cX7_span 44 = .ok (.goto 31, 3) := by decide +kernel
theorem dX7_span_47 : decode cX7_span 47 = .ok (.aload_n 0, 1) := by decide +kernel
theorem dX7_span_48 : decode cX7_span 48 = .ok (.getfield 50, 3) := by decide +kernel
theorem dX7_span_51 : decode cX7_span 51 = .ok (.iload_n 1, 1) := by decide +kernel
theorem dX7_span_52 : decode cX7_span 52 = .ok (.laload, 1) := by decide +kernel
theorem dX7_span_53 : decode cX7_span 53 = .ok (.goto 22, 3) := by decide +kernel
theorem dX7_span_56 : decode cX7_span 56 = .ok (.iload_n 3, 1) := by decide +kernel
theorem dX7_span_57 : decode cX7_span 57 = .ok (.ifCond .eq 12, 3) := by decide +kernel
theorem dX7_span_60 : decode cX7_span 60 = .ok (.aload_n 0, 1) := by decide +kernel
theorem dX7_span_61 : decode cX7_span 61 = .ok (.getfield 47, 3) := by decide +kernel
theorem dX7_span_64 : decode cX7_span 64 = .ok (.iload_n 1, 1) := by decide +kernel
theorem dX7_span_65 : decode cX7_span 65 = .ok (.laload, 1) := by decide +kernel
theorem dX7_span_66 : decode cX7_span 66 = .ok (.goto 9, 3) := by decide +kernel
theorem dX7_span_69 : decode cX7_span 69 = .ok (.aload_n 0, 1) := by decide +kernel
theorem dX7_span_70 : decode cX7_span 70 = .ok (.getfield 43, 3) := by decide +kernel
theorem dX7_span_73 : decode cX7_span 73 = .ok (.iload_n 1, 1) := by decide +kernel
theorem dX7_span_74 : decode cX7_span 74 = .ok (.laload, 1) := by decide +kernel
theorem dX7_span_75 : decode cX7_span 75 = .ok (.lreturn, 1) := by decide +kernel
