theorem d_R_out_0 : decode b_R_out 0 = .ok (.iload_n 0, 1) := by decide +kernel
theorem d_R_out_1 : decode b_R_out 1 = .ok (.ifCond .lt 8, 3) := by decide +kernel
theorem d_R_out_4 : decode b_R_out 4 = .ok (.iload_n 0, 1) := by decide +kernel
theorem d_R_out_5 : decode b_R_out 5 = .ok (.iload_n 1, 1) := by decide +kernel
theorem d_R_out_6 : decode b_R_out 6 = .ok (.if_icmp .lt 7, 3) := by decide +kernel
theorem d_R_out_9 : decode b_R_out 9 = .ok (.iconst 1, 1) := by decide +kernel
theorem d_R_out_10 : decode b_R_out 10 = .ok (.goto 4, 3) := by decide +kernel
theorem d_R_out_13 : decode b_R_out 13 = .ok (.iconst 0, 1) := by decide +kernel
theorem d_R_out_14 : decode b_R_out 14 = .ok (.ireturn, 1) := by decide +kernel
theorem d_R_newer_0 : decode b_R_newer 0 = .ok (.iload_n 0, 1) := by decide +kernel
theorem d_R_newer_1 : decode b_R_newer 1 = .ok (.iload_n 1, 1) := by decide +kernel
theorem d_R_newer_2 : decode b_R_newer 2 = .ok (.if_icmp .lt 9, 3) := by decide +kernel
theorem d_R_newer_5 : decode b_R_newer 5 = .ok (.iload_n 0, 1) := by decide +kernel
theorem d_R_newer_6 : decode b_R_newer 6 = .ok (.iload_n 1, 1) := by decide +kernel
theorem d_R_newer_7 : decode b_R_newer 7 = .ok (.isub, 1) := by decide +kernel
theorem d_R_newer_8 : decode b_R_newer 8 = .ok (.goto 10, 3) := by decide +kernel
theorem d_R_newer_11 : decode b_R_newer 11 = .ok (.iload_n 0, 1) := by decide +kernel
theorem d_R_newer_12 : decode b_R_newer 12 = .ok (.iload_n 1, 1) := by decide +kernel
theorem d_R_newer_13 : decode b_R_newer 13 = .ok (.isub, 1) := by decide +kernel
theorem d_R_newer_14 : decode b_R_newer 14 = .ok (.sipush 4095, 3) := by decide +kernel
theorem d_R_newer_17 : decode b_R_newer 17 = .ok (.iadd, 1) := by decide +kernel
theorem d_R_newer_18 : decode b_R_newer 18 = .ok (.istore_n 2, 1) := by decide +kernel
theorem d_R_newer_19 : decode b_R_newer 19 = .ok (.iload_n 2, 1) := by decide +kernel
theorem d_R_newer_20 : decode b_R_newer 20 = .ok (.sipush 4095, 3) := by decide +kernel
theorem d_R_newer_23 : decode b_R_newer 23 = .ok (.if_icmp .ne 7, 3) := by decide +kernel
theorem d_R_newer_26 : decode b_R_newer 26 = .ok (.iconst 0, 1) := by decide +kernel
theorem d_R_newer_27 : decode b_R_newer 27 = .ok (.goto 4, 3) := by decide +kernel
theorem d_R_newer_30 : decode b_R_newer 30 = .ok (.iload_n 2, 1) := by decide +kernel
theorem d_R_newer_31 : decode b_R_newer 31 = .ok (.istore_n 2, 1) := by decide +kernel
theorem d_R_newer_32 : decode b_R_newer 32 = .ok (.iload_n 2, 1) := by decide +kernel
theorem d_R_newer_33 : decode b_R_newer 33 = .ok (.ifCond .le 14, 3) := by decide +kernel
theorem d_R_newer_36 : decode b_R_newer 36 = .ok (.iload_n 2, 1) := by decide +kernel
theorem d_R_newer_37 : decode b_R_newer 37 = .ok (.sipush 2000, 3) := by decide +kernel
theorem d_R_newer_40 : decode b_R_newer 40 = .ok (.if_icmp .gt 7, 3) := by decide +kernel
theorem d_R_newer_43 : decode b_R_newer 43 = .ok (.iconst 1, 1) := by decide +kernel
theorem d_R_newer_44 : decode b_R_newer 44 = .ok (.goto 4, 3) := by decide +kernel
theorem d_R_newer_47 : decode b_R_newer 47 = .ok (.iconst 0, 1) := by decide +kernel
theorem d_R_newer_48 : decode b_R_newer 48 = .ok (.ireturn, 1) := by decide +kernel
theorem d_R_isPage_0 : decode b_R_isPage 0 = .ok (.iload_n 0, 1) := by decide +kernel
theorem d_R_isPage_1 : decode b_R_isPage 1 = .ok (.iconst 4, 1) := by decide +kernel
theorem d_R_isPage_2 : decode b_R_isPage 2 = .ok (.invokestatic 46, 3) := by decide +kernel
theorem d_R_isPage_5 : decode b_R_isPage 5 = .ok (.ifCond .ne 15, 3) := by decide +kernel
theorem d_R_isPage_8 : decode b_R_isPage 8 = .ok (.iload_n 1, 1) := by decide +kernel
theorem d_R_isPage_9 : decode b_R_isPage 9 = .ok (.iconst 4, 1) := by decide +kernel
theorem d_R_isPage_10 : decode b_R_isPage 10 = .ok (.invokestatic 46, 3) := by decide +kernel
theorem d_R_isPage_13 : decode b_R_isPage 13 = .ok (.ifCond .ne 7, 3) := by decide +kernel
theorem d_R_isPage_16 : decode b_R_isPage 16 = .ok (.iconst 1, 1) := by decide +kernel
theorem d_R_isPage_17 : decode b_R_isPage 17 = .ok (.goto 4, 3) := by decide +kernel
theorem d_R_isPage_20 : decode b_R_isPage 20 = .ok (.iconst 0, 1) := by decide +kernel
theorem d_R_isPage_21 : decode b_R_isPage 21 = .ok (.ireturn, 1) := by decide +kernel
theorem d_R_thrown_0 : decode b_R_thrown 0 = .ok (.aload_n 0, 1) := by decide +kernel
theorem d_R_thrown_1 : decode b_R_thrown 1 = .ok (.getfield 33, 3) := by decide +kernel
theorem d_R_thrown_4 : decode b_R_thrown 4 = .ok (.ireturn, 1) := by decide +kernel
theorem d_R_fail_0 : decode b_R_fail 0 = .ok (.aload_n 0, 1) := by decide +kernel
theorem d_R_fail_1 : decode b_R_fail 1 = .ok (.iload_n 1, 1) := by decide +kernel
theorem d_R_fail_2 : decode b_R_fail 2 = .ok (.putfield 33, 3) := by decide +kernel
theorem d_R_fail_5 : decode b_R_fail 5 = .ok (.iconst 0, 1) := by decide +kernel
theorem d_R_fail_6 : decode b_R_fail 6 = .ok (.ireturn, 1) := by decide +kernel
theorem d_R_left_0 : decode b_R_left 0 = .ok (.iconst 0, 1) := by decide +kernel
theorem d_R_left_1 : decode b_R_left 1 = .ok (.istore_n 2, 1) := by decide +kernel
theorem d_R_left_2 : decode b_R_left 2 = .ok (.iconst 0, 1) := by decide +kernel
theorem d_R_left_3 : decode b_R_left 3 = .ok (.istore_n 3, 1) := by decide +kernel
theorem d_R_left_4 : decode b_R_left 4 = .ok (.iload_n 3, 1) := by decide +kernel
theorem d_R_left_5 : decode b_R_left 5 = .ok (.bipush 31, 2) := by decide +kernel
theorem d_R_left_7 : decode b_R_left 7 = .ok (.if_icmp .ge 27, 3) := by decide +kernel
theorem d_R_left_10 : decode b_R_left 10 = .ok (.iload_n 1, 1) := by decide +kernel
theorem d_R_left_11 : decode b_R_left 11 = .ok (.iload_n 3, 1) := by decide +kernel
theorem d_R_left_12 : decode b_R_left 12 = .ok (.ishr, 1) := by decide +kernel
theorem d_R_left_13 : decode b_R_left 13 = .ok (.iconst 1, 1) := by decide +kernel
theorem d_R_left_14 : decode b_R_left 14 = .ok (.iand, 1) := by decide +kernel
theorem d_R_left_15 : decode b_R_left 15 = .ok (.iconst 1, 1) := by decide +kernel
theorem d_R_left_16 : decode b_R_left 16 = .ok (.if_icmp .ne 12, 3) := by decide +kernel
theorem d_R_left_19 : decode b_R_left 19 = .ok (.iload_n 2, 1) := by decide +kernel
theorem d_R_left_20 : decode b_R_left 20 = .ok (.aload_n 0, 1) := by decide +kernel
theorem d_R_left_21 : decode b_R_left 21 = .ok (.getfield 7, 3) := by decide +kernel
theorem d_R_left_24 : decode b_R_left 24 = .ok (.iload_n 3, 1) := by decide +kernel
theorem d_R_left_25 : decode b_R_left 25 = .ok (.iaload, 1) := by decide +kernel
theorem d_R_left_26 : decode b_R_left 26 = .ok (.ixor, 1) := by decide +kernel
theorem d_R_left_27 : decode b_R_left 27 = .ok (.istore_n 2, 1) := by decide +kernel
theorem d_R_left_28 : decode b_R_left 28 = .ok (.iinc 3 1, 3) := by decide +kernel
theorem d_R_left_31 : decode b_R_left 31 = .ok (.goto (-27), 3) := by decide +kernel
theorem d_R_left_34 : decode b_R_left 34 = .ok (.iload_n 2, 1) := by decide +kernel
theorem d_R_left_35 : decode b_R_left 35 = .ok (.ireturn, 1) := by decide +kernel
theorem d_R_codeword_0 : decode b_R_codeword 0 = .ok (.ldc 37, 2) := by decide +kernel
theorem d_R_codeword_2 : decode b_R_codeword 2 = .ok (.iload_n 1, 1) := by decide +kernel
theorem d_R_codeword_3 : decode b_R_codeword 3 = .ok (.imul, 1) := by decide +kernel
theorem d_R_codeword_4 : decode b_R_codeword 4 = .ok (.aload_n 0, 1) := by decide +kernel
theorem d_R_codeword_5 : decode b_R_codeword 5 = .ok (.ldc 37, 2) := by decide +kernel
theorem d_R_codeword_7 : decode b_R_codeword 7 = .ok (.iload_n 1, 1) := by decide +kernel
theorem d_R_codeword_8 : decode b_R_codeword 8 = .ok (.imul, 1) := by decide +kernel
theorem d_R_codeword_9 : decode b_R_codeword 9 = .ok (.invokevirtual 38, 3) := by decide +kernel
theorem d_R_codeword_12 : decode b_R_codeword 12 = .ok (.iadd, 1) := by decide +kernel
theorem d_R_codeword_13 : decode b_R_codeword 13 = .ok (.ireturn, 1) := by decide +kernel
theorem d_R_dataOf_0 : decode b_R_dataOf 0 = .ok (.aload_n 0, 1) := by decide +kernel
theorem d_R_dataOf_1 : decode b_R_dataOf 1 = .ok (.iload_n 1, 1) := by decide +kernel
theorem d_R_dataOf_2 : decode b_R_dataOf 2 = .ok (.invokevirtual 38, 3) := by decide +kernel
theorem d_R_dataOf_5 : decode b_R_dataOf 5 = .ok (.istore_n 2, 1) := by decide +kernel
theorem d_R_dataOf_6 : decode b_R_dataOf 6 = .ok (.aload_n 0, 1) := by decide +kernel
theorem d_R_dataOf_7 : decode b_R_dataOf 7 = .ok (.iconst 0, 1) := by decide +kernel
theorem d_R_dataOf_8 : decode b_R_dataOf 8 = .ok (.putfield 42, 3) := by decide +kernel
theorem d_R_dataOf_11 : decode b_R_dataOf 11 = .ok (.iload_n 2, 1) := by decide +kernel
theorem d_R_dataOf_12 : decode b_R_dataOf 12 = .ok (.ifCond .ne 8, 3) := by decide +kernel
theorem d_R_dataOf_15 : decode b_R_dataOf 15 = .ok (.iload_n 1, 1) := by decide +kernel
theorem d_R_dataOf_16 : decode b_R_dataOf 16 = .ok (.bipush 15, 2) := by decide +kernel
theorem d_R_dataOf_18 : decode b_R_dataOf 18 = .ok (.ishr, 1) := by decide +kernel
theorem d_R_dataOf_19 : decode b_R_dataOf 19 = .ok (.ireturn, 1) := by decide +kernel
theorem d_R_dataOf_20 : decode b_R_dataOf 20 = .ok (.iconst 0, 1) := by decide +kernel
theorem d_R_dataOf_21 : decode b_R_dataOf 21 = .ok (.istore_n 3, 1) := by decide +kernel
theorem d_R_dataOf_22 : decode b_R_dataOf 22 = .ok (.iload_n 3, 1) := by decide +kernel
theorem d_R_dataOf_23 : decode b_R_dataOf 23 = .ok (.bipush 31, 2) := by decide +kernel
theorem d_R_dataOf_25 : decode b_R_dataOf 25 = .ok (.if_icmp .ge 33, 3) := by decide +kernel
theorem d_R_dataOf_28 : decode b_R_dataOf 28 = .ok (.aload_n 0, 1) := by decide +kernel
theorem d_R_dataOf_29 : decode b_R_dataOf 29 = .ok (.getfield 7, 3) := by decide +kernel
theorem d_R_dataOf_32 : decode b_R_dataOf 32 = .ok (.iload_n 3, 1) := by decide +kernel
theorem d_R_dataOf_33 : decode b_R_dataOf 33 = .ok (.iaload, 1) := by decide +kernel
theorem d_R_dataOf_34 : decode b_R_dataOf 34 = .ok (.iload_n 2, 1) := by decide +kernel
theorem d_R_dataOf_35 : decode b_R_dataOf 35 = .ok (.if_icmp .ne 17, 3) := by decide +kernel
theorem d_R_dataOf_38 : decode b_R_dataOf 38 = .ok (.aload_n 0, 1) := by decide +kernel
theorem d_R_dataOf_39 : decode b_R_dataOf 39 = .ok (.iconst 1, 1) := by decide +kernel
theorem d_R_dataOf_40 : decode b_R_dataOf 40 = .ok (.putfield 42, 3) := by decide +kernel
theorem d_R_dataOf_43 : decode b_R_dataOf 43 = .ok (.iload_n 1, 1) := by decide +kernel
theorem d_R_dataOf_44 : decode b_R_dataOf 44 = .ok (.iconst 1, 1) := by decide +kernel
theorem d_R_dataOf_45 : decode b_R_dataOf 45 = .ok (.iload_n 3, 1) := by decide +kernel
theorem d_R_dataOf_46 : decode b_R_dataOf 46 = .ok (.ishl, 1) := by decide +kernel
theorem d_R_dataOf_47 : decode b_R_dataOf 47 = .ok (.ixor, 1) := by decide +kernel
theorem d_R_dataOf_48 : decode b_R_dataOf 48 = .ok (.bipush 15, 2) := by decide +kernel
theorem d_R_dataOf_50 : decode b_R_dataOf 50 = .ok (.ishr, 1) := by decide +kernel
theorem d_R_dataOf_51 : decode b_R_dataOf 51 = .ok (.ireturn, 1) := by decide +kernel
theorem d_R_dataOf_52 : decode b_R_dataOf 52 = .ok (.iinc 3 1, 3) := by decide +kernel
theorem d_R_dataOf_55 : decode b_R_dataOf 55 = .ok (.goto (-33), 3) := by decide +kernel
theorem d_R_dataOf_58 : decode b_R_dataOf 58 = .ok (.iconst 0, 1) := by decide +kernel
theorem d_R_dataOf_59 : decode b_R_dataOf 59 = .ok (.istore_n 3, 1) := by decide +kernel
theorem d_R_dataOf_60 : decode b_R_dataOf 60 = .ok (.iload_n 3, 1) := by decide +kernel
theorem d_R_dataOf_61 : decode b_R_dataOf 61 = .ok (.bipush 31, 2) := by decide +kernel
theorem d_R_dataOf_63 : decode b_R_dataOf 63 = .ok (.if_icmp .ge 61, 3) := by decide +kernel
theorem d_R_dataOf_66 : decode b_R_dataOf 66 = .ok (.iconst 0, 1) := by decide +kernel
theorem d_R_dataOf_67 : decode b_R_dataOf 67 = .ok (.istore 4, 2) := by decide +kernel
theorem d_R_dataOf_69 : decode b_R_dataOf 69 = .ok (.iload 4, 2) := by decide +kernel
theorem d_R_dataOf_71 : decode b_R_dataOf 71 = .ok (.iload_n 3, 1) := by decide +kernel
theorem d_R_dataOf_72 : decode b_R_dataOf 72 = .ok (.if_icmp .ge 46, 3) := by decide +kernel
theorem d_R_dataOf_75 : decode b_R_dataOf 75 = .ok (.aload_n 0, 1) := by decide +kernel
theorem d_R_dataOf_76 : decode b_R_dataOf 76 = .ok (.getfield 7, 3) := by decide +kernel
theorem d_R_dataOf_79 : decode b_R_dataOf 79 = .ok (.iload_n 3, 1) := by decide +kernel
theorem d_R_dataOf_80 : decode b_R_dataOf 80 = .ok (.iaload, 1) := by decide +kernel
theorem d_R_dataOf_81 : decode b_R_dataOf 81 = .ok (.aload_n 0, 1) := by decide +kernel
theorem d_R_dataOf_82 : decode b_R_dataOf 82 = .ok (.getfield 7, 3) := by decide +kernel
theorem d_R_dataOf_85 : decode b_R_dataOf 85 = .ok (.iload 4, 2) := by decide +kernel
theorem d_R_dataOf_87 : decode b_R_dataOf 87 = .ok (.iaload, 1) := by decide +kernel
theorem d_R_dataOf_88 : decode b_R_dataOf 88 = .ok (.ixor, 1) := by decide +kernel
theorem d_R_dataOf_89 : decode b_R_dataOf 89 = .ok (.iload_n 2, 1) := by decide +kernel
theorem d_R_dataOf_90 : decode b_R_dataOf 90 = .ok (.if_icmp .ne 22, 3) := by decide +kernel
theorem d_R_dataOf_93 : decode b_R_dataOf 93 = .ok (.aload_n 0, 1) := by decide +kernel
theorem d_R_dataOf_94 : decode b_R_dataOf 94 = .ok (.iconst 2, 1) := by decide +kernel
theorem d_R_dataOf_95 : decode b_R_dataOf 95 = .ok (.putfield 42, 3) := by decide +kernel
theorem d_R_dataOf_98 : decode b_R_dataOf 98 = .ok (.iload_n 1, 1) := by decide +kernel
theorem d_R_dataOf_99 : decode b_R_dataOf 99 = .ok (.iconst 1, 1) := by decide +kernel
theorem d_R_dataOf_100 : decode b_R_dataOf 100 = .ok (.iload_n 3, 1) := by decide +kernel
theorem d_R_dataOf_101 : decode b_R_dataOf 101 = .ok (.ishl, 1) := by decide +kernel
theorem d_R_dataOf_102 : decode b_R_dataOf 102 = .ok (.ixor, 1) := by decide +kernel
theorem d_R_dataOf_103 : decode b_R_dataOf 103 = .ok (.iconst 1, 1) := by decide +kernel
theorem d_R_dataOf_104 : decode b_R_dataOf 104 = .ok (.iload 4, 2) := by decide +kernel
theorem d_R_dataOf_106 : decode b_R_dataOf 106 = .ok (.ishl, 1) := by decide +kernel
theorem d_R_dataOf_107 : decode b_R_dataOf 107 = .ok (.ixor, 1) := by decide +kernel
theorem d_R_dataOf_108 : decode b_R_dataOf 108 = .ok (.bipush 15, 2) := by decide +kernel
theorem d_R_dataOf_110 : decode b_R_dataOf 110 = .ok (.ishr, 1) := by decide +kernel
theorem d_R_dataOf_111 : decode b_R_dataOf 111 = .ok (.ireturn, 1) := by decide +kernel
theorem d_R_dataOf_112 : decode b_R_dataOf 112 = .ok (.iinc 4 1, 3) := by decide +kernel
theorem d_R_dataOf_115 : decode b_R_dataOf 115 = .ok (.goto (-46), 3) := by decide +kernel
theorem d_R_dataOf_118 : decode b_R_dataOf 118 = .ok (.iinc 3 1, 3) := by decide +kernel
theorem d_R_dataOf_121 : decode b_R_dataOf 121 = .ok (.goto (-61), 3) := by decide +kernel
theorem d_R_dataOf_124 : decode b_R_dataOf 124 = .ok (.iconst 0, 1) := by decide +kernel
theorem d_R_dataOf_125 : decode b_R_dataOf 125 = .ok (.istore_n 3, 1) := by decide +kernel
theorem d_R_dataOf_126 : decode b_R_dataOf 126 = .ok (.iload_n 3, 1) := by decide +kernel
theorem d_R_dataOf_127 : decode b_R_dataOf 127 = .ok (.bipush 31, 2) := by decide +kernel
theorem d_R_dataOf_129 : decode b_R_dataOf 129 = .ok (.if_icmp .ge 94, 3) := by decide +kernel
theorem d_R_dataOf_132 : decode b_R_dataOf 132 = .ok (.iconst 0, 1) := by decide +kernel
theorem d_R_dataOf_133 : decode b_R_dataOf 133 = .ok (.istore 4, 2) := by decide +kernel
theorem d_R_dataOf_135 : decode b_R_dataOf 135 = .ok (.iload 4, 2) := by decide +kernel
theorem d_R_dataOf_137 : decode b_R_dataOf 137 = .ok (.iload_n 3, 1) := by decide +kernel
theorem d_R_dataOf_138 : decode b_R_dataOf 138 = .ok (.if_icmp .ge 79, 3) := by decide +kernel
theorem d_R_dataOf_141 : decode b_R_dataOf 141 = .ok (.aload_n 0, 1) := by decide +kernel
theorem d_R_dataOf_142 : decode b_R_dataOf 142 = .ok (.getfield 7, 3) := by decide +kernel
theorem d_R_dataOf_145 : decode b_R_dataOf 145 = .ok (.iload_n 3, 1) := by decide +kernel
theorem d_R_dataOf_146 : decode b_R_dataOf 146 = .ok (.iaload, 1) := by decide +kernel
theorem d_R_dataOf_147 : decode b_R_dataOf 147 = .ok (.aload_n 0, 1) := by decide +kernel
theorem d_R_dataOf_148 : decode b_R_dataOf 148 = .ok (.getfield 7, 3) := by decide +kernel
theorem d_R_dataOf_151 : decode b_R_dataOf 151 = .ok (.iload 4, 2) := by decide +kernel
theorem d_R_dataOf_153 : decode b_R_dataOf 153 = .ok (.iaload, 1) := by decide +kernel
theorem d_R_dataOf_154 : decode b_R_dataOf 154 = .ok (.ixor, 1) := by decide +kernel
theorem d_R_dataOf_155 : decode b_R_dataOf 155 = .ok (.iload_n 2, 1) := by decide +kernel
theorem d_R_dataOf_156 : decode b_R_dataOf 156 = .ok (.ixor, 1) := by decide +kernel
theorem d_R_dataOf_157 : decode b_R_dataOf 157 = .ok (.istore 5, 2) := by decide +kernel
theorem d_R_dataOf_159 : decode b_R_dataOf 159 = .ok (.iconst 0, 1) := by decide +kernel
theorem d_R_dataOf_160 : decode b_R_dataOf 160 = .ok (.istore 6, 2) := by decide +kernel
theorem d_R_dataOf_162 : decode b_R_dataOf 162 = .ok (.iload 6, 2) := by decide +kernel
theorem d_R_dataOf_164 : decode b_R_dataOf 164 = .ok (.iload 4, 2) := by decide +kernel
theorem d_R_dataOf_166 : decode b_R_dataOf 166 = .ok (.if_icmp .ge 45, 3) := by decide +kernel
theorem d_R_dataOf_169 : decode b_R_dataOf 169 = .ok (.aload_n 0, 1) := by decide +kernel
theorem d_R_dataOf_170 : decode b_R_dataOf 170 = .ok (.getfield 7, 3) := by decide +kernel
theorem d_R_dataOf_173 : decode b_R_dataOf 173 = .ok (.iload 6, 2) := by decide +kernel
theorem d_R_dataOf_175 : decode b_R_dataOf 175 = .ok (.iaload, 1) := by decide +kernel
theorem d_R_dataOf_176 : decode b_R_dataOf 176 = .ok (.iload 5, 2) := by decide +kernel
theorem d_R_dataOf_178 : decode b_R_dataOf 178 = .ok (.if_icmp .ne 27, 3) := by decide +kernel
theorem d_R_dataOf_181 : decode b_R_dataOf 181 = .ok (.aload_n 0, 1) := by decide +kernel
theorem d_R_dataOf_182 : decode b_R_dataOf 182 = .ok (.iconst 3, 1) := by decide +kernel
theorem d_R_dataOf_183 : decode b_R_dataOf 183 = .ok (.putfield 42, 3) := by decide +kernel
theorem d_R_dataOf_186 : decode b_R_dataOf 186 = .ok (.iload_n 1, 1) := by decide +kernel
theorem d_R_dataOf_187 : decode b_R_dataOf 187 = .ok (.iconst 1, 1) := by decide +kernel
theorem d_R_dataOf_188 : decode b_R_dataOf 188 = .ok (.iload_n 3, 1) := by decide +kernel
theorem d_R_dataOf_189 : decode b_R_dataOf 189 = .ok (.ishl, 1) := by decide +kernel
theorem d_R_dataOf_190 : decode b_R_dataOf 190 = .ok (.ixor, 1) := by decide +kernel
theorem d_R_dataOf_191 : decode b_R_dataOf 191 = .ok (.iconst 1, 1) := by decide +kernel
theorem d_R_dataOf_192 : decode b_R_dataOf 192 = .ok (.iload 4, 2) := by decide +kernel
theorem d_R_dataOf_194 : decode b_R_dataOf 194 = .ok (.ishl, 1) := by decide +kernel
theorem d_R_dataOf_195 : decode b_R_dataOf 195 = .ok (.ixor, 1) := by decide +kernel
theorem d_R_dataOf_196 : decode b_R_dataOf 196 = .ok (.iconst 1, 1) := by decide +kernel
theorem d_R_dataOf_197 : decode b_R_dataOf 197 = .ok (.iload 6, 2) := by decide +kernel
theorem d_R_dataOf_199 : decode b_R_dataOf 199 = .ok (.ishl, 1) := by decide +kernel
theorem d_R_dataOf_200 : decode b_R_dataOf 200 = .ok (.ixor, 1) := by decide +kernel
theorem d_R_dataOf_201 : decode b_R_dataOf 201 = .ok (.bipush 15, 2) := by decide +kernel
theorem d_R_dataOf_203 : decode b_R_dataOf 203 = .ok (.ishr, 1) := by decide +kernel
theorem d_R_dataOf_204 : decode b_R_dataOf 204 = .ok (.ireturn, 1) := by decide +kernel
theorem d_R_dataOf_205 : decode b_R_dataOf 205 = .ok (.iinc 6 1, 3) := by decide +kernel
theorem d_R_dataOf_208 : decode b_R_dataOf 208 = .ok (.goto (-46), 3) := by decide +kernel
theorem d_R_dataOf_211 : decode b_R_dataOf 211 = .ok (.iinc 4 1, 3) := by decide +kernel
theorem d_R_dataOf_214 : decode b_R_dataOf 214 = .ok (.goto (-79), 3) := by decide +kernel
theorem d_R_dataOf_217 : decode b_R_dataOf 217 = .ok (.iinc 3 1, 3) := by decide +kernel
theorem d_R_dataOf_220 : decode b_R_dataOf 220 = .ok (.goto (-94), 3) := by decide +kernel
theorem d_R_dataOf_223 : decode b_R_dataOf 223 = .ok (.iconst (-1), 1) := by decide +kernel
theorem d_R_dataOf_224 : decode b_R_dataOf 224 = .ok (.ireturn, 1) := by decide +kernel
theorem d_R_encode_0 : decode b_R_encode 0 = .ok (.aload_n 0, 1) := by decide +kernel
theorem d_R_encode_1 : decode b_R_encode 1 = .ok (.iconst 0, 1) := by decide +kernel
theorem d_R_encode_2 : decode b_R_encode 2 = .ok (.putfield 33, 3) := by decide +kernel
theorem d_R_encode_5 : decode b_R_encode 5 = .ok (.iload_n 1, 1) := by decide +kernel
theorem d_R_encode_6 : decode b_R_encode 6 = .ok (.ldc 45, 2) := by decide +kernel
theorem d_R_encode_8 : decode b_R_encode 8 = .ok (.invokestatic 46, 3) := by decide +kernel
theorem d_R_encode_11 : decode b_R_encode 11 = .ok (.ifCond .eq 11, 3) := by decide +kernel
theorem d_R_encode_14 : decode b_R_encode 14 = .ok (.aload_n 0, 1) := by decide +kernel
theorem d_R_encode_15 : decode b_R_encode 15 = .ok (.iconst 1, 1) := by decide +kernel
theorem d_R_encode_16 : decode b_R_encode 16 = .ok (.invokevirtual 50, 3) := by decide +kernel
theorem d_R_encode_19 : decode b_R_encode 19 = .ok (.goto 8, 3) := by decide +kernel
theorem d_R_encode_22 : decode b_R_encode 22 = .ok (.aload_n 0, 1) := by decide +kernel
theorem d_R_encode_23 : decode b_R_encode 23 = .ok (.iload_n 1, 1) := by decide +kernel
theorem d_R_encode_24 : decode b_R_encode 24 = .ok (.invokevirtual 53, 3) := by decide +kernel
theorem d_R_encode_27 : decode b_R_encode 27 = .ok (.ireturn, 1) := by decide +kernel
theorem d_R_decode_0 : decode b_R_decode 0 = .ok (.aload_n 0, 1) := by decide +kernel
theorem d_R_decode_1 : decode b_R_decode 1 = .ok (.iconst 0, 1) := by decide +kernel
theorem d_R_decode_2 : decode b_R_decode 2 = .ok (.putfield 33, 3) := by decide +kernel
theorem d_R_decode_5 : decode b_R_decode 5 = .ok (.iload_n 1, 1) := by decide +kernel
theorem d_R_decode_6 : decode b_R_decode 6 = .ok (.ifCond .ge 9, 3) := by decide +kernel
theorem d_R_decode_9 : decode b_R_decode 9 = .ok (.aload_n 0, 1) := by decide +kernel
theorem d_R_decode_10 : decode b_R_decode 10 = .ok (.iconst 1, 1) := by decide +kernel
theorem d_R_decode_11 : decode b_R_decode 11 = .ok (.invokevirtual 50, 3) := by decide +kernel
theorem d_R_decode_14 : decode b_R_decode 14 = .ok (.ireturn, 1) := by decide +kernel
theorem d_R_decode_15 : decode b_R_decode 15 = .ok (.aload_n 0, 1) := by decide +kernel
theorem d_R_decode_16 : decode b_R_decode 16 = .ok (.iload_n 1, 1) := by decide +kernel
theorem d_R_decode_17 : decode b_R_decode 17 = .ok (.invokevirtual 56, 3) := by decide +kernel
theorem d_R_decode_20 : decode b_R_decode 20 = .ok (.istore_n 2, 1) := by decide +kernel
theorem d_R_decode_21 : decode b_R_decode 21 = .ok (.iload_n 2, 1) := by decide +kernel
theorem d_R_decode_22 : decode b_R_decode 22 = .ok (.ifCond .ge 9, 3) := by decide +kernel
theorem d_R_decode_25 : decode b_R_decode 25 = .ok (.aload_n 0, 1) := by decide +kernel
theorem d_R_decode_26 : decode b_R_decode 26 = .ok (.iconst 2, 1) := by decide +kernel
theorem d_R_decode_27 : decode b_R_decode 27 = .ok (.invokevirtual 50, 3) := by decide +kernel
theorem d_R_decode_30 : decode b_R_decode 30 = .ok (.ireturn, 1) := by decide +kernel
theorem d_R_decode_31 : decode b_R_decode 31 = .ok (.aload_n 0, 1) := by decide +kernel
theorem d_R_decode_32 : decode b_R_decode 32 = .ok (.aload_n 0, 1) := by decide +kernel
theorem d_R_decode_33 : decode b_R_decode 33 = .ok (.getfield 42, 3) := by decide +kernel
theorem d_R_decode_36 : decode b_R_decode 36 = .ok (.putfield 59, 3) := by decide +kernel
theorem d_R_decode_39 : decode b_R_decode 39 = .ok (.iload_n 2, 1) := by decide +kernel
theorem d_R_decode_40 : decode b_R_decode 40 = .ok (.ireturn, 1) := by decide +kernel
theorem d_R_mended_0 : decode b_R_mended 0 = .ok (.aload_n 0, 1) := by decide +kernel
theorem d_R_mended_1 : decode b_R_mended 1 = .ok (.iconst 0, 1) := by decide +kernel
theorem d_R_mended_2 : decode b_R_mended 2 = .ok (.putfield 33, 3) := by decide +kernel
theorem d_R_mended_5 : decode b_R_mended 5 = .ok (.aload_n 0, 1) := by decide +kernel
theorem d_R_mended_6 : decode b_R_mended 6 = .ok (.getfield 59, 3) := by decide +kernel
theorem d_R_mended_9 : decode b_R_mended 9 = .ok (.ireturn, 1) := by decide +kernel
theorem d_R_readable_0 : decode b_R_readable 0 = .ok (.iconst 1, 1) := by decide +kernel
theorem d_R_readable_1 : decode b_R_readable 1 = .ok (.istore_n 2, 1) := by decide +kernel
theorem d_R_readable_2 : decode b_R_readable 2 = .ok (.iconst 0, 1) := by decide +kernel
theorem d_R_readable_3 : decode b_R_readable 3 = .ok (.istore_n 3, 1) := by decide +kernel
theorem d_R_readable_4 : decode b_R_readable 4 = .ok (.iload_n 3, 1) := by decide +kernel
theorem d_R_readable_5 : decode b_R_readable 5 = .ok (.iconst 4, 1) := by decide +kernel
theorem d_R_readable_6 : decode b_R_readable 6 = .ok (.if_icmp .ge 36, 3) := by decide +kernel
theorem d_R_readable_9 : decode b_R_readable 9 = .ok (.iload_n 2, 1) := by decide +kernel
theorem d_R_readable_10 : decode b_R_readable 10 = .ok (.ifCond .eq 24, 3) := by decide +kernel
theorem d_R_readable_13 : decode b_R_readable 13 = .ok (.aload_n 0, 1) := by decide +kernel
theorem d_R_readable_14 : decode b_R_readable 14 = .ok (.aload_n 0, 1) := by decide +kernel
theorem d_R_readable_15 : decode b_R_readable 15 = .ok (.getfield 13, 3) := by decide +kernel
theorem d_R_readable_18 : decode b_R_readable 18 = .ok (.iconst 5, 1) := by decide +kernel
theorem d_R_readable_19 : decode b_R_readable 19 = .ok (.iload_n 1, 1) := by decide +kernel
theorem d_R_readable_20 : decode b_R_readable 20 = .ok (.imul, 1) := by decide +kernel
theorem d_R_readable_21 : decode b_R_readable 21 = .ok (.iload_n 3, 1) := by decide +kernel
theorem d_R_readable_22 : decode b_R_readable 22 = .ok (.iadd, 1) := by decide +kernel
theorem d_R_readable_23 : decode b_R_readable 23 = .ok (.iaload, 1) := by decide +kernel
theorem d_R_readable_24 : decode b_R_readable 24 = .ok (.invokevirtual 56, 3) := by decide +kernel
theorem d_R_readable_27 : decode b_R_readable 27 = .ok (.ifCond .lt 7, 3) := by decide +kernel
theorem d_R_readable_30 : decode b_R_readable 30 = .ok (.iconst 1, 1) := by decide +kernel
theorem d_R_readable_31 : decode b_R_readable 31 = .ok (.goto 4, 3) := by decide +kernel
theorem d_R_readable_34 : decode b_R_readable 34 = .ok (.iconst 0, 1) := by decide +kernel
theorem d_R_readable_35 : decode b_R_readable 35 = .ok (.istore_n 2, 1) := by decide +kernel
theorem d_R_readable_36 : decode b_R_readable 36 = .ok (.iinc 3 1, 3) := by decide +kernel
theorem d_R_readable_39 : decode b_R_readable 39 = .ok (.goto (-35), 3) := by decide +kernel
theorem d_R_readable_42 : decode b_R_readable 42 = .ok (.iload_n 2, 1) := by decide +kernel
theorem d_R_readable_43 : decode b_R_readable 43 = .ok (.ireturn, 1) := by decide +kernel
theorem d_R_contentOf_0 : decode b_R_contentOf 0 = .ok (.lconst 0, 1) := by decide +kernel
theorem d_R_contentOf_1 : decode b_R_contentOf 1 = .ok (.lstore_n 2, 1) := by decide +kernel
theorem d_R_contentOf_2 : decode b_R_contentOf 2 = .ok (.iconst 3, 1) := by decide +kernel
theorem d_R_contentOf_3 : decode b_R_contentOf 3 = .ok (.istore 4, 2) := by decide +kernel
theorem d_R_contentOf_5 : decode b_R_contentOf 5 = .ok (.iload 4, 2) := by decide +kernel
theorem d_R_contentOf_7 : decode b_R_contentOf 7 = .ok (.ifCond .lt 31, 3) := by decide +kernel
theorem d_R_contentOf_10 : decode b_R_contentOf 10 = .ok (.lload_n 2, 1) := by decide +kernel
theorem d_R_contentOf_11 : decode b_R_contentOf 11 = .ok (.bipush 16, 2) := by decide +kernel
theorem d_R_contentOf_13 : decode b_R_contentOf 13 = .ok (.lshl, 1) := by decide +kernel
theorem d_R_contentOf_14 : decode b_R_contentOf 14 = .ok (.aload_n 0, 1) := by decide +kernel
theorem d_R_contentOf_15 : decode b_R_contentOf 15 = .ok (.aload_n 0, 1) := by decide +kernel
theorem d_R_contentOf_16 : decode b_R_contentOf 16 = .ok (.getfield 13, 3) := by decide +kernel
theorem d_R_contentOf_19 : decode b_R_contentOf 19 = .ok (.iconst 5, 1) := by decide +kernel
theorem d_R_contentOf_20 : decode b_R_contentOf 20 = .ok (.iload_n 1, 1) := by decide +kernel
theorem d_R_contentOf_21 : decode b_R_contentOf 21 = .ok (.imul, 1) := by decide +kernel
theorem d_R_contentOf_22 : decode b_R_contentOf 22 = .ok (.iload 4, 2) := by decide +kernel
theorem d_R_contentOf_24 : decode b_R_contentOf 24 = .ok (.iadd, 1) := by decide +kernel
theorem d_R_contentOf_25 : decode b_R_contentOf 25 = .ok (.iaload, 1) := by decide +kernel
theorem d_R_contentOf_26 : decode b_R_contentOf 26 = .ok (.invokevirtual 56, 3) := by decide +kernel
theorem d_R_contentOf_29 : decode b_R_contentOf 29 = .ok (.i2l, 1) := by decide +kernel
theorem d_R_contentOf_30 : decode b_R_contentOf 30 = .ok (.lor, 1) := by decide +kernel
theorem d_R_contentOf_31 : decode b_R_contentOf 31 = .ok (.lstore_n 2, 1) := by decide +kernel
theorem d_R_contentOf_32 : decode b_R_contentOf 32 = .ok (.iinc 4 (-1), 3) := by decide +kernel
theorem d_R_contentOf_35 : decode b_R_contentOf 35 = .ok (.goto (-30), 3) := by decide +kernel
theorem d_R_contentOf_38 : decode b_R_contentOf 38 = .ok (.lload_n 2, 1) := by decide +kernel
theorem d_R_contentOf_39 : decode b_R_contentOf 39 = .ok (.lreturn, 1) := by decide +kernel
theorem d_R_program_0 : decode b_R_program 0 = .ok (.aload_n 0, 1) := by decide +kernel
theorem d_R_program_1 : decode b_R_program 1 = .ok (.getfield 13, 3) := by decide +kernel
theorem d_R_program_4 : decode b_R_program 4 = .ok (.iconst 5, 1) := by decide +kernel
theorem d_R_program_5 : decode b_R_program 5 = .ok (.iload_n 1, 1) := by decide +kernel
theorem d_R_program_6 : decode b_R_program 6 = .ok (.imul, 1) := by decide +kernel
theorem d_R_program_7 : decode b_R_program 7 = .ok (.iload_n 2, 1) := by decide +kernel
theorem d_R_program_8 : decode b_R_program 8 = .ok (.iadd, 1) := by decide +kernel
theorem d_R_program_9 : decode b_R_program 9 = .ok (.aload_n 0, 1) := by decide +kernel
theorem d_R_program_10 : decode b_R_program 10 = .ok (.getfield 13, 3) := by decide +kernel
theorem d_R_program_13 : decode b_R_program 13 = .ok (.iconst 5, 1) := by decide +kernel
theorem d_R_program_14 : decode b_R_program 14 = .ok (.iload_n 1, 1) := by decide +kernel
theorem d_R_program_15 : decode b_R_program 15 = .ok (.imul, 1) := by decide +kernel
theorem d_R_program_16 : decode b_R_program 16 = .ok (.iload_n 2, 1) := by decide +kernel
theorem d_R_program_17 : decode b_R_program 17 = .ok (.iadd, 1) := by decide +kernel
theorem d_R_program_18 : decode b_R_program 18 = .ok (.iaload, 1) := by decide +kernel
theorem d_R_program_19 : decode b_R_program 19 = .ok (.aload_n 0, 1) := by decide +kernel
theorem d_R_program_20 : decode b_R_program 20 = .ok (.iload_n 3, 1) := by decide +kernel
theorem d_R_program_21 : decode b_R_program 21 = .ok (.invokevirtual 53, 3) := by decide +kernel
theorem d_R_program_24 : decode b_R_program 24 = .ok (.iand, 1) := by decide +kernel
theorem d_R_program_25 : decode b_R_program 25 = .ok (.iastore, 1) := by decide +kernel
theorem d_R_program_26 : decode b_R_program 26 = .ok (.return_, 1) := by decide +kernel
theorem d_R_count_0 : decode b_R_count 0 = .ok (.iconst 0, 1) := by decide +kernel
theorem d_R_count_1 : decode b_R_count 1 = .ok (.istore_n 3, 1) := by decide +kernel
theorem d_R_count_2 : decode b_R_count 2 = .ok (.iconst 0, 1) := by decide +kernel
theorem d_R_count_3 : decode b_R_count 3 = .ok (.istore 4, 2) := by decide +kernel
theorem d_R_count_5 : decode b_R_count 5 = .ok (.iload 4, 2) := by decide +kernel
theorem d_R_count_7 : decode b_R_count 7 = .ok (.iconst 4, 1) := by decide +kernel
theorem d_R_count_8 : decode b_R_count 8 = .ok (.if_icmp .ge 32, 3) := by decide +kernel
theorem d_R_count_11 : decode b_R_count 11 = .ok (.aload_n 0, 1) := by decide +kernel
theorem d_R_count_12 : decode b_R_count 12 = .ok (.getfield 16, 3) := by decide +kernel
theorem d_R_count_15 : decode b_R_count 15 = .ok (.iconst 4, 1) := by decide +kernel
theorem d_R_count_16 : decode b_R_count 16 = .ok (.iload_n 1, 1) := by decide +kernel
theorem d_R_count_17 : decode b_R_count 17 = .ok (.imul, 1) := by decide +kernel
theorem d_R_count_18 : decode b_R_count 18 = .ok (.iload 4, 2) := by decide +kernel
theorem d_R_count_20 : decode b_R_count 20 = .ok (.iadd, 1) := by decide +kernel
theorem d_R_count_21 : decode b_R_count 21 = .ok (.iaload, 1) := by decide +kernel
theorem d_R_count_22 : decode b_R_count 22 = .ok (.iload_n 2, 1) := by decide +kernel
theorem d_R_count_23 : decode b_R_count 23 = .ok (.if_icmp .ne 9, 3) := by decide +kernel
theorem d_R_count_26 : decode b_R_count 26 = .ok (.iload_n 3, 1) := by decide +kernel
theorem d_R_count_27 : decode b_R_count 27 = .ok (.iconst 1, 1) := by decide +kernel
theorem d_R_count_28 : decode b_R_count 28 = .ok (.iadd, 1) := by decide +kernel
theorem d_R_count_29 : decode b_R_count 29 = .ok (.goto 4, 3) := by decide +kernel
theorem d_R_count_32 : decode b_R_count 32 = .ok (.iload_n 3, 1) := by decide +kernel
theorem d_R_count_33 : decode b_R_count 33 = .ok (.istore_n 3, 1) := by decide +kernel
theorem d_R_count_34 : decode b_R_count 34 = .ok (.iinc 4 1, 3) := by decide +kernel
theorem d_R_count_37 : decode b_R_count 37 = .ok (.goto (-32), 3) := by decide +kernel
theorem d_R_count_40 : decode b_R_count 40 = .ok (.iload_n 3, 1) := by decide +kernel
theorem d_R_count_41 : decode b_R_count 41 = .ok (.ireturn, 1) := by decide +kernel
theorem d_R_empty_0 : decode b_R_empty 0 = .ok (.aload_n 0, 1) := by decide +kernel
theorem d_R_empty_1 : decode b_R_empty 1 = .ok (.iload_n 1, 1) := by decide +kernel
theorem d_R_empty_2 : decode b_R_empty 2 = .ok (.iconst 0, 1) := by decide +kernel
theorem d_R_empty_3 : decode b_R_empty 3 = .ok (.invokevirtual 62, 3) := by decide +kernel
theorem d_R_empty_6 : decode b_R_empty 6 = .ok (.iconst 4, 1) := by decide +kernel
theorem d_R_empty_7 : decode b_R_empty 7 = .ok (.if_icmp .ne 7, 3) := by decide +kernel
theorem d_R_empty_10 : decode b_R_empty 10 = .ok (.iconst 1, 1) := by decide +kernel
theorem d_R_empty_11 : decode b_R_empty 11 = .ok (.goto 4, 3) := by decide +kernel
theorem d_R_empty_14 : decode b_R_empty 14 = .ok (.iconst 0, 1) := by decide +kernel
theorem d_R_empty_15 : decode b_R_empty 15 = .ok (.ireturn, 1) := by decide +kernel
theorem d_R_placeBut_0 : decode b_R_placeBut 0 = .ok (.iconst 0, 1) := by decide +kernel
theorem d_R_placeBut_1 : decode b_R_placeBut 1 = .ok (.istore_n 2, 1) := by decide +kernel
theorem d_R_placeBut_2 : decode b_R_placeBut 2 = .ok (.iload_n 2, 1) := by decide +kernel
theorem d_R_placeBut_3 : decode b_R_placeBut 3 = .ok (.iconst 2, 1) := by decide +kernel
theorem d_R_placeBut_4 : decode b_R_placeBut 4 = .ok (.if_icmp .ge 64, 3) := by decide +kernel
theorem d_R_placeBut_7 : decode b_R_placeBut 7 = .ok (.iconst 0, 1) := by decide +kernel
theorem d_R_placeBut_8 : decode b_R_placeBut 8 = .ok (.istore_n 3, 1) := by decide +kernel
theorem d_R_placeBut_9 : decode b_R_placeBut 9 = .ok (.iload_n 3, 1) := by decide +kernel
theorem d_R_placeBut_10 : decode b_R_placeBut 10 = .ok (.bipush 16, 2) := by decide +kernel
theorem d_R_placeBut_12 : decode b_R_placeBut 12 = .ok (.if_icmp .ge 50, 3) := by decide +kernel
theorem d_R_placeBut_15 : decode b_R_placeBut 15 = .ok (.iload_n 3, 1) := by decide +kernel
theorem d_R_placeBut_16 : decode b_R_placeBut 16 = .ok (.iconst 4, 1) := by decide +kernel
theorem d_R_placeBut_17 : decode b_R_placeBut 17 = .ok (.idiv, 1) := by decide +kernel
theorem d_R_placeBut_18 : decode b_R_placeBut 18 = .ok (.istore 4, 2) := by decide +kernel
theorem d_R_placeBut_20 : decode b_R_placeBut 20 = .ok (.iload 4, 2) := by decide +kernel
theorem d_R_placeBut_22 : decode b_R_placeBut 22 = .ok (.iload_n 1, 1) := by decide +kernel
theorem d_R_placeBut_23 : decode b_R_placeBut 23 = .ok (.if_icmp .eq 33, 3) := by decide +kernel
theorem d_R_placeBut_26 : decode b_R_placeBut 26 = .ok (.aload_n 0, 1) := by decide +kernel
theorem d_R_placeBut_27 : decode b_R_placeBut 27 = .ok (.getfield 16, 3) := by decide +kernel
theorem d_R_placeBut_30 : decode b_R_placeBut 30 = .ok (.iload_n 3, 1) := by decide +kernel
theorem d_R_placeBut_31 : decode b_R_placeBut 31 = .ok (.iaload, 1) := by decide +kernel
theorem d_R_placeBut_32 : decode b_R_placeBut 32 = .ok (.ifCond .ne 24, 3) := by decide +kernel
theorem d_R_placeBut_35 : decode b_R_placeBut 35 = .ok (.aload_n 0, 1) := by decide +kernel
theorem d_R_placeBut_36 : decode b_R_placeBut 36 = .ok (.iload 4, 2) := by decide +kernel
theorem d_R_placeBut_38 : decode b_R_placeBut 38 = .ok (.invokevirtual 66, 3) := by decide +kernel
theorem d_R_placeBut_41 : decode b_R_placeBut 41 = .ok (.iload_n 2, 1) := by decide +kernel
theorem d_R_placeBut_42 : decode b_R_placeBut 42 = .ok (.iconst 1, 1) := by decide +kernel
theorem d_R_placeBut_43 : decode b_R_placeBut 43 = .ok (.if_icmp .ne 7, 3) := by decide +kernel
theorem d_R_placeBut_46 : decode b_R_placeBut 46 = .ok (.iconst 1, 1) := by decide +kernel
theorem d_R_placeBut_47 : decode b_R_placeBut 47 = .ok (.goto 4, 3) := by decide +kernel
theorem d_R_placeBut_50 : decode b_R_placeBut 50 = .ok (.iconst 0, 1) := by decide +kernel
theorem d_R_placeBut_51 : decode b_R_placeBut 51 = .ok (.if_icmp .ne 5, 3) := by decide +kernel
theorem d_R_placeBut_54 : decode b_R_placeBut 54 = .ok (.iload_n 3, 1) := by decide +kernel
theorem d_R_placeBut_55 : decode b_R_placeBut 55 = .ok (.ireturn, 1) := by decide +kernel
theorem d_R_placeBut_56 : decode b_R_placeBut 56 = .ok (.iinc 3 1, 3) := by decide +kernel
theorem d_R_placeBut_59 : decode b_R_placeBut 59 = .ok (.goto (-50), 3) := by decide +kernel
theorem d_R_placeBut_62 : decode b_R_placeBut 62 = .ok (.iinc 2 1, 3) := by decide +kernel
theorem d_R_placeBut_65 : decode b_R_placeBut 65 = .ok (.goto (-63), 3) := by decide +kernel
theorem d_R_placeBut_68 : decode b_R_placeBut 68 = .ok (.iconst (-1), 1) := by decide +kernel
theorem d_R_placeBut_69 : decode b_R_placeBut 69 = .ok (.ireturn, 1) := by decide +kernel
theorem d_R_put_0 : decode b_R_put 0 = .ok (.iconst 0, 1) := by decide +kernel
theorem d_R_put_1 : decode b_R_put 1 = .ok (.istore 5, 2) := by decide +kernel
theorem d_R_put_3 : decode b_R_put 3 = .ok (.iload 5, 2) := by decide +kernel
theorem d_R_put_5 : decode b_R_put 5 = .ok (.iconst 4, 1) := by decide +kernel
theorem d_R_put_6 : decode b_R_put 6 = .ok (.if_icmp .ge 28, 3) := by decide +kernel
theorem d_R_put_9 : decode b_R_put 9 = .ok (.aload_n 0, 1) := by decide +kernel
theorem d_R_put_10 : decode b_R_put 10 = .ok (.iload_n 1, 1) := by decide +kernel
theorem d_R_put_11 : decode b_R_put 11 = .ok (.iload 5, 2) := by decide +kernel
theorem d_R_put_13 : decode b_R_put 13 = .ok (.lload_n 3, 1) := by decide +kernel
theorem d_R_put_14 : decode b_R_put 14 = .ok (.bipush 16, 2) := by decide +kernel
theorem d_R_put_16 : decode b_R_put 16 = .ok (.iload 5, 2) := by decide +kernel
theorem d_R_put_18 : decode b_R_put 18 = .ok (.imul, 1) := by decide +kernel
theorem d_R_put_19 : decode b_R_put 19 = .ok (.lshr, 1) := by decide +kernel
theorem d_R_put_20 : decode b_R_put 20 = .ok (.ldc2_w 70, 3) := by decide +kernel
theorem d_R_put_23 : decode b_R_put 23 = .ok (.land, 1) := by decide +kernel
theorem d_R_put_24 : decode b_R_put 24 = .ok (.l2i, 1) := by decide +kernel
theorem d_R_put_25 : decode b_R_put 25 = .ok (.invokevirtual 72, 3) := by decide +kernel
theorem d_R_put_28 : decode b_R_put 28 = .ok (.iinc 5 1, 3) := by decide +kernel
theorem d_R_put_31 : decode b_R_put 31 = .ok (.goto (-28), 3) := by decide +kernel
theorem d_R_put_34 : decode b_R_put 34 = .ok (.aload_n 0, 1) := by decide +kernel
theorem d_R_put_35 : decode b_R_put 35 = .ok (.iload_n 1, 1) := by decide +kernel
theorem d_R_put_36 : decode b_R_put 36 = .ok (.iconst 4, 1) := by decide +kernel
theorem d_R_put_37 : decode b_R_put 37 = .ok (.sipush 4096, 3) := by decide +kernel
theorem d_R_put_40 : decode b_R_put 40 = .ok (.iload_n 2, 1) := by decide +kernel
theorem d_R_put_41 : decode b_R_put 41 = .ok (.imul, 1) := by decide +kernel
theorem d_R_put_42 : decode b_R_put 42 = .ok (.aload_n 0, 1) := by decide +kernel
theorem d_R_put_43 : decode b_R_put 43 = .ok (.getfield 76, 3) := by decide +kernel
theorem d_R_put_46 : decode b_R_put 46 = .ok (.iadd, 1) := by decide +kernel
theorem d_R_put_47 : decode b_R_put 47 = .ok (.invokevirtual 72, 3) := by decide +kernel
theorem d_R_put_50 : decode b_R_put 50 = .ok (.aload_n 0, 1) := by decide +kernel
theorem d_R_put_51 : decode b_R_put 51 = .ok (.getfield 16, 3) := by decide +kernel
theorem d_R_put_54 : decode b_R_put 54 = .ok (.iload_n 1, 1) := by decide +kernel
theorem d_R_put_55 : decode b_R_put 55 = .ok (.iconst 1, 1) := by decide +kernel
theorem d_R_put_56 : decode b_R_put 56 = .ok (.iastore, 1) := by decide +kernel
theorem d_R_put_57 : decode b_R_put 57 = .ok (.aload_n 0, 1) := by decide +kernel
theorem d_R_put_58 : decode b_R_put 58 = .ok (.getfield 19, 3) := by decide +kernel
theorem d_R_put_61 : decode b_R_put 61 = .ok (.iload_n 1, 1) := by decide +kernel
theorem d_R_put_62 : decode b_R_put 62 = .ok (.iload_n 2, 1) := by decide +kernel
theorem d_R_put_63 : decode b_R_put 63 = .ok (.iastore, 1) := by decide +kernel
theorem d_R_put_64 : decode b_R_put 64 = .ok (.aload_n 0, 1) := by decide +kernel
theorem d_R_put_65 : decode b_R_put 65 = .ok (.getfield 22, 3) := by decide +kernel
theorem d_R_put_68 : decode b_R_put 68 = .ok (.iload_n 1, 1) := by decide +kernel
theorem d_R_put_69 : decode b_R_put 69 = .ok (.aload_n 0, 1) := by decide +kernel
theorem d_R_put_70 : decode b_R_put 70 = .ok (.getfield 76, 3) := by decide +kernel
theorem d_R_put_73 : decode b_R_put 73 = .ok (.iastore, 1) := by decide +kernel
theorem d_R_put_74 : decode b_R_put 74 = .ok (.aload_n 0, 1) := by decide +kernel
theorem d_R_put_75 : decode b_R_put 75 = .ok (.aload_n 0, 1) := by decide +kernel
theorem d_R_put_76 : decode b_R_put 76 = .ok (.getfield 76, 3) := by decide +kernel
theorem d_R_put_79 : decode b_R_put 79 = .ok (.sipush 4094, 3) := by decide +kernel
theorem d_R_put_82 : decode b_R_put 82 = .ok (.if_icmp .ne 7, 3) := by decide +kernel
theorem d_R_put_85 : decode b_R_put 85 = .ok (.iconst 0, 1) := by decide +kernel
theorem d_R_put_86 : decode b_R_put 86 = .ok (.goto 9, 3) := by decide +kernel
theorem d_R_put_89 : decode b_R_put 89 = .ok (.aload_n 0, 1) := by decide +kernel
theorem d_R_put_90 : decode b_R_put 90 = .ok (.getfield 76, 3) := by decide +kernel
theorem d_R_put_93 : decode b_R_put 93 = .ok (.iconst 1, 1) := by decide +kernel
theorem d_R_put_94 : decode b_R_put 94 = .ok (.iadd, 1) := by decide +kernel
theorem d_R_put_95 : decode b_R_put 95 = .ok (.putfield 76, 3) := by decide +kernel
theorem d_R_put_98 : decode b_R_put 98 = .ok (.aload_n 0, 1) := by decide +kernel
theorem d_R_put_99 : decode b_R_put 99 = .ok (.getfield 28, 3) := by decide +kernel
theorem d_R_put_102 : decode b_R_put 102 = .ok (.iload_n 2, 1) := by decide +kernel
theorem d_R_put_103 : decode b_R_put 103 = .ok (.iaload, 1) := by decide +kernel
theorem d_R_put_104 : decode b_R_put 104 = .ok (.ifCond .le 17, 3) := by decide +kernel
theorem d_R_put_107 : decode b_R_put 107 = .ok (.aload_n 0, 1) := by decide +kernel
theorem d_R_put_108 : decode b_R_put 108 = .ok (.getfield 16, 3) := by decide +kernel
theorem d_R_put_111 : decode b_R_put 111 = .ok (.aload_n 0, 1) := by decide +kernel
theorem d_R_put_112 : decode b_R_put 112 = .ok (.getfield 28, 3) := by decide +kernel
theorem d_R_put_115 : decode b_R_put 115 = .ok (.iload_n 2, 1) := by decide +kernel
theorem d_R_put_116 : decode b_R_put 116 = .ok (.iaload, 1) := by decide +kernel
theorem d_R_put_117 : decode b_R_put 117 = .ok (.iconst 1, 1) := by decide +kernel
theorem d_R_put_118 : decode b_R_put 118 = .ok (.isub, 1) := by decide +kernel
theorem d_R_put_119 : decode b_R_put 119 = .ok (.iconst 2, 1) := by decide +kernel
theorem d_R_put_120 : decode b_R_put 120 = .ok (.iastore, 1) := by decide +kernel
theorem d_R_put_121 : decode b_R_put 121 = .ok (.aload_n 0, 1) := by decide +kernel
theorem d_R_put_122 : decode b_R_put 122 = .ok (.getfield 28, 3) := by decide +kernel
theorem d_R_put_125 : decode b_R_put 125 = .ok (.iload_n 2, 1) := by decide +kernel
theorem d_R_put_126 : decode b_R_put 126 = .ok (.iload_n 1, 1) := by decide +kernel
theorem d_R_put_127 : decode b_R_put 127 = .ok (.iconst 1, 1) := by decide +kernel
theorem d_R_put_128 : decode b_R_put 128 = .ok (.iadd, 1) := by decide +kernel
theorem d_R_put_129 : decode b_R_put 129 = .ok (.iastore, 1) := by decide +kernel
theorem d_R_put_130 : decode b_R_put 130 = .ok (.return_, 1) := by decide +kernel
theorem d_R_leavesOne_0 : decode b_R_leavesOne 0 = .ok (.iconst 0, 1) := by decide +kernel
theorem d_R_leavesOne_1 : decode b_R_leavesOne 1 = .ok (.istore_n 2, 1) := by decide +kernel
theorem d_R_leavesOne_2 : decode b_R_leavesOne 2 = .ok (.iconst 0, 1) := by decide +kernel
theorem d_R_leavesOne_3 : decode b_R_leavesOne 3 = .ok (.istore_n 3, 1) := by decide +kernel
theorem d_R_leavesOne_4 : decode b_R_leavesOne 4 = .ok (.iload_n 3, 1) := by decide +kernel
theorem d_R_leavesOne_5 : decode b_R_leavesOne 5 = .ok (.iconst 4, 1) := by decide +kernel
theorem d_R_leavesOne_6 : decode b_R_leavesOne 6 = .ok (.if_icmp .ge 38, 3) := by decide +kernel
theorem d_R_leavesOne_9 : decode b_R_leavesOne 9 = .ok (.iload_n 2, 1) := by decide +kernel
theorem d_R_leavesOne_10 : decode b_R_leavesOne 10 = .ok (.ifCond .ne 22, 3) := by decide +kernel
theorem d_R_leavesOne_13 : decode b_R_leavesOne 13 = .ok (.iload_n 1, 1) := by decide +kernel
theorem d_R_leavesOne_14 : decode b_R_leavesOne 14 = .ok (.ifCond .lt 22, 3) := by decide +kernel
theorem d_R_leavesOne_17 : decode b_R_leavesOne 17 = .ok (.iload_n 3, 1) := by decide +kernel
theorem d_R_leavesOne_18 : decode b_R_leavesOne 18 = .ok (.iload_n 1, 1) := by decide +kernel
theorem d_R_leavesOne_19 : decode b_R_leavesOne 19 = .ok (.iconst 4, 1) := by decide +kernel
theorem d_R_leavesOne_20 : decode b_R_leavesOne 20 = .ok (.idiv, 1) := by decide +kernel
theorem d_R_leavesOne_21 : decode b_R_leavesOne 21 = .ok (.if_icmp .eq 15, 3) := by decide +kernel
theorem d_R_leavesOne_24 : decode b_R_leavesOne 24 = .ok (.aload_n 0, 1) := by decide +kernel
theorem d_R_leavesOne_25 : decode b_R_leavesOne 25 = .ok (.iload_n 3, 1) := by decide +kernel
theorem d_R_leavesOne_26 : decode b_R_leavesOne 26 = .ok (.invokevirtual 66, 3) := by decide +kernel
theorem d_R_leavesOne_29 : decode b_R_leavesOne 29 = .ok (.ifCond .eq 7, 3) := by decide +kernel
theorem d_R_leavesOne_32 : decode b_R_leavesOne 32 = .ok (.iconst 1, 1) := by decide +kernel
theorem d_R_leavesOne_33 : decode b_R_leavesOne 33 = .ok (.goto 4, 3) := by decide +kernel
theorem d_R_leavesOne_36 : decode b_R_leavesOne 36 = .ok (.iconst 0, 1) := by decide +kernel
theorem d_R_leavesOne_37 : decode b_R_leavesOne 37 = .ok (.istore_n 2, 1) := by decide +kernel
theorem d_R_leavesOne_38 : decode b_R_leavesOne 38 = .ok (.iinc 3 1, 3) := by decide +kernel
theorem d_R_leavesOne_41 : decode b_R_leavesOne 41 = .ok (.goto (-37), 3) := by decide +kernel
theorem d_R_leavesOne_44 : decode b_R_leavesOne 44 = .ok (.iload_n 2, 1) := by decide +kernel
theorem d_R_leavesOne_45 : decode b_R_leavesOne 45 = .ok (.ireturn, 1) := by decide +kernel
theorem d_R_toClean_0 : decode b_R_toClean 0 = .ok (.iconst (-1), 1) := by decide +kernel
theorem d_R_toClean_1 : decode b_R_toClean 1 = .ok (.istore_n 1, 1) := by decide +kernel
theorem d_R_toClean_2 : decode b_R_toClean 2 = .ok (.iconst 0, 1) := by decide +kernel
theorem d_R_toClean_3 : decode b_R_toClean 3 = .ok (.istore_n 2, 1) := by decide +kernel
theorem d_R_toClean_4 : decode b_R_toClean 4 = .ok (.iload_n 2, 1) := by decide +kernel
theorem d_R_toClean_5 : decode b_R_toClean 5 = .ok (.iconst 4, 1) := by decide +kernel
theorem d_R_toClean_6 : decode b_R_toClean 6 = .ok (.if_icmp .ge 131, 3) := by decide +kernel
theorem d_R_toClean_9 : decode b_R_toClean 9 = .ok (.aload_n 0, 1) := by decide +kernel
theorem d_R_toClean_10 : decode b_R_toClean 10 = .ok (.iload_n 2, 1) := by decide +kernel
theorem d_R_toClean_11 : decode b_R_toClean 11 = .ok (.iconst 1, 1) := by decide +kernel
theorem d_R_toClean_12 : decode b_R_toClean 12 = .ok (.invokevirtual 62, 3) := by decide +kernel
theorem d_R_toClean_15 : decode b_R_toClean 15 = .ok (.istore_n 3, 1) := by decide +kernel
theorem d_R_toClean_16 : decode b_R_toClean 16 = .ok (.aload_n 0, 1) := by decide +kernel
theorem d_R_toClean_17 : decode b_R_toClean 17 = .ok (.iload_n 2, 1) := by decide +kernel
theorem d_R_toClean_18 : decode b_R_toClean 18 = .ok (.iconst 0, 1) := by decide +kernel
theorem d_R_toClean_19 : decode b_R_toClean 19 = .ok (.invokevirtual 62, 3) := by decide +kernel
theorem d_R_toClean_22 : decode b_R_toClean 22 = .ok (.ineg, 1) := by decide +kernel
theorem d_R_toClean_23 : decode b_R_toClean 23 = .ok (.istore 4, 2) := by decide +kernel
theorem d_R_toClean_25 : decode b_R_toClean 25 = .ok (.iconst 0, 1) := by decide +kernel
theorem d_R_toClean_26 : decode b_R_toClean 26 = .ok (.istore 5, 2) := by decide +kernel
