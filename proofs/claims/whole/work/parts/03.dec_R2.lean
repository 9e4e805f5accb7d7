theorem d_R_toClean_28 : decode b_R_toClean 28 = .ok (.iload 5, 2) := by decide +kernel
theorem d_R_toClean_30 : decode b_R_toClean 30 = .ok (.iconst 4, 1) := by decide +kernel
theorem d_R_toClean_31 : decode b_R_toClean 31 = .ok (.if_icmp .ge 21, 3) := by decide +kernel
theorem d_R_toClean_34 : decode b_R_toClean 34 = .ok (.iload 4, 2) := by decide +kernel
theorem d_R_toClean_36 : decode b_R_toClean 36 = .ok (.aload_n 0, 1) := by decide +kernel
theorem d_R_toClean_37 : decode b_R_toClean 37 = .ok (.iload 5, 2) := by decide +kernel
theorem d_R_toClean_39 : decode b_R_toClean 39 = .ok (.iconst 0, 1) := by decide +kernel
theorem d_R_toClean_40 : decode b_R_toClean 40 = .ok (.invokevirtual 62, 3) := by decide +kernel
theorem d_R_toClean_43 : decode b_R_toClean 43 = .ok (.iadd, 1) := by decide +kernel
theorem d_R_toClean_44 : decode b_R_toClean 44 = .ok (.istore 4, 2) := by decide +kernel
theorem d_R_toClean_46 : decode b_R_toClean 46 = .ok (.iinc 5 1, 3) := by decide +kernel
theorem d_R_toClean_49 : decode b_R_toClean 49 = .ok (.goto (-21), 3) := by decide +kernel
theorem d_R_toClean_52 : decode b_R_toClean 52 = .ok (.aload_n 0, 1) := by decide +kernel
theorem d_R_toClean_53 : decode b_R_toClean 53 = .ok (.iload_n 2, 1) := by decide +kernel
theorem d_R_toClean_54 : decode b_R_toClean 54 = .ok (.invokevirtual 66, 3) := by decide +kernel
theorem d_R_toClean_57 : decode b_R_toClean 57 = .ok (.ifCond .ne 74, 3) := by decide +kernel
theorem d_R_toClean_60 : decode b_R_toClean 60 = .ok (.iload_n 3, 1) := by decide +kernel
theorem d_R_toClean_61 : decode b_R_toClean 61 = .ok (.iconst 4, 1) := by decide +kernel
theorem d_R_toClean_62 : decode b_R_toClean 62 = .ok (.if_icmp .eq 69, 3) := by decide +kernel
theorem d_R_toClean_65 : decode b_R_toClean 65 = .ok (.iload_n 3, 1) := by decide +kernel
theorem d_R_toClean_66 : decode b_R_toClean 66 = .ok (.iload 4, 2) := by decide +kernel
theorem d_R_toClean_68 : decode b_R_toClean 68 = .ok (.if_icmp .le 6, 3) := by decide +kernel
theorem d_R_toClean_71 : decode b_R_toClean 71 = .ok (.goto 60, 3) := by decide +kernel
theorem d_R_toClean_74 : decode b_R_toClean 74 = .ok (.iload_n 1, 1) := by decide +kernel
theorem d_R_toClean_75 : decode b_R_toClean 75 = .ok (.ifCond .lt 38, 3) := by decide +kernel
theorem d_R_toClean_78 : decode b_R_toClean 78 = .ok (.iload_n 3, 1) := by decide +kernel
theorem d_R_toClean_79 : decode b_R_toClean 79 = .ok (.aload_n 0, 1) := by decide +kernel
theorem d_R_toClean_80 : decode b_R_toClean 80 = .ok (.iload_n 1, 1) := by decide +kernel
theorem d_R_toClean_81 : decode b_R_toClean 81 = .ok (.iconst 1, 1) := by decide +kernel
theorem d_R_toClean_82 : decode b_R_toClean 82 = .ok (.invokevirtual 62, 3) := by decide +kernel
theorem d_R_toClean_85 : decode b_R_toClean 85 = .ok (.if_icmp .lt 28, 3) := by decide +kernel
theorem d_R_toClean_88 : decode b_R_toClean 88 = .ok (.iload_n 3, 1) := by decide +kernel
theorem d_R_toClean_89 : decode b_R_toClean 89 = .ok (.aload_n 0, 1) := by decide +kernel
theorem d_R_toClean_90 : decode b_R_toClean 90 = .ok (.iload_n 1, 1) := by decide +kernel
theorem d_R_toClean_91 : decode b_R_toClean 91 = .ok (.iconst 1, 1) := by decide +kernel
theorem d_R_toClean_92 : decode b_R_toClean 92 = .ok (.invokevirtual 62, 3) := by decide +kernel
theorem d_R_toClean_95 : decode b_R_toClean 95 = .ok (.if_icmp .ne 22, 3) := by decide +kernel
theorem d_R_toClean_98 : decode b_R_toClean 98 = .ok (.aload_n 0, 1) := by decide +kernel
theorem d_R_toClean_99 : decode b_R_toClean 99 = .ok (.getfield 25, 3) := by decide +kernel
theorem d_R_toClean_102 : decode b_R_toClean 102 = .ok (.iload_n 2, 1) := by decide +kernel
theorem d_R_toClean_103 : decode b_R_toClean 103 = .ok (.iaload, 1) := by decide +kernel
theorem d_R_toClean_104 : decode b_R_toClean 104 = .ok (.aload_n 0, 1) := by decide +kernel
theorem d_R_toClean_105 : decode b_R_toClean 105 = .ok (.getfield 25, 3) := by decide +kernel
theorem d_R_toClean_108 : decode b_R_toClean 108 = .ok (.iload_n 1, 1) := by decide +kernel
theorem d_R_toClean_109 : decode b_R_toClean 109 = .ok (.iaload, 1) := by decide +kernel
theorem d_R_toClean_110 : decode b_R_toClean 110 = .ok (.if_icmp .ge 7, 3) := by decide +kernel
theorem d_R_toClean_113 : decode b_R_toClean 113 = .ok (.iconst 1, 1) := by decide +kernel
theorem d_R_toClean_114 : decode b_R_toClean 114 = .ok (.goto 4, 3) := by decide +kernel
theorem d_R_toClean_117 : decode b_R_toClean 117 = .ok (.iconst 0, 1) := by decide +kernel
theorem d_R_toClean_118 : decode b_R_toClean 118 = .ok (.istore 5, 2) := by decide +kernel
theorem d_R_toClean_120 : decode b_R_toClean 120 = .ok (.iload 5, 2) := by decide +kernel
theorem d_R_toClean_122 : decode b_R_toClean 122 = .ok (.ifCond .eq 7, 3) := by decide +kernel
theorem d_R_toClean_125 : decode b_R_toClean 125 = .ok (.iload_n 2, 1) := by decide +kernel
theorem d_R_toClean_126 : decode b_R_toClean 126 = .ok (.goto 4, 3) := by decide +kernel
theorem d_R_toClean_129 : decode b_R_toClean 129 = .ok (.iload_n 1, 1) := by decide +kernel
theorem d_R_toClean_130 : decode b_R_toClean 130 = .ok (.istore_n 1, 1) := by decide +kernel
theorem d_R_toClean_131 : decode b_R_toClean 131 = .ok (.iinc 2 1, 3) := by decide +kernel
theorem d_R_toClean_134 : decode b_R_toClean 134 = .ok (.goto (-130), 3) := by decide +kernel
theorem d_R_toClean_137 : decode b_R_toClean 137 = .ok (.iload_n 1, 1) := by decide +kernel
theorem d_R_toClean_138 : decode b_R_toClean 138 = .ok (.ireturn, 1) := by decide +kernel
theorem d_R_cleanBlock_0 : decode b_R_cleanBlock 0 = .ok (.iconst 4, 1) := by decide +kernel
theorem d_R_cleanBlock_1 : decode b_R_cleanBlock 1 = .ok (.iload_n 1, 1) := by decide +kernel
theorem d_R_cleanBlock_2 : decode b_R_cleanBlock 2 = .ok (.imul, 1) := by decide +kernel
theorem d_R_cleanBlock_3 : decode b_R_cleanBlock 3 = .ok (.istore_n 2, 1) := by decide +kernel
theorem d_R_cleanBlock_4 : decode b_R_cleanBlock 4 = .ok (.iload_n 2, 1) := by decide +kernel
theorem d_R_cleanBlock_5 : decode b_R_cleanBlock 5 = .ok (.iconst 4, 1) := by decide +kernel
theorem d_R_cleanBlock_6 : decode b_R_cleanBlock 6 = .ok (.iload_n 1, 1) := by decide +kernel
theorem d_R_cleanBlock_7 : decode b_R_cleanBlock 7 = .ok (.imul, 1) := by decide +kernel
theorem d_R_cleanBlock_8 : decode b_R_cleanBlock 8 = .ok (.iconst 4, 1) := by decide +kernel
theorem d_R_cleanBlock_9 : decode b_R_cleanBlock 9 = .ok (.iadd, 1) := by decide +kernel
theorem d_R_cleanBlock_10 : decode b_R_cleanBlock 10 = .ok (.if_icmp .ge 62, 3) := by decide +kernel
theorem d_R_cleanBlock_13 : decode b_R_cleanBlock 13 = .ok (.aload_n 0, 1) := by decide +kernel
theorem d_R_cleanBlock_14 : decode b_R_cleanBlock 14 = .ok (.getfield 16, 3) := by decide +kernel
theorem d_R_cleanBlock_17 : decode b_R_cleanBlock 17 = .ok (.iload_n 2, 1) := by decide +kernel
theorem d_R_cleanBlock_18 : decode b_R_cleanBlock 18 = .ok (.iaload, 1) := by decide +kernel
theorem d_R_cleanBlock_19 : decode b_R_cleanBlock 19 = .ok (.iconst 1, 1) := by decide +kernel
theorem d_R_cleanBlock_20 : decode b_R_cleanBlock 20 = .ok (.if_icmp .ne 46, 3) := by decide +kernel
theorem d_R_cleanBlock_23 : decode b_R_cleanBlock 23 = .ok (.aload_n 0, 1) := by decide +kernel
theorem d_R_cleanBlock_24 : decode b_R_cleanBlock 24 = .ok (.iload_n 2, 1) := by decide +kernel
theorem d_R_cleanBlock_25 : decode b_R_cleanBlock 25 = .ok (.invokevirtual 79, 3) := by decide +kernel
theorem d_R_cleanBlock_28 : decode b_R_cleanBlock 28 = .ok (.ifCond .eq 26, 3) := by decide +kernel
theorem d_R_cleanBlock_31 : decode b_R_cleanBlock 31 = .ok (.aload_n 0, 1) := by decide +kernel
theorem d_R_cleanBlock_32 : decode b_R_cleanBlock 32 = .ok (.aload_n 0, 1) := by decide +kernel
theorem d_R_cleanBlock_33 : decode b_R_cleanBlock 33 = .ok (.iload_n 1, 1) := by decide +kernel
theorem d_R_cleanBlock_34 : decode b_R_cleanBlock 34 = .ok (.invokevirtual 82, 3) := by decide +kernel
theorem d_R_cleanBlock_37 : decode b_R_cleanBlock 37 = .ok (.aload_n 0, 1) := by decide +kernel
theorem d_R_cleanBlock_38 : decode b_R_cleanBlock 38 = .ok (.getfield 19, 3) := by decide +kernel
theorem d_R_cleanBlock_41 : decode b_R_cleanBlock 41 = .ok (.iload_n 2, 1) := by decide +kernel
theorem d_R_cleanBlock_42 : decode b_R_cleanBlock 42 = .ok (.iaload, 1) := by decide +kernel
theorem d_R_cleanBlock_43 : decode b_R_cleanBlock 43 = .ok (.aload_n 0, 1) := by decide +kernel
theorem d_R_cleanBlock_44 : decode b_R_cleanBlock 44 = .ok (.iload_n 2, 1) := by decide +kernel
theorem d_R_cleanBlock_45 : decode b_R_cleanBlock 45 = .ok (.invokevirtual 85, 3) := by decide +kernel
theorem d_R_cleanBlock_48 : decode b_R_cleanBlock 48 = .ok (.invokevirtual 89, 3) := by decide +kernel
theorem d_R_cleanBlock_51 : decode b_R_cleanBlock 51 = .ok (.goto 15, 3) := by decide +kernel
theorem d_R_cleanBlock_54 : decode b_R_cleanBlock 54 = .ok (.aload_n 0, 1) := by decide +kernel
theorem d_R_cleanBlock_55 : decode b_R_cleanBlock 55 = .ok (.getfield 28, 3) := by decide +kernel
theorem d_R_cleanBlock_58 : decode b_R_cleanBlock 58 = .ok (.aload_n 0, 1) := by decide +kernel
theorem d_R_cleanBlock_59 : decode b_R_cleanBlock 59 = .ok (.getfield 19, 3) := by decide +kernel
theorem d_R_cleanBlock_62 : decode b_R_cleanBlock 62 = .ok (.iload_n 2, 1) := by decide +kernel
theorem d_R_cleanBlock_63 : decode b_R_cleanBlock 63 = .ok (.iaload, 1) := by decide +kernel
theorem d_R_cleanBlock_64 : decode b_R_cleanBlock 64 = .ok (.iconst 0, 1) := by decide +kernel
theorem d_R_cleanBlock_65 : decode b_R_cleanBlock 65 = .ok (.iastore, 1) := by decide +kernel
theorem d_R_cleanBlock_66 : decode b_R_cleanBlock 66 = .ok (.iinc 2 1, 3) := by decide +kernel
theorem d_R_cleanBlock_69 : decode b_R_cleanBlock 69 = .ok (.goto (-65), 3) := by decide +kernel
theorem d_R_cleanBlock_72 : decode b_R_cleanBlock 72 = .ok (.iconst 4, 1) := by decide +kernel
theorem d_R_cleanBlock_73 : decode b_R_cleanBlock 73 = .ok (.iload_n 1, 1) := by decide +kernel
theorem d_R_cleanBlock_74 : decode b_R_cleanBlock 74 = .ok (.imul, 1) := by decide +kernel
theorem d_R_cleanBlock_75 : decode b_R_cleanBlock 75 = .ok (.istore_n 2, 1) := by decide +kernel
theorem d_R_cleanBlock_76 : decode b_R_cleanBlock 76 = .ok (.iload_n 2, 1) := by decide +kernel
theorem d_R_cleanBlock_77 : decode b_R_cleanBlock 77 = .ok (.iconst 4, 1) := by decide +kernel
theorem d_R_cleanBlock_78 : decode b_R_cleanBlock 78 = .ok (.iload_n 1, 1) := by decide +kernel
theorem d_R_cleanBlock_79 : decode b_R_cleanBlock 79 = .ok (.imul, 1) := by decide +kernel
theorem d_R_cleanBlock_80 : decode b_R_cleanBlock 80 = .ok (.iconst 4, 1) := by decide +kernel
theorem d_R_cleanBlock_81 : decode b_R_cleanBlock 81 = .ok (.iadd, 1) := by decide +kernel
theorem d_R_cleanBlock_82 : decode b_R_cleanBlock 82 = .ok (.if_icmp .ge 41, 3) := by decide +kernel
theorem d_R_cleanBlock_85 : decode b_R_cleanBlock 85 = .ok (.aload_n 0, 1) := by decide +kernel
theorem d_R_cleanBlock_86 : decode b_R_cleanBlock 86 = .ok (.getfield 16, 3) := by decide +kernel
theorem d_R_cleanBlock_89 : decode b_R_cleanBlock 89 = .ok (.iload_n 2, 1) := by decide +kernel
theorem d_R_cleanBlock_90 : decode b_R_cleanBlock 90 = .ok (.iconst 0, 1) := by decide +kernel
theorem d_R_cleanBlock_91 : decode b_R_cleanBlock 91 = .ok (.iastore, 1) := by decide +kernel
theorem d_R_cleanBlock_92 : decode b_R_cleanBlock 92 = .ok (.iconst 0, 1) := by decide +kernel
theorem d_R_cleanBlock_93 : decode b_R_cleanBlock 93 = .ok (.istore_n 3, 1) := by decide +kernel
theorem d_R_cleanBlock_94 : decode b_R_cleanBlock 94 = .ok (.iload_n 3, 1) := by decide +kernel
theorem d_R_cleanBlock_95 : decode b_R_cleanBlock 95 = .ok (.iconst 5, 1) := by decide +kernel
theorem d_R_cleanBlock_96 : decode b_R_cleanBlock 96 = .ok (.if_icmp .ge 21, 3) := by decide +kernel
theorem d_R_cleanBlock_99 : decode b_R_cleanBlock 99 = .ok (.aload_n 0, 1) := by decide +kernel
theorem d_R_cleanBlock_100 : decode b_R_cleanBlock 100 = .ok (.getfield 13, 3) := by decide +kernel
theorem d_R_cleanBlock_103 : decode b_R_cleanBlock 103 = .ok (.iconst 5, 1) := by decide +kernel
theorem d_R_cleanBlock_104 : decode b_R_cleanBlock 104 = .ok (.iload_n 2, 1) := by decide +kernel
theorem d_R_cleanBlock_105 : decode b_R_cleanBlock 105 = .ok (.imul, 1) := by decide +kernel
theorem d_R_cleanBlock_106 : decode b_R_cleanBlock 106 = .ok (.iload_n 3, 1) := by decide +kernel
theorem d_R_cleanBlock_107 : decode b_R_cleanBlock 107 = .ok (.iadd, 1) := by decide +kernel
theorem d_R_cleanBlock_108 : decode b_R_cleanBlock 108 = .ok (.ldc 32, 2) := by decide +kernel
theorem d_R_cleanBlock_110 : decode b_R_cleanBlock 110 = .ok (.iastore, 1) := by decide +kernel
theorem d_R_cleanBlock_111 : decode b_R_cleanBlock 111 = .ok (.iinc 3 1, 3) := by decide +kernel
theorem d_R_cleanBlock_114 : decode b_R_cleanBlock 114 = .ok (.goto (-20), 3) := by decide +kernel
theorem d_R_cleanBlock_117 : decode b_R_cleanBlock 117 = .ok (.iinc 2 1, 3) := by decide +kernel
theorem d_R_cleanBlock_120 : decode b_R_cleanBlock 120 = .ok (.goto (-44), 3) := by decide +kernel
theorem d_R_cleanBlock_123 : decode b_R_cleanBlock 123 = .ok (.aload_n 0, 1) := by decide +kernel
theorem d_R_cleanBlock_124 : decode b_R_cleanBlock 124 = .ok (.getfield 25, 3) := by decide +kernel
theorem d_R_cleanBlock_127 : decode b_R_cleanBlock 127 = .ok (.iload_n 1, 1) := by decide +kernel
theorem d_R_cleanBlock_128 : decode b_R_cleanBlock 128 = .ok (.dup2, 1) := by decide +kernel
theorem d_R_cleanBlock_129 : decode b_R_cleanBlock 129 = .ok (.iaload, 1) := by decide +kernel
theorem d_R_cleanBlock_130 : decode b_R_cleanBlock 130 = .ok (.iconst 1, 1) := by decide +kernel
theorem d_R_cleanBlock_131 : decode b_R_cleanBlock 131 = .ok (.iadd, 1) := by decide +kernel
theorem d_R_cleanBlock_132 : decode b_R_cleanBlock 132 = .ok (.iastore, 1) := by decide +kernel
theorem d_R_cleanBlock_133 : decode b_R_cleanBlock 133 = .ok (.return_, 1) := by decide +kernel
theorem d_R_clean_0 : decode b_R_clean 0 = .ok (.aload_n 0, 1) := by decide +kernel
theorem d_R_clean_1 : decode b_R_clean 1 = .ok (.invokevirtual 93, 3) := by decide +kernel
theorem d_R_clean_4 : decode b_R_clean 4 = .ok (.istore_n 1, 1) := by decide +kernel
theorem d_R_clean_5 : decode b_R_clean 5 = .ok (.aload_n 0, 1) := by decide +kernel
theorem d_R_clean_6 : decode b_R_clean 6 = .ok (.iload_n 1, 1) := by decide +kernel
theorem d_R_clean_7 : decode b_R_clean 7 = .ok (.ifCond .ge 7, 3) := by decide +kernel
theorem d_R_clean_10 : decode b_R_clean 10 = .ok (.iconst 1, 1) := by decide +kernel
theorem d_R_clean_11 : decode b_R_clean 11 = .ok (.goto 4, 3) := by decide +kernel
theorem d_R_clean_14 : decode b_R_clean 14 = .ok (.iconst 0, 1) := by decide +kernel
theorem d_R_clean_15 : decode b_R_clean 15 = .ok (.putfield 33, 3) := by decide +kernel
theorem d_R_clean_18 : decode b_R_clean 18 = .ok (.aload_n 0, 1) := by decide +kernel
theorem d_R_clean_19 : decode b_R_clean 19 = .ok (.getfield 33, 3) := by decide +kernel
theorem d_R_clean_22 : decode b_R_clean 22 = .ok (.ifCond .le 5, 3) := by decide +kernel
theorem d_R_clean_25 : decode b_R_clean 25 = .ok (.iconst 0, 1) := by decide +kernel
theorem d_R_clean_26 : decode b_R_clean 26 = .ok (.ireturn, 1) := by decide +kernel
theorem d_R_clean_27 : decode b_R_clean 27 = .ok (.aload_n 0, 1) := by decide +kernel
theorem d_R_clean_28 : decode b_R_clean 28 = .ok (.iload_n 1, 1) := by decide +kernel
theorem d_R_clean_29 : decode b_R_clean 29 = .ok (.invokevirtual 97, 3) := by decide +kernel
theorem d_R_clean_32 : decode b_R_clean 32 = .ok (.iload_n 1, 1) := by decide +kernel
theorem d_R_clean_33 : decode b_R_clean 33 = .ok (.ireturn, 1) := by decide +kernel
theorem d_R_write_0 : decode b_R_write 0 = .ok (.aload_n 0, 1) := by decide +kernel
theorem d_R_write_1 : decode b_R_write 1 = .ok (.iload_n 1, 1) := by decide +kernel
theorem d_R_write_2 : decode b_R_write 2 = .ok (.bipush 8, 2) := by decide +kernel
theorem d_R_write_4 : decode b_R_write 4 = .ok (.invokestatic 46, 3) := by decide +kernel
theorem d_R_write_7 : decode b_R_write 7 = .ok (.ifCond .eq 7, 3) := by decide +kernel
theorem d_R_write_10 : decode b_R_write 10 = .ok (.iconst 1, 1) := by decide +kernel
theorem d_R_write_11 : decode b_R_write 11 = .ok (.goto 4, 3) := by decide +kernel
theorem d_R_write_14 : decode b_R_write 14 = .ok (.iconst 0, 1) := by decide +kernel
theorem d_R_write_15 : decode b_R_write 15 = .ok (.putfield 33, 3) := by decide +kernel
theorem d_R_write_18 : decode b_R_write 18 = .ok (.aload_n 0, 1) := by decide +kernel
theorem d_R_write_19 : decode b_R_write 19 = .ok (.getfield 33, 3) := by decide +kernel
theorem d_R_write_22 : decode b_R_write 22 = .ok (.ifCond .ne 43, 3) := by decide +kernel
theorem d_R_write_25 : decode b_R_write 25 = .ok (.aload_n 0, 1) := by decide +kernel
theorem d_R_write_26 : decode b_R_write 26 = .ok (.aload_n 0, 1) := by decide +kernel
theorem d_R_write_27 : decode b_R_write 27 = .ok (.iconst (-1), 1) := by decide +kernel
theorem d_R_write_28 : decode b_R_write 28 = .ok (.invokevirtual 82, 3) := by decide +kernel
theorem d_R_write_31 : decode b_R_write 31 = .ok (.invokevirtual 101, 3) := by decide +kernel
theorem d_R_write_34 : decode b_R_write 34 = .ok (.ifCond .ne 31, 3) := by decide +kernel
theorem d_R_write_37 : decode b_R_write 37 = .ok (.aload_n 0, 1) := by decide +kernel
theorem d_R_write_38 : decode b_R_write 38 = .ok (.invokevirtual 93, 3) := by decide +kernel
theorem d_R_write_41 : decode b_R_write 41 = .ok (.istore 4, 2) := by decide +kernel
theorem d_R_write_43 : decode b_R_write 43 = .ok (.iload 4, 2) := by decide +kernel
theorem d_R_write_45 : decode b_R_write 45 = .ok (.ifCond .ge 11, 3) := by decide +kernel
theorem d_R_write_48 : decode b_R_write 48 = .ok (.aload_n 0, 1) := by decide +kernel
theorem d_R_write_49 : decode b_R_write 49 = .ok (.iconst 2, 1) := by decide +kernel
theorem d_R_write_50 : decode b_R_write 50 = .ok (.putfield 33, 3) := by decide +kernel
theorem d_R_write_53 : decode b_R_write 53 = .ok (.goto 9, 3) := by decide +kernel
theorem d_R_write_56 : decode b_R_write 56 = .ok (.aload_n 0, 1) := by decide +kernel
theorem d_R_write_57 : decode b_R_write 57 = .ok (.iload 4, 2) := by decide +kernel
theorem d_R_write_59 : decode b_R_write 59 = .ok (.invokevirtual 97, 3) := by decide +kernel
theorem d_R_write_62 : decode b_R_write 62 = .ok (.goto (-44), 3) := by decide +kernel
theorem d_R_write_65 : decode b_R_write 65 = .ok (.aload_n 0, 1) := by decide +kernel
theorem d_R_write_66 : decode b_R_write 66 = .ok (.getfield 33, 3) := by decide +kernel
theorem d_R_write_69 : decode b_R_write 69 = .ok (.ifCond .ne 14, 3) := by decide +kernel
theorem d_R_write_72 : decode b_R_write 72 = .ok (.aload_n 0, 1) := by decide +kernel
theorem d_R_write_73 : decode b_R_write 73 = .ok (.aload_n 0, 1) := by decide +kernel
theorem d_R_write_74 : decode b_R_write 74 = .ok (.iconst (-1), 1) := by decide +kernel
theorem d_R_write_75 : decode b_R_write 75 = .ok (.invokevirtual 82, 3) := by decide +kernel
theorem d_R_write_78 : decode b_R_write 78 = .ok (.iload_n 1, 1) := by decide +kernel
theorem d_R_write_79 : decode b_R_write 79 = .ok (.lload_n 2, 1) := by decide +kernel
theorem d_R_write_80 : decode b_R_write 80 = .ok (.invokevirtual 89, 3) := by decide +kernel
theorem d_R_write_83 : decode b_R_write 83 = .ok (.return_, 1) := by decide +kernel
theorem d_R_read_0 : decode b_R_read 0 = .ok (.aload_n 0, 1) := by decide +kernel
theorem d_R_read_1 : decode b_R_read 1 = .ok (.iload_n 1, 1) := by decide +kernel
theorem d_R_read_2 : decode b_R_read 2 = .ok (.bipush 8, 2) := by decide +kernel
theorem d_R_read_4 : decode b_R_read 4 = .ok (.invokestatic 46, 3) := by decide +kernel
theorem d_R_read_7 : decode b_R_read 7 = .ok (.ifCond .eq 7, 3) := by decide +kernel
theorem d_R_read_10 : decode b_R_read 10 = .ok (.iconst 1, 1) := by decide +kernel
theorem d_R_read_11 : decode b_R_read 11 = .ok (.goto 4, 3) := by decide +kernel
theorem d_R_read_14 : decode b_R_read 14 = .ok (.iconst 0, 1) := by decide +kernel
theorem d_R_read_15 : decode b_R_read 15 = .ok (.putfield 33, 3) := by decide +kernel
theorem d_R_read_18 : decode b_R_read 18 = .ok (.aload_n 0, 1) := by decide +kernel
theorem d_R_read_19 : decode b_R_read 19 = .ok (.getfield 33, 3) := by decide +kernel
theorem d_R_read_22 : decode b_R_read 22 = .ok (.ifCond .le 5, 3) := by decide +kernel
theorem d_R_read_25 : decode b_R_read 25 = .ok (.lconst 0, 1) := by decide +kernel
theorem d_R_read_26 : decode b_R_read 26 = .ok (.lreturn, 1) := by decide +kernel
theorem d_R_read_27 : decode b_R_read 27 = .ok (.aload_n 0, 1) := by decide +kernel
theorem d_R_read_28 : decode b_R_read 28 = .ok (.getfield 28, 3) := by decide +kernel
theorem d_R_read_31 : decode b_R_read 31 = .ok (.iload_n 1, 1) := by decide +kernel
theorem d_R_read_32 : decode b_R_read 32 = .ok (.iaload, 1) := by decide +kernel
theorem d_R_read_33 : decode b_R_read 33 = .ok (.iconst 1, 1) := by decide +kernel
theorem d_R_read_34 : decode b_R_read 34 = .ok (.isub, 1) := by decide +kernel
theorem d_R_read_35 : decode b_R_read 35 = .ok (.istore_n 2, 1) := by decide +kernel
theorem d_R_read_36 : decode b_R_read 36 = .ok (.aload_n 0, 1) := by decide +kernel
theorem d_R_read_37 : decode b_R_read 37 = .ok (.iload_n 2, 1) := by decide +kernel
theorem d_R_read_38 : decode b_R_read 38 = .ok (.ifCond .ge 7, 3) := by decide +kernel
theorem d_R_read_41 : decode b_R_read 41 = .ok (.iconst 2, 1) := by decide +kernel
theorem d_R_read_42 : decode b_R_read 42 = .ok (.goto 16, 3) := by decide +kernel
theorem d_R_read_45 : decode b_R_read 45 = .ok (.aload_n 0, 1) := by decide +kernel
theorem d_R_read_46 : decode b_R_read 46 = .ok (.iload_n 2, 1) := by decide +kernel
theorem d_R_read_47 : decode b_R_read 47 = .ok (.invokevirtual 79, 3) := by decide +kernel
theorem d_R_read_50 : decode b_R_read 50 = .ok (.ifCond .eq 7, 3) := by decide +kernel
theorem d_R_read_53 : decode b_R_read 53 = .ok (.iconst 0, 1) := by decide +kernel
theorem d_R_read_54 : decode b_R_read 54 = .ok (.goto 4, 3) := by decide +kernel
theorem d_R_read_57 : decode b_R_read 57 = .ok (.iconst 3, 1) := by decide +kernel
theorem d_R_read_58 : decode b_R_read 58 = .ok (.putfield 33, 3) := by decide +kernel
theorem d_R_read_61 : decode b_R_read 61 = .ok (.aload_n 0, 1) := by decide +kernel
theorem d_R_read_62 : decode b_R_read 62 = .ok (.getfield 33, 3) := by decide +kernel
theorem d_R_read_65 : decode b_R_read 65 = .ok (.ifCond .le 7, 3) := by decide +kernel
theorem d_R_read_68 : decode b_R_read 68 = .ok (.lconst 0, 1) := by decide +kernel
theorem d_R_read_69 : decode b_R_read 69 = .ok (.goto 8, 3) := by decide +kernel
theorem d_R_read_72 : decode b_R_read 72 = .ok (.aload_n 0, 1) := by decide +kernel
theorem d_R_read_73 : decode b_R_read 73 = .ok (.iload_n 2, 1) := by decide +kernel
theorem d_R_read_74 : decode b_R_read 74 = .ok (.invokevirtual 85, 3) := by decide +kernel
theorem d_R_read_77 : decode b_R_read 77 = .ok (.lreturn, 1) := by decide +kernel
theorem d_R_trim_0 : decode b_R_trim 0 = .ok (.aload_n 0, 1) := by decide +kernel
theorem d_R_trim_1 : decode b_R_trim 1 = .ok (.iload_n 1, 1) := by decide +kernel
theorem d_R_trim_2 : decode b_R_trim 2 = .ok (.bipush 8, 2) := by decide +kernel
theorem d_R_trim_4 : decode b_R_trim 4 = .ok (.invokestatic 46, 3) := by decide +kernel
theorem d_R_trim_7 : decode b_R_trim 7 = .ok (.ifCond .eq 7, 3) := by decide +kernel
theorem d_R_trim_10 : decode b_R_trim 10 = .ok (.iconst 1, 1) := by decide +kernel
theorem d_R_trim_11 : decode b_R_trim 11 = .ok (.goto 4, 3) := by decide +kernel
theorem d_R_trim_14 : decode b_R_trim 14 = .ok (.iconst 0, 1) := by decide +kernel
theorem d_R_trim_15 : decode b_R_trim 15 = .ok (.putfield 33, 3) := by decide +kernel
theorem d_R_trim_18 : decode b_R_trim 18 = .ok (.aload_n 0, 1) := by decide +kernel
theorem d_R_trim_19 : decode b_R_trim 19 = .ok (.getfield 33, 3) := by decide +kernel
theorem d_R_trim_22 : decode b_R_trim 22 = .ok (.ifCond .gt 12, 3) := by decide +kernel
theorem d_R_trim_25 : decode b_R_trim 25 = .ok (.aload_n 0, 1) := by decide +kernel
theorem d_R_trim_26 : decode b_R_trim 26 = .ok (.getfield 28, 3) := by decide +kernel
theorem d_R_trim_29 : decode b_R_trim 29 = .ok (.iload_n 1, 1) := by decide +kernel
theorem d_R_trim_30 : decode b_R_trim 30 = .ok (.iaload, 1) := by decide +kernel
theorem d_R_trim_31 : decode b_R_trim 31 = .ok (.ifCond .ne 5, 3) := by decide +kernel
theorem d_R_trim_34 : decode b_R_trim 34 = .ok (.iconst 0, 1) := by decide +kernel
theorem d_R_trim_35 : decode b_R_trim 35 = .ok (.ireturn, 1) := by decide +kernel
theorem d_R_trim_36 : decode b_R_trim 36 = .ok (.aload_n 0, 1) := by decide +kernel
theorem d_R_trim_37 : decode b_R_trim 37 = .ok (.getfield 16, 3) := by decide +kernel
theorem d_R_trim_40 : decode b_R_trim 40 = .ok (.aload_n 0, 1) := by decide +kernel
theorem d_R_trim_41 : decode b_R_trim 41 = .ok (.getfield 28, 3) := by decide +kernel
theorem d_R_trim_44 : decode b_R_trim 44 = .ok (.iload_n 1, 1) := by decide +kernel
theorem d_R_trim_45 : decode b_R_trim 45 = .ok (.iaload, 1) := by decide +kernel
theorem d_R_trim_46 : decode b_R_trim 46 = .ok (.iconst 1, 1) := by decide +kernel
theorem d_R_trim_47 : decode b_R_trim 47 = .ok (.isub, 1) := by decide +kernel
theorem d_R_trim_48 : decode b_R_trim 48 = .ok (.iconst 2, 1) := by decide +kernel
theorem d_R_trim_49 : decode b_R_trim 49 = .ok (.iastore, 1) := by decide +kernel
theorem d_R_trim_50 : decode b_R_trim 50 = .ok (.aload_n 0, 1) := by decide +kernel
theorem d_R_trim_51 : decode b_R_trim 51 = .ok (.getfield 28, 3) := by decide +kernel
theorem d_R_trim_54 : decode b_R_trim 54 = .ok (.iload_n 1, 1) := by decide +kernel
theorem d_R_trim_55 : decode b_R_trim 55 = .ok (.iconst 0, 1) := by decide +kernel
theorem d_R_trim_56 : decode b_R_trim 56 = .ok (.iastore, 1) := by decide +kernel
theorem d_R_trim_57 : decode b_R_trim 57 = .ok (.iconst 1, 1) := by decide +kernel
theorem d_R_trim_58 : decode b_R_trim 58 = .ok (.ireturn, 1) := by decide +kernel
theorem d_R_mount_0 : decode b_R_mount 0 = .ok (.aload_n 0, 1) := by decide +kernel
theorem d_R_mount_1 : decode b_R_mount 1 = .ok (.iconst 0, 1) := by decide +kernel
theorem d_R_mount_2 : decode b_R_mount 2 = .ok (.putfield 33, 3) := by decide +kernel
theorem d_R_mount_5 : decode b_R_mount 5 = .ok (.iconst 0, 1) := by decide +kernel
theorem d_R_mount_6 : decode b_R_mount 6 = .ok (.istore_n 1, 1) := by decide +kernel
theorem d_R_mount_7 : decode b_R_mount 7 = .ok (.iload_n 1, 1) := by decide +kernel
theorem d_R_mount_8 : decode b_R_mount 8 = .ok (.bipush 8, 2) := by decide +kernel
theorem d_R_mount_10 : decode b_R_mount 10 = .ok (.if_icmp .ge 16, 3) := by decide +kernel
theorem d_R_mount_13 : decode b_R_mount 13 = .ok (.aload_n 0, 1) := by decide +kernel
theorem d_R_mount_14 : decode b_R_mount 14 = .ok (.getfield 28, 3) := by decide +kernel
theorem d_R_mount_17 : decode b_R_mount 17 = .ok (.iload_n 1, 1) := by decide +kernel
theorem d_R_mount_18 : decode b_R_mount 18 = .ok (.iconst 0, 1) := by decide +kernel
theorem d_R_mount_19 : decode b_R_mount 19 = .ok (.iastore, 1) := by decide +kernel
theorem d_R_mount_20 : decode b_R_mount 20 = .ok (.iinc 1 1, 3) := by decide +kernel
theorem d_R_mount_23 : decode b_R_mount 23 = .ok (.goto (-16), 3) := by decide +kernel
theorem d_R_mount_26 : decode b_R_mount 26 = .ok (.iconst (-1), 1) := by decide +kernel
theorem d_R_mount_27 : decode b_R_mount 27 = .ok (.istore_n 1, 1) := by decide +kernel
theorem d_R_mount_28 : decode b_R_mount 28 = .ok (.iconst 0, 1) := by decide +kernel
theorem d_R_mount_29 : decode b_R_mount 29 = .ok (.istore_n 2, 1) := by decide +kernel
theorem d_R_mount_30 : decode b_R_mount 30 = .ok (.iconst 0, 1) := by decide +kernel
theorem d_R_mount_31 : decode b_R_mount 31 = .ok (.istore_n 3, 1) := by decide +kernel
theorem d_R_mount_32 : decode b_R_mount 32 = .ok (.iload_n 3, 1) := by decide +kernel
theorem d_R_mount_33 : decode b_R_mount 33 = .ok (.bipush 16, 2) := by decide +kernel
theorem d_R_mount_35 : decode b_R_mount 35 = .ok (.if_icmp .ge 185, 3) := by decide +kernel
theorem d_R_mount_38 : decode b_R_mount 38 = .ok (.aload_n 0, 1) := by decide +kernel
theorem d_R_mount_39 : decode b_R_mount 39 = .ok (.aload_n 0, 1) := by decide +kernel
theorem d_R_mount_40 : decode b_R_mount 40 = .ok (.getfield 13, 3) := by decide +kernel
theorem d_R_mount_43 : decode b_R_mount 43 = .ok (.iconst 5, 1) := by decide +kernel
theorem d_R_mount_44 : decode b_R_mount 44 = .ok (.iload_n 3, 1) := by decide +kernel
theorem d_R_mount_45 : decode b_R_mount 45 = .ok (.imul, 1) := by decide +kernel
theorem d_R_mount_46 : decode b_R_mount 46 = .ok (.iconst 4, 1) := by decide +kernel
theorem d_R_mount_47 : decode b_R_mount 47 = .ok (.iadd, 1) := by decide +kernel
theorem d_R_mount_48 : decode b_R_mount 48 = .ok (.iaload, 1) := by decide +kernel
theorem d_R_mount_49 : decode b_R_mount 49 = .ok (.invokevirtual 56, 3) := by decide +kernel
theorem d_R_mount_52 : decode b_R_mount 52 = .ok (.istore 4, 2) := by decide +kernel
theorem d_R_mount_54 : decode b_R_mount 54 = .ok (.aload_n 0, 1) := by decide +kernel
theorem d_R_mount_55 : decode b_R_mount 55 = .ok (.getfield 16, 3) := by decide +kernel
theorem d_R_mount_58 : decode b_R_mount 58 = .ok (.iload_n 3, 1) := by decide +kernel
theorem d_R_mount_59 : decode b_R_mount 59 = .ok (.iload 4, 2) := by decide +kernel
theorem d_R_mount_61 : decode b_R_mount 61 = .ok (.ldc 104, 2) := by decide +kernel
theorem d_R_mount_63 : decode b_R_mount 63 = .ok (.if_icmp .ne 7, 3) := by decide +kernel
theorem d_R_mount_66 : decode b_R_mount 66 = .ok (.iconst 0, 1) := by decide +kernel
theorem d_R_mount_67 : decode b_R_mount 67 = .ok (.goto 4, 3) := by decide +kernel
theorem d_R_mount_70 : decode b_R_mount 70 = .ok (.iconst 2, 1) := by decide +kernel
theorem d_R_mount_71 : decode b_R_mount 71 = .ok (.iastore, 1) := by decide +kernel
theorem d_R_mount_72 : decode b_R_mount 72 = .ok (.iload 4, 2) := by decide +kernel
theorem d_R_mount_74 : decode b_R_mount 74 = .ok (.ifCond .lt 140, 3) := by decide +kernel
theorem d_R_mount_77 : decode b_R_mount 77 = .ok (.iload 4, 2) := by decide +kernel
theorem d_R_mount_79 : decode b_R_mount 79 = .ok (.ldc 37, 2) := by decide +kernel
theorem d_R_mount_81 : decode b_R_mount 81 = .ok (.if_icmp .ge 133, 3) := by decide +kernel
theorem d_R_mount_84 : decode b_R_mount 84 = .ok (.iload 4, 2) := by decide +kernel
theorem d_R_mount_86 : decode b_R_mount 86 = .ok (.sipush 4096, 3) := by decide +kernel
theorem d_R_mount_89 : decode b_R_mount 89 = .ok (.idiv, 1) := by decide +kernel
theorem d_R_mount_90 : decode b_R_mount 90 = .ok (.istore 5, 2) := by decide +kernel
theorem d_R_mount_92 : decode b_R_mount 92 = .ok (.aload_n 0, 1) := by decide +kernel
theorem d_R_mount_93 : decode b_R_mount 93 = .ok (.getfield 19, 3) := by decide +kernel
theorem d_R_mount_96 : decode b_R_mount 96 = .ok (.iload_n 3, 1) := by decide +kernel
theorem d_R_mount_97 : decode b_R_mount 97 = .ok (.iload 5, 2) := by decide +kernel
theorem d_R_mount_99 : decode b_R_mount 99 = .ok (.iastore, 1) := by decide +kernel
theorem d_R_mount_100 : decode b_R_mount 100 = .ok (.aload_n 0, 1) := by decide +kernel
theorem d_R_mount_101 : decode b_R_mount 101 = .ok (.getfield 22, 3) := by decide +kernel
theorem d_R_mount_104 : decode b_R_mount 104 = .ok (.iload_n 3, 1) := by decide +kernel
theorem d_R_mount_105 : decode b_R_mount 105 = .ok (.iload 4, 2) := by decide +kernel
theorem d_R_mount_107 : decode b_R_mount 107 = .ok (.sipush 4096, 3) := by decide +kernel
theorem d_R_mount_110 : decode b_R_mount 110 = .ok (.irem, 1) := by decide +kernel
theorem d_R_mount_111 : decode b_R_mount 111 = .ok (.iastore, 1) := by decide +kernel
theorem d_R_mount_112 : decode b_R_mount 112 = .ok (.aload_n 0, 1) := by decide +kernel
theorem d_R_mount_113 : decode b_R_mount 113 = .ok (.getfield 28, 3) := by decide +kernel
theorem d_R_mount_116 : decode b_R_mount 116 = .ok (.iload 5, 2) := by decide +kernel
theorem d_R_mount_118 : decode b_R_mount 118 = .ok (.iaload, 1) := by decide +kernel
theorem d_R_mount_119 : decode b_R_mount 119 = .ok (.iconst 1, 1) := by decide +kernel
theorem d_R_mount_120 : decode b_R_mount 120 = .ok (.isub, 1) := by decide +kernel
theorem d_R_mount_121 : decode b_R_mount 121 = .ok (.istore 6, 2) := by decide +kernel
theorem d_R_mount_123 : decode b_R_mount 123 = .ok (.iload 6, 2) := by decide +kernel
theorem d_R_mount_125 : decode b_R_mount 125 = .ok (.ifCond .lt 22, 3) := by decide +kernel
theorem d_R_mount_128 : decode b_R_mount 128 = .ok (.aload_n 0, 1) := by decide +kernel
theorem d_R_mount_129 : decode b_R_mount 129 = .ok (.getfield 22, 3) := by decide +kernel
theorem d_R_mount_132 : decode b_R_mount 132 = .ok (.iload_n 3, 1) := by decide +kernel
theorem d_R_mount_133 : decode b_R_mount 133 = .ok (.iaload, 1) := by decide +kernel
theorem d_R_mount_134 : decode b_R_mount 134 = .ok (.aload_n 0, 1) := by decide +kernel
theorem d_R_mount_135 : decode b_R_mount 135 = .ok (.getfield 22, 3) := by decide +kernel
theorem d_R_mount_138 : decode b_R_mount 138 = .ok (.iload 6, 2) := by decide +kernel
theorem d_R_mount_140 : decode b_R_mount 140 = .ok (.iaload, 1) := by decide +kernel
theorem d_R_mount_141 : decode b_R_mount 141 = .ok (.invokestatic 105, 3) := by decide +kernel
theorem d_R_mount_144 : decode b_R_mount 144 = .ok (.ifCond .eq 46, 3) := by decide +kernel
theorem d_R_mount_147 : decode b_R_mount 147 = .ok (.iload 6, 2) := by decide +kernel
theorem d_R_mount_149 : decode b_R_mount 149 = .ok (.ifCond .ge 9, 3) := by decide +kernel
theorem d_R_mount_152 : decode b_R_mount 152 = .ok (.iload_n 2, 1) := by decide +kernel
theorem d_R_mount_153 : decode b_R_mount 153 = .ok (.iconst 1, 1) := by decide +kernel
theorem d_R_mount_154 : decode b_R_mount 154 = .ok (.iadd, 1) := by decide +kernel
theorem d_R_mount_155 : decode b_R_mount 155 = .ok (.goto 4, 3) := by decide +kernel
theorem d_R_mount_158 : decode b_R_mount 158 = .ok (.iload_n 2, 1) := by decide +kernel
theorem d_R_mount_159 : decode b_R_mount 159 = .ok (.istore_n 2, 1) := by decide +kernel
theorem d_R_mount_160 : decode b_R_mount 160 = .ok (.iload 6, 2) := by decide +kernel
theorem d_R_mount_162 : decode b_R_mount 162 = .ok (.ifCond .lt 11, 3) := by decide +kernel
theorem d_R_mount_165 : decode b_R_mount 165 = .ok (.aload_n 0, 1) := by decide +kernel
theorem d_R_mount_166 : decode b_R_mount 166 = .ok (.getfield 16, 3) := by decide +kernel
theorem d_R_mount_169 : decode b_R_mount 169 = .ok (.iload 6, 2) := by decide +kernel
theorem d_R_mount_171 : decode b_R_mount 171 = .ok (.iconst 2, 1) := by decide +kernel
theorem d_R_mount_172 : decode b_R_mount 172 = .ok (.iastore, 1) := by decide +kernel
theorem d_R_mount_173 : decode b_R_mount 173 = .ok (.aload_n 0, 1) := by decide +kernel
theorem d_R_mount_174 : decode b_R_mount 174 = .ok (.getfield 16, 3) := by decide +kernel
theorem d_R_mount_177 : decode b_R_mount 177 = .ok (.iload_n 3, 1) := by decide +kernel
theorem d_R_mount_178 : decode b_R_mount 178 = .ok (.iconst 1, 1) := by decide +kernel
theorem d_R_mount_179 : decode b_R_mount 179 = .ok (.iastore, 1) := by decide +kernel
theorem d_R_mount_180 : decode b_R_mount 180 = .ok (.aload_n 0, 1) := by decide +kernel
theorem d_R_mount_181 : decode b_R_mount 181 = .ok (.getfield 28, 3) := by decide +kernel
theorem d_R_mount_184 : decode b_R_mount 184 = .ok (.iload 5, 2) := by decide +kernel
theorem d_R_mount_186 : decode b_R_mount 186 = .ok (.iload_n 3, 1) := by decide +kernel
theorem d_R_mount_187 : decode b_R_mount 187 = .ok (.iconst 1, 1) := by decide +kernel
theorem d_R_mount_188 : decode b_R_mount 188 = .ok (.iadd, 1) := by decide +kernel
theorem d_R_mount_189 : decode b_R_mount 189 = .ok (.iastore, 1) := by decide +kernel
theorem d_R_mount_190 : decode b_R_mount 190 = .ok (.iload_n 1, 1) := by decide +kernel
theorem d_R_mount_191 : decode b_R_mount 191 = .ok (.ifCond .lt 16, 3) := by decide +kernel
theorem d_R_mount_194 : decode b_R_mount 194 = .ok (.aload_n 0, 1) := by decide +kernel
theorem d_R_mount_195 : decode b_R_mount 195 = .ok (.getfield 22, 3) := by decide +kernel
theorem d_R_mount_198 : decode b_R_mount 198 = .ok (.iload_n 3, 1) := by decide +kernel
theorem d_R_mount_199 : decode b_R_mount 199 = .ok (.iaload, 1) := by decide +kernel
theorem d_R_mount_200 : decode b_R_mount 200 = .ok (.iload_n 1, 1) := by decide +kernel
theorem d_R_mount_201 : decode b_R_mount 201 = .ok (.invokestatic 105, 3) := by decide +kernel
theorem d_R_mount_204 : decode b_R_mount 204 = .ok (.ifCond .eq 10, 3) := by decide +kernel
theorem d_R_mount_207 : decode b_R_mount 207 = .ok (.aload_n 0, 1) := by decide +kernel
theorem d_R_mount_208 : decode b_R_mount 208 = .ok (.getfield 22, 3) := by decide +kernel
theorem d_R_mount_211 : decode b_R_mount 211 = .ok (.iload_n 3, 1) := by decide +kernel
theorem d_R_mount_212 : decode b_R_mount 212 = .ok (.iaload, 1) := by decide +kernel
theorem d_R_mount_213 : decode b_R_mount 213 = .ok (.istore_n 1, 1) := by decide +kernel
theorem d_R_mount_214 : decode b_R_mount 214 = .ok (.iinc 3 1, 3) := by decide +kernel
theorem d_R_mount_217 : decode b_R_mount 217 = .ok (.goto (-185), 3) := by decide +kernel
theorem d_R_mount_220 : decode b_R_mount 220 = .ok (.aload_n 0, 1) := by decide +kernel
theorem d_R_mount_221 : decode b_R_mount 221 = .ok (.iload_n 1, 1) := by decide +kernel
theorem d_R_mount_222 : decode b_R_mount 222 = .ok (.ifCond .ge 7, 3) := by decide +kernel
theorem d_R_mount_225 : decode b_R_mount 225 = .ok (.iconst 0, 1) := by decide +kernel
theorem d_R_mount_226 : decode b_R_mount 226 = .ok (.goto 10, 3) := by decide +kernel
theorem d_R_mount_229 : decode b_R_mount 229 = .ok (.iload_n 1, 1) := by decide +kernel
theorem d_R_mount_230 : decode b_R_mount 230 = .ok (.iconst 1, 1) := by decide +kernel
theorem d_R_mount_231 : decode b_R_mount 231 = .ok (.iadd, 1) := by decide +kernel
theorem d_R_mount_232 : decode b_R_mount 232 = .ok (.sipush 4095, 3) := by decide +kernel
theorem d_R_mount_235 : decode b_R_mount 235 = .ok (.irem, 1) := by decide +kernel
theorem d_R_mount_236 : decode b_R_mount 236 = .ok (.putfield 76, 3) := by decide +kernel
theorem d_R_mount_239 : decode b_R_mount 239 = .ok (.iload_n 2, 1) := by decide +kernel
theorem d_R_mount_240 : decode b_R_mount 240 = .ok (.ireturn, 1) := by decide +kernel
theorem d_R_spoil_0 : decode b_R_spoil 0 = .ok (.aload_n 0, 1) := by decide +kernel
theorem d_R_spoil_1 : decode b_R_spoil 1 = .ok (.iload_n 1, 1) := by decide +kernel
theorem d_R_spoil_2 : decode b_R_spoil 2 = .ok (.iload_n 2, 1) := by decide +kernel
theorem d_R_spoil_3 : decode b_R_spoil 3 = .ok (.invokestatic 108, 3) := by decide +kernel
theorem d_R_spoil_6 : decode b_R_spoil 6 = .ok (.ifCond .eq 20, 3) := by decide +kernel
theorem d_R_spoil_9 : decode b_R_spoil 9 = .ok (.iload_n 3, 1) := by decide +kernel
theorem d_R_spoil_10 : decode b_R_spoil 10 = .ok (.iconst 5, 1) := by decide +kernel
theorem d_R_spoil_11 : decode b_R_spoil 11 = .ok (.invokestatic 46, 3) := by decide +kernel
theorem d_R_spoil_14 : decode b_R_spoil 14 = .ok (.ifCond .ne 12, 3) := by decide +kernel
theorem d_R_spoil_17 : decode b_R_spoil 17 = .ok (.iload 4, 2) := by decide +kernel
theorem d_R_spoil_19 : decode b_R_spoil 19 = .ok (.ifCond .lt 7, 3) := by decide +kernel
theorem d_R_spoil_22 : decode b_R_spoil 22 = .ok (.iconst 0, 1) := by decide +kernel
theorem d_R_spoil_23 : decode b_R_spoil 23 = .ok (.goto 4, 3) := by decide +kernel
theorem d_R_spoil_26 : decode b_R_spoil 26 = .ok (.iconst 1, 1) := by decide +kernel
theorem d_R_spoil_27 : decode b_R_spoil 27 = .ok (.putfield 33, 3) := by decide +kernel
theorem d_R_spoil_30 : decode b_R_spoil 30 = .ok (.iconst 5, 1) := by decide +kernel
theorem d_R_spoil_31 : decode b_R_spoil 31 = .ok (.iconst 4, 1) := by decide +kernel
theorem d_R_spoil_32 : decode b_R_spoil 32 = .ok (.iload_n 1, 1) := by decide +kernel
theorem d_R_spoil_33 : decode b_R_spoil 33 = .ok (.imul, 1) := by decide +kernel
theorem d_R_spoil_34 : decode b_R_spoil 34 = .ok (.iload_n 2, 1) := by decide +kernel
theorem d_R_spoil_35 : decode b_R_spoil 35 = .ok (.iadd, 1) := by decide +kernel
theorem d_R_spoil_36 : decode b_R_spoil 36 = .ok (.imul, 1) := by decide +kernel
theorem d_R_spoil_37 : decode b_R_spoil 37 = .ok (.iload_n 3, 1) := by decide +kernel
theorem d_R_spoil_38 : decode b_R_spoil 38 = .ok (.iadd, 1) := by decide +kernel
theorem d_R_spoil_39 : decode b_R_spoil 39 = .ok (.istore 5, 2) := by decide +kernel
theorem d_R_spoil_41 : decode b_R_spoil 41 = .ok (.aload_n 0, 1) := by decide +kernel
theorem d_R_spoil_42 : decode b_R_spoil 42 = .ok (.getfield 33, 3) := by decide +kernel
theorem d_R_spoil_45 : decode b_R_spoil 45 = .ok (.ifCond .ne 20, 3) := by decide +kernel
theorem d_R_spoil_48 : decode b_R_spoil 48 = .ok (.aload_n 0, 1) := by decide +kernel
theorem d_R_spoil_49 : decode b_R_spoil 49 = .ok (.getfield 13, 3) := by decide +kernel
theorem d_R_spoil_52 : decode b_R_spoil 52 = .ok (.iload 5, 2) := by decide +kernel
theorem d_R_spoil_54 : decode b_R_spoil 54 = .ok (.aload_n 0, 1) := by decide +kernel
theorem d_R_spoil_55 : decode b_R_spoil 55 = .ok (.getfield 13, 3) := by decide +kernel
theorem d_R_spoil_58 : decode b_R_spoil 58 = .ok (.iload 5, 2) := by decide +kernel
theorem d_R_spoil_60 : decode b_R_spoil 60 = .ok (.iaload, 1) := by decide +kernel
theorem d_R_spoil_61 : decode b_R_spoil 61 = .ok (.iload 4, 2) := by decide +kernel
theorem d_R_spoil_63 : decode b_R_spoil 63 = .ok (.ixor, 1) := by decide +kernel
theorem d_R_spoil_64 : decode b_R_spoil 64 = .ok (.iastore, 1) := by decide +kernel
theorem d_R_spoil_65 : decode b_R_spoil 65 = .ok (.return_, 1) := by decide +kernel
theorem d_R_flash_0 : decode b_R_flash 0 = .ok (.aload_n 0, 1) := by decide +kernel
theorem d_R_flash_1 : decode b_R_flash 1 = .ok (.iconst 0, 1) := by decide +kernel
theorem d_R_flash_2 : decode b_R_flash 2 = .ok (.putfield 33, 3) := by decide +kernel
theorem d_R_flash_5 : decode b_R_flash 5 = .ok (.iload_n 1, 1) := by decide +kernel
theorem d_R_flash_6 : decode b_R_flash 6 = .ok (.iload_n 2, 1) := by decide +kernel
theorem d_R_flash_7 : decode b_R_flash 7 = .ok (.invokestatic 108, 3) := by decide +kernel
theorem d_R_flash_10 : decode b_R_flash 10 = .ok (.ifCond .eq 28, 3) := by decide +kernel
theorem d_R_flash_13 : decode b_R_flash 13 = .ok (.iload_n 3, 1) := by decide +kernel
theorem d_R_flash_14 : decode b_R_flash 14 = .ok (.iconst 5, 1) := by decide +kernel
theorem d_R_flash_15 : decode b_R_flash 15 = .ok (.invokestatic 46, 3) := by decide +kernel
theorem d_R_flash_18 : decode b_R_flash 18 = .ok (.ifCond .ne 20, 3) := by decide +kernel
theorem d_R_flash_21 : decode b_R_flash 21 = .ok (.aload_n 0, 1) := by decide +kernel
theorem d_R_flash_22 : decode b_R_flash 22 = .ok (.getfield 13, 3) := by decide +kernel
theorem d_R_flash_25 : decode b_R_flash 25 = .ok (.iconst 5, 1) := by decide +kernel
theorem d_R_flash_26 : decode b_R_flash 26 = .ok (.iconst 4, 1) := by decide +kernel
theorem d_R_flash_27 : decode b_R_flash 27 = .ok (.iload_n 1, 1) := by decide +kernel
theorem d_R_flash_28 : decode b_R_flash 28 = .ok (.imul, 1) := by decide +kernel
theorem d_R_flash_29 : decode b_R_flash 29 = .ok (.iload_n 2, 1) := by decide +kernel
theorem d_R_flash_30 : decode b_R_flash 30 = .ok (.iadd, 1) := by decide +kernel
theorem d_R_flash_31 : decode b_R_flash 31 = .ok (.imul, 1) := by decide +kernel
theorem d_R_flash_32 : decode b_R_flash 32 = .ok (.iload_n 3, 1) := by decide +kernel
theorem d_R_flash_33 : decode b_R_flash 33 = .ok (.iadd, 1) := by decide +kernel
theorem d_R_flash_34 : decode b_R_flash 34 = .ok (.iaload, 1) := by decide +kernel
theorem d_R_flash_35 : decode b_R_flash 35 = .ok (.goto 8, 3) := by decide +kernel
theorem d_R_flash_38 : decode b_R_flash 38 = .ok (.aload_n 0, 1) := by decide +kernel
theorem d_R_flash_39 : decode b_R_flash 39 = .ok (.iconst 1, 1) := by decide +kernel
theorem d_R_flash_40 : decode b_R_flash 40 = .ok (.invokevirtual 50, 3) := by decide +kernel
theorem d_R_flash_43 : decode b_R_flash 43 = .ok (.ireturn, 1) := by decide +kernel
theorem d_R_place_0 : decode b_R_place 0 = .ok (.aload_n 0, 1) := by decide +kernel
theorem d_R_place_1 : decode b_R_place 1 = .ok (.iconst 0, 1) := by decide +kernel
theorem d_R_place_2 : decode b_R_place 2 = .ok (.putfield 33, 3) := by decide +kernel
theorem d_R_place_5 : decode b_R_place 5 = .ok (.iload_n 1, 1) := by decide +kernel
theorem d_R_place_6 : decode b_R_place 6 = .ok (.bipush 8, 2) := by decide +kernel
theorem d_R_place_8 : decode b_R_place 8 = .ok (.invokestatic 46, 3) := by decide +kernel
theorem d_R_place_11 : decode b_R_place 11 = .ok (.ifCond .eq 11, 3) := by decide +kernel
theorem d_R_place_14 : decode b_R_place 14 = .ok (.aload_n 0, 1) := by decide +kernel
theorem d_R_place_15 : decode b_R_place 15 = .ok (.iconst 1, 1) := by decide +kernel
theorem d_R_place_16 : decode b_R_place 16 = .ok (.invokevirtual 50, 3) := by decide +kernel
theorem d_R_place_19 : decode b_R_place 19 = .ok (.goto 11, 3) := by decide +kernel
theorem d_R_place_22 : decode b_R_place 22 = .ok (.aload_n 0, 1) := by decide +kernel
theorem d_R_place_23 : decode b_R_place 23 = .ok (.getfield 28, 3) := by decide +kernel
theorem d_R_place_26 : decode b_R_place 26 = .ok (.iload_n 1, 1) := by decide +kernel
theorem d_R_place_27 : decode b_R_place 27 = .ok (.iaload, 1) := by decide +kernel
theorem d_R_place_28 : decode b_R_place 28 = .ok (.iconst 1, 1) := by decide +kernel
theorem d_R_place_29 : decode b_R_place 29 = .ok (.isub, 1) := by decide +kernel
theorem d_R_place_30 : decode b_R_place 30 = .ok (.ireturn, 1) := by decide +kernel
theorem d_R_state_0 : decode b_R_state 0 = .ok (.aload_n 0, 1) := by decide +kernel
theorem d_R_state_1 : decode b_R_state 1 = .ok (.iconst 0, 1) := by decide +kernel
theorem d_R_state_2 : decode b_R_state 2 = .ok (.putfield 33, 3) := by decide +kernel
theorem d_R_state_5 : decode b_R_state 5 = .ok (.iload_n 1, 1) := by decide +kernel
theorem d_R_state_6 : decode b_R_state 6 = .ok (.iload_n 2, 1) := by decide +kernel
theorem d_R_state_7 : decode b_R_state 7 = .ok (.invokestatic 108, 3) := by decide +kernel
theorem d_R_state_10 : decode b_R_state 10 = .ok (.ifCond .eq 16, 3) := by decide +kernel
theorem d_R_state_13 : decode b_R_state 13 = .ok (.aload_n 0, 1) := by decide +kernel
theorem d_R_state_14 : decode b_R_state 14 = .ok (.getfield 16, 3) := by decide +kernel
theorem d_R_state_17 : decode b_R_state 17 = .ok (.iconst 4, 1) := by decide +kernel
theorem d_R_state_18 : decode b_R_state 18 = .ok (.iload_n 1, 1) := by decide +kernel
theorem d_R_state_19 : decode b_R_state 19 = .ok (.imul, 1) := by decide +kernel
theorem d_R_state_20 : decode b_R_state 20 = .ok (.iload_n 2, 1) := by decide +kernel
theorem d_R_state_21 : decode b_R_state 21 = .ok (.iadd, 1) := by decide +kernel
theorem d_R_state_22 : decode b_R_state 22 = .ok (.iaload, 1) := by decide +kernel
theorem d_R_state_23 : decode b_R_state 23 = .ok (.goto 8, 3) := by decide +kernel
theorem d_R_state_26 : decode b_R_state 26 = .ok (.aload_n 0, 1) := by decide +kernel
theorem d_R_state_27 : decode b_R_state 27 = .ok (.iconst 1, 1) := by decide +kernel
theorem d_R_state_28 : decode b_R_state 28 = .ok (.invokevirtual 50, 3) := by decide +kernel
theorem d_R_state_31 : decode b_R_state 31 = .ok (.ireturn, 1) := by decide +kernel
theorem d_R_wear_0 : decode b_R_wear 0 = .ok (.aload_n 0, 1) := by decide +kernel
theorem d_R_wear_1 : decode b_R_wear 1 = .ok (.iconst 0, 1) := by decide +kernel
theorem d_R_wear_2 : decode b_R_wear 2 = .ok (.putfield 33, 3) := by decide +kernel
theorem d_R_wear_5 : decode b_R_wear 5 = .ok (.iload_n 1, 1) := by decide +kernel
theorem d_R_wear_6 : decode b_R_wear 6 = .ok (.iconst 4, 1) := by decide +kernel
theorem d_R_wear_7 : decode b_R_wear 7 = .ok (.invokestatic 46, 3) := by decide +kernel
theorem d_R_wear_10 : decode b_R_wear 10 = .ok (.ifCond .eq 11, 3) := by decide +kernel
theorem d_R_wear_13 : decode b_R_wear 13 = .ok (.aload_n 0, 1) := by decide +kernel
theorem d_R_wear_14 : decode b_R_wear 14 = .ok (.iconst 1, 1) := by decide +kernel
theorem d_R_wear_15 : decode b_R_wear 15 = .ok (.invokevirtual 50, 3) := by decide +kernel
theorem d_R_wear_18 : decode b_R_wear 18 = .ok (.goto 9, 3) := by decide +kernel
theorem d_R_wear_21 : decode b_R_wear 21 = .ok (.aload_n 0, 1) := by decide +kernel
theorem d_R_wear_22 : decode b_R_wear 22 = .ok (.getfield 25, 3) := by decide +kernel
theorem d_R_wear_25 : decode b_R_wear 25 = .ok (.iload_n 1, 1) := by decide +kernel
theorem d_R_wear_26 : decode b_R_wear 26 = .ok (.iaload, 1) := by decide +kernel
theorem d_R_wear_27 : decode b_R_wear 27 = .ok (.ireturn, 1) := by decide +kernel
theorem d_R_serial_0 : decode b_R_serial 0 = .ok (.aload_n 0, 1) := by decide +kernel
theorem d_R_serial_1 : decode b_R_serial 1 = .ok (.iconst 0, 1) := by decide +kernel
theorem d_R_serial_2 : decode b_R_serial 2 = .ok (.putfield 33, 3) := by decide +kernel
theorem d_R_serial_5 : decode b_R_serial 5 = .ok (.aload_n 0, 1) := by decide +kernel
theorem d_R_serial_6 : decode b_R_serial 6 = .ok (.getfield 76, 3) := by decide +kernel
theorem d_R_serial_9 : decode b_R_serial 9 = .ok (.ireturn, 1) := by decide +kernel
