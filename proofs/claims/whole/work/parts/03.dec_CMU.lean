theorem d_U_bitCount_0 : decode b_U_bitCount 0 = .ok (.iload_n 0, 1) := by decide +kernel
theorem d_U_bitCount_1 : decode b_U_bitCount 1 = .ok (.iload_n 0, 1) := by decide +kernel
theorem d_U_bitCount_2 : decode b_U_bitCount 2 = .ok (.iconst 1, 1) := by decide +kernel
theorem d_U_bitCount_3 : decode b_U_bitCount 3 = .ok (.iushr, 1) := by decide +kernel
theorem d_U_bitCount_4 : decode b_U_bitCount 4 = .ok (.ldc_w 265, 3) := by decide +kernel
theorem d_U_bitCount_7 : decode b_U_bitCount 7 = .ok (.iand, 1) := by decide +kernel
theorem d_U_bitCount_8 : decode b_U_bitCount 8 = .ok (.isub, 1) := by decide +kernel
theorem d_U_bitCount_9 : decode b_U_bitCount 9 = .ok (.istore_n 0, 1) := by decide +kernel
theorem d_U_bitCount_10 : decode b_U_bitCount 10 = .ok (.iload_n 0, 1) := by decide +kernel
theorem d_U_bitCount_11 : decode b_U_bitCount 11 = .ok (.ldc_w 266, 3) := by decide +kernel
theorem d_U_bitCount_14 : decode b_U_bitCount 14 = .ok (.iand, 1) := by decide +kernel
theorem d_U_bitCount_15 : decode b_U_bitCount 15 = .ok (.iload_n 0, 1) := by decide +kernel
theorem d_U_bitCount_16 : decode b_U_bitCount 16 = .ok (.iconst 2, 1) := by decide +kernel
theorem d_U_bitCount_17 : decode b_U_bitCount 17 = .ok (.iushr, 1) := by decide +kernel
theorem d_U_bitCount_18 : decode b_U_bitCount 18 = .ok (.ldc_w 266, 3) := by decide +kernel
theorem d_U_bitCount_21 : decode b_U_bitCount 21 = .ok (.iand, 1) := by decide +kernel
theorem d_U_bitCount_22 : decode b_U_bitCount 22 = .ok (.iadd, 1) := by decide +kernel
theorem d_U_bitCount_23 : decode b_U_bitCount 23 = .ok (.istore_n 0, 1) := by decide +kernel
theorem d_U_bitCount_24 : decode b_U_bitCount 24 = .ok (.iload_n 0, 1) := by decide +kernel
theorem d_U_bitCount_25 : decode b_U_bitCount 25 = .ok (.iload_n 0, 1) := by decide +kernel
theorem d_U_bitCount_26 : decode b_U_bitCount 26 = .ok (.iconst 4, 1) := by decide +kernel
theorem d_U_bitCount_27 : decode b_U_bitCount 27 = .ok (.iushr, 1) := by decide +kernel
theorem d_U_bitCount_28 : decode b_U_bitCount 28 = .ok (.iadd, 1) := by decide +kernel
theorem d_U_bitCount_29 : decode b_U_bitCount 29 = .ok (.ldc_w 267, 3) := by decide +kernel
theorem d_U_bitCount_32 : decode b_U_bitCount 32 = .ok (.iand, 1) := by decide +kernel
theorem d_U_bitCount_33 : decode b_U_bitCount 33 = .ok (.istore_n 0, 1) := by decide +kernel
theorem d_U_bitCount_34 : decode b_U_bitCount 34 = .ok (.iload_n 0, 1) := by decide +kernel
theorem d_U_bitCount_35 : decode b_U_bitCount 35 = .ok (.iload_n 0, 1) := by decide +kernel
theorem d_U_bitCount_36 : decode b_U_bitCount 36 = .ok (.bipush 8, 2) := by decide +kernel
theorem d_U_bitCount_38 : decode b_U_bitCount 38 = .ok (.iushr, 1) := by decide +kernel
theorem d_U_bitCount_39 : decode b_U_bitCount 39 = .ok (.iadd, 1) := by decide +kernel
theorem d_U_bitCount_40 : decode b_U_bitCount 40 = .ok (.istore_n 0, 1) := by decide +kernel
theorem d_U_bitCount_41 : decode b_U_bitCount 41 = .ok (.iload_n 0, 1) := by decide +kernel
theorem d_U_bitCount_42 : decode b_U_bitCount 42 = .ok (.iload_n 0, 1) := by decide +kernel
theorem d_U_bitCount_43 : decode b_U_bitCount 43 = .ok (.bipush 16, 2) := by decide +kernel
theorem d_U_bitCount_45 : decode b_U_bitCount 45 = .ok (.iushr, 1) := by decide +kernel
theorem d_U_bitCount_46 : decode b_U_bitCount 46 = .ok (.iadd, 1) := by decide +kernel
theorem d_U_bitCount_47 : decode b_U_bitCount 47 = .ok (.istore_n 0, 1) := by decide +kernel
theorem d_U_bitCount_48 : decode b_U_bitCount 48 = .ok (.iload_n 0, 1) := by decide +kernel
theorem d_U_bitCount_49 : decode b_U_bitCount 49 = .ok (.bipush 63, 2) := by decide +kernel
theorem d_U_bitCount_51 : decode b_U_bitCount 51 = .ok (.iand, 1) := by decide +kernel
theorem d_U_bitCount_52 : decode b_U_bitCount 52 = .ok (.ireturn, 1) := by decide +kernel
theorem d_U_floorMod_0 : decode b_U_floorMod 0 = .ok (.iload_n 0, 1) := by decide +kernel
theorem d_U_floorMod_1 : decode b_U_floorMod 1 = .ok (.iload_n 1, 1) := by decide +kernel
theorem d_U_floorMod_2 : decode b_U_floorMod 2 = .ok (.irem, 1) := by decide +kernel
theorem d_U_floorMod_3 : decode b_U_floorMod 3 = .ok (.istore_n 2, 1) := by decide +kernel
theorem d_U_floorMod_4 : decode b_U_floorMod 4 = .ok (.iload_n 0, 1) := by decide +kernel
theorem d_U_floorMod_5 : decode b_U_floorMod 5 = .ok (.iload_n 1, 1) := by decide +kernel
theorem d_U_floorMod_6 : decode b_U_floorMod 6 = .ok (.ixor, 1) := by decide +kernel
theorem d_U_floorMod_7 : decode b_U_floorMod 7 = .ok (.ifCond .ge 11, 3) := by decide +kernel
theorem d_U_floorMod_10 : decode b_U_floorMod 10 = .ok (.iload_n 2, 1) := by decide +kernel
theorem d_U_floorMod_11 : decode b_U_floorMod 11 = .ok (.ifCond .eq 7, 3) := by decide +kernel
theorem d_U_floorMod_14 : decode b_U_floorMod 14 = .ok (.iload_n 2, 1) := by decide +kernel
theorem d_U_floorMod_15 : decode b_U_floorMod 15 = .ok (.iload_n 1, 1) := by decide +kernel
theorem d_U_floorMod_16 : decode b_U_floorMod 16 = .ok (.iadd, 1) := by decide +kernel
theorem d_U_floorMod_17 : decode b_U_floorMod 17 = .ok (.ireturn, 1) := by decide +kernel
theorem d_U_floorMod_18 : decode b_U_floorMod 18 = .ok (.iload_n 2, 1) := by decide +kernel
theorem d_U_floorMod_19 : decode b_U_floorMod 19 = .ok (.ireturn, 1) := by decide +kernel
theorem d_U_fill_0 : decode b_U_fill 0 = .ok (.iconst 0, 1) := by decide +kernel
theorem d_U_fill_1 : decode b_U_fill 1 = .ok (.istore_n 2, 1) := by decide +kernel
theorem d_U_fill_2 : decode b_U_fill 2 = .ok (.aload_n 0, 1) := by decide +kernel
theorem d_U_fill_3 : decode b_U_fill 3 = .ok (.arraylength, 1) := by decide +kernel
theorem d_U_fill_4 : decode b_U_fill 4 = .ok (.istore_n 3, 1) := by decide +kernel
theorem d_U_fill_5 : decode b_U_fill 5 = .ok (.iload_n 2, 1) := by decide +kernel
theorem d_U_fill_6 : decode b_U_fill 6 = .ok (.iload_n 3, 1) := by decide +kernel
theorem d_U_fill_7 : decode b_U_fill 7 = .ok (.if_icmp .ge 13, 3) := by decide +kernel
theorem d_U_fill_10 : decode b_U_fill 10 = .ok (.aload_n 0, 1) := by decide +kernel
theorem d_U_fill_11 : decode b_U_fill 11 = .ok (.iload_n 2, 1) := by decide +kernel
theorem d_U_fill_12 : decode b_U_fill 12 = .ok (.iload_n 1, 1) := by decide +kernel
theorem d_U_fill_13 : decode b_U_fill 13 = .ok (.iastore, 1) := by decide +kernel
theorem d_U_fill_14 : decode b_U_fill 14 = .ok (.iinc 2 1, 3) := by decide +kernel
theorem d_U_fill_17 : decode b_U_fill 17 = .ok (.goto (-12), 3) := by decide +kernel
theorem d_U_fill_20 : decode b_U_fill 20 = .ok (.return_, 1) := by decide +kernel
theorem d_C_remainder_0 : decode b_C_remainder 0 = .ok (.iload_n 0, 1) := by decide +kernel
theorem d_C_remainder_1 : decode b_C_remainder 1 = .ok (.istore_n 1, 1) := by decide +kernel
theorem d_C_remainder_2 : decode b_C_remainder 2 = .ok (.bipush 30, 2) := by decide +kernel
theorem d_C_remainder_4 : decode b_C_remainder 4 = .ok (.istore_n 2, 1) := by decide +kernel
theorem d_C_remainder_5 : decode b_C_remainder 5 = .ok (.iload_n 2, 1) := by decide +kernel
theorem d_C_remainder_6 : decode b_C_remainder 6 = .ok (.bipush 15, 2) := by decide +kernel
theorem d_C_remainder_8 : decode b_C_remainder 8 = .ok (.if_icmp .lt 27, 3) := by decide +kernel
theorem d_C_remainder_11 : decode b_C_remainder 11 = .ok (.iload_n 1, 1) := by decide +kernel
theorem d_C_remainder_12 : decode b_C_remainder 12 = .ok (.iconst 1, 1) := by decide +kernel
theorem d_C_remainder_13 : decode b_C_remainder 13 = .ok (.iload_n 2, 1) := by decide +kernel
theorem d_C_remainder_14 : decode b_C_remainder 14 = .ok (.ishl, 1) := by decide +kernel
theorem d_C_remainder_15 : decode b_C_remainder 15 = .ok (.iand, 1) := by decide +kernel
theorem d_C_remainder_16 : decode b_C_remainder 16 = .ok (.ifCond .eq 13, 3) := by decide +kernel
theorem d_C_remainder_19 : decode b_C_remainder 19 = .ok (.iload_n 1, 1) := by decide +kernel
theorem d_C_remainder_20 : decode b_C_remainder 20 = .ok (.ldc 30, 2) := by decide +kernel
theorem d_C_remainder_22 : decode b_C_remainder 22 = .ok (.iload_n 2, 1) := by decide +kernel
theorem d_C_remainder_23 : decode b_C_remainder 23 = .ok (.bipush 15, 2) := by decide +kernel
theorem d_C_remainder_25 : decode b_C_remainder 25 = .ok (.isub, 1) := by decide +kernel
theorem d_C_remainder_26 : decode b_C_remainder 26 = .ok (.ishl, 1) := by decide +kernel
theorem d_C_remainder_27 : decode b_C_remainder 27 = .ok (.ixor, 1) := by decide +kernel
theorem d_C_remainder_28 : decode b_C_remainder 28 = .ok (.istore_n 1, 1) := by decide +kernel
theorem d_C_remainder_29 : decode b_C_remainder 29 = .ok (.iinc 2 (-1), 3) := by decide +kernel
theorem d_C_remainder_32 : decode b_C_remainder 32 = .ok (.goto (-27), 3) := by decide +kernel
theorem d_C_remainder_35 : decode b_C_remainder 35 = .ok (.iload_n 1, 1) := by decide +kernel
theorem d_C_remainder_36 : decode b_C_remainder 36 = .ok (.ireturn, 1) := by decide +kernel
theorem d_C_codewordOf_0 : decode b_C_codewordOf 0 = .ok (.iload_n 0, 1) := by decide +kernel
theorem d_C_codewordOf_1 : decode b_C_codewordOf 1 = .ok (.bipush 15, 2) := by decide +kernel
theorem d_C_codewordOf_3 : decode b_C_codewordOf 3 = .ok (.ishl, 1) := by decide +kernel
theorem d_C_codewordOf_4 : decode b_C_codewordOf 4 = .ok (.istore_n 1, 1) := by decide +kernel
theorem d_C_codewordOf_5 : decode b_C_codewordOf 5 = .ok (.iload_n 1, 1) := by decide +kernel
theorem d_C_codewordOf_6 : decode b_C_codewordOf 6 = .ok (.iload_n 1, 1) := by decide +kernel
theorem d_C_codewordOf_7 : decode b_C_codewordOf 7 = .ok (.invokestatic 9, 3) := by decide +kernel
theorem d_C_codewordOf_10 : decode b_C_codewordOf 10 = .ok (.ior, 1) := by decide +kernel
theorem d_C_codewordOf_11 : decode b_C_codewordOf 11 = .ok (.ireturn, 1) := by decide +kernel
theorem d_C_dataOf_0 : decode b_C_dataOf 0 = .ok (.iload_n 0, 1) := by decide +kernel
theorem d_C_dataOf_1 : decode b_C_dataOf 1 = .ok (.bipush 15, 2) := by decide +kernel
theorem d_C_dataOf_3 : decode b_C_dataOf 3 = .ok (.iushr, 1) := by decide +kernel
theorem d_C_dataOf_4 : decode b_C_dataOf 4 = .ok (.ireturn, 1) := by decide +kernel
theorem d_C_timesX_0 : decode b_C_timesX 0 = .ok (.iload_n 0, 1) := by decide +kernel
theorem d_C_timesX_1 : decode b_C_timesX 1 = .ok (.iconst 1, 1) := by decide +kernel
theorem d_C_timesX_2 : decode b_C_timesX 2 = .ok (.ishl, 1) := by decide +kernel
theorem d_C_timesX_3 : decode b_C_timesX 3 = .ok (.istore_n 1, 1) := by decide +kernel
theorem d_C_timesX_4 : decode b_C_timesX 4 = .ok (.iload_n 1, 1) := by decide +kernel
theorem d_C_timesX_5 : decode b_C_timesX 5 = .ok (.ldc 29, 2) := by decide +kernel
theorem d_C_timesX_7 : decode b_C_timesX 7 = .ok (.iand, 1) := by decide +kernel
theorem d_C_timesX_8 : decode b_C_timesX 8 = .ok (.ifCond .eq 10, 3) := by decide +kernel
theorem d_C_timesX_11 : decode b_C_timesX 11 = .ok (.iload_n 1, 1) := by decide +kernel
theorem d_C_timesX_12 : decode b_C_timesX 12 = .ok (.ldc 30, 2) := by decide +kernel
theorem d_C_timesX_14 : decode b_C_timesX 14 = .ok (.ixor, 1) := by decide +kernel
theorem d_C_timesX_15 : decode b_C_timesX 15 = .ok (.goto 4, 3) := by decide +kernel
theorem d_C_timesX_18 : decode b_C_timesX 18 = .ok (.iload_n 1, 1) := by decide +kernel
theorem d_C_timesX_19 : decode b_C_timesX 19 = .ok (.ireturn, 1) := by decide +kernel
theorem d_C_turned_0 : decode b_C_turned 0 = .ok (.iload_n 0, 1) := by decide +kernel
theorem d_C_turned_1 : decode b_C_turned 1 = .ok (.iload_n 1, 1) := by decide +kernel
theorem d_C_turned_2 : decode b_C_turned 2 = .ok (.ishl, 1) := by decide +kernel
theorem d_C_turned_3 : decode b_C_turned 3 = .ok (.iload_n 0, 1) := by decide +kernel
theorem d_C_turned_4 : decode b_C_turned 4 = .ok (.bipush 31, 2) := by decide +kernel
theorem d_C_turned_6 : decode b_C_turned 6 = .ok (.iload_n 1, 1) := by decide +kernel
theorem d_C_turned_7 : decode b_C_turned 7 = .ok (.isub, 1) := by decide +kernel
theorem d_C_turned_8 : decode b_C_turned 8 = .ok (.iushr, 1) := by decide +kernel
theorem d_C_turned_9 : decode b_C_turned 9 = .ok (.ior, 1) := by decide +kernel
theorem d_C_turned_10 : decode b_C_turned 10 = .ok (.ldc 28, 2) := by decide +kernel
theorem d_C_turned_12 : decode b_C_turned 12 = .ok (.iand, 1) := by decide +kernel
theorem d_C_turned_13 : decode b_C_turned 13 = .ok (.ireturn, 1) := by decide +kernel
theorem d_C_mendOneInData_0 : decode b_C_mendOneInData 0 = .ok (.iload_n 0, 1) := by decide +kernel
theorem d_C_mendOneInData_1 : decode b_C_mendOneInData 1 = .ok (.invokestatic 9, 3) := by decide +kernel
theorem d_C_mendOneInData_4 : decode b_C_mendOneInData 4 = .ok (.istore_n 1, 1) := by decide +kernel
theorem d_C_mendOneInData_5 : decode b_C_mendOneInData 5 = .ok (.iload_n 1, 1) := by decide +kernel
theorem d_C_mendOneInData_6 : decode b_C_mendOneInData 6 = .ok (.invokestatic 20, 3) := by decide +kernel
theorem d_C_mendOneInData_9 : decode b_C_mendOneInData 9 = .ok (.iconst 3, 1) := by decide +kernel
theorem d_C_mendOneInData_10 : decode b_C_mendOneInData 10 = .ok (.if_icmp .gt 7, 3) := by decide +kernel
theorem d_C_mendOneInData_13 : decode b_C_mendOneInData 13 = .ok (.iload_n 0, 1) := by decide +kernel
theorem d_C_mendOneInData_14 : decode b_C_mendOneInData 14 = .ok (.iload_n 1, 1) := by decide +kernel
theorem d_C_mendOneInData_15 : decode b_C_mendOneInData 15 = .ok (.ixor, 1) := by decide +kernel
theorem d_C_mendOneInData_16 : decode b_C_mendOneInData 16 = .ok (.ireturn, 1) := by decide +kernel
theorem d_C_mendOneInData_17 : decode b_C_mendOneInData 17 = .ok (.sipush 4015, 3) := by decide +kernel
theorem d_C_mendOneInData_20 : decode b_C_mendOneInData 20 = .ok (.istore_n 2, 1) := by decide +kernel
theorem d_C_mendOneInData_21 : decode b_C_mendOneInData 21 = .ok (.bipush 15, 2) := by decide +kernel
theorem d_C_mendOneInData_23 : decode b_C_mendOneInData 23 = .ok (.istore_n 3, 1) := by decide +kernel
theorem d_C_mendOneInData_24 : decode b_C_mendOneInData 24 = .ok (.iload_n 3, 1) := by decide +kernel
theorem d_C_mendOneInData_25 : decode b_C_mendOneInData 25 = .ok (.bipush 31, 2) := by decide +kernel
theorem d_C_mendOneInData_27 : decode b_C_mendOneInData 27 = .ok (.if_icmp .ge 37, 3) := by decide +kernel
theorem d_C_mendOneInData_30 : decode b_C_mendOneInData 30 = .ok (.iload_n 1, 1) := by decide +kernel
theorem d_C_mendOneInData_31 : decode b_C_mendOneInData 31 = .ok (.iload_n 2, 1) := by decide +kernel
theorem d_C_mendOneInData_32 : decode b_C_mendOneInData 32 = .ok (.ixor, 1) := by decide +kernel
theorem d_C_mendOneInData_33 : decode b_C_mendOneInData 33 = .ok (.istore 4, 2) := by decide +kernel
theorem d_C_mendOneInData_35 : decode b_C_mendOneInData 35 = .ok (.iload 4, 2) := by decide +kernel
theorem d_C_mendOneInData_37 : decode b_C_mendOneInData 37 = .ok (.invokestatic 20, 3) := by decide +kernel
theorem d_C_mendOneInData_40 : decode b_C_mendOneInData 40 = .ok (.iconst 3, 1) := by decide +kernel
theorem d_C_mendOneInData_41 : decode b_C_mendOneInData 41 = .ok (.if_icmp .ge 12, 3) := by decide +kernel
theorem d_C_mendOneInData_44 : decode b_C_mendOneInData 44 = .ok (.iload_n 0, 1) := by decide +kernel
theorem d_C_mendOneInData_45 : decode b_C_mendOneInData 45 = .ok (.iload 4, 2) := by decide +kernel
theorem d_C_mendOneInData_47 : decode b_C_mendOneInData 47 = .ok (.ixor, 1) := by decide +kernel
theorem d_C_mendOneInData_48 : decode b_C_mendOneInData 48 = .ok (.iconst 1, 1) := by decide +kernel
theorem d_C_mendOneInData_49 : decode b_C_mendOneInData 49 = .ok (.iload_n 3, 1) := by decide +kernel
theorem d_C_mendOneInData_50 : decode b_C_mendOneInData 50 = .ok (.ishl, 1) := by decide +kernel
theorem d_C_mendOneInData_51 : decode b_C_mendOneInData 51 = .ok (.ixor, 1) := by decide +kernel
theorem d_C_mendOneInData_52 : decode b_C_mendOneInData 52 = .ok (.ireturn, 1) := by decide +kernel
theorem d_C_mendOneInData_53 : decode b_C_mendOneInData 53 = .ok (.iload_n 2, 1) := by decide +kernel
theorem d_C_mendOneInData_54 : decode b_C_mendOneInData 54 = .ok (.invokestatic 25, 3) := by decide +kernel
theorem d_C_mendOneInData_57 : decode b_C_mendOneInData 57 = .ok (.istore_n 2, 1) := by decide +kernel
theorem d_C_mendOneInData_58 : decode b_C_mendOneInData 58 = .ok (.iinc 3 1, 3) := by decide +kernel
theorem d_C_mendOneInData_61 : decode b_C_mendOneInData 61 = .ok (.goto (-37), 3) := by decide +kernel
theorem d_C_mendOneInData_64 : decode b_C_mendOneInData 64 = .ok (.iconst (-1), 1) := by decide +kernel
theorem d_C_mendOneInData_65 : decode b_C_mendOneInData 65 = .ok (.ireturn, 1) := by decide +kernel
theorem d_C_mend_0 : decode b_C_mend 0 = .ok (.iconst 0, 1) := by decide +kernel
theorem d_C_mend_1 : decode b_C_mend 1 = .ok (.istore_n 1, 1) := by decide +kernel
theorem d_C_mend_2 : decode b_C_mend 2 = .ok (.iload_n 1, 1) := by decide +kernel
theorem d_C_mend_3 : decode b_C_mend 3 = .ok (.bipush 31, 2) := by decide +kernel
theorem d_C_mend_5 : decode b_C_mend 5 = .ok (.if_icmp .ge 32, 3) := by decide +kernel
theorem d_C_mend_8 : decode b_C_mend 8 = .ok (.iload_n 0, 1) := by decide +kernel
theorem d_C_mend_9 : decode b_C_mend 9 = .ok (.iload_n 1, 1) := by decide +kernel
theorem d_C_mend_10 : decode b_C_mend 10 = .ok (.invokestatic 13, 3) := by decide +kernel
theorem d_C_mend_13 : decode b_C_mend 13 = .ok (.invokestatic 17, 3) := by decide +kernel
theorem d_C_mend_16 : decode b_C_mend 16 = .ok (.istore_n 2, 1) := by decide +kernel
theorem d_C_mend_17 : decode b_C_mend 17 = .ok (.iload_n 2, 1) := by decide +kernel
theorem d_C_mend_18 : decode b_C_mend 18 = .ok (.iconst (-1), 1) := by decide +kernel
theorem d_C_mend_19 : decode b_C_mend 19 = .ok (.if_icmp .eq 12, 3) := by decide +kernel
theorem d_C_mend_22 : decode b_C_mend 22 = .ok (.iload_n 2, 1) := by decide +kernel
theorem d_C_mend_23 : decode b_C_mend 23 = .ok (.bipush 31, 2) := by decide +kernel
theorem d_C_mend_25 : decode b_C_mend 25 = .ok (.iload_n 1, 1) := by decide +kernel
theorem d_C_mend_26 : decode b_C_mend 26 = .ok (.isub, 1) := by decide +kernel
theorem d_C_mend_27 : decode b_C_mend 27 = .ok (.invokestatic 13, 3) := by decide +kernel
theorem d_C_mend_30 : decode b_C_mend 30 = .ok (.ireturn, 1) := by decide +kernel
theorem d_C_mend_31 : decode b_C_mend 31 = .ok (.iinc 1 5, 3) := by decide +kernel
theorem d_C_mend_34 : decode b_C_mend 34 = .ok (.goto (-32), 3) := by decide +kernel
theorem d_C_mend_37 : decode b_C_mend 37 = .ok (.iconst (-1), 1) := by decide +kernel
theorem d_C_mend_38 : decode b_C_mend 38 = .ok (.ireturn, 1) := by decide +kernel
theorem d_M_wordAt_0 : decode b_M_wordAt 0 = .ok (.aload_n 0, 1) := by decide +kernel
theorem d_M_wordAt_1 : decode b_M_wordAt 1 = .ok (.getfield 11, 3) := by decide +kernel
theorem d_M_wordAt_4 : decode b_M_wordAt 4 = .ok (.iload_n 1, 1) := by decide +kernel
theorem d_M_wordAt_5 : decode b_M_wordAt 5 = .ok (.iconst 5, 1) := by decide +kernel
theorem d_M_wordAt_6 : decode b_M_wordAt 6 = .ok (.imul, 1) := by decide +kernel
theorem d_M_wordAt_7 : decode b_M_wordAt 7 = .ok (.iload_n 2, 1) := by decide +kernel
theorem d_M_wordAt_8 : decode b_M_wordAt 8 = .ok (.iadd, 1) := by decide +kernel
theorem d_M_wordAt_9 : decode b_M_wordAt 9 = .ok (.iaload, 1) := by decide +kernel
theorem d_M_wordAt_10 : decode b_M_wordAt 10 = .ok (.ireturn, 1) := by decide +kernel
theorem d_M_turnOver_0 : decode b_M_turnOver 0 = .ok (.aload_n 0, 1) := by decide +kernel
theorem d_M_turnOver_1 : decode b_M_turnOver 1 = .ok (.getfield 11, 3) := by decide +kernel
theorem d_M_turnOver_4 : decode b_M_turnOver 4 = .ok (.iload_n 1, 1) := by decide +kernel
theorem d_M_turnOver_5 : decode b_M_turnOver 5 = .ok (.iconst 5, 1) := by decide +kernel
theorem d_M_turnOver_6 : decode b_M_turnOver 6 = .ok (.imul, 1) := by decide +kernel
theorem d_M_turnOver_7 : decode b_M_turnOver 7 = .ok (.iload_n 2, 1) := by decide +kernel
theorem d_M_turnOver_8 : decode b_M_turnOver 8 = .ok (.iadd, 1) := by decide +kernel
theorem d_M_turnOver_9 : decode b_M_turnOver 9 = .ok (.dup2, 1) := by decide +kernel
theorem d_M_turnOver_10 : decode b_M_turnOver 10 = .ok (.iaload, 1) := by decide +kernel
theorem d_M_turnOver_11 : decode b_M_turnOver 11 = .ok (.iload_n 3, 1) := by decide +kernel
theorem d_M_turnOver_12 : decode b_M_turnOver 12 = .ok (.ixor, 1) := by decide +kernel
theorem d_M_turnOver_13 : decode b_M_turnOver 13 = .ok (.iastore, 1) := by decide +kernel
theorem d_M_turnOver_14 : decode b_M_turnOver 14 = .ok (.return_, 1) := by decide +kernel
theorem d_M_program_0 : decode b_M_program 0 = .ok (.iload_n 1, 1) := by decide +kernel
theorem d_M_program_1 : decode b_M_program 1 = .ok (.iconst 5, 1) := by decide +kernel
theorem d_M_program_2 : decode b_M_program 2 = .ok (.imul, 1) := by decide +kernel
theorem d_M_program_3 : decode b_M_program 3 = .ok (.istore 5, 2) := by decide +kernel
theorem d_M_program_5 : decode b_M_program 5 = .ok (.iconst 0, 1) := by decide +kernel
theorem d_M_program_6 : decode b_M_program 6 = .ok (.istore 6, 2) := by decide +kernel
theorem d_M_program_8 : decode b_M_program 8 = .ok (.iload 6, 2) := by decide +kernel
theorem d_M_program_10 : decode b_M_program 10 = .ok (.iconst 4, 1) := by decide +kernel
theorem d_M_program_11 : decode b_M_program 11 = .ok (.if_icmp .ge 40, 3) := by decide +kernel
theorem d_M_program_14 : decode b_M_program 14 = .ok (.lload_n 2, 1) := by decide +kernel
theorem d_M_program_15 : decode b_M_program 15 = .ok (.iload 6, 2) := by decide +kernel
theorem d_M_program_17 : decode b_M_program 17 = .ok (.bipush 16, 2) := by decide +kernel
theorem d_M_program_19 : decode b_M_program 19 = .ok (.imul, 1) := by decide +kernel
theorem d_M_program_20 : decode b_M_program 20 = .ok (.lushr, 1) := by decide +kernel
theorem d_M_program_21 : decode b_M_program 21 = .ok (.l2i, 1) := by decide +kernel
theorem d_M_program_22 : decode b_M_program 22 = .ok (.ldc 27, 2) := by decide +kernel
theorem d_M_program_24 : decode b_M_program 24 = .ok (.iand, 1) := by decide +kernel
theorem d_M_program_25 : decode b_M_program 25 = .ok (.istore 7, 2) := by decide +kernel
theorem d_M_program_27 : decode b_M_program 27 = .ok (.aload_n 0, 1) := by decide +kernel
theorem d_M_program_28 : decode b_M_program 28 = .ok (.getfield 11, 3) := by decide +kernel
theorem d_M_program_31 : decode b_M_program 31 = .ok (.iload 5, 2) := by decide +kernel
theorem d_M_program_33 : decode b_M_program 33 = .ok (.iload 6, 2) := by decide +kernel
theorem d_M_program_35 : decode b_M_program 35 = .ok (.iadd, 1) := by decide +kernel
theorem d_M_program_36 : decode b_M_program 36 = .ok (.dup2, 1) := by decide +kernel
theorem d_M_program_37 : decode b_M_program 37 = .ok (.iaload, 1) := by decide +kernel
theorem d_M_program_38 : decode b_M_program 38 = .ok (.iload 7, 2) := by decide +kernel
theorem d_M_program_40 : decode b_M_program 40 = .ok (.invokestatic 28, 3) := by decide +kernel
theorem d_M_program_43 : decode b_M_program 43 = .ok (.iand, 1) := by decide +kernel
theorem d_M_program_44 : decode b_M_program 44 = .ok (.iastore, 1) := by decide +kernel
theorem d_M_program_45 : decode b_M_program 45 = .ok (.iinc 6 1, 3) := by decide +kernel
theorem d_M_program_48 : decode b_M_program 48 = .ok (.goto (-40), 3) := by decide +kernel
theorem d_M_program_51 : decode b_M_program 51 = .ok (.aload_n 0, 1) := by decide +kernel
theorem d_M_program_52 : decode b_M_program 52 = .ok (.getfield 11, 3) := by decide +kernel
theorem d_M_program_55 : decode b_M_program 55 = .ok (.iload 5, 2) := by decide +kernel
theorem d_M_program_57 : decode b_M_program 57 = .ok (.iconst 4, 1) := by decide +kernel
theorem d_M_program_58 : decode b_M_program 58 = .ok (.iadd, 1) := by decide +kernel
theorem d_M_program_59 : decode b_M_program 59 = .ok (.dup2, 1) := by decide +kernel
theorem d_M_program_60 : decode b_M_program 60 = .ok (.iaload, 1) := by decide +kernel
theorem d_M_program_61 : decode b_M_program 61 = .ok (.iload 4, 2) := by decide +kernel
theorem d_M_program_63 : decode b_M_program 63 = .ok (.invokestatic 28, 3) := by decide +kernel
theorem d_M_program_66 : decode b_M_program 66 = .ok (.iand, 1) := by decide +kernel
theorem d_M_program_67 : decode b_M_program 67 = .ok (.iastore, 1) := by decide +kernel
theorem d_M_program_68 : decode b_M_program 68 = .ok (.return_, 1) := by decide +kernel
theorem d_M_erase_0 : decode b_M_erase 0 = .ok (.iload_n 1, 1) := by decide +kernel
theorem d_M_erase_1 : decode b_M_erase 1 = .ok (.iconst 0, 1) := by decide +kernel
theorem d_M_erase_2 : decode b_M_erase 2 = .ok (.invokestatic 32, 3) := by decide +kernel
theorem d_M_erase_5 : decode b_M_erase 5 = .ok (.iconst 5, 1) := by decide +kernel
theorem d_M_erase_6 : decode b_M_erase 6 = .ok (.imul, 1) := by decide +kernel
theorem d_M_erase_7 : decode b_M_erase 7 = .ok (.istore_n 2, 1) := by decide +kernel
theorem d_M_erase_8 : decode b_M_erase 8 = .ok (.iconst 0, 1) := by decide +kernel
theorem d_M_erase_9 : decode b_M_erase 9 = .ok (.istore_n 3, 1) := by decide +kernel
theorem d_M_erase_10 : decode b_M_erase 10 = .ok (.iload_n 3, 1) := by decide +kernel
theorem d_M_erase_11 : decode b_M_erase 11 = .ok (.bipush 20, 2) := by decide +kernel
theorem d_M_erase_13 : decode b_M_erase 13 = .ok (.if_icmp .ge 19, 3) := by decide +kernel
theorem d_M_erase_16 : decode b_M_erase 16 = .ok (.aload_n 0, 1) := by decide +kernel
theorem d_M_erase_17 : decode b_M_erase 17 = .ok (.getfield 11, 3) := by decide +kernel
theorem d_M_erase_20 : decode b_M_erase 20 = .ok (.iload_n 2, 1) := by decide +kernel
theorem d_M_erase_21 : decode b_M_erase 21 = .ok (.iload_n 3, 1) := by decide +kernel
theorem d_M_erase_22 : decode b_M_erase 22 = .ok (.iadd, 1) := by decide +kernel
theorem d_M_erase_23 : decode b_M_erase 23 = .ok (.ldc 20, 2) := by decide +kernel
theorem d_M_erase_25 : decode b_M_erase 25 = .ok (.iastore, 1) := by decide +kernel
theorem d_M_erase_26 : decode b_M_erase 26 = .ok (.iinc 3 1, 3) := by decide +kernel
theorem d_M_erase_29 : decode b_M_erase 29 = .ok (.goto (-19), 3) := by decide +kernel
theorem d_M_erase_32 : decode b_M_erase 32 = .ok (.aload_n 0, 1) := by decide +kernel
theorem d_M_erase_33 : decode b_M_erase 33 = .ok (.getfield 15, 3) := by decide +kernel
theorem d_M_erase_36 : decode b_M_erase 36 = .ok (.iload_n 1, 1) := by decide +kernel
theorem d_M_erase_37 : decode b_M_erase 37 = .ok (.dup2, 1) := by decide +kernel
theorem d_M_erase_38 : decode b_M_erase 38 = .ok (.iaload, 1) := by decide +kernel
theorem d_M_erase_39 : decode b_M_erase 39 = .ok (.iconst 1, 1) := by decide +kernel
theorem d_M_erase_40 : decode b_M_erase 40 = .ok (.iadd, 1) := by decide +kernel
theorem d_M_erase_41 : decode b_M_erase 41 = .ok (.iastore, 1) := by decide +kernel
theorem d_M_erase_42 : decode b_M_erase 42 = .ok (.return_, 1) := by decide +kernel
theorem d_M_erasuresOf_0 : decode b_M_erasuresOf 0 = .ok (.aload_n 0, 1) := by decide +kernel
theorem d_M_erasuresOf_1 : decode b_M_erasuresOf 1 = .ok (.getfield 15, 3) := by decide +kernel
theorem d_M_erasuresOf_4 : decode b_M_erasuresOf 4 = .ok (.iload_n 1, 1) := by decide +kernel
theorem d_M_erasuresOf_5 : decode b_M_erasuresOf 5 = .ok (.iaload, 1) := by decide +kernel
theorem d_M_erasuresOf_6 : decode b_M_erasuresOf 6 = .ok (.ireturn, 1) := by decide +kernel
theorem d_M_tagAt_0 : decode b_M_tagAt 0 = .ok (.aload_n 0, 1) := by decide +kernel
theorem d_M_tagAt_1 : decode b_M_tagAt 1 = .ok (.iload_n 1, 1) := by decide +kernel
theorem d_M_tagAt_2 : decode b_M_tagAt 2 = .ok (.iconst 4, 1) := by decide +kernel
theorem d_M_tagAt_3 : decode b_M_tagAt 3 = .ok (.invokevirtual 36, 3) := by decide +kernel
theorem d_M_tagAt_6 : decode b_M_tagAt 6 = .ok (.invokestatic 39, 3) := by decide +kernel
theorem d_M_tagAt_9 : decode b_M_tagAt 9 = .ok (.istore_n 2, 1) := by decide +kernel
theorem d_M_tagAt_10 : decode b_M_tagAt 10 = .ok (.iload_n 2, 1) := by decide +kernel
theorem d_M_tagAt_11 : decode b_M_tagAt 11 = .ok (.iconst (-1), 1) := by decide +kernel
theorem d_M_tagAt_12 : decode b_M_tagAt 12 = .ok (.if_icmp .ne 7, 3) := by decide +kernel
theorem d_M_tagAt_15 : decode b_M_tagAt 15 = .ok (.iconst (-1), 1) := by decide +kernel
theorem d_M_tagAt_16 : decode b_M_tagAt 16 = .ok (.goto 7, 3) := by decide +kernel
theorem d_M_tagAt_19 : decode b_M_tagAt 19 = .ok (.iload_n 2, 1) := by decide +kernel
theorem d_M_tagAt_20 : decode b_M_tagAt 20 = .ok (.invokestatic 42, 3) := by decide +kernel
theorem d_M_tagAt_23 : decode b_M_tagAt 23 = .ok (.ireturn, 1) := by decide +kernel
theorem d_M_isReadable_0 : decode b_M_isReadable 0 = .ok (.iconst 0, 1) := by decide +kernel
theorem d_M_isReadable_1 : decode b_M_isReadable 1 = .ok (.istore_n 2, 1) := by decide +kernel
theorem d_M_isReadable_2 : decode b_M_isReadable 2 = .ok (.iload_n 2, 1) := by decide +kernel
theorem d_M_isReadable_3 : decode b_M_isReadable 3 = .ok (.iconst 4, 1) := by decide +kernel
theorem d_M_isReadable_4 : decode b_M_isReadable 4 = .ok (.if_icmp .ge 24, 3) := by decide +kernel
theorem d_M_isReadable_7 : decode b_M_isReadable 7 = .ok (.aload_n 0, 1) := by decide +kernel
theorem d_M_isReadable_8 : decode b_M_isReadable 8 = .ok (.iload_n 1, 1) := by decide +kernel
theorem d_M_isReadable_9 : decode b_M_isReadable 9 = .ok (.iload_n 2, 1) := by decide +kernel
theorem d_M_isReadable_10 : decode b_M_isReadable 10 = .ok (.invokevirtual 36, 3) := by decide +kernel
theorem d_M_isReadable_13 : decode b_M_isReadable 13 = .ok (.invokestatic 39, 3) := by decide +kernel
theorem d_M_isReadable_16 : decode b_M_isReadable 16 = .ok (.iconst (-1), 1) := by decide +kernel
theorem d_M_isReadable_17 : decode b_M_isReadable 17 = .ok (.if_icmp .ne 5, 3) := by decide +kernel
theorem d_M_isReadable_20 : decode b_M_isReadable 20 = .ok (.iconst 0, 1) := by decide +kernel
theorem d_M_isReadable_21 : decode b_M_isReadable 21 = .ok (.ireturn, 1) := by decide +kernel
theorem d_M_isReadable_22 : decode b_M_isReadable 22 = .ok (.iinc 2 1, 3) := by decide +kernel
theorem d_M_isReadable_25 : decode b_M_isReadable 25 = .ok (.goto (-23), 3) := by decide +kernel
theorem d_M_isReadable_28 : decode b_M_isReadable 28 = .ok (.iconst 1, 1) := by decide +kernel
theorem d_M_isReadable_29 : decode b_M_isReadable 29 = .ok (.ireturn, 1) := by decide +kernel
theorem d_M_contentAt_0 : decode b_M_contentAt 0 = .ok (.lconst 0, 1) := by decide +kernel
theorem d_M_contentAt_1 : decode b_M_contentAt 1 = .ok (.lstore_n 2, 1) := by decide +kernel
theorem d_M_contentAt_2 : decode b_M_contentAt 2 = .ok (.iconst 0, 1) := by decide +kernel
theorem d_M_contentAt_3 : decode b_M_contentAt 3 = .ok (.istore 4, 2) := by decide +kernel
theorem d_M_contentAt_5 : decode b_M_contentAt 5 = .ok (.iload 4, 2) := by decide +kernel
theorem d_M_contentAt_7 : decode b_M_contentAt 7 = .ok (.iconst 4, 1) := by decide +kernel
theorem d_M_contentAt_8 : decode b_M_contentAt 8 = .ok (.if_icmp .ge 36, 3) := by decide +kernel
theorem d_M_contentAt_11 : decode b_M_contentAt 11 = .ok (.aload_n 0, 1) := by decide +kernel
theorem d_M_contentAt_12 : decode b_M_contentAt 12 = .ok (.iload_n 1, 1) := by decide +kernel
theorem d_M_contentAt_13 : decode b_M_contentAt 13 = .ok (.iload 4, 2) := by decide +kernel
theorem d_M_contentAt_15 : decode b_M_contentAt 15 = .ok (.invokevirtual 36, 3) := by decide +kernel
theorem d_M_contentAt_18 : decode b_M_contentAt 18 = .ok (.invokestatic 39, 3) := by decide +kernel
theorem d_M_contentAt_21 : decode b_M_contentAt 21 = .ok (.invokestatic 42, 3) := by decide +kernel
theorem d_M_contentAt_24 : decode b_M_contentAt 24 = .ok (.i2l, 1) := by decide +kernel
theorem d_M_contentAt_25 : decode b_M_contentAt 25 = .ok (.lstore 5, 2) := by decide +kernel
theorem d_M_contentAt_27 : decode b_M_contentAt 27 = .ok (.lload_n 2, 1) := by decide +kernel
theorem d_M_contentAt_28 : decode b_M_contentAt 28 = .ok (.lload 5, 2) := by decide +kernel
theorem d_M_contentAt_30 : decode b_M_contentAt 30 = .ok (.iload 4, 2) := by decide +kernel
theorem d_M_contentAt_32 : decode b_M_contentAt 32 = .ok (.bipush 16, 2) := by decide +kernel
theorem d_M_contentAt_34 : decode b_M_contentAt 34 = .ok (.imul, 1) := by decide +kernel
theorem d_M_contentAt_35 : decode b_M_contentAt 35 = .ok (.lshl, 1) := by decide +kernel
theorem d_M_contentAt_36 : decode b_M_contentAt 36 = .ok (.lor, 1) := by decide +kernel
theorem d_M_contentAt_37 : decode b_M_contentAt 37 = .ok (.lstore_n 2, 1) := by decide +kernel
theorem d_M_contentAt_38 : decode b_M_contentAt 38 = .ok (.iinc 4 1, 3) := by decide +kernel
theorem d_M_contentAt_41 : decode b_M_contentAt 41 = .ok (.goto (-36), 3) := by decide +kernel
theorem d_M_contentAt_44 : decode b_M_contentAt 44 = .ok (.lload_n 2, 1) := by decide +kernel
theorem d_M_contentAt_45 : decode b_M_contentAt 45 = .ok (.lreturn, 1) := by decide +kernel
