theorem d_F_placeOf_0 : decode b_F_placeOf 0 = .ok (.iload_n 0, 1) := by decide +kernel
theorem d_F_placeOf_1 : decode b_F_placeOf 1 = .ok (.iconst 4, 1) := by decide +kernel
theorem d_F_placeOf_2 : decode b_F_placeOf 2 = .ok (.imul, 1) := by decide +kernel
theorem d_F_placeOf_3 : decode b_F_placeOf 3 = .ok (.iload_n 1, 1) := by decide +kernel
theorem d_F_placeOf_4 : decode b_F_placeOf 4 = .ok (.iadd, 1) := by decide +kernel
theorem d_F_placeOf_5 : decode b_F_placeOf 5 = .ok (.ireturn, 1) := by decide +kernel
theorem d_F_blockOf_0 : decode b_F_blockOf 0 = .ok (.iload_n 0, 1) := by decide +kernel
theorem d_F_blockOf_1 : decode b_F_blockOf 1 = .ok (.iconst 4, 1) := by decide +kernel
theorem d_F_blockOf_2 : decode b_F_blockOf 2 = .ok (.idiv, 1) := by decide +kernel
theorem d_F_blockOf_3 : decode b_F_blockOf 3 = .ok (.ireturn, 1) := by decide +kernel
theorem d_F_isSpoilt_0 : decode b_F_isSpoilt 0 = .ok (.iload_n 0, 1) := by decide +kernel
theorem d_F_isSpoilt_1 : decode b_F_isSpoilt 1 = .ok (.iconst (-1), 1) := by decide +kernel
theorem d_F_isSpoilt_2 : decode b_F_isSpoilt 2 = .ok (.if_icmp .eq 12, 3) := by decide +kernel
theorem d_F_isSpoilt_5 : decode b_F_isSpoilt 5 = .ok (.iload_n 0, 1) := by decide +kernel
theorem d_F_isSpoilt_6 : decode b_F_isSpoilt 6 = .ok (.bipush 12, 2) := by decide +kernel
theorem d_F_isSpoilt_8 : decode b_F_isSpoilt 8 = .ok (.iushr, 1) := by decide +kernel
theorem d_F_isSpoilt_9 : decode b_F_isSpoilt 9 = .ok (.bipush 8, 2) := by decide +kernel
theorem d_F_isSpoilt_11 : decode b_F_isSpoilt 11 = .ok (.if_icmp .lt 7, 3) := by decide +kernel
theorem d_F_isSpoilt_14 : decode b_F_isSpoilt 14 = .ok (.iconst 1, 1) := by decide +kernel
theorem d_F_isSpoilt_15 : decode b_F_isSpoilt 15 = .ok (.goto 4, 3) := by decide +kernel
theorem d_F_isSpoilt_18 : decode b_F_isSpoilt 18 = .ok (.iconst 0, 1) := by decide +kernel
theorem d_F_isSpoilt_19 : decode b_F_isSpoilt 19 = .ok (.ireturn, 1) := by decide +kernel
theorem d_F_isNewer_0 : decode b_F_isNewer 0 = .ok (.iload_n 0, 1) := by decide +kernel
theorem d_F_isNewer_1 : decode b_F_isNewer 1 = .ok (.iload_n 1, 1) := by decide +kernel
theorem d_F_isNewer_2 : decode b_F_isNewer 2 = .ok (.isub, 1) := by decide +kernel
theorem d_F_isNewer_3 : decode b_F_isNewer 3 = .ok (.sipush 4095, 3) := by decide +kernel
theorem d_F_isNewer_6 : decode b_F_isNewer 6 = .ok (.invokestatic 162, 3) := by decide +kernel
theorem d_F_isNewer_9 : decode b_F_isNewer 9 = .ok (.istore_n 2, 1) := by decide +kernel
theorem d_F_isNewer_10 : decode b_F_isNewer 10 = .ok (.iload_n 2, 1) := by decide +kernel
theorem d_F_isNewer_11 : decode b_F_isNewer 11 = .ok (.iconst 1, 1) := by decide +kernel
theorem d_F_isNewer_12 : decode b_F_isNewer 12 = .ok (.if_icmp .lt 14, 3) := by decide +kernel
theorem d_F_isNewer_15 : decode b_F_isNewer 15 = .ok (.iload_n 2, 1) := by decide +kernel
theorem d_F_isNewer_16 : decode b_F_isNewer 16 = .ok (.sipush 2000, 3) := by decide +kernel
theorem d_F_isNewer_19 : decode b_F_isNewer 19 = .ok (.if_icmp .gt 7, 3) := by decide +kernel
theorem d_F_isNewer_22 : decode b_F_isNewer 22 = .ok (.iconst 1, 1) := by decide +kernel
theorem d_F_isNewer_23 : decode b_F_isNewer 23 = .ok (.goto 4, 3) := by decide +kernel
theorem d_F_isNewer_26 : decode b_F_isNewer 26 = .ok (.iconst 0, 1) := by decide +kernel
theorem d_F_isNewer_27 : decode b_F_isNewer 27 = .ok (.ireturn, 1) := by decide +kernel
theorem d_F_serialBehind_0 : decode b_F_serialBehind 0 = .ok (.iload_n 0, 1) := by decide +kernel
theorem d_F_serialBehind_1 : decode b_F_serialBehind 1 = .ok (.iconst 1, 1) := by decide +kernel
theorem d_F_serialBehind_2 : decode b_F_serialBehind 2 = .ok (.iadd, 1) := by decide +kernel
theorem d_F_serialBehind_3 : decode b_F_serialBehind 3 = .ok (.sipush 4095, 3) := by decide +kernel
theorem d_F_serialBehind_6 : decode b_F_serialBehind 6 = .ok (.irem, 1) := by decide +kernel
theorem d_F_serialBehind_7 : decode b_F_serialBehind 7 = .ok (.ireturn, 1) := by decide +kernel
theorem d_F_requireLogicalPage_0 : decode b_F_requireLogicalPage 0 = .ok (.iload_n 0, 1) := by decide +kernel
theorem d_F_requireLogicalPage_1 : decode b_F_requireLogicalPage 1 = .ok (.ifCond .lt 9, 3) := by decide +kernel
theorem d_F_requireLogicalPage_4 : decode b_F_requireLogicalPage 4 = .ok (.iload_n 0, 1) := by decide +kernel
theorem d_F_requireLogicalPage_5 : decode b_F_requireLogicalPage 5 = .ok (.bipush 8, 2) := by decide +kernel
theorem d_F_requireLogicalPage_7 : decode b_F_requireLogicalPage 7 = .ok (.if_icmp .lt 13, 3) := by decide +kernel
theorem d_F_requireLogicalPage_10 : decode b_F_requireLogicalPage 10 = .ok (.new 42, 3) := by decide +kernel
theorem d_F_requireLogicalPage_13 : decode b_F_requireLogicalPage 13 = .ok (.dup, 1) := by decide +kernel
theorem d_F_requireLogicalPage_14 : decode b_F_requireLogicalPage 14 = .ok (.ldc 154, 2) := by decide +kernel
theorem d_F_requireLogicalPage_16 : decode b_F_requireLogicalPage 16 = .ok (.invokespecial 46, 3) := by decide +kernel
theorem d_F_requireLogicalPage_19 : decode b_F_requireLogicalPage 19 = .ok (.athrow, 1) := by decide +kernel
theorem d_F_requireLogicalPage_20 : decode b_F_requireLogicalPage 20 = .ok (.return_, 1) := by decide +kernel
theorem d_F_requireBlock_0 : decode b_F_requireBlock 0 = .ok (.iload_n 0, 1) := by decide +kernel
theorem d_F_requireBlock_1 : decode b_F_requireBlock 1 = .ok (.ifCond .lt 8, 3) := by decide +kernel
theorem d_F_requireBlock_4 : decode b_F_requireBlock 4 = .ok (.iload_n 0, 1) := by decide +kernel
theorem d_F_requireBlock_5 : decode b_F_requireBlock 5 = .ok (.iconst 4, 1) := by decide +kernel
theorem d_F_requireBlock_6 : decode b_F_requireBlock 6 = .ok (.if_icmp .lt 13, 3) := by decide +kernel
theorem d_F_requireBlock_9 : decode b_F_requireBlock 9 = .ok (.new 42, 3) := by decide +kernel
theorem d_F_requireBlock_12 : decode b_F_requireBlock 12 = .ok (.dup, 1) := by decide +kernel
theorem d_F_requireBlock_13 : decode b_F_requireBlock 13 = .ok (.ldc 156, 2) := by decide +kernel
theorem d_F_requireBlock_15 : decode b_F_requireBlock 15 = .ok (.invokespecial 46, 3) := by decide +kernel
theorem d_F_requireBlock_18 : decode b_F_requireBlock 18 = .ok (.athrow, 1) := by decide +kernel
theorem d_F_requireBlock_19 : decode b_F_requireBlock 19 = .ok (.return_, 1) := by decide +kernel
theorem d_F_requirePageOfBlock_0 : decode b_F_requirePageOfBlock 0 = .ok (.iload_n 0, 1) := by decide +kernel
theorem d_F_requirePageOfBlock_1 : decode b_F_requirePageOfBlock 1 = .ok (.ifCond .lt 8, 3) := by decide +kernel
theorem d_F_requirePageOfBlock_4 : decode b_F_requirePageOfBlock 4 = .ok (.iload_n 0, 1) := by decide +kernel
theorem d_F_requirePageOfBlock_5 : decode b_F_requirePageOfBlock 5 = .ok (.iconst 4, 1) := by decide +kernel
theorem d_F_requirePageOfBlock_6 : decode b_F_requirePageOfBlock 6 = .ok (.if_icmp .lt 13, 3) := by decide +kernel
theorem d_F_requirePageOfBlock_9 : decode b_F_requirePageOfBlock 9 = .ok (.new 42, 3) := by decide +kernel
theorem d_F_requirePageOfBlock_12 : decode b_F_requirePageOfBlock 12 = .ok (.dup, 1) := by decide +kernel
theorem d_F_requirePageOfBlock_13 : decode b_F_requirePageOfBlock 13 = .ok (.ldc 158, 2) := by decide +kernel
theorem d_F_requirePageOfBlock_15 : decode b_F_requirePageOfBlock 15 = .ok (.invokespecial 46, 3) := by decide +kernel
theorem d_F_requirePageOfBlock_18 : decode b_F_requirePageOfBlock 18 = .ok (.athrow, 1) := by decide +kernel
theorem d_F_requirePageOfBlock_19 : decode b_F_requirePageOfBlock 19 = .ok (.return_, 1) := by decide +kernel
theorem d_F_requireWord_0 : decode b_F_requireWord 0 = .ok (.iload_n 0, 1) := by decide +kernel
theorem d_F_requireWord_1 : decode b_F_requireWord 1 = .ok (.invokestatic 145, 3) := by decide +kernel
theorem d_F_requireWord_4 : decode b_F_requireWord 4 = .ok (.iload_n 1, 1) := by decide +kernel
theorem d_F_requireWord_5 : decode b_F_requireWord 5 = .ok (.invokestatic 148, 3) := by decide +kernel
theorem d_F_requireWord_8 : decode b_F_requireWord 8 = .ok (.iload_n 2, 1) := by decide +kernel
theorem d_F_requireWord_9 : decode b_F_requireWord 9 = .ok (.ifCond .lt 8, 3) := by decide +kernel
theorem d_F_requireWord_12 : decode b_F_requireWord 12 = .ok (.iload_n 2, 1) := by decide +kernel
theorem d_F_requireWord_13 : decode b_F_requireWord 13 = .ok (.iconst 5, 1) := by decide +kernel
theorem d_F_requireWord_14 : decode b_F_requireWord 14 = .ok (.if_icmp .lt 13, 3) := by decide +kernel
theorem d_F_requireWord_17 : decode b_F_requireWord 17 = .ok (.new 42, 3) := by decide +kernel
theorem d_F_requireWord_20 : decode b_F_requireWord 20 = .ok (.dup, 1) := by decide +kernel
theorem d_F_requireWord_21 : decode b_F_requireWord 21 = .ok (.ldc 160, 2) := by decide +kernel
theorem d_F_requireWord_23 : decode b_F_requireWord 23 = .ok (.invokespecial 46, 3) := by decide +kernel
theorem d_F_requireWord_26 : decode b_F_requireWord 26 = .ok (.athrow, 1) := by decide +kernel
theorem d_F_requireWord_27 : decode b_F_requireWord 27 = .ok (.return_, 1) := by decide +kernel
theorem d_F_hold_0 : decode b_F_hold 0 = .ok (.aload_n 0, 1) := by decide +kernel
theorem d_F_hold_1 : decode b_F_hold 1 = .ok (.getfield 16, 3) := by decide +kernel
theorem d_F_hold_4 : decode b_F_hold 4 = .ok (.iload_n 2, 1) := by decide +kernel
theorem d_F_hold_5 : decode b_F_hold 5 = .ok (.iconst 1, 1) := by decide +kernel
theorem d_F_hold_6 : decode b_F_hold 6 = .ok (.iastore, 1) := by decide +kernel
theorem d_F_hold_7 : decode b_F_hold 7 = .ok (.aload_n 0, 1) := by decide +kernel
theorem d_F_hold_8 : decode b_F_hold 8 = .ok (.getfield 20, 3) := by decide +kernel
theorem d_F_hold_11 : decode b_F_hold 11 = .ok (.iload_n 1, 1) := by decide +kernel
theorem d_F_hold_12 : decode b_F_hold 12 = .ok (.iload_n 2, 1) := by decide +kernel
theorem d_F_hold_13 : decode b_F_hold 13 = .ok (.iastore, 1) := by decide +kernel
theorem d_F_hold_14 : decode b_F_hold 14 = .ok (.return_, 1) := by decide +kernel
theorem d_F_forget_0 : decode b_F_forget 0 = .ok (.aload_n 0, 1) := by decide +kernel
theorem d_F_forget_1 : decode b_F_forget 1 = .ok (.getfield 20, 3) := by decide +kernel
theorem d_F_forget_4 : decode b_F_forget 4 = .ok (.iload_n 1, 1) := by decide +kernel
theorem d_F_forget_5 : decode b_F_forget 5 = .ok (.iaload, 1) := by decide +kernel
theorem d_F_forget_6 : decode b_F_forget 6 = .ok (.iconst (-1), 1) := by decide +kernel
theorem d_F_forget_7 : decode b_F_forget 7 = .ok (.if_icmp .eq 22, 3) := by decide +kernel
theorem d_F_forget_10 : decode b_F_forget 10 = .ok (.aload_n 0, 1) := by decide +kernel
theorem d_F_forget_11 : decode b_F_forget 11 = .ok (.getfield 16, 3) := by decide +kernel
theorem d_F_forget_14 : decode b_F_forget 14 = .ok (.aload_n 0, 1) := by decide +kernel
theorem d_F_forget_15 : decode b_F_forget 15 = .ok (.getfield 20, 3) := by decide +kernel
theorem d_F_forget_18 : decode b_F_forget 18 = .ok (.iload_n 1, 1) := by decide +kernel
theorem d_F_forget_19 : decode b_F_forget 19 = .ok (.iaload, 1) := by decide +kernel
theorem d_F_forget_20 : decode b_F_forget 20 = .ok (.iconst 2, 1) := by decide +kernel
theorem d_F_forget_21 : decode b_F_forget 21 = .ok (.iastore, 1) := by decide +kernel
theorem d_F_forget_22 : decode b_F_forget 22 = .ok (.aload_n 0, 1) := by decide +kernel
theorem d_F_forget_23 : decode b_F_forget 23 = .ok (.getfield 20, 3) := by decide +kernel
theorem d_F_forget_26 : decode b_F_forget 26 = .ok (.iload_n 1, 1) := by decide +kernel
theorem d_F_forget_27 : decode b_F_forget 27 = .ok (.iconst (-1), 1) := by decide +kernel
theorem d_F_forget_28 : decode b_F_forget 28 = .ok (.iastore, 1) := by decide +kernel
theorem d_F_forget_29 : decode b_F_forget 29 = .ok (.return_, 1) := by decide +kernel
theorem d_F_take_0 : decode b_F_take 0 = .ok (.aload_n 0, 1) := by decide +kernel
theorem d_F_take_1 : decode b_F_take 1 = .ok (.getfield 20, 3) := by decide +kernel
theorem d_F_take_4 : decode b_F_take 4 = .ok (.iload_n 2, 1) := by decide +kernel
theorem d_F_take_5 : decode b_F_take 5 = .ok (.iaload, 1) := by decide +kernel
theorem d_F_take_6 : decode b_F_take 6 = .ok (.iconst (-1), 1) := by decide +kernel
theorem d_F_take_7 : decode b_F_take 7 = .ok (.if_icmp .eq 24, 3) := by decide +kernel
theorem d_F_take_10 : decode b_F_take 10 = .ok (.iload_n 3, 1) := by decide +kernel
theorem d_F_take_11 : decode b_F_take 11 = .ok (.aload_n 0, 1) := by decide +kernel
theorem d_F_take_12 : decode b_F_take 12 = .ok (.getfield 23, 3) := by decide +kernel
theorem d_F_take_15 : decode b_F_take 15 = .ok (.iload_n 2, 1) := by decide +kernel
theorem d_F_take_16 : decode b_F_take 16 = .ok (.iaload, 1) := by decide +kernel
theorem d_F_take_17 : decode b_F_take 17 = .ok (.invokestatic 133, 3) := by decide +kernel
theorem d_F_take_20 : decode b_F_take 20 = .ok (.ifCond .ne 11, 3) := by decide +kernel
theorem d_F_take_23 : decode b_F_take 23 = .ok (.aload_n 0, 1) := by decide +kernel
theorem d_F_take_24 : decode b_F_take 24 = .ok (.getfield 16, 3) := by decide +kernel
theorem d_F_take_27 : decode b_F_take 27 = .ok (.iload_n 1, 1) := by decide +kernel
theorem d_F_take_28 : decode b_F_take 28 = .ok (.iconst 2, 1) := by decide +kernel
theorem d_F_take_29 : decode b_F_take 29 = .ok (.iastore, 1) := by decide +kernel
theorem d_F_take_30 : decode b_F_take 30 = .ok (.return_, 1) := by decide +kernel
theorem d_F_take_31 : decode b_F_take 31 = .ok (.aload_n 0, 1) := by decide +kernel
theorem d_F_take_32 : decode b_F_take 32 = .ok (.iload_n 2, 1) := by decide +kernel
theorem d_F_take_33 : decode b_F_take 33 = .ok (.invokevirtual 107, 3) := by decide +kernel
theorem d_F_take_36 : decode b_F_take 36 = .ok (.aload_n 0, 1) := by decide +kernel
theorem d_F_take_37 : decode b_F_take 37 = .ok (.iload_n 2, 1) := by decide +kernel
theorem d_F_take_38 : decode b_F_take 38 = .ok (.iload_n 1, 1) := by decide +kernel
theorem d_F_take_39 : decode b_F_take 39 = .ok (.invokevirtual 167, 3) := by decide +kernel
theorem d_F_take_42 : decode b_F_take 42 = .ok (.aload_n 0, 1) := by decide +kernel
theorem d_F_take_43 : decode b_F_take 43 = .ok (.getfield 23, 3) := by decide +kernel
theorem d_F_take_46 : decode b_F_take 46 = .ok (.iload_n 2, 1) := by decide +kernel
theorem d_F_take_47 : decode b_F_take 47 = .ok (.iload_n 3, 1) := by decide +kernel
theorem d_F_take_48 : decode b_F_take 48 = .ok (.iastore, 1) := by decide +kernel
theorem d_F_take_49 : decode b_F_take 49 = .ok (.return_, 1) := by decide +kernel
theorem d_F_countHeld_0 : decode b_F_countHeld 0 = .ok (.iconst 0, 1) := by decide +kernel
theorem d_F_countHeld_1 : decode b_F_countHeld 1 = .ok (.istore_n 1, 1) := by decide +kernel
theorem d_F_countHeld_2 : decode b_F_countHeld 2 = .ok (.iconst 0, 1) := by decide +kernel
theorem d_F_countHeld_3 : decode b_F_countHeld 3 = .ok (.istore_n 2, 1) := by decide +kernel
theorem d_F_countHeld_4 : decode b_F_countHeld 4 = .ok (.iload_n 2, 1) := by decide +kernel
theorem d_F_countHeld_5 : decode b_F_countHeld 5 = .ok (.bipush 8, 2) := by decide +kernel
theorem d_F_countHeld_7 : decode b_F_countHeld 7 = .ok (.if_icmp .ge 27, 3) := by decide +kernel
theorem d_F_countHeld_10 : decode b_F_countHeld 10 = .ok (.iload_n 1, 1) := by decide +kernel
theorem d_F_countHeld_11 : decode b_F_countHeld 11 = .ok (.aload_n 0, 1) := by decide +kernel
theorem d_F_countHeld_12 : decode b_F_countHeld 12 = .ok (.getfield 20, 3) := by decide +kernel
theorem d_F_countHeld_15 : decode b_F_countHeld 15 = .ok (.iload_n 2, 1) := by decide +kernel
theorem d_F_countHeld_16 : decode b_F_countHeld 16 = .ok (.iaload, 1) := by decide +kernel
theorem d_F_countHeld_17 : decode b_F_countHeld 17 = .ok (.iconst (-1), 1) := by decide +kernel
theorem d_F_countHeld_18 : decode b_F_countHeld 18 = .ok (.if_icmp .eq 7, 3) := by decide +kernel
theorem d_F_countHeld_21 : decode b_F_countHeld 21 = .ok (.iconst 1, 1) := by decide +kernel
theorem d_F_countHeld_22 : decode b_F_countHeld 22 = .ok (.goto 4, 3) := by decide +kernel
theorem d_F_countHeld_25 : decode b_F_countHeld 25 = .ok (.iconst 0, 1) := by decide +kernel
theorem d_F_countHeld_26 : decode b_F_countHeld 26 = .ok (.iadd, 1) := by decide +kernel
theorem d_F_countHeld_27 : decode b_F_countHeld 27 = .ok (.istore_n 1, 1) := by decide +kernel
theorem d_F_countHeld_28 : decode b_F_countHeld 28 = .ok (.iinc 2 1, 3) := by decide +kernel
theorem d_F_countHeld_31 : decode b_F_countHeld 31 = .ok (.goto (-27), 3) := by decide +kernel
theorem d_F_countHeld_34 : decode b_F_countHeld 34 = .ok (.iload_n 1, 1) := by decide +kernel
theorem d_F_countHeld_35 : decode b_F_countHeld 35 = .ok (.ireturn, 1) := by decide +kernel
theorem d_F_logicalPageAt_0 : decode b_F_logicalPageAt 0 = .ok (.iconst 0, 1) := by decide +kernel
theorem d_F_logicalPageAt_1 : decode b_F_logicalPageAt 1 = .ok (.istore_n 2, 1) := by decide +kernel
theorem d_F_logicalPageAt_2 : decode b_F_logicalPageAt 2 = .ok (.iload_n 2, 1) := by decide +kernel
theorem d_F_logicalPageAt_3 : decode b_F_logicalPageAt 3 = .ok (.bipush 8, 2) := by decide +kernel
theorem d_F_logicalPageAt_5 : decode b_F_logicalPageAt 5 = .ok (.if_icmp .ge 21, 3) := by decide +kernel
theorem d_F_logicalPageAt_8 : decode b_F_logicalPageAt 8 = .ok (.aload_n 0, 1) := by decide +kernel
theorem d_F_logicalPageAt_9 : decode b_F_logicalPageAt 9 = .ok (.getfield 20, 3) := by decide +kernel
theorem d_F_logicalPageAt_12 : decode b_F_logicalPageAt 12 = .ok (.iload_n 2, 1) := by decide +kernel
theorem d_F_logicalPageAt_13 : decode b_F_logicalPageAt 13 = .ok (.iaload, 1) := by decide +kernel
theorem d_F_logicalPageAt_14 : decode b_F_logicalPageAt 14 = .ok (.iload_n 1, 1) := by decide +kernel
theorem d_F_logicalPageAt_15 : decode b_F_logicalPageAt 15 = .ok (.if_icmp .ne 5, 3) := by decide +kernel
theorem d_F_logicalPageAt_18 : decode b_F_logicalPageAt 18 = .ok (.iload_n 2, 1) := by decide +kernel
theorem d_F_logicalPageAt_19 : decode b_F_logicalPageAt 19 = .ok (.ireturn, 1) := by decide +kernel
theorem d_F_logicalPageAt_20 : decode b_F_logicalPageAt 20 = .ok (.iinc 2 1, 3) := by decide +kernel
theorem d_F_logicalPageAt_23 : decode b_F_logicalPageAt 23 = .ok (.goto (-21), 3) := by decide +kernel
theorem d_F_logicalPageAt_26 : decode b_F_logicalPageAt 26 = .ok (.iconst (-1), 1) := by decide +kernel
theorem d_F_logicalPageAt_27 : decode b_F_logicalPageAt 27 = .ok (.ireturn, 1) := by decide +kernel
theorem d_F_countInBlock_0 : decode b_F_countInBlock 0 = .ok (.iconst 0, 1) := by decide +kernel
theorem d_F_countInBlock_1 : decode b_F_countInBlock 1 = .ok (.istore_n 3, 1) := by decide +kernel
theorem d_F_countInBlock_2 : decode b_F_countInBlock 2 = .ok (.iconst 0, 1) := by decide +kernel
theorem d_F_countInBlock_3 : decode b_F_countInBlock 3 = .ok (.istore 4, 2) := by decide +kernel
theorem d_F_countInBlock_5 : decode b_F_countInBlock 5 = .ok (.iload 4, 2) := by decide +kernel
theorem d_F_countInBlock_7 : decode b_F_countInBlock 7 = .ok (.iconst 4, 1) := by decide +kernel
theorem d_F_countInBlock_8 : decode b_F_countInBlock 8 = .ok (.if_icmp .ge 32, 3) := by decide +kernel
theorem d_F_countInBlock_11 : decode b_F_countInBlock 11 = .ok (.iload_n 3, 1) := by decide +kernel
theorem d_F_countInBlock_12 : decode b_F_countInBlock 12 = .ok (.aload_n 0, 1) := by decide +kernel
theorem d_F_countInBlock_13 : decode b_F_countInBlock 13 = .ok (.getfield 16, 3) := by decide +kernel
theorem d_F_countInBlock_16 : decode b_F_countInBlock 16 = .ok (.iload_n 1, 1) := by decide +kernel
theorem d_F_countInBlock_17 : decode b_F_countInBlock 17 = .ok (.iload 4, 2) := by decide +kernel
theorem d_F_countInBlock_19 : decode b_F_countInBlock 19 = .ok (.invokestatic 114, 3) := by decide +kernel
theorem d_F_countInBlock_22 : decode b_F_countInBlock 22 = .ok (.iaload, 1) := by decide +kernel
theorem d_F_countInBlock_23 : decode b_F_countInBlock 23 = .ok (.iload_n 2, 1) := by decide +kernel
theorem d_F_countInBlock_24 : decode b_F_countInBlock 24 = .ok (.if_icmp .ne 7, 3) := by decide +kernel
theorem d_F_countInBlock_27 : decode b_F_countInBlock 27 = .ok (.iconst 1, 1) := by decide +kernel
theorem d_F_countInBlock_28 : decode b_F_countInBlock 28 = .ok (.goto 4, 3) := by decide +kernel
theorem d_F_countInBlock_31 : decode b_F_countInBlock 31 = .ok (.iconst 0, 1) := by decide +kernel
theorem d_F_countInBlock_32 : decode b_F_countInBlock 32 = .ok (.iadd, 1) := by decide +kernel
theorem d_F_countInBlock_33 : decode b_F_countInBlock 33 = .ok (.istore_n 3, 1) := by decide +kernel
theorem d_F_countInBlock_34 : decode b_F_countInBlock 34 = .ok (.iinc 4 1, 3) := by decide +kernel
theorem d_F_countInBlock_37 : decode b_F_countInBlock 37 = .ok (.goto (-32), 3) := by decide +kernel
theorem d_F_countInBlock_40 : decode b_F_countInBlock 40 = .ok (.iload_n 3, 1) := by decide +kernel
theorem d_F_countInBlock_41 : decode b_F_countInBlock 41 = .ok (.ireturn, 1) := by decide +kernel
theorem d_F_isWholeFree_0 : decode b_F_isWholeFree 0 = .ok (.aload_n 0, 1) := by decide +kernel
theorem d_F_isWholeFree_1 : decode b_F_isWholeFree 1 = .ok (.iload_n 1, 1) := by decide +kernel
theorem d_F_isWholeFree_2 : decode b_F_isWholeFree 2 = .ok (.iconst 0, 1) := by decide +kernel
theorem d_F_isWholeFree_3 : decode b_F_isWholeFree 3 = .ok (.invokevirtual 171, 3) := by decide +kernel
theorem d_F_isWholeFree_6 : decode b_F_isWholeFree 6 = .ok (.iconst 4, 1) := by decide +kernel
theorem d_F_isWholeFree_7 : decode b_F_isWholeFree 7 = .ok (.if_icmp .ne 7, 3) := by decide +kernel
theorem d_F_isWholeFree_10 : decode b_F_isWholeFree 10 = .ok (.iconst 1, 1) := by decide +kernel
theorem d_F_isWholeFree_11 : decode b_F_isWholeFree 11 = .ok (.goto 4, 3) := by decide +kernel
theorem d_F_isWholeFree_14 : decode b_F_isWholeFree 14 = .ok (.iconst 0, 1) := by decide +kernel
theorem d_F_isWholeFree_15 : decode b_F_isWholeFree 15 = .ok (.ireturn, 1) := by decide +kernel
theorem d_F_freePlace_0 : decode b_F_freePlace 0 = .ok (.iconst (-1), 1) := by decide +kernel
theorem d_F_freePlace_1 : decode b_F_freePlace 1 = .ok (.istore_n 2, 1) := by decide +kernel
theorem d_F_freePlace_2 : decode b_F_freePlace 2 = .ok (.iconst 0, 1) := by decide +kernel
theorem d_F_freePlace_3 : decode b_F_freePlace 3 = .ok (.istore_n 3, 1) := by decide +kernel
theorem d_F_freePlace_4 : decode b_F_freePlace 4 = .ok (.iload_n 3, 1) := by decide +kernel
theorem d_F_freePlace_5 : decode b_F_freePlace 5 = .ok (.bipush 16, 2) := by decide +kernel
theorem d_F_freePlace_7 : decode b_F_freePlace 7 = .ok (.if_icmp .ge 51, 3) := by decide +kernel
theorem d_F_freePlace_10 : decode b_F_freePlace 10 = .ok (.iload_n 3, 1) := by decide +kernel
theorem d_F_freePlace_11 : decode b_F_freePlace 11 = .ok (.invokestatic 174, 3) := by decide +kernel
theorem d_F_freePlace_14 : decode b_F_freePlace 14 = .ok (.istore 4, 2) := by decide +kernel
theorem d_F_freePlace_16 : decode b_F_freePlace 16 = .ok (.aload_n 0, 1) := by decide +kernel
theorem d_F_freePlace_17 : decode b_F_freePlace 17 = .ok (.getfield 16, 3) := by decide +kernel
theorem d_F_freePlace_20 : decode b_F_freePlace 20 = .ok (.iload_n 3, 1) := by decide +kernel
theorem d_F_freePlace_21 : decode b_F_freePlace 21 = .ok (.iaload, 1) := by decide +kernel
theorem d_F_freePlace_22 : decode b_F_freePlace 22 = .ok (.ifCond .ne 30, 3) := by decide +kernel
theorem d_F_freePlace_25 : decode b_F_freePlace 25 = .ok (.iload 4, 2) := by decide +kernel
theorem d_F_freePlace_27 : decode b_F_freePlace 27 = .ok (.iload_n 1, 1) := by decide +kernel
theorem d_F_freePlace_28 : decode b_F_freePlace 28 = .ok (.if_icmp .ne 6, 3) := by decide +kernel
theorem d_F_freePlace_31 : decode b_F_freePlace 31 = .ok (.goto 21, 3) := by decide +kernel
theorem d_F_freePlace_34 : decode b_F_freePlace 34 = .ok (.aload_n 0, 1) := by decide +kernel
theorem d_F_freePlace_35 : decode b_F_freePlace 35 = .ok (.iload 4, 2) := by decide +kernel
theorem d_F_freePlace_37 : decode b_F_freePlace 37 = .ok (.invokevirtual 177, 3) := by decide +kernel
theorem d_F_freePlace_40 : decode b_F_freePlace 40 = .ok (.ifCond .ne 5, 3) := by decide +kernel
theorem d_F_freePlace_43 : decode b_F_freePlace 43 = .ok (.iload_n 3, 1) := by decide +kernel
theorem d_F_freePlace_44 : decode b_F_freePlace 44 = .ok (.ireturn, 1) := by decide +kernel
theorem d_F_freePlace_45 : decode b_F_freePlace 45 = .ok (.iload_n 2, 1) := by decide +kernel
theorem d_F_freePlace_46 : decode b_F_freePlace 46 = .ok (.iconst (-1), 1) := by decide +kernel
theorem d_F_freePlace_47 : decode b_F_freePlace 47 = .ok (.if_icmp .ne 5, 3) := by decide +kernel
theorem d_F_freePlace_50 : decode b_F_freePlace 50 = .ok (.iload_n 3, 1) := by decide +kernel
theorem d_F_freePlace_51 : decode b_F_freePlace 51 = .ok (.istore_n 2, 1) := by decide +kernel
theorem d_F_freePlace_52 : decode b_F_freePlace 52 = .ok (.iinc 3 1, 3) := by decide +kernel
theorem d_F_freePlace_55 : decode b_F_freePlace 55 = .ok (.goto (-51), 3) := by decide +kernel
theorem d_F_freePlace_58 : decode b_F_freePlace 58 = .ok (.iload_n 2, 1) := by decide +kernel
theorem d_F_freePlace_59 : decode b_F_freePlace 59 = .ok (.ireturn, 1) := by decide +kernel
theorem d_F_leavesBlockFree_0 : decode b_F_leavesBlockFree 0 = .ok (.aload_n 0, 1) := by decide +kernel
theorem d_F_leavesBlockFree_1 : decode b_F_leavesBlockFree 1 = .ok (.iconst (-1), 1) := by decide +kernel
theorem d_F_leavesBlockFree_2 : decode b_F_leavesBlockFree 2 = .ok (.invokevirtual 180, 3) := by decide +kernel
theorem d_F_leavesBlockFree_5 : decode b_F_leavesBlockFree 5 = .ok (.istore_n 1, 1) := by decide +kernel
theorem d_F_leavesBlockFree_6 : decode b_F_leavesBlockFree 6 = .ok (.iload_n 1, 1) := by decide +kernel
theorem d_F_leavesBlockFree_7 : decode b_F_leavesBlockFree 7 = .ok (.iconst (-1), 1) := by decide +kernel
theorem d_F_leavesBlockFree_8 : decode b_F_leavesBlockFree 8 = .ok (.if_icmp .ne 5, 3) := by decide +kernel
theorem d_F_leavesBlockFree_11 : decode b_F_leavesBlockFree 11 = .ok (.iconst 0, 1) := by decide +kernel
theorem d_F_leavesBlockFree_12 : decode b_F_leavesBlockFree 12 = .ok (.ireturn, 1) := by decide +kernel
theorem d_F_leavesBlockFree_13 : decode b_F_leavesBlockFree 13 = .ok (.iconst 0, 1) := by decide +kernel
theorem d_F_leavesBlockFree_14 : decode b_F_leavesBlockFree 14 = .ok (.istore_n 2, 1) := by decide +kernel
theorem d_F_leavesBlockFree_15 : decode b_F_leavesBlockFree 15 = .ok (.iload_n 2, 1) := by decide +kernel
theorem d_F_leavesBlockFree_16 : decode b_F_leavesBlockFree 16 = .ok (.iconst 4, 1) := by decide +kernel
theorem d_F_leavesBlockFree_17 : decode b_F_leavesBlockFree 17 = .ok (.if_icmp .ge 27, 3) := by decide +kernel
theorem d_F_leavesBlockFree_20 : decode b_F_leavesBlockFree 20 = .ok (.iload_n 2, 1) := by decide +kernel
theorem d_F_leavesBlockFree_21 : decode b_F_leavesBlockFree 21 = .ok (.iload_n 1, 1) := by decide +kernel
theorem d_F_leavesBlockFree_22 : decode b_F_leavesBlockFree 22 = .ok (.invokestatic 174, 3) := by decide +kernel
theorem d_F_leavesBlockFree_25 : decode b_F_leavesBlockFree 25 = .ok (.if_icmp .eq 13, 3) := by decide +kernel
theorem d_F_leavesBlockFree_28 : decode b_F_leavesBlockFree 28 = .ok (.aload_n 0, 1) := by decide +kernel
theorem d_F_leavesBlockFree_29 : decode b_F_leavesBlockFree 29 = .ok (.iload_n 2, 1) := by decide +kernel
theorem d_F_leavesBlockFree_30 : decode b_F_leavesBlockFree 30 = .ok (.invokevirtual 177, 3) := by decide +kernel
theorem d_F_leavesBlockFree_33 : decode b_F_leavesBlockFree 33 = .ok (.ifCond .eq 5, 3) := by decide +kernel
theorem d_F_leavesBlockFree_36 : decode b_F_leavesBlockFree 36 = .ok (.iconst 1, 1) := by decide +kernel
theorem d_F_leavesBlockFree_37 : decode b_F_leavesBlockFree 37 = .ok (.ireturn, 1) := by decide +kernel
theorem d_F_leavesBlockFree_38 : decode b_F_leavesBlockFree 38 = .ok (.iinc 2 1, 3) := by decide +kernel
theorem d_F_leavesBlockFree_41 : decode b_F_leavesBlockFree 41 = .ok (.goto (-26), 3) := by decide +kernel
theorem d_F_leavesBlockFree_44 : decode b_F_leavesBlockFree 44 = .ok (.iconst 0, 1) := by decide +kernel
theorem d_F_leavesBlockFree_45 : decode b_F_leavesBlockFree 45 = .ok (.ireturn, 1) := by decide +kernel
theorem d_F_put_0 : decode b_F_put 0 = .ok (.aload_n 0, 1) := by decide +kernel
theorem d_F_put_1 : decode b_F_put 1 = .ok (.iload 4, 2) := by decide +kernel
theorem d_F_put_3 : decode b_F_put 3 = .ok (.invokevirtual 180, 3) := by decide +kernel
theorem d_F_put_6 : decode b_F_put 6 = .ok (.istore 5, 2) := by decide +kernel
theorem d_F_put_8 : decode b_F_put 8 = .ok (.iload 5, 2) := by decide +kernel
theorem d_F_put_10 : decode b_F_put 10 = .ok (.iconst (-1), 1) := by decide +kernel
theorem d_F_put_11 : decode b_F_put 11 = .ok (.if_icmp .ne 4, 3) := by decide +kernel
theorem d_F_put_14 : decode b_F_put 14 = .ok (.return_, 1) := by decide +kernel
theorem d_F_put_15 : decode b_F_put 15 = .ok (.aload_n 0, 1) := by decide +kernel
theorem d_F_put_16 : decode b_F_put 16 = .ok (.getfield 12, 3) := by decide +kernel
theorem d_F_put_19 : decode b_F_put 19 = .ok (.iload 5, 2) := by decide +kernel
theorem d_F_put_21 : decode b_F_put 21 = .ok (.lload_n 2, 1) := by decide +kernel
theorem d_F_put_22 : decode b_F_put 22 = .ok (.iload_n 1, 1) := by decide +kernel
theorem d_F_put_23 : decode b_F_put 23 = .ok (.bipush 12, 2) := by decide +kernel
theorem d_F_put_25 : decode b_F_put 25 = .ok (.ishl, 1) := by decide +kernel
theorem d_F_put_26 : decode b_F_put 26 = .ok (.aload_n 0, 1) := by decide +kernel
theorem d_F_put_27 : decode b_F_put 27 = .ok (.getfield 26, 3) := by decide +kernel
theorem d_F_put_30 : decode b_F_put 30 = .ok (.ior, 1) := by decide +kernel
theorem d_F_put_31 : decode b_F_put 31 = .ok (.invokevirtual 183, 3) := by decide +kernel
theorem d_F_put_34 : decode b_F_put 34 = .ok (.aload_n 0, 1) := by decide +kernel
theorem d_F_put_35 : decode b_F_put 35 = .ok (.aload_n 0, 1) := by decide +kernel
theorem d_F_put_36 : decode b_F_put 36 = .ok (.getfield 26, 3) := by decide +kernel
theorem d_F_put_39 : decode b_F_put 39 = .ok (.invokestatic 137, 3) := by decide +kernel
theorem d_F_put_42 : decode b_F_put 42 = .ok (.putfield 26, 3) := by decide +kernel
theorem d_F_put_45 : decode b_F_put 45 = .ok (.aload_n 0, 1) := by decide +kernel
theorem d_F_put_46 : decode b_F_put 46 = .ok (.iload_n 1, 1) := by decide +kernel
theorem d_F_put_47 : decode b_F_put 47 = .ok (.invokevirtual 107, 3) := by decide +kernel
theorem d_F_put_50 : decode b_F_put 50 = .ok (.aload_n 0, 1) := by decide +kernel
theorem d_F_put_51 : decode b_F_put 51 = .ok (.iload_n 1, 1) := by decide +kernel
theorem d_F_put_52 : decode b_F_put 52 = .ok (.iload 5, 2) := by decide +kernel
theorem d_F_put_54 : decode b_F_put 54 = .ok (.invokevirtual 167, 3) := by decide +kernel
theorem d_F_put_57 : decode b_F_put 57 = .ok (.return_, 1) := by decide +kernel
theorem d_F_countFreeOutside_0 : decode b_F_countFreeOutside 0 = .ok (.iconst 0, 1) := by decide +kernel
theorem d_F_countFreeOutside_1 : decode b_F_countFreeOutside 1 = .ok (.istore_n 2, 1) := by decide +kernel
theorem d_F_countFreeOutside_2 : decode b_F_countFreeOutside 2 = .ok (.iconst 0, 1) := by decide +kernel
theorem d_F_countFreeOutside_3 : decode b_F_countFreeOutside 3 = .ok (.istore_n 3, 1) := by decide +kernel
theorem d_F_countFreeOutside_4 : decode b_F_countFreeOutside 4 = .ok (.iload_n 3, 1) := by decide +kernel
theorem d_F_countFreeOutside_5 : decode b_F_countFreeOutside 5 = .ok (.iconst 4, 1) := by decide +kernel
theorem d_F_countFreeOutside_6 : decode b_F_countFreeOutside 6 = .ok (.if_icmp .ge 27, 3) := by decide +kernel
theorem d_F_countFreeOutside_9 : decode b_F_countFreeOutside 9 = .ok (.iload_n 2, 1) := by decide +kernel
theorem d_F_countFreeOutside_10 : decode b_F_countFreeOutside 10 = .ok (.iload_n 3, 1) := by decide +kernel
theorem d_F_countFreeOutside_11 : decode b_F_countFreeOutside 11 = .ok (.iload_n 1, 1) := by decide +kernel
theorem d_F_countFreeOutside_12 : decode b_F_countFreeOutside 12 = .ok (.if_icmp .eq 12, 3) := by decide +kernel
theorem d_F_countFreeOutside_15 : decode b_F_countFreeOutside 15 = .ok (.aload_n 0, 1) := by decide +kernel
theorem d_F_countFreeOutside_16 : decode b_F_countFreeOutside 16 = .ok (.iload_n 3, 1) := by decide +kernel
theorem d_F_countFreeOutside_17 : decode b_F_countFreeOutside 17 = .ok (.iconst 0, 1) := by decide +kernel
theorem d_F_countFreeOutside_18 : decode b_F_countFreeOutside 18 = .ok (.invokevirtual 171, 3) := by decide +kernel
theorem d_F_countFreeOutside_21 : decode b_F_countFreeOutside 21 = .ok (.goto 4, 3) := by decide +kernel
theorem d_F_countFreeOutside_24 : decode b_F_countFreeOutside 24 = .ok (.iconst 0, 1) := by decide +kernel
theorem d_F_countFreeOutside_25 : decode b_F_countFreeOutside 25 = .ok (.iadd, 1) := by decide +kernel
theorem d_F_countFreeOutside_26 : decode b_F_countFreeOutside 26 = .ok (.istore_n 2, 1) := by decide +kernel
theorem d_F_countFreeOutside_27 : decode b_F_countFreeOutside 27 = .ok (.iinc 3 1, 3) := by decide +kernel
theorem d_F_countFreeOutside_30 : decode b_F_countFreeOutside 30 = .ok (.goto (-26), 3) := by decide +kernel
theorem d_F_countFreeOutside_33 : decode b_F_countFreeOutside 33 = .ok (.iload_n 2, 1) := by decide +kernel
theorem d_F_countFreeOutside_34 : decode b_F_countFreeOutside 34 = .ok (.ireturn, 1) := by decide +kernel
theorem d_F_canBeCleaned_0 : decode b_F_canBeCleaned 0 = .ok (.aload_n 0, 1) := by decide +kernel
theorem d_F_canBeCleaned_1 : decode b_F_canBeCleaned 1 = .ok (.iload_n 1, 1) := by decide +kernel
theorem d_F_canBeCleaned_2 : decode b_F_canBeCleaned 2 = .ok (.iconst 1, 1) := by decide +kernel
theorem d_F_canBeCleaned_3 : decode b_F_canBeCleaned 3 = .ok (.invokevirtual 171, 3) := by decide +kernel
theorem d_F_canBeCleaned_6 : decode b_F_canBeCleaned 6 = .ok (.istore_n 2, 1) := by decide +kernel
theorem d_F_canBeCleaned_7 : decode b_F_canBeCleaned 7 = .ok (.aload_n 0, 1) := by decide +kernel
theorem d_F_canBeCleaned_8 : decode b_F_canBeCleaned 8 = .ok (.iload_n 1, 1) := by decide +kernel
theorem d_F_canBeCleaned_9 : decode b_F_canBeCleaned 9 = .ok (.invokevirtual 177, 3) := by decide +kernel
theorem d_F_canBeCleaned_12 : decode b_F_canBeCleaned 12 = .ok (.ifCond .ne 21, 3) := by decide +kernel
theorem d_F_canBeCleaned_15 : decode b_F_canBeCleaned 15 = .ok (.iload_n 2, 1) := by decide +kernel
theorem d_F_canBeCleaned_16 : decode b_F_canBeCleaned 16 = .ok (.iconst 4, 1) := by decide +kernel
theorem d_F_canBeCleaned_17 : decode b_F_canBeCleaned 17 = .ok (.if_icmp .ge 16, 3) := by decide +kernel
theorem d_F_canBeCleaned_20 : decode b_F_canBeCleaned 20 = .ok (.iload_n 2, 1) := by decide +kernel
theorem d_F_canBeCleaned_21 : decode b_F_canBeCleaned 21 = .ok (.aload_n 0, 1) := by decide +kernel
theorem d_F_canBeCleaned_22 : decode b_F_canBeCleaned 22 = .ok (.iload_n 1, 1) := by decide +kernel
theorem d_F_canBeCleaned_23 : decode b_F_canBeCleaned 23 = .ok (.invokevirtual 192, 3) := by decide +kernel
theorem d_F_canBeCleaned_26 : decode b_F_canBeCleaned 26 = .ok (.if_icmp .gt 7, 3) := by decide +kernel
theorem d_F_canBeCleaned_29 : decode b_F_canBeCleaned 29 = .ok (.iconst 1, 1) := by decide +kernel
theorem d_F_canBeCleaned_30 : decode b_F_canBeCleaned 30 = .ok (.goto 4, 3) := by decide +kernel
theorem d_F_canBeCleaned_33 : decode b_F_canBeCleaned 33 = .ok (.iconst 0, 1) := by decide +kernel
theorem d_F_canBeCleaned_34 : decode b_F_canBeCleaned 34 = .ok (.ireturn, 1) := by decide +kernel
theorem d_F_isBetterToClean_0 : decode b_F_isBetterToClean 0 = .ok (.aload_n 0, 1) := by decide +kernel
theorem d_F_isBetterToClean_1 : decode b_F_isBetterToClean 1 = .ok (.iload_n 1, 1) := by decide +kernel
theorem d_F_isBetterToClean_2 : decode b_F_isBetterToClean 2 = .ok (.iconst 1, 1) := by decide +kernel
theorem d_F_isBetterToClean_3 : decode b_F_isBetterToClean 3 = .ok (.invokevirtual 171, 3) := by decide +kernel
theorem d_F_isBetterToClean_6 : decode b_F_isBetterToClean 6 = .ok (.istore_n 3, 1) := by decide +kernel
theorem d_F_isBetterToClean_7 : decode b_F_isBetterToClean 7 = .ok (.aload_n 0, 1) := by decide +kernel
theorem d_F_isBetterToClean_8 : decode b_F_isBetterToClean 8 = .ok (.iload_n 2, 1) := by decide +kernel
theorem d_F_isBetterToClean_9 : decode b_F_isBetterToClean 9 = .ok (.iconst 1, 1) := by decide +kernel
theorem d_F_isBetterToClean_10 : decode b_F_isBetterToClean 10 = .ok (.invokevirtual 171, 3) := by decide +kernel
theorem d_F_isBetterToClean_13 : decode b_F_isBetterToClean 13 = .ok (.istore 4, 2) := by decide +kernel
theorem d_F_isBetterToClean_15 : decode b_F_isBetterToClean 15 = .ok (.iload_n 3, 1) := by decide +kernel
theorem d_F_isBetterToClean_16 : decode b_F_isBetterToClean 16 = .ok (.iload 4, 2) := by decide +kernel
theorem d_F_isBetterToClean_18 : decode b_F_isBetterToClean 18 = .ok (.if_icmp .eq 17, 3) := by decide +kernel
theorem d_F_isBetterToClean_21 : decode b_F_isBetterToClean 21 = .ok (.iload_n 3, 1) := by decide +kernel
theorem d_F_isBetterToClean_22 : decode b_F_isBetterToClean 22 = .ok (.iload 4, 2) := by decide +kernel
theorem d_F_isBetterToClean_24 : decode b_F_isBetterToClean 24 = .ok (.if_icmp .ge 7, 3) := by decide +kernel
theorem d_F_isBetterToClean_27 : decode b_F_isBetterToClean 27 = .ok (.iconst 1, 1) := by decide +kernel
theorem d_F_isBetterToClean_28 : decode b_F_isBetterToClean 28 = .ok (.goto 31, 3) := by decide +kernel
theorem d_F_isBetterToClean_31 : decode b_F_isBetterToClean 31 = .ok (.iconst 0, 1) := by decide +kernel
theorem d_F_isBetterToClean_32 : decode b_F_isBetterToClean 32 = .ok (.goto 27, 3) := by decide +kernel
theorem d_F_isBetterToClean_35 : decode b_F_isBetterToClean 35 = .ok (.aload_n 0, 1) := by decide +kernel
theorem d_F_isBetterToClean_36 : decode b_F_isBetterToClean 36 = .ok (.getfield 12, 3) := by decide +kernel
theorem d_F_isBetterToClean_39 : decode b_F_isBetterToClean 39 = .ok (.iload_n 1, 1) := by decide +kernel
theorem d_F_isBetterToClean_40 : decode b_F_isBetterToClean 40 = .ok (.invokevirtual 151, 3) := by decide +kernel
theorem d_F_isBetterToClean_43 : decode b_F_isBetterToClean 43 = .ok (.aload_n 0, 1) := by decide +kernel
theorem d_F_isBetterToClean_44 : decode b_F_isBetterToClean 44 = .ok (.getfield 12, 3) := by decide +kernel
theorem d_F_isBetterToClean_47 : decode b_F_isBetterToClean 47 = .ok (.iload_n 2, 1) := by decide +kernel
theorem d_F_isBetterToClean_48 : decode b_F_isBetterToClean 48 = .ok (.invokevirtual 151, 3) := by decide +kernel
theorem d_F_isBetterToClean_51 : decode b_F_isBetterToClean 51 = .ok (.if_icmp .ge 7, 3) := by decide +kernel
theorem d_F_isBetterToClean_54 : decode b_F_isBetterToClean 54 = .ok (.iconst 1, 1) := by decide +kernel
theorem d_F_isBetterToClean_55 : decode b_F_isBetterToClean 55 = .ok (.goto 4, 3) := by decide +kernel
theorem d_F_isBetterToClean_58 : decode b_F_isBetterToClean 58 = .ok (.iconst 0, 1) := by decide +kernel
theorem d_F_isBetterToClean_59 : decode b_F_isBetterToClean 59 = .ok (.ireturn, 1) := by decide +kernel
theorem d_F_blockToClean_0 : decode b_F_blockToClean 0 = .ok (.iconst (-1), 1) := by decide +kernel
theorem d_F_blockToClean_1 : decode b_F_blockToClean 1 = .ok (.istore_n 1, 1) := by decide +kernel
theorem d_F_blockToClean_2 : decode b_F_blockToClean 2 = .ok (.iconst 0, 1) := by decide +kernel
theorem d_F_blockToClean_3 : decode b_F_blockToClean 3 = .ok (.istore_n 2, 1) := by decide +kernel
theorem d_F_blockToClean_4 : decode b_F_blockToClean 4 = .ok (.iload_n 2, 1) := by decide +kernel
theorem d_F_blockToClean_5 : decode b_F_blockToClean 5 = .ok (.iconst 4, 1) := by decide +kernel
theorem d_F_blockToClean_6 : decode b_F_blockToClean 6 = .ok (.if_icmp .ge 33, 3) := by decide +kernel
theorem d_F_blockToClean_9 : decode b_F_blockToClean 9 = .ok (.aload_n 0, 1) := by decide +kernel
theorem d_F_blockToClean_10 : decode b_F_blockToClean 10 = .ok (.iload_n 2, 1) := by decide +kernel
theorem d_F_blockToClean_11 : decode b_F_blockToClean 11 = .ok (.invokevirtual 186, 3) := by decide +kernel
theorem d_F_blockToClean_14 : decode b_F_blockToClean 14 = .ok (.ifCond .eq 19, 3) := by decide +kernel
theorem d_F_blockToClean_17 : decode b_F_blockToClean 17 = .ok (.iload_n 1, 1) := by decide +kernel
theorem d_F_blockToClean_18 : decode b_F_blockToClean 18 = .ok (.iconst (-1), 1) := by decide +kernel
theorem d_F_blockToClean_19 : decode b_F_blockToClean 19 = .ok (.if_icmp .eq 12, 3) := by decide +kernel
theorem d_F_blockToClean_22 : decode b_F_blockToClean 22 = .ok (.aload_n 0, 1) := by decide +kernel
theorem d_F_blockToClean_23 : decode b_F_blockToClean 23 = .ok (.iload_n 2, 1) := by decide +kernel
theorem d_F_blockToClean_24 : decode b_F_blockToClean 24 = .ok (.iload_n 1, 1) := by decide +kernel
theorem d_F_blockToClean_25 : decode b_F_blockToClean 25 = .ok (.invokevirtual 189, 3) := by decide +kernel
theorem d_F_blockToClean_28 : decode b_F_blockToClean 28 = .ok (.ifCond .eq 5, 3) := by decide +kernel
theorem d_F_blockToClean_31 : decode b_F_blockToClean 31 = .ok (.iload_n 2, 1) := by decide +kernel
theorem d_F_blockToClean_32 : decode b_F_blockToClean 32 = .ok (.istore_n 1, 1) := by decide +kernel
theorem d_F_blockToClean_33 : decode b_F_blockToClean 33 = .ok (.iinc 2 1, 3) := by decide +kernel
theorem d_F_blockToClean_36 : decode b_F_blockToClean 36 = .ok (.goto (-32), 3) := by decide +kernel
theorem d_F_blockToClean_39 : decode b_F_blockToClean 39 = .ok (.iload_n 1, 1) := by decide +kernel
theorem d_F_blockToClean_40 : decode b_F_blockToClean 40 = .ok (.ireturn, 1) := by decide +kernel
theorem d_F_moveAway_0 : decode b_F_moveAway 0 = .ok (.aload_n 0, 1) := by decide +kernel
theorem d_F_moveAway_1 : decode b_F_moveAway 1 = .ok (.iload_n 1, 1) := by decide +kernel
theorem d_F_moveAway_2 : decode b_F_moveAway 2 = .ok (.invokevirtual 201, 3) := by decide +kernel
theorem d_F_moveAway_5 : decode b_F_moveAway 5 = .ok (.istore_n 2, 1) := by decide +kernel
theorem d_F_moveAway_6 : decode b_F_moveAway 6 = .ok (.iload_n 2, 1) := by decide +kernel
theorem d_F_moveAway_7 : decode b_F_moveAway 7 = .ok (.iconst (-1), 1) := by decide +kernel
theorem d_F_moveAway_8 : decode b_F_moveAway 8 = .ok (.if_icmp .ne 4, 3) := by decide +kernel
theorem d_F_moveAway_11 : decode b_F_moveAway 11 = .ok (.return_, 1) := by decide +kernel
theorem d_F_moveAway_12 : decode b_F_moveAway 12 = .ok (.aload_n 0, 1) := by decide +kernel
theorem d_F_moveAway_13 : decode b_F_moveAway 13 = .ok (.getfield 12, 3) := by decide +kernel
theorem d_F_moveAway_16 : decode b_F_moveAway 16 = .ok (.iload_n 1, 1) := by decide +kernel
theorem d_F_moveAway_17 : decode b_F_moveAway 17 = .ok (.invokevirtual 97, 3) := by decide +kernel
theorem d_F_moveAway_20 : decode b_F_moveAway 20 = .ok (.ifCond .eq 23, 3) := by decide +kernel
theorem d_F_moveAway_23 : decode b_F_moveAway 23 = .ok (.aload_n 0, 1) := by decide +kernel
theorem d_F_moveAway_24 : decode b_F_moveAway 24 = .ok (.iload_n 2, 1) := by decide +kernel
theorem d_F_moveAway_25 : decode b_F_moveAway 25 = .ok (.aload_n 0, 1) := by decide +kernel
theorem d_F_moveAway_26 : decode b_F_moveAway 26 = .ok (.getfield 12, 3) := by decide +kernel
theorem d_F_moveAway_29 : decode b_F_moveAway 29 = .ok (.iload_n 1, 1) := by decide +kernel
theorem d_F_moveAway_30 : decode b_F_moveAway 30 = .ok (.invokevirtual 103, 3) := by decide +kernel
theorem d_F_moveAway_33 : decode b_F_moveAway 33 = .ok (.iload_n 1, 1) := by decide +kernel
theorem d_F_moveAway_34 : decode b_F_moveAway 34 = .ok (.invokestatic 174, 3) := by decide +kernel
theorem d_F_moveAway_37 : decode b_F_moveAway 37 = .ok (.invokevirtual 91, 3) := by decide +kernel
theorem d_F_moveAway_40 : decode b_F_moveAway 40 = .ok (.goto 8, 3) := by decide +kernel
theorem d_F_moveAway_43 : decode b_F_moveAway 43 = .ok (.aload_n 0, 1) := by decide +kernel
theorem d_F_moveAway_44 : decode b_F_moveAway 44 = .ok (.iload_n 2, 1) := by decide +kernel
theorem d_F_moveAway_45 : decode b_F_moveAway 45 = .ok (.invokevirtual 107, 3) := by decide +kernel
theorem d_F_moveAway_48 : decode b_F_moveAway 48 = .ok (.return_, 1) := by decide +kernel
theorem d_F_cleanBlock_0 : decode b_F_cleanBlock 0 = .ok (.iconst 0, 1) := by decide +kernel
theorem d_F_cleanBlock_1 : decode b_F_cleanBlock 1 = .ok (.istore_n 2, 1) := by decide +kernel
theorem d_F_cleanBlock_2 : decode b_F_cleanBlock 2 = .ok (.iload_n 2, 1) := by decide +kernel
theorem d_F_cleanBlock_3 : decode b_F_cleanBlock 3 = .ok (.iconst 4, 1) := by decide +kernel
theorem d_F_cleanBlock_4 : decode b_F_cleanBlock 4 = .ok (.if_icmp .ge 18, 3) := by decide +kernel
theorem d_F_cleanBlock_7 : decode b_F_cleanBlock 7 = .ok (.aload_n 0, 1) := by decide +kernel
theorem d_F_cleanBlock_8 : decode b_F_cleanBlock 8 = .ok (.iload_n 1, 1) := by decide +kernel
theorem d_F_cleanBlock_9 : decode b_F_cleanBlock 9 = .ok (.iload_n 2, 1) := by decide +kernel
theorem d_F_cleanBlock_10 : decode b_F_cleanBlock 10 = .ok (.invokestatic 114, 3) := by decide +kernel
theorem d_F_cleanBlock_13 : decode b_F_cleanBlock 13 = .ok (.invokevirtual 195, 3) := by decide +kernel
theorem d_F_cleanBlock_16 : decode b_F_cleanBlock 16 = .ok (.iinc 2 1, 3) := by decide +kernel
theorem d_F_cleanBlock_19 : decode b_F_cleanBlock 19 = .ok (.goto (-17), 3) := by decide +kernel
theorem d_F_cleanBlock_22 : decode b_F_cleanBlock 22 = .ok (.aload_n 0, 1) := by decide +kernel
theorem d_F_cleanBlock_23 : decode b_F_cleanBlock 23 = .ok (.getfield 12, 3) := by decide +kernel
theorem d_F_cleanBlock_26 : decode b_F_cleanBlock 26 = .ok (.iload_n 1, 1) := by decide +kernel
theorem d_F_cleanBlock_27 : decode b_F_cleanBlock 27 = .ok (.invokevirtual 198, 3) := by decide +kernel
theorem d_F_cleanBlock_30 : decode b_F_cleanBlock 30 = .ok (.iconst 0, 1) := by decide +kernel
theorem d_F_cleanBlock_31 : decode b_F_cleanBlock 31 = .ok (.istore_n 2, 1) := by decide +kernel
theorem d_F_cleanBlock_32 : decode b_F_cleanBlock 32 = .ok (.iload_n 2, 1) := by decide +kernel
theorem d_F_cleanBlock_33 : decode b_F_cleanBlock 33 = .ok (.iconst 4, 1) := by decide +kernel
theorem d_F_cleanBlock_34 : decode b_F_cleanBlock 34 = .ok (.if_icmp .ge 20, 3) := by decide +kernel
theorem d_F_cleanBlock_37 : decode b_F_cleanBlock 37 = .ok (.aload_n 0, 1) := by decide +kernel
theorem d_F_cleanBlock_38 : decode b_F_cleanBlock 38 = .ok (.getfield 16, 3) := by decide +kernel
theorem d_F_cleanBlock_41 : decode b_F_cleanBlock 41 = .ok (.iload_n 1, 1) := by decide +kernel
theorem d_F_cleanBlock_42 : decode b_F_cleanBlock 42 = .ok (.iload_n 2, 1) := by decide +kernel
theorem d_F_cleanBlock_43 : decode b_F_cleanBlock 43 = .ok (.invokestatic 114, 3) := by decide +kernel
theorem d_F_cleanBlock_46 : decode b_F_cleanBlock 46 = .ok (.iconst 0, 1) := by decide +kernel
theorem d_F_cleanBlock_47 : decode b_F_cleanBlock 47 = .ok (.iastore, 1) := by decide +kernel
theorem d_F_cleanBlock_48 : decode b_F_cleanBlock 48 = .ok (.iinc 2 1, 3) := by decide +kernel
theorem d_F_cleanBlock_51 : decode b_F_cleanBlock 51 = .ok (.goto (-19), 3) := by decide +kernel
theorem d_F_cleanBlock_54 : decode b_F_cleanBlock 54 = .ok (.return_, 1) := by decide +kernel
theorem d_F_encode_0 : decode b_F_encode 0 = .ok (.iload_n 1, 1) := by decide +kernel
theorem d_F_encode_1 : decode b_F_encode 1 = .ok (.ifCond .lt 9, 3) := by decide +kernel
theorem d_F_encode_4 : decode b_F_encode 4 = .ok (.iload_n 1, 1) := by decide +kernel
theorem d_F_encode_5 : decode b_F_encode 5 = .ok (.ldc 41, 2) := by decide +kernel
theorem d_F_encode_7 : decode b_F_encode 7 = .ok (.if_icmp .le 13, 3) := by decide +kernel
theorem d_F_encode_10 : decode b_F_encode 10 = .ok (.new 42, 3) := by decide +kernel
theorem d_F_encode_13 : decode b_F_encode 13 = .ok (.dup, 1) := by decide +kernel
theorem d_F_encode_14 : decode b_F_encode 14 = .ok (.ldc 44, 2) := by decide +kernel
theorem d_F_encode_16 : decode b_F_encode 16 = .ok (.invokespecial 46, 3) := by decide +kernel
theorem d_F_encode_19 : decode b_F_encode 19 = .ok (.athrow, 1) := by decide +kernel
theorem d_F_encode_20 : decode b_F_encode 20 = .ok (.iload_n 1, 1) := by decide +kernel
theorem d_F_encode_21 : decode b_F_encode 21 = .ok (.invokestatic 49, 3) := by decide +kernel
theorem d_F_encode_24 : decode b_F_encode 24 = .ok (.ireturn, 1) := by decide +kernel
theorem d_F_decode_0 : decode b_F_decode 0 = .ok (.iload_n 1, 1) := by decide +kernel
theorem d_F_decode_1 : decode b_F_decode 1 = .ok (.ifCond .ge 13, 3) := by decide +kernel
theorem d_F_decode_4 : decode b_F_decode 4 = .ok (.new 42, 3) := by decide +kernel
theorem d_F_decode_7 : decode b_F_decode 7 = .ok (.dup, 1) := by decide +kernel
theorem d_F_decode_8 : decode b_F_decode 8 = .ok (.ldc 53, 2) := by decide +kernel
theorem d_F_decode_10 : decode b_F_decode 10 = .ok (.invokespecial 46, 3) := by decide +kernel
theorem d_F_decode_13 : decode b_F_decode 13 = .ok (.athrow, 1) := by decide +kernel
theorem d_F_decode_14 : decode b_F_decode 14 = .ok (.iload_n 1, 1) := by decide +kernel
theorem d_F_decode_15 : decode b_F_decode 15 = .ok (.invokestatic 55, 3) := by decide +kernel
theorem d_F_decode_18 : decode b_F_decode 18 = .ok (.istore_n 2, 1) := by decide +kernel
theorem d_F_decode_19 : decode b_F_decode 19 = .ok (.iload_n 2, 1) := by decide +kernel
theorem d_F_decode_20 : decode b_F_decode 20 = .ok (.iconst (-1), 1) := by decide +kernel
theorem d_F_decode_21 : decode b_F_decode 21 = .ok (.if_icmp .ne 13, 3) := by decide +kernel
theorem d_F_decode_24 : decode b_F_decode 24 = .ok (.new 58, 3) := by decide +kernel
theorem d_F_decode_27 : decode b_F_decode 27 = .ok (.dup, 1) := by decide +kernel
theorem d_F_decode_28 : decode b_F_decode 28 = .ok (.ldc 60, 2) := by decide +kernel
theorem d_F_decode_30 : decode b_F_decode 30 = .ok (.invokespecial 62, 3) := by decide +kernel
theorem d_F_decode_33 : decode b_F_decode 33 = .ok (.athrow, 1) := by decide +kernel
theorem d_F_decode_34 : decode b_F_decode 34 = .ok (.aload_n 0, 1) := by decide +kernel
theorem d_F_decode_35 : decode b_F_decode 35 = .ok (.iload_n 1, 1) := by decide +kernel
theorem d_F_decode_36 : decode b_F_decode 36 = .ok (.iload_n 2, 1) := by decide +kernel
theorem d_F_decode_37 : decode b_F_decode 37 = .ok (.ixor, 1) := by decide +kernel
theorem d_F_decode_38 : decode b_F_decode 38 = .ok (.invokestatic 63, 3) := by decide +kernel
theorem d_F_decode_41 : decode b_F_decode 41 = .ok (.putfield 30, 3) := by decide +kernel
theorem d_F_decode_44 : decode b_F_decode 44 = .ok (.iload_n 2, 1) := by decide +kernel
theorem d_F_decode_45 : decode b_F_decode 45 = .ok (.invokestatic 68, 3) := by decide +kernel
theorem d_F_decode_48 : decode b_F_decode 48 = .ok (.ireturn, 1) := by decide +kernel
theorem d_F_mended_0 : decode b_F_mended 0 = .ok (.aload_n 0, 1) := by decide +kernel
theorem d_F_mended_1 : decode b_F_mended 1 = .ok (.getfield 30, 3) := by decide +kernel
theorem d_F_mended_4 : decode b_F_mended 4 = .ok (.ireturn, 1) := by decide +kernel
theorem d_F_write_0 : decode b_F_write 0 = .ok (.iload_n 1, 1) := by decide +kernel
theorem d_F_write_1 : decode b_F_write 1 = .ok (.invokestatic 71, 3) := by decide +kernel
theorem d_F_write_4 : decode b_F_write 4 = .ok (.iconst 0, 1) := by decide +kernel
theorem d_F_write_5 : decode b_F_write 5 = .ok (.istore 4, 2) := by decide +kernel
theorem d_F_write_7 : decode b_F_write 7 = .ok (.iload 4, 2) := by decide +kernel
theorem d_F_write_9 : decode b_F_write 9 = .ok (.bipush 16, 2) := by decide +kernel
theorem d_F_write_11 : decode b_F_write 11 = .ok (.if_icmp .ge 44, 3) := by decide +kernel
theorem d_F_write_14 : decode b_F_write 14 = .ok (.aload_n 0, 1) := by decide +kernel
theorem d_F_write_15 : decode b_F_write 15 = .ok (.invokevirtual 75, 3) := by decide +kernel
theorem d_F_write_18 : decode b_F_write 18 = .ok (.ifCond .ne 37, 3) := by decide +kernel
theorem d_F_write_21 : decode b_F_write 21 = .ok (.aload_n 0, 1) := by decide +kernel
theorem d_F_write_22 : decode b_F_write 22 = .ok (.invokevirtual 79, 3) := by decide +kernel
theorem d_F_write_25 : decode b_F_write 25 = .ok (.istore 5, 2) := by decide +kernel
theorem d_F_write_27 : decode b_F_write 27 = .ok (.iload 5, 2) := by decide +kernel
theorem d_F_write_29 : decode b_F_write 29 = .ok (.iconst (-1), 1) := by decide +kernel
theorem d_F_write_30 : decode b_F_write 30 = .ok (.if_icmp .ne 13, 3) := by decide +kernel
theorem d_F_write_33 : decode b_F_write 33 = .ok (.new 83, 3) := by decide +kernel
theorem d_F_write_36 : decode b_F_write 36 = .ok (.dup, 1) := by decide +kernel
theorem d_F_write_37 : decode b_F_write 37 = .ok (.ldc 85, 2) := by decide +kernel
theorem d_F_write_39 : decode b_F_write 39 = .ok (.invokespecial 87, 3) := by decide +kernel
theorem d_F_write_42 : decode b_F_write 42 = .ok (.athrow, 1) := by decide +kernel
theorem d_F_write_43 : decode b_F_write 43 = .ok (.aload_n 0, 1) := by decide +kernel
theorem d_F_write_44 : decode b_F_write 44 = .ok (.iload 5, 2) := by decide +kernel
theorem d_F_write_46 : decode b_F_write 46 = .ok (.invokevirtual 88, 3) := by decide +kernel
theorem d_F_write_49 : decode b_F_write 49 = .ok (.iinc 4 1, 3) := by decide +kernel
theorem d_F_write_52 : decode b_F_write 52 = .ok (.goto (-45), 3) := by decide +kernel
theorem d_F_write_55 : decode b_F_write 55 = .ok (.aload_n 0, 1) := by decide +kernel
theorem d_F_write_56 : decode b_F_write 56 = .ok (.iload_n 1, 1) := by decide +kernel
theorem d_F_write_57 : decode b_F_write 57 = .ok (.lload_n 2, 1) := by decide +kernel
theorem d_F_write_58 : decode b_F_write 58 = .ok (.iconst (-1), 1) := by decide +kernel
theorem d_F_write_59 : decode b_F_write 59 = .ok (.invokevirtual 91, 3) := by decide +kernel
theorem d_F_write_62 : decode b_F_write 62 = .ok (.return_, 1) := by decide +kernel
theorem d_F_read_0 : decode b_F_read 0 = .ok (.iload_n 1, 1) := by decide +kernel
theorem d_F_read_1 : decode b_F_read 1 = .ok (.invokestatic 71, 3) := by decide +kernel
theorem d_F_read_4 : decode b_F_read 4 = .ok (.aload_n 0, 1) := by decide +kernel
theorem d_F_read_5 : decode b_F_read 5 = .ok (.getfield 20, 3) := by decide +kernel
theorem d_F_read_8 : decode b_F_read 8 = .ok (.iload_n 1, 1) := by decide +kernel
theorem d_F_read_9 : decode b_F_read 9 = .ok (.iaload, 1) := by decide +kernel
theorem d_F_read_10 : decode b_F_read 10 = .ok (.istore_n 2, 1) := by decide +kernel
theorem d_F_read_11 : decode b_F_read 11 = .ok (.iload_n 2, 1) := by decide +kernel
theorem d_F_read_12 : decode b_F_read 12 = .ok (.iconst (-1), 1) := by decide +kernel
theorem d_F_read_13 : decode b_F_read 13 = .ok (.if_icmp .ne 13, 3) := by decide +kernel
theorem d_F_read_16 : decode b_F_read 16 = .ok (.new 83, 3) := by decide +kernel
theorem d_F_read_19 : decode b_F_read 19 = .ok (.dup, 1) := by decide +kernel
theorem d_F_read_20 : decode b_F_read 20 = .ok (.ldc 95, 2) := by decide +kernel
theorem d_F_read_22 : decode b_F_read 22 = .ok (.invokespecial 87, 3) := by decide +kernel
theorem d_F_read_25 : decode b_F_read 25 = .ok (.athrow, 1) := by decide +kernel
theorem d_F_read_26 : decode b_F_read 26 = .ok (.aload_n 0, 1) := by decide +kernel
theorem d_F_read_27 : decode b_F_read 27 = .ok (.getfield 12, 3) := by decide +kernel
theorem d_F_read_30 : decode b_F_read 30 = .ok (.iload_n 2, 1) := by decide +kernel
theorem d_F_read_31 : decode b_F_read 31 = .ok (.invokevirtual 97, 3) := by decide +kernel
theorem d_F_read_34 : decode b_F_read 34 = .ok (.ifCond .ne 13, 3) := by decide +kernel
theorem d_F_read_37 : decode b_F_read 37 = .ok (.new 58, 3) := by decide +kernel
theorem d_F_read_40 : decode b_F_read 40 = .ok (.dup, 1) := by decide +kernel
theorem d_F_read_41 : decode b_F_read 41 = .ok (.ldc 101, 2) := by decide +kernel
theorem d_F_read_43 : decode b_F_read 43 = .ok (.invokespecial 62, 3) := by decide +kernel
theorem d_F_read_46 : decode b_F_read 46 = .ok (.athrow, 1) := by decide +kernel
theorem d_F_read_47 : decode b_F_read 47 = .ok (.aload_n 0, 1) := by decide +kernel
theorem d_F_read_48 : decode b_F_read 48 = .ok (.getfield 12, 3) := by decide +kernel
theorem d_F_read_51 : decode b_F_read 51 = .ok (.iload_n 2, 1) := by decide +kernel
theorem d_F_read_52 : decode b_F_read 52 = .ok (.invokevirtual 103, 3) := by decide +kernel
theorem d_F_read_55 : decode b_F_read 55 = .ok (.lreturn, 1) := by decide +kernel
theorem d_F_trim_0 : decode b_F_trim 0 = .ok (.iload_n 1, 1) := by decide +kernel
theorem d_F_trim_1 : decode b_F_trim 1 = .ok (.invokestatic 71, 3) := by decide +kernel
theorem d_F_trim_4 : decode b_F_trim 4 = .ok (.aload_n 0, 1) := by decide +kernel
theorem d_F_trim_5 : decode b_F_trim 5 = .ok (.getfield 20, 3) := by decide +kernel
theorem d_F_trim_8 : decode b_F_trim 8 = .ok (.iload_n 1, 1) := by decide +kernel
theorem d_F_trim_9 : decode b_F_trim 9 = .ok (.iaload, 1) := by decide +kernel
theorem d_F_trim_10 : decode b_F_trim 10 = .ok (.iconst (-1), 1) := by decide +kernel
theorem d_F_trim_11 : decode b_F_trim 11 = .ok (.if_icmp .eq 7, 3) := by decide +kernel
theorem d_F_trim_14 : decode b_F_trim 14 = .ok (.iconst 1, 1) := by decide +kernel
theorem d_F_trim_15 : decode b_F_trim 15 = .ok (.goto 4, 3) := by decide +kernel
theorem d_F_trim_18 : decode b_F_trim 18 = .ok (.iconst 0, 1) := by decide +kernel
theorem d_F_trim_19 : decode b_F_trim 19 = .ok (.istore_n 2, 1) := by decide +kernel
theorem d_F_trim_20 : decode b_F_trim 20 = .ok (.aload_n 0, 1) := by decide +kernel
theorem d_F_trim_21 : decode b_F_trim 21 = .ok (.iload_n 1, 1) := by decide +kernel
theorem d_F_trim_22 : decode b_F_trim 22 = .ok (.invokevirtual 107, 3) := by decide +kernel
theorem d_F_trim_25 : decode b_F_trim 25 = .ok (.iload_n 2, 1) := by decide +kernel
theorem d_F_trim_26 : decode b_F_trim 26 = .ok (.ireturn, 1) := by decide +kernel
theorem d_F_spoil_0 : decode b_F_spoil 0 = .ok (.iload_n 1, 1) := by decide +kernel
theorem d_F_spoil_1 : decode b_F_spoil 1 = .ok (.iload_n 2, 1) := by decide +kernel
theorem d_F_spoil_2 : decode b_F_spoil 2 = .ok (.iload_n 3, 1) := by decide +kernel
theorem d_F_spoil_3 : decode b_F_spoil 3 = .ok (.invokestatic 110, 3) := by decide +kernel
theorem d_F_spoil_6 : decode b_F_spoil 6 = .ok (.iload 4, 2) := by decide +kernel
theorem d_F_spoil_8 : decode b_F_spoil 8 = .ok (.ifCond .ge 13, 3) := by decide +kernel
theorem d_F_spoil_11 : decode b_F_spoil 11 = .ok (.new 42, 3) := by decide +kernel
theorem d_F_spoil_14 : decode b_F_spoil 14 = .ok (.dup, 1) := by decide +kernel
theorem d_F_spoil_15 : decode b_F_spoil 15 = .ok (.ldc 53, 2) := by decide +kernel
theorem d_F_spoil_17 : decode b_F_spoil 17 = .ok (.invokespecial 46, 3) := by decide +kernel
theorem d_F_spoil_20 : decode b_F_spoil 20 = .ok (.athrow, 1) := by decide +kernel
theorem d_F_spoil_21 : decode b_F_spoil 21 = .ok (.aload_n 0, 1) := by decide +kernel
theorem d_F_spoil_22 : decode b_F_spoil 22 = .ok (.getfield 12, 3) := by decide +kernel
theorem d_F_spoil_25 : decode b_F_spoil 25 = .ok (.iload_n 1, 1) := by decide +kernel
theorem d_F_spoil_26 : decode b_F_spoil 26 = .ok (.iload_n 2, 1) := by decide +kernel
theorem d_F_spoil_27 : decode b_F_spoil 27 = .ok (.invokestatic 114, 3) := by decide +kernel
theorem d_F_spoil_30 : decode b_F_spoil 30 = .ok (.iload_n 3, 1) := by decide +kernel
theorem d_F_spoil_31 : decode b_F_spoil 31 = .ok (.iload 4, 2) := by decide +kernel
theorem d_F_spoil_33 : decode b_F_spoil 33 = .ok (.invokevirtual 118, 3) := by decide +kernel
theorem d_F_spoil_36 : decode b_F_spoil 36 = .ok (.return_, 1) := by decide +kernel
theorem d_F_flash_0 : decode b_F_flash 0 = .ok (.iload_n 1, 1) := by decide +kernel
theorem d_F_flash_1 : decode b_F_flash 1 = .ok (.iload_n 2, 1) := by decide +kernel
theorem d_F_flash_2 : decode b_F_flash 2 = .ok (.iload_n 3, 1) := by decide +kernel
theorem d_F_flash_3 : decode b_F_flash 3 = .ok (.invokestatic 110, 3) := by decide +kernel
theorem d_F_flash_6 : decode b_F_flash 6 = .ok (.aload_n 0, 1) := by decide +kernel
theorem d_F_flash_7 : decode b_F_flash 7 = .ok (.getfield 12, 3) := by decide +kernel
theorem d_F_flash_10 : decode b_F_flash 10 = .ok (.iload_n 1, 1) := by decide +kernel
theorem d_F_flash_11 : decode b_F_flash 11 = .ok (.iload_n 2, 1) := by decide +kernel
theorem d_F_flash_12 : decode b_F_flash 12 = .ok (.invokestatic 114, 3) := by decide +kernel
theorem d_F_flash_15 : decode b_F_flash 15 = .ok (.iload_n 3, 1) := by decide +kernel
theorem d_F_flash_16 : decode b_F_flash 16 = .ok (.invokevirtual 121, 3) := by decide +kernel
theorem d_F_flash_19 : decode b_F_flash 19 = .ok (.ireturn, 1) := by decide +kernel
theorem d_F_mount_0 : decode b_F_mount 0 = .ok (.aload_n 0, 1) := by decide +kernel
theorem d_F_mount_1 : decode b_F_mount 1 = .ok (.getfield 20, 3) := by decide +kernel
theorem d_F_mount_4 : decode b_F_mount 4 = .ok (.iconst (-1), 1) := by decide +kernel
theorem d_F_mount_5 : decode b_F_mount 5 = .ok (.invokestatic 33, 3) := by decide +kernel
theorem d_F_mount_8 : decode b_F_mount 8 = .ok (.iconst (-1), 1) := by decide +kernel
theorem d_F_mount_9 : decode b_F_mount 9 = .ok (.istore_n 1, 1) := by decide +kernel
theorem d_F_mount_10 : decode b_F_mount 10 = .ok (.iconst 0, 1) := by decide +kernel
theorem d_F_mount_11 : decode b_F_mount 11 = .ok (.istore_n 2, 1) := by decide +kernel
theorem d_F_mount_12 : decode b_F_mount 12 = .ok (.iload_n 2, 1) := by decide +kernel
theorem d_F_mount_13 : decode b_F_mount 13 = .ok (.bipush 16, 2) := by decide +kernel
theorem d_F_mount_15 : decode b_F_mount 15 = .ok (.if_icmp .ge 90, 3) := by decide +kernel
theorem d_F_mount_18 : decode b_F_mount 18 = .ok (.aload_n 0, 1) := by decide +kernel
theorem d_F_mount_19 : decode b_F_mount 19 = .ok (.getfield 12, 3) := by decide +kernel
theorem d_F_mount_22 : decode b_F_mount 22 = .ok (.iload_n 2, 1) := by decide +kernel
theorem d_F_mount_23 : decode b_F_mount 23 = .ok (.invokevirtual 124, 3) := by decide +kernel
theorem d_F_mount_26 : decode b_F_mount 26 = .ok (.istore_n 3, 1) := by decide +kernel
theorem d_F_mount_27 : decode b_F_mount 27 = .ok (.iload_n 3, 1) := by decide +kernel
theorem d_F_mount_28 : decode b_F_mount 28 = .ok (.ldc 41, 2) := by decide +kernel
theorem d_F_mount_30 : decode b_F_mount 30 = .ok (.if_icmp .ne 13, 3) := by decide +kernel
theorem d_F_mount_33 : decode b_F_mount 33 = .ok (.aload_n 0, 1) := by decide +kernel
theorem d_F_mount_34 : decode b_F_mount 34 = .ok (.getfield 16, 3) := by decide +kernel
theorem d_F_mount_37 : decode b_F_mount 37 = .ok (.iload_n 2, 1) := by decide +kernel
theorem d_F_mount_38 : decode b_F_mount 38 = .ok (.iconst 0, 1) := by decide +kernel
theorem d_F_mount_39 : decode b_F_mount 39 = .ok (.iastore, 1) := by decide +kernel
theorem d_F_mount_40 : decode b_F_mount 40 = .ok (.goto 59, 3) := by decide +kernel
theorem d_F_mount_43 : decode b_F_mount 43 = .ok (.iload_n 3, 1) := by decide +kernel
theorem d_F_mount_44 : decode b_F_mount 44 = .ok (.invokestatic 127, 3) := by decide +kernel
theorem d_F_mount_47 : decode b_F_mount 47 = .ok (.ifCond .eq 13, 3) := by decide +kernel
theorem d_F_mount_50 : decode b_F_mount 50 = .ok (.aload_n 0, 1) := by decide +kernel
theorem d_F_mount_51 : decode b_F_mount 51 = .ok (.getfield 16, 3) := by decide +kernel
theorem d_F_mount_54 : decode b_F_mount 54 = .ok (.iload_n 2, 1) := by decide +kernel
theorem d_F_mount_55 : decode b_F_mount 55 = .ok (.iconst 2, 1) := by decide +kernel
theorem d_F_mount_56 : decode b_F_mount 56 = .ok (.iastore, 1) := by decide +kernel
theorem d_F_mount_57 : decode b_F_mount 57 = .ok (.goto 42, 3) := by decide +kernel
theorem d_F_mount_60 : decode b_F_mount 60 = .ok (.iload_n 3, 1) := by decide +kernel
theorem d_F_mount_61 : decode b_F_mount 61 = .ok (.sipush 4095, 3) := by decide +kernel
theorem d_F_mount_64 : decode b_F_mount 64 = .ok (.iand, 1) := by decide +kernel
theorem d_F_mount_65 : decode b_F_mount 65 = .ok (.istore 4, 2) := by decide +kernel
theorem d_F_mount_67 : decode b_F_mount 67 = .ok (.aload_n 0, 1) := by decide +kernel
theorem d_F_mount_68 : decode b_F_mount 68 = .ok (.iload_n 2, 1) := by decide +kernel
theorem d_F_mount_69 : decode b_F_mount 69 = .ok (.iload_n 3, 1) := by decide +kernel
theorem d_F_mount_70 : decode b_F_mount 70 = .ok (.bipush 12, 2) := by decide +kernel
theorem d_F_mount_72 : decode b_F_mount 72 = .ok (.iushr, 1) := by decide +kernel
theorem d_F_mount_73 : decode b_F_mount 73 = .ok (.iload 4, 2) := by decide +kernel
theorem d_F_mount_75 : decode b_F_mount 75 = .ok (.invokevirtual 130, 3) := by decide +kernel
theorem d_F_mount_78 : decode b_F_mount 78 = .ok (.iload_n 1, 1) := by decide +kernel
theorem d_F_mount_79 : decode b_F_mount 79 = .ok (.iconst (-1), 1) := by decide +kernel
theorem d_F_mount_80 : decode b_F_mount 80 = .ok (.if_icmp .eq 12, 3) := by decide +kernel
theorem d_F_mount_83 : decode b_F_mount 83 = .ok (.iload 4, 2) := by decide +kernel
theorem d_F_mount_85 : decode b_F_mount 85 = .ok (.iload_n 1, 1) := by decide +kernel
theorem d_F_mount_86 : decode b_F_mount 86 = .ok (.invokestatic 133, 3) := by decide +kernel
theorem d_F_mount_89 : decode b_F_mount 89 = .ok (.ifCond .eq 8, 3) := by decide +kernel
theorem d_F_mount_92 : decode b_F_mount 92 = .ok (.iload 4, 2) := by decide +kernel
theorem d_F_mount_94 : decode b_F_mount 94 = .ok (.goto 4, 3) := by decide +kernel
theorem d_F_mount_97 : decode b_F_mount 97 = .ok (.iload_n 1, 1) := by decide +kernel
theorem d_F_mount_98 : decode b_F_mount 98 = .ok (.istore_n 1, 1) := by decide +kernel
theorem d_F_mount_99 : decode b_F_mount 99 = .ok (.iinc 2 1, 3) := by decide +kernel
theorem d_F_mount_102 : decode b_F_mount 102 = .ok (.goto (-90), 3) := by decide +kernel
theorem d_F_mount_105 : decode b_F_mount 105 = .ok (.aload_n 0, 1) := by decide +kernel
theorem d_F_mount_106 : decode b_F_mount 106 = .ok (.iload_n 1, 1) := by decide +kernel
theorem d_F_mount_107 : decode b_F_mount 107 = .ok (.iconst (-1), 1) := by decide +kernel
theorem d_F_mount_108 : decode b_F_mount 108 = .ok (.if_icmp .ne 7, 3) := by decide +kernel
theorem d_F_mount_111 : decode b_F_mount 111 = .ok (.iconst 0, 1) := by decide +kernel
theorem d_F_mount_112 : decode b_F_mount 112 = .ok (.goto 7, 3) := by decide +kernel
theorem d_F_mount_115 : decode b_F_mount 115 = .ok (.iload_n 1, 1) := by decide +kernel
theorem d_F_mount_116 : decode b_F_mount 116 = .ok (.invokestatic 137, 3) := by decide +kernel
theorem d_F_mount_119 : decode b_F_mount 119 = .ok (.putfield 26, 3) := by decide +kernel
theorem d_F_mount_122 : decode b_F_mount 122 = .ok (.aload_n 0, 1) := by decide +kernel
theorem d_F_mount_123 : decode b_F_mount 123 = .ok (.invokevirtual 140, 3) := by decide +kernel
theorem d_F_mount_126 : decode b_F_mount 126 = .ok (.ireturn, 1) := by decide +kernel
theorem d_F_clean_0 : decode b_F_clean 0 = .ok (.aload_n 0, 1) := by decide +kernel
theorem d_F_clean_1 : decode b_F_clean 1 = .ok (.invokevirtual 79, 3) := by decide +kernel
theorem d_F_clean_4 : decode b_F_clean 4 = .ok (.istore_n 1, 1) := by decide +kernel
theorem d_F_clean_5 : decode b_F_clean 5 = .ok (.iload_n 1, 1) := by decide +kernel
theorem d_F_clean_6 : decode b_F_clean 6 = .ok (.iconst (-1), 1) := by decide +kernel
theorem d_F_clean_7 : decode b_F_clean 7 = .ok (.if_icmp .ne 13, 3) := by decide +kernel
theorem d_F_clean_10 : decode b_F_clean 10 = .ok (.new 83, 3) := by decide +kernel
theorem d_F_clean_13 : decode b_F_clean 13 = .ok (.dup, 1) := by decide +kernel
theorem d_F_clean_14 : decode b_F_clean 14 = .ok (.ldc 143, 2) := by decide +kernel
theorem d_F_clean_16 : decode b_F_clean 16 = .ok (.invokespecial 87, 3) := by decide +kernel
theorem d_F_clean_19 : decode b_F_clean 19 = .ok (.athrow, 1) := by decide +kernel
theorem d_F_clean_20 : decode b_F_clean 20 = .ok (.aload_n 0, 1) := by decide +kernel
theorem d_F_clean_21 : decode b_F_clean 21 = .ok (.iload_n 1, 1) := by decide +kernel
theorem d_F_clean_22 : decode b_F_clean 22 = .ok (.invokevirtual 88, 3) := by decide +kernel
theorem d_F_clean_25 : decode b_F_clean 25 = .ok (.iload_n 1, 1) := by decide +kernel
theorem d_F_clean_26 : decode b_F_clean 26 = .ok (.ireturn, 1) := by decide +kernel
theorem d_F_place_0 : decode b_F_place 0 = .ok (.iload_n 1, 1) := by decide +kernel
theorem d_F_place_1 : decode b_F_place 1 = .ok (.invokestatic 71, 3) := by decide +kernel
theorem d_F_place_4 : decode b_F_place 4 = .ok (.aload_n 0, 1) := by decide +kernel
theorem d_F_place_5 : decode b_F_place 5 = .ok (.getfield 20, 3) := by decide +kernel
theorem d_F_place_8 : decode b_F_place 8 = .ok (.iload_n 1, 1) := by decide +kernel
theorem d_F_place_9 : decode b_F_place 9 = .ok (.iaload, 1) := by decide +kernel
theorem d_F_place_10 : decode b_F_place 10 = .ok (.ireturn, 1) := by decide +kernel
theorem d_F_state_0 : decode b_F_state 0 = .ok (.iload_n 1, 1) := by decide +kernel
theorem d_F_state_1 : decode b_F_state 1 = .ok (.invokestatic 145, 3) := by decide +kernel
theorem d_F_state_4 : decode b_F_state 4 = .ok (.iload_n 2, 1) := by decide +kernel
theorem d_F_state_5 : decode b_F_state 5 = .ok (.invokestatic 148, 3) := by decide +kernel
theorem d_F_state_8 : decode b_F_state 8 = .ok (.aload_n 0, 1) := by decide +kernel
theorem d_F_state_9 : decode b_F_state 9 = .ok (.getfield 16, 3) := by decide +kernel
theorem d_F_state_12 : decode b_F_state 12 = .ok (.iload_n 1, 1) := by decide +kernel
theorem d_F_state_13 : decode b_F_state 13 = .ok (.iload_n 2, 1) := by decide +kernel
theorem d_F_state_14 : decode b_F_state 14 = .ok (.invokestatic 114, 3) := by decide +kernel
theorem d_F_state_17 : decode b_F_state 17 = .ok (.iaload, 1) := by decide +kernel
theorem d_F_state_18 : decode b_F_state 18 = .ok (.ireturn, 1) := by decide +kernel
theorem d_F_wear_0 : decode b_F_wear 0 = .ok (.iload_n 1, 1) := by decide +kernel
theorem d_F_wear_1 : decode b_F_wear 1 = .ok (.invokestatic 145, 3) := by decide +kernel
theorem d_F_wear_4 : decode b_F_wear 4 = .ok (.aload_n 0, 1) := by decide +kernel
theorem d_F_wear_5 : decode b_F_wear 5 = .ok (.getfield 12, 3) := by decide +kernel
theorem d_F_wear_8 : decode b_F_wear 8 = .ok (.iload_n 1, 1) := by decide +kernel
theorem d_F_wear_9 : decode b_F_wear 9 = .ok (.invokevirtual 151, 3) := by decide +kernel
theorem d_F_wear_12 : decode b_F_wear 12 = .ok (.ireturn, 1) := by decide +kernel
theorem d_F_serial_0 : decode b_F_serial 0 = .ok (.aload_n 0, 1) := by decide +kernel
theorem d_F_serial_1 : decode b_F_serial 1 = .ok (.getfield 26, 3) := by decide +kernel
theorem d_F_serial_4 : decode b_F_serial 4 = .ok (.ireturn, 1) := by decide +kernel
