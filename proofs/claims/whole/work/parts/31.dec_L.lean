abbrev wH (cA cL : ClassId) (h0 q1 q2 q3 q4 q5 q6 qo : Nat) (st pl tk wd er : Nat → Int32) (nx md : Int32) (ou : Nat → Int64) : va_W := [(h0, .inr (1, [.ref q1, .ref q2, .ref q3, .ref q4, .int nx, .int md])), (q1, .inr (0, [.ref q5, .ref q6])), (q2, .inl (cA, 16, .inl st)), (q3, .inl (cA, 8, .inl pl)), (q4, .inl (cA, 8, .inl tk)), (q5, .inl (cA, 80, .inl wd)), (q6, .inl (cA, 4, .inl er)), (qo, .inl (cL, 1, .inr (.inl ou)))]
abbrev wW (cA cL : ClassId) (h0 q1 q2 q3 q4 q5 q6 g0 g1 g2 g3 g4 g5 g6 g7 qo : Nat) (st pl tk wd er mrm mfl mus mlg mse mwe mwh : Nat → Int32) (nx md mth mnx mmd mwr : Int32) (ou : Nat → Int64) : va_W := [(h0, .inr (1, [.ref q1, .ref q2, .ref q3, .ref q4, .int nx, .int md])), (q1, .inr (0, [.ref q5, .ref q6])), (q2, .inl (cA, 16, .inl st)), (q3, .inl (cA, 8, .inl pl)), (q4, .inl (cA, 8, .inl tk)), (q5, .inl (cA, 80, .inl wd)), (q6, .inl (cA, 4, .inl er)), (g0, .inr (2, [.int mth, .ref g1, .ref g2, .ref g3, .ref g4, .ref g5, .ref g6, .ref g7, .int mnx, .int mmd, .int mwr])), (g1, .inl (cA, 31, .inl mrm)), (g2, .inl (cA, 80, .inl mfl)), (g3, .inl (cA, 16, .inl mus)), (g4, .inl (cA, 16, .inl mlg)), (g5, .inl (cA, 16, .inl mse)), (g6, .inl (cA, 4, .inl mwe)), (g7, .inl (cA, 8, .inl mwh)), (qo, .inl (cL, 1, .inr (.inl ou)))]
theorem d_L_encode_0 : decode b_L_encode 0 = .ok (.aload_n 2, 1) := by decide +kernel
theorem d_L_encode_1 : decode b_L_encode 1 = .ok (.iconst 0, 1) := by decide +kernel
theorem d_L_encode_2 : decode b_L_encode 2 = .ok (.aload_n 0, 1) := by decide +kernel
theorem d_L_encode_3 : decode b_L_encode 3 = .ok (.iload_n 1, 1) := by decide +kernel
theorem d_L_encode_4 : decode b_L_encode 4 = .ok (.invokevirtual 7, 3) := by decide +kernel
theorem d_L_encode_7 : decode b_L_encode 7 = .ok (.i2l, 1) := by decide +kernel
theorem d_L_encode_8 : decode b_L_encode 8 = .ok (.lastore, 1) := by decide +kernel
theorem d_L_encode_9 : decode b_L_encode 9 = .ok (.goto 6, 3) := by decide +kernel
theorem d_L_encode_12 : decode b_L_encode 12 = .ok (.astore_n 3, 1) := by decide +kernel
theorem d_L_encode_13 : decode b_L_encode 13 = .ok (.iconst 1, 1) := by decide +kernel
theorem d_L_encode_14 : decode b_L_encode 14 = .ok (.ireturn, 1) := by decide +kernel
theorem d_L_encode_15 : decode b_L_encode 15 = .ok (.iconst 0, 1) := by decide +kernel
theorem d_L_encode_16 : decode b_L_encode 16 = .ok (.ireturn, 1) := by decide +kernel
theorem d_L_decode_0 : decode b_L_decode 0 = .ok (.aload_n 2, 1) := by decide +kernel
theorem d_L_decode_1 : decode b_L_decode 1 = .ok (.iconst 0, 1) := by decide +kernel
theorem d_L_decode_2 : decode b_L_decode 2 = .ok (.aload_n 0, 1) := by decide +kernel
theorem d_L_decode_3 : decode b_L_decode 3 = .ok (.iload_n 1, 1) := by decide +kernel
theorem d_L_decode_4 : decode b_L_decode 4 = .ok (.invokevirtual 15, 3) := by decide +kernel
theorem d_L_decode_7 : decode b_L_decode 7 = .ok (.i2l, 1) := by decide +kernel
theorem d_L_decode_8 : decode b_L_decode 8 = .ok (.lastore, 1) := by decide +kernel
theorem d_L_decode_9 : decode b_L_decode 9 = .ok (.goto 9, 3) := by decide +kernel
theorem d_L_decode_12 : decode b_L_decode 12 = .ok (.astore_n 3, 1) := by decide +kernel
theorem d_L_decode_13 : decode b_L_decode 13 = .ok (.iconst 1, 1) := by decide +kernel
theorem d_L_decode_14 : decode b_L_decode 14 = .ok (.ireturn, 1) := by decide +kernel
theorem d_L_decode_15 : decode b_L_decode 15 = .ok (.astore_n 3, 1) := by decide +kernel
theorem d_L_decode_16 : decode b_L_decode 16 = .ok (.iconst 2, 1) := by decide +kernel
theorem d_L_decode_17 : decode b_L_decode 17 = .ok (.ireturn, 1) := by decide +kernel
theorem d_L_decode_18 : decode b_L_decode 18 = .ok (.iconst 0, 1) := by decide +kernel
theorem d_L_decode_19 : decode b_L_decode 19 = .ok (.ireturn, 1) := by decide +kernel
theorem d_L_write_0 : decode b_L_write 0 = .ok (.aload_n 0, 1) := by decide +kernel
theorem d_L_write_1 : decode b_L_write 1 = .ok (.iload_n 1, 1) := by decide +kernel
theorem d_L_write_2 : decode b_L_write 2 = .ok (.lload_n 2, 1) := by decide +kernel
theorem d_L_write_3 : decode b_L_write 3 = .ok (.invokevirtual 20, 3) := by decide +kernel
theorem d_L_write_6 : decode b_L_write 6 = .ok (.goto 11, 3) := by decide +kernel
theorem d_L_write_9 : decode b_L_write 9 = .ok (.astore 4, 2) := by decide +kernel
theorem d_L_write_11 : decode b_L_write 11 = .ok (.iconst 1, 1) := by decide +kernel
theorem d_L_write_12 : decode b_L_write 12 = .ok (.ireturn, 1) := by decide +kernel
theorem d_L_write_13 : decode b_L_write 13 = .ok (.astore 4, 2) := by decide +kernel
theorem d_L_write_15 : decode b_L_write 15 = .ok (.iconst 2, 1) := by decide +kernel
theorem d_L_write_16 : decode b_L_write 16 = .ok (.ireturn, 1) := by decide +kernel
theorem d_L_write_17 : decode b_L_write 17 = .ok (.iconst 0, 1) := by decide +kernel
theorem d_L_write_18 : decode b_L_write 18 = .ok (.ireturn, 1) := by decide +kernel
theorem d_L_read_0 : decode b_L_read 0 = .ok (.aload_n 2, 1) := by decide +kernel
theorem d_L_read_1 : decode b_L_read 1 = .ok (.iconst 0, 1) := by decide +kernel
theorem d_L_read_2 : decode b_L_read 2 = .ok (.aload_n 0, 1) := by decide +kernel
theorem d_L_read_3 : decode b_L_read 3 = .ok (.iload_n 1, 1) := by decide +kernel
theorem d_L_read_4 : decode b_L_read 4 = .ok (.invokevirtual 26, 3) := by decide +kernel
theorem d_L_read_7 : decode b_L_read 7 = .ok (.lastore, 1) := by decide +kernel
theorem d_L_read_8 : decode b_L_read 8 = .ok (.goto 12, 3) := by decide +kernel
theorem d_L_read_11 : decode b_L_read 11 = .ok (.astore_n 3, 1) := by decide +kernel
theorem d_L_read_12 : decode b_L_read 12 = .ok (.iconst 1, 1) := by decide +kernel
theorem d_L_read_13 : decode b_L_read 13 = .ok (.ireturn, 1) := by decide +kernel
theorem d_L_read_14 : decode b_L_read 14 = .ok (.astore_n 3, 1) := by decide +kernel
theorem d_L_read_15 : decode b_L_read 15 = .ok (.iconst 2, 1) := by decide +kernel
theorem d_L_read_16 : decode b_L_read 16 = .ok (.ireturn, 1) := by decide +kernel
theorem d_L_read_17 : decode b_L_read 17 = .ok (.astore_n 3, 1) := by decide +kernel
theorem d_L_read_18 : decode b_L_read 18 = .ok (.iconst 3, 1) := by decide +kernel
theorem d_L_read_19 : decode b_L_read 19 = .ok (.ireturn, 1) := by decide +kernel
theorem d_L_read_20 : decode b_L_read 20 = .ok (.iconst 0, 1) := by decide +kernel
theorem d_L_read_21 : decode b_L_read 21 = .ok (.ireturn, 1) := by decide +kernel
theorem d_L_trim_0 : decode b_L_trim 0 = .ok (.aload_n 2, 1) := by decide +kernel
theorem d_L_trim_1 : decode b_L_trim 1 = .ok (.iconst 0, 1) := by decide +kernel
theorem d_L_trim_2 : decode b_L_trim 2 = .ok (.aload_n 0, 1) := by decide +kernel
theorem d_L_trim_3 : decode b_L_trim 3 = .ok (.iload_n 1, 1) := by decide +kernel
theorem d_L_trim_4 : decode b_L_trim 4 = .ok (.invokevirtual 30, 3) := by decide +kernel
theorem d_L_trim_7 : decode b_L_trim 7 = .ok (.ifCond .eq 7, 3) := by decide +kernel
theorem d_L_trim_10 : decode b_L_trim 10 = .ok (.lconst 1, 1) := by decide +kernel
theorem d_L_trim_11 : decode b_L_trim 11 = .ok (.goto 4, 3) := by decide +kernel
theorem d_L_trim_14 : decode b_L_trim 14 = .ok (.lconst 0, 1) := by decide +kernel
theorem d_L_trim_15 : decode b_L_trim 15 = .ok (.lastore, 1) := by decide +kernel
theorem d_L_trim_16 : decode b_L_trim 16 = .ok (.goto 6, 3) := by decide +kernel
theorem d_L_trim_19 : decode b_L_trim 19 = .ok (.astore_n 3, 1) := by decide +kernel
theorem d_L_trim_20 : decode b_L_trim 20 = .ok (.iconst 1, 1) := by decide +kernel
theorem d_L_trim_21 : decode b_L_trim 21 = .ok (.ireturn, 1) := by decide +kernel
theorem d_L_trim_22 : decode b_L_trim 22 = .ok (.iconst 0, 1) := by decide +kernel
theorem d_L_trim_23 : decode b_L_trim 23 = .ok (.ireturn, 1) := by decide +kernel
theorem d_L_spoil_0 : decode b_L_spoil 0 = .ok (.aload_n 0, 1) := by decide +kernel
theorem d_L_spoil_1 : decode b_L_spoil 1 = .ok (.iload_n 1, 1) := by decide +kernel
theorem d_L_spoil_2 : decode b_L_spoil 2 = .ok (.iload_n 2, 1) := by decide +kernel
theorem d_L_spoil_3 : decode b_L_spoil 3 = .ok (.iload_n 3, 1) := by decide +kernel
theorem d_L_spoil_4 : decode b_L_spoil 4 = .ok (.iload 4, 2) := by decide +kernel
theorem d_L_spoil_6 : decode b_L_spoil 6 = .ok (.invokevirtual 34, 3) := by decide +kernel
theorem d_L_spoil_9 : decode b_L_spoil 9 = .ok (.goto 7, 3) := by decide +kernel
theorem d_L_spoil_12 : decode b_L_spoil 12 = .ok (.astore 5, 2) := by decide +kernel
theorem d_L_spoil_14 : decode b_L_spoil 14 = .ok (.iconst 1, 1) := by decide +kernel
theorem d_L_spoil_15 : decode b_L_spoil 15 = .ok (.ireturn, 1) := by decide +kernel
theorem d_L_spoil_16 : decode b_L_spoil 16 = .ok (.iconst 0, 1) := by decide +kernel
theorem d_L_spoil_17 : decode b_L_spoil 17 = .ok (.ireturn, 1) := by decide +kernel
theorem d_L_flash_0 : decode b_L_flash 0 = .ok (.aload 4, 2) := by decide +kernel
theorem d_L_flash_2 : decode b_L_flash 2 = .ok (.iconst 0, 1) := by decide +kernel
theorem d_L_flash_3 : decode b_L_flash 3 = .ok (.aload_n 0, 1) := by decide +kernel
theorem d_L_flash_4 : decode b_L_flash 4 = .ok (.iload_n 1, 1) := by decide +kernel
theorem d_L_flash_5 : decode b_L_flash 5 = .ok (.iload_n 2, 1) := by decide +kernel
theorem d_L_flash_6 : decode b_L_flash 6 = .ok (.iload_n 3, 1) := by decide +kernel
theorem d_L_flash_7 : decode b_L_flash 7 = .ok (.invokevirtual 38, 3) := by decide +kernel
theorem d_L_flash_10 : decode b_L_flash 10 = .ok (.i2l, 1) := by decide +kernel
theorem d_L_flash_11 : decode b_L_flash 11 = .ok (.lastore, 1) := by decide +kernel
theorem d_L_flash_12 : decode b_L_flash 12 = .ok (.goto 7, 3) := by decide +kernel
theorem d_L_flash_15 : decode b_L_flash 15 = .ok (.astore 5, 2) := by decide +kernel
theorem d_L_flash_17 : decode b_L_flash 17 = .ok (.iconst 1, 1) := by decide +kernel
theorem d_L_flash_18 : decode b_L_flash 18 = .ok (.ireturn, 1) := by decide +kernel
theorem d_L_flash_19 : decode b_L_flash 19 = .ok (.iconst 0, 1) := by decide +kernel
theorem d_L_flash_20 : decode b_L_flash 20 = .ok (.ireturn, 1) := by decide +kernel
theorem d_L_clean_0 : decode b_L_clean 0 = .ok (.aload_n 1, 1) := by decide +kernel
theorem d_L_clean_1 : decode b_L_clean 1 = .ok (.iconst 0, 1) := by decide +kernel
theorem d_L_clean_2 : decode b_L_clean 2 = .ok (.aload_n 0, 1) := by decide +kernel
theorem d_L_clean_3 : decode b_L_clean 3 = .ok (.invokevirtual 42, 3) := by decide +kernel
theorem d_L_clean_6 : decode b_L_clean 6 = .ok (.i2l, 1) := by decide +kernel
theorem d_L_clean_7 : decode b_L_clean 7 = .ok (.lastore, 1) := by decide +kernel
theorem d_L_clean_8 : decode b_L_clean 8 = .ok (.goto 6, 3) := by decide +kernel
theorem d_L_clean_11 : decode b_L_clean 11 = .ok (.astore_n 2, 1) := by decide +kernel
theorem d_L_clean_12 : decode b_L_clean 12 = .ok (.iconst 1, 1) := by decide +kernel
theorem d_L_clean_13 : decode b_L_clean 13 = .ok (.ireturn, 1) := by decide +kernel
theorem d_L_clean_14 : decode b_L_clean 14 = .ok (.iconst 0, 1) := by decide +kernel
theorem d_L_clean_15 : decode b_L_clean 15 = .ok (.ireturn, 1) := by decide +kernel
theorem d_L_place_0 : decode b_L_place 0 = .ok (.aload_n 2, 1) := by decide +kernel
theorem d_L_place_1 : decode b_L_place 1 = .ok (.iconst 0, 1) := by decide +kernel
theorem d_L_place_2 : decode b_L_place 2 = .ok (.aload_n 0, 1) := by decide +kernel
theorem d_L_place_3 : decode b_L_place 3 = .ok (.iload_n 1, 1) := by decide +kernel
theorem d_L_place_4 : decode b_L_place 4 = .ok (.invokevirtual 46, 3) := by decide +kernel
theorem d_L_place_7 : decode b_L_place 7 = .ok (.i2l, 1) := by decide +kernel
theorem d_L_place_8 : decode b_L_place 8 = .ok (.lastore, 1) := by decide +kernel
theorem d_L_place_9 : decode b_L_place 9 = .ok (.goto 6, 3) := by decide +kernel
theorem d_L_place_12 : decode b_L_place 12 = .ok (.astore_n 3, 1) := by decide +kernel
theorem d_L_place_13 : decode b_L_place 13 = .ok (.iconst 1, 1) := by decide +kernel
theorem d_L_place_14 : decode b_L_place 14 = .ok (.ireturn, 1) := by decide +kernel
theorem d_L_place_15 : decode b_L_place 15 = .ok (.iconst 0, 1) := by decide +kernel
theorem d_L_place_16 : decode b_L_place 16 = .ok (.ireturn, 1) := by decide +kernel
theorem d_L_state_0 : decode b_L_state 0 = .ok (.aload_n 3, 1) := by decide +kernel
theorem d_L_state_1 : decode b_L_state 1 = .ok (.iconst 0, 1) := by decide +kernel
theorem d_L_state_2 : decode b_L_state 2 = .ok (.aload_n 0, 1) := by decide +kernel
theorem d_L_state_3 : decode b_L_state 3 = .ok (.iload_n 1, 1) := by decide +kernel
theorem d_L_state_4 : decode b_L_state 4 = .ok (.iload_n 2, 1) := by decide +kernel
theorem d_L_state_5 : decode b_L_state 5 = .ok (.invokevirtual 49, 3) := by decide +kernel
theorem d_L_state_8 : decode b_L_state 8 = .ok (.i2l, 1) := by decide +kernel
theorem d_L_state_9 : decode b_L_state 9 = .ok (.lastore, 1) := by decide +kernel
theorem d_L_state_10 : decode b_L_state 10 = .ok (.goto 7, 3) := by decide +kernel
theorem d_L_state_13 : decode b_L_state 13 = .ok (.astore 4, 2) := by decide +kernel
theorem d_L_state_15 : decode b_L_state 15 = .ok (.iconst 1, 1) := by decide +kernel
theorem d_L_state_16 : decode b_L_state 16 = .ok (.ireturn, 1) := by decide +kernel
theorem d_L_state_17 : decode b_L_state 17 = .ok (.iconst 0, 1) := by decide +kernel
theorem d_L_state_18 : decode b_L_state 18 = .ok (.ireturn, 1) := by decide +kernel
theorem d_L_wear_0 : decode b_L_wear 0 = .ok (.aload_n 2, 1) := by decide +kernel
theorem d_L_wear_1 : decode b_L_wear 1 = .ok (.iconst 0, 1) := by decide +kernel
theorem d_L_wear_2 : decode b_L_wear 2 = .ok (.aload_n 0, 1) := by decide +kernel
theorem d_L_wear_3 : decode b_L_wear 3 = .ok (.iload_n 1, 1) := by decide +kernel
theorem d_L_wear_4 : decode b_L_wear 4 = .ok (.invokevirtual 53, 3) := by decide +kernel
theorem d_L_wear_7 : decode b_L_wear 7 = .ok (.i2l, 1) := by decide +kernel
theorem d_L_wear_8 : decode b_L_wear 8 = .ok (.lastore, 1) := by decide +kernel
theorem d_L_wear_9 : decode b_L_wear 9 = .ok (.goto 6, 3) := by decide +kernel
theorem d_L_wear_12 : decode b_L_wear 12 = .ok (.astore_n 3, 1) := by decide +kernel
theorem d_L_wear_13 : decode b_L_wear 13 = .ok (.iconst 1, 1) := by decide +kernel
theorem d_L_wear_14 : decode b_L_wear 14 = .ok (.ireturn, 1) := by decide +kernel
theorem d_L_wear_15 : decode b_L_wear 15 = .ok (.iconst 0, 1) := by decide +kernel
theorem d_L_wear_16 : decode b_L_wear 16 = .ok (.ireturn, 1) := by decide +kernel
theorem bq_1_143 : (Jvm.Cond.code ({ cls := "FlashStore", name := "encode", desc := "(I)I" } : Jvm.MethodName) prog_1_method_2_code (2 : Nat) (Option.some Jvm.ClassFile.FieldType.int)) ∈ bw := bw_in (List.mem_append_right _ (List.mem_append_left _ (List.mem_of_getElem? (i := 143) rfl))) rfl
theorem bq_1_140 : (Jvm.Cond.methodLink "FlashStoreLaw" (7 : Nat) ({ cls := "FlashStore", name := "encode", desc := "(I)I" } : Jvm.MethodName)) ∈ bw := bw_in (List.mem_append_right _ (List.mem_append_left _ (List.mem_of_getElem? (i := 140) rfl))) rfl
theorem bq_1_141 : (Jvm.Cond.instanceMethod ({ cls := "FlashStore", name := "encode", desc := "(I)I" } : Jvm.MethodName)) ∈ bw := bw_in (List.mem_append_right _ (List.mem_append_left _ (List.mem_of_getElem? (i := 141) rfl))) rfl
theorem bq_1_142 : (Jvm.Cond.selects "FlashStore" ({ cls := "FlashStore", name := "encode", desc := "(I)I" } : Jvm.MethodName) ({ cls := "FlashStore", name := "encode", desc := "(I)I" } : Jvm.MethodName)) ∈ bw := bw_in (List.mem_append_right _ (List.mem_append_left _ (List.mem_of_getElem? (i := 142) rfl))) rfl
theorem bq_1_139 : (Jvm.Cond.classLink "FlashStoreLaw" (13 : Nat) "java/lang/IllegalArgumentException") ∈ bw := bw_in (List.mem_append_right _ (List.mem_append_left _ (List.mem_of_getElem? (i := 139) rfl))) rfl
theorem bq_1_222 : (Jvm.Cond.code ({ cls := "FlashStore", name := "decode", desc := "(I)I" } : Jvm.MethodName) prog_1_method_3_code (3 : Nat) (Option.some Jvm.ClassFile.FieldType.int)) ∈ bw := bw_in (List.mem_append_right _ (List.mem_append_left _ (List.mem_of_getElem? (i := 222) rfl))) rfl
theorem bq_1_219 : (Jvm.Cond.methodLink "FlashStoreLaw" (15 : Nat) ({ cls := "FlashStore", name := "decode", desc := "(I)I" } : Jvm.MethodName)) ∈ bw := bw_in (List.mem_append_right _ (List.mem_append_left _ (List.mem_of_getElem? (i := 219) rfl))) rfl
theorem bq_1_220 : (Jvm.Cond.instanceMethod ({ cls := "FlashStore", name := "decode", desc := "(I)I" } : Jvm.MethodName)) ∈ bw := bw_in (List.mem_append_right _ (List.mem_append_left _ (List.mem_of_getElem? (i := 220) rfl))) rfl
theorem bq_1_221 : (Jvm.Cond.selects "FlashStore" ({ cls := "FlashStore", name := "decode", desc := "(I)I" } : Jvm.MethodName) ({ cls := "FlashStore", name := "decode", desc := "(I)I" } : Jvm.MethodName)) ∈ bw := bw_in (List.mem_append_right _ (List.mem_append_left _ (List.mem_of_getElem? (i := 221) rfl))) rfl
theorem bq_1_218 : (Jvm.Cond.classLink "FlashStoreLaw" (18 : Nat) "java/lang/ArithmeticException") ∈ bw := bw_in (List.mem_append_right _ (List.mem_append_left _ (List.mem_of_getElem? (i := 218) rfl))) rfl
theorem bq_2_10 : (Jvm.Cond.code ({ cls := "FlashStore", name := "write", desc := "(IJ)V" } : Jvm.MethodName) prog_1_method_5_code (6 : Nat) (Option.none : Option Jvm.ClassFile.FieldType)) ∈ bw := bw_in (List.mem_append_right _ (List.mem_append_right _ (List.mem_append_left _ (List.mem_of_getElem? (i := 10) rfl)))) rfl
theorem bq_2_7 : (Jvm.Cond.methodLink "FlashStoreLaw" (20 : Nat) ({ cls := "FlashStore", name := "write", desc := "(IJ)V" } : Jvm.MethodName)) ∈ bw := bw_in (List.mem_append_right _ (List.mem_append_right _ (List.mem_append_left _ (List.mem_of_getElem? (i := 7) rfl)))) rfl
theorem bq_2_8 : (Jvm.Cond.instanceMethod ({ cls := "FlashStore", name := "write", desc := "(IJ)V" } : Jvm.MethodName)) ∈ bw := bw_in (List.mem_append_right _ (List.mem_append_right _ (List.mem_append_left _ (List.mem_of_getElem? (i := 8) rfl)))) rfl
theorem bq_2_9 : (Jvm.Cond.selects "FlashStore" ({ cls := "FlashStore", name := "write", desc := "(IJ)V" } : Jvm.MethodName) ({ cls := "FlashStore", name := "write", desc := "(IJ)V" } : Jvm.MethodName)) ∈ bw := bw_in (List.mem_append_right _ (List.mem_append_right _ (List.mem_append_left _ (List.mem_of_getElem? (i := 9) rfl)))) rfl
theorem bq_2_6 : (Jvm.Cond.classLink "FlashStoreLaw" (24 : Nat) "java/lang/IllegalStateException") ∈ bw := bw_in (List.mem_append_right _ (List.mem_append_right _ (List.mem_append_left _ (List.mem_of_getElem? (i := 6) rfl)))) rfl
theorem bq_2_114 : (Jvm.Cond.code ({ cls := "FlashStore", name := "read", desc := "(I)J" } : Jvm.MethodName) prog_1_method_6_code (3 : Nat) (Option.some Jvm.ClassFile.FieldType.long)) ∈ bw := bw_in (List.mem_append_right _ (List.mem_append_right _ (List.mem_append_left _ (List.mem_of_getElem? (i := 114) rfl)))) rfl
theorem bq_2_111 : (Jvm.Cond.methodLink "FlashStoreLaw" (26 : Nat) ({ cls := "FlashStore", name := "read", desc := "(I)J" } : Jvm.MethodName)) ∈ bw := bw_in (List.mem_append_right _ (List.mem_append_right _ (List.mem_append_left _ (List.mem_of_getElem? (i := 111) rfl)))) rfl
theorem bq_2_112 : (Jvm.Cond.instanceMethod ({ cls := "FlashStore", name := "read", desc := "(I)J" } : Jvm.MethodName)) ∈ bw := bw_in (List.mem_append_right _ (List.mem_append_right _ (List.mem_append_left _ (List.mem_of_getElem? (i := 112) rfl)))) rfl
theorem bq_2_113 : (Jvm.Cond.selects "FlashStore" ({ cls := "FlashStore", name := "read", desc := "(I)J" } : Jvm.MethodName) ({ cls := "FlashStore", name := "read", desc := "(I)J" } : Jvm.MethodName)) ∈ bw := bw_in (List.mem_append_right _ (List.mem_append_right _ (List.mem_append_left _ (List.mem_of_getElem? (i := 113) rfl)))) rfl
theorem bq_2_123 : (Jvm.Cond.code ({ cls := "FlashStore", name := "trim", desc := "(I)Z" } : Jvm.MethodName) prog_1_method_7_code (3 : Nat) (Option.some Jvm.ClassFile.FieldType.boolean)) ∈ bw := bw_in (List.mem_append_right _ (List.mem_append_right _ (List.mem_append_left _ (List.mem_of_getElem? (i := 123) rfl)))) rfl
theorem bq_2_120 : (Jvm.Cond.methodLink "FlashStoreLaw" (30 : Nat) ({ cls := "FlashStore", name := "trim", desc := "(I)Z" } : Jvm.MethodName)) ∈ bw := bw_in (List.mem_append_right _ (List.mem_append_right _ (List.mem_append_left _ (List.mem_of_getElem? (i := 120) rfl)))) rfl
theorem bq_2_121 : (Jvm.Cond.instanceMethod ({ cls := "FlashStore", name := "trim", desc := "(I)Z" } : Jvm.MethodName)) ∈ bw := bw_in (List.mem_append_right _ (List.mem_append_right _ (List.mem_append_left _ (List.mem_of_getElem? (i := 121) rfl)))) rfl
theorem bq_2_122 : (Jvm.Cond.selects "FlashStore" ({ cls := "FlashStore", name := "trim", desc := "(I)Z" } : Jvm.MethodName) ({ cls := "FlashStore", name := "trim", desc := "(I)Z" } : Jvm.MethodName)) ∈ bw := bw_in (List.mem_append_right _ (List.mem_append_right _ (List.mem_append_left _ (List.mem_of_getElem? (i := 122) rfl)))) rfl
theorem bq_2_130 : (Jvm.Cond.code ({ cls := "FlashStore", name := "spoil", desc := "(IIII)V" } : Jvm.MethodName) prog_1_method_8_code (5 : Nat) (Option.none : Option Jvm.ClassFile.FieldType)) ∈ bw := bw_in (List.mem_append_right _ (List.mem_append_right _ (List.mem_append_left _ (List.mem_of_getElem? (i := 130) rfl)))) rfl
theorem bq_2_127 : (Jvm.Cond.methodLink "FlashStoreLaw" (34 : Nat) ({ cls := "FlashStore", name := "spoil", desc := "(IIII)V" } : Jvm.MethodName)) ∈ bw := bw_in (List.mem_append_right _ (List.mem_append_right _ (List.mem_append_left _ (List.mem_of_getElem? (i := 127) rfl)))) rfl
theorem bq_2_128 : (Jvm.Cond.instanceMethod ({ cls := "FlashStore", name := "spoil", desc := "(IIII)V" } : Jvm.MethodName)) ∈ bw := bw_in (List.mem_append_right _ (List.mem_append_right _ (List.mem_append_left _ (List.mem_of_getElem? (i := 128) rfl)))) rfl
theorem bq_2_129 : (Jvm.Cond.selects "FlashStore" ({ cls := "FlashStore", name := "spoil", desc := "(IIII)V" } : Jvm.MethodName) ({ cls := "FlashStore", name := "spoil", desc := "(IIII)V" } : Jvm.MethodName)) ∈ bw := bw_in (List.mem_append_right _ (List.mem_append_right _ (List.mem_append_left _ (List.mem_of_getElem? (i := 129) rfl)))) rfl
theorem bq_2_153 : (Jvm.Cond.code ({ cls := "FlashStore", name := "flash", desc := "(III)I" } : Jvm.MethodName) prog_1_method_9_code (4 : Nat) (Option.some Jvm.ClassFile.FieldType.int)) ∈ bw := bw_in (List.mem_append_right _ (List.mem_append_right _ (List.mem_append_left _ (List.mem_of_getElem? (i := 153) rfl)))) rfl
theorem bq_2_150 : (Jvm.Cond.methodLink "FlashStoreLaw" (38 : Nat) ({ cls := "FlashStore", name := "flash", desc := "(III)I" } : Jvm.MethodName)) ∈ bw := bw_in (List.mem_append_right _ (List.mem_append_right _ (List.mem_append_left _ (List.mem_of_getElem? (i := 150) rfl)))) rfl
theorem bq_2_151 : (Jvm.Cond.instanceMethod ({ cls := "FlashStore", name := "flash", desc := "(III)I" } : Jvm.MethodName)) ∈ bw := bw_in (List.mem_append_right _ (List.mem_append_right _ (List.mem_append_left _ (List.mem_of_getElem? (i := 151) rfl)))) rfl
theorem bq_2_152 : (Jvm.Cond.selects "FlashStore" ({ cls := "FlashStore", name := "flash", desc := "(III)I" } : Jvm.MethodName) ({ cls := "FlashStore", name := "flash", desc := "(III)I" } : Jvm.MethodName)) ∈ bw := bw_in (List.mem_append_right _ (List.mem_append_right _ (List.mem_append_left _ (List.mem_of_getElem? (i := 152) rfl)))) rfl
theorem bq_2_161 : (Jvm.Cond.code ({ cls := "FlashStore", name := "clean", desc := "()I" } : Jvm.MethodName) prog_1_method_11_code (2 : Nat) (Option.some Jvm.ClassFile.FieldType.int)) ∈ bw := bw_in (List.mem_append_right _ (List.mem_append_right _ (List.mem_append_left _ (List.mem_of_getElem? (i := 161) rfl)))) rfl
theorem bq_2_158 : (Jvm.Cond.methodLink "FlashStoreLaw" (42 : Nat) ({ cls := "FlashStore", name := "clean", desc := "()I" } : Jvm.MethodName)) ∈ bw := bw_in (List.mem_append_right _ (List.mem_append_right _ (List.mem_append_left _ (List.mem_of_getElem? (i := 158) rfl)))) rfl
theorem bq_2_159 : (Jvm.Cond.instanceMethod ({ cls := "FlashStore", name := "clean", desc := "()I" } : Jvm.MethodName)) ∈ bw := bw_in (List.mem_append_right _ (List.mem_append_right _ (List.mem_append_left _ (List.mem_of_getElem? (i := 159) rfl)))) rfl
theorem bq_2_160 : (Jvm.Cond.selects "FlashStore" ({ cls := "FlashStore", name := "clean", desc := "()I" } : Jvm.MethodName) ({ cls := "FlashStore", name := "clean", desc := "()I" } : Jvm.MethodName)) ∈ bw := bw_in (List.mem_append_right _ (List.mem_append_right _ (List.mem_append_left _ (List.mem_of_getElem? (i := 160) rfl)))) rfl
theorem bq_2_169 : (Jvm.Cond.code ({ cls := "FlashStore", name := "place", desc := "(I)I" } : Jvm.MethodName) prog_1_method_12_code (2 : Nat) (Option.some Jvm.ClassFile.FieldType.int)) ∈ bw := bw_in (List.mem_append_right _ (List.mem_append_right _ (List.mem_append_left _ (List.mem_of_getElem? (i := 169) rfl)))) rfl
theorem bq_2_166 : (Jvm.Cond.methodLink "FlashStoreLaw" (46 : Nat) ({ cls := "FlashStore", name := "place", desc := "(I)I" } : Jvm.MethodName)) ∈ bw := bw_in (List.mem_append_right _ (List.mem_append_right _ (List.mem_append_left _ (List.mem_of_getElem? (i := 166) rfl)))) rfl
theorem bq_2_167 : (Jvm.Cond.instanceMethod ({ cls := "FlashStore", name := "place", desc := "(I)I" } : Jvm.MethodName)) ∈ bw := bw_in (List.mem_append_right _ (List.mem_append_right _ (List.mem_append_left _ (List.mem_of_getElem? (i := 167) rfl)))) rfl
theorem bq_2_168 : (Jvm.Cond.selects "FlashStore" ({ cls := "FlashStore", name := "place", desc := "(I)I" } : Jvm.MethodName) ({ cls := "FlashStore", name := "place", desc := "(I)I" } : Jvm.MethodName)) ∈ bw := bw_in (List.mem_append_right _ (List.mem_append_right _ (List.mem_append_left _ (List.mem_of_getElem? (i := 168) rfl)))) rfl
theorem bq_2_176 : (Jvm.Cond.code ({ cls := "FlashStore", name := "state", desc := "(II)I" } : Jvm.MethodName) prog_1_method_13_code (3 : Nat) (Option.some Jvm.ClassFile.FieldType.int)) ∈ bw := bw_in (List.mem_append_right _ (List.mem_append_right _ (List.mem_append_left _ (List.mem_of_getElem? (i := 176) rfl)))) rfl
theorem bq_2_173 : (Jvm.Cond.methodLink "FlashStoreLaw" (49 : Nat) ({ cls := "FlashStore", name := "state", desc := "(II)I" } : Jvm.MethodName)) ∈ bw := bw_in (List.mem_append_right _ (List.mem_append_right _ (List.mem_append_left _ (List.mem_of_getElem? (i := 173) rfl)))) rfl
theorem bq_2_174 : (Jvm.Cond.instanceMethod ({ cls := "FlashStore", name := "state", desc := "(II)I" } : Jvm.MethodName)) ∈ bw := bw_in (List.mem_append_right _ (List.mem_append_right _ (List.mem_append_left _ (List.mem_of_getElem? (i := 174) rfl)))) rfl
theorem bq_2_175 : (Jvm.Cond.selects "FlashStore" ({ cls := "FlashStore", name := "state", desc := "(II)I" } : Jvm.MethodName) ({ cls := "FlashStore", name := "state", desc := "(II)I" } : Jvm.MethodName)) ∈ bw := bw_in (List.mem_append_right _ (List.mem_append_right _ (List.mem_append_left _ (List.mem_of_getElem? (i := 175) rfl)))) rfl
theorem bq_2_183 : (Jvm.Cond.code ({ cls := "FlashStore", name := "wear", desc := "(I)I" } : Jvm.MethodName) prog_1_method_14_code (2 : Nat) (Option.some Jvm.ClassFile.FieldType.int)) ∈ bw := bw_in (List.mem_append_right _ (List.mem_append_right _ (List.mem_append_left _ (List.mem_of_getElem? (i := 183) rfl)))) rfl
theorem bq_2_180 : (Jvm.Cond.methodLink "FlashStoreLaw" (53 : Nat) ({ cls := "FlashStore", name := "wear", desc := "(I)I" } : Jvm.MethodName)) ∈ bw := bw_in (List.mem_append_right _ (List.mem_append_right _ (List.mem_append_left _ (List.mem_of_getElem? (i := 180) rfl)))) rfl
theorem bq_2_181 : (Jvm.Cond.instanceMethod ({ cls := "FlashStore", name := "wear", desc := "(I)I" } : Jvm.MethodName)) ∈ bw := bw_in (List.mem_append_right _ (List.mem_append_right _ (List.mem_append_left _ (List.mem_of_getElem? (i := 181) rfl)))) rfl
theorem bq_2_182 : (Jvm.Cond.selects "FlashStore" ({ cls := "FlashStore", name := "wear", desc := "(I)I" } : Jvm.MethodName) ({ cls := "FlashStore", name := "wear", desc := "(I)I" } : Jvm.MethodName)) ∈ bw := bw_in (List.mem_append_right _ (List.mem_append_right _ (List.mem_append_left _ (List.mem_of_getElem? (i := 182) rfl)))) rfl
