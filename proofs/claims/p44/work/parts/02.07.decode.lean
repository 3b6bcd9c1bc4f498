-- decode rows: a program laid them
theorem dJ0_isLatin1_aae02_18 : decode cJ0_isLatin1_aae02 18 = .ok (.ireturn, 1) := dcq_694.2.2.2.2.2.2.2.2
set_option maxRecDepth 20000 in
theorem dcb_695 : fd_B cJ0_checkIndex_df160 0 [26, 27, 178, 4, 29, 184, 4, 35, 87, 177] := fd_o cJ0_checkIndex_df160 0 _ (by decide +kernel)
theorem dcq_695 : (decode cJ0_checkIndex_df160 0 = .ok (.iload_n 0, 1)) ∧ (decode cJ0_checkIndex_df160 1 = .ok (.iload_n 1, 1)) ∧ (decode cJ0_checkIndex_df160 2 = .ok (.getstatic 1053, 3)) ∧ (decode cJ0_checkIndex_df160 5 = .ok (.invokestatic 1059, 3)) ∧ (decode cJ0_checkIndex_df160 8 = .ok (.pop, 1)) ∧ (decode cJ0_checkIndex_df160 9 = .ok (.return_, 1)) := have h := dcb_695; ⟨fd_26 h, have h := fd_t1 h; ⟨fd_27 h, have h := fd_t1 h; ⟨fd_178 h rfl, have h := fd_t3 h; ⟨fd_184 h rfl, have h := fd_t3 h; ⟨fd_87 h, have h := fd_t1 h; fd_177 h⟩⟩⟩⟩⟩
theorem dJ0_checkIndex_df160_0 : decode cJ0_checkIndex_df160 0 = .ok (.iload_n 0, 1) := dcq_695.1
theorem dJ0_checkIndex_df160_1 : decode cJ0_checkIndex_df160 1 = .ok (.iload_n 1, 1) := dcq_695.2.1
theorem dJ0_checkIndex_df160_2 : decode cJ0_checkIndex_df160 2 = .ok (.getstatic 1053, 3) := dcq_695.2.2.1
theorem dJ0_checkIndex_df160_5 : decode cJ0_checkIndex_df160 5 = .ok (.invokestatic 1059, 3) := dcq_695.2.2.2.1
theorem dJ0_checkIndex_df160_8 : decode cJ0_checkIndex_df160 8 = .ok (.pop, 1) := dcq_695.2.2.2.2.1
theorem dJ0_checkIndex_df160_9 : decode cJ0_checkIndex_df160 9 = .ok (.return_, 1) := dcq_695.2.2.2.2.2
set_option maxRecDepth 20000 in
theorem dcb_696 : fd_B cJ1_charAt_3b067 0 [27, 42, 190, 184, 0, 9, 42, 27, 51, 17, 0, 255, 126, 146, 172] := fd_o cJ1_charAt_3b067 0 _ (by decide +kernel)
theorem dcq_696 : (decode cJ1_charAt_3b067 0 = .ok (.iload_n 1, 1)) ∧ (decode cJ1_charAt_3b067 1 = .ok (.aload_n 0, 1)) ∧ (decode cJ1_charAt_3b067 2 = .ok (.arraylength, 1)) ∧ (decode cJ1_charAt_3b067 3 = .ok (.invokestatic 9, 3)) ∧ (decode cJ1_charAt_3b067 6 = .ok (.aload_n 0, 1)) ∧ (decode cJ1_charAt_3b067 7 = .ok (.iload_n 1, 1)) ∧ (decode cJ1_charAt_3b067 8 = .ok (.baload, 1)) ∧ (decode cJ1_charAt_3b067 9 = .ok (.sipush 255, 3)) ∧ (decode cJ1_charAt_3b067 12 = .ok (.iand, 1)) ∧ (decode cJ1_charAt_3b067 13 = .ok (.i2c, 1)) ∧ (decode cJ1_charAt_3b067 14 = .ok (.ireturn, 1)) := have h := dcb_696; ⟨fd_27 h, have h := fd_t1 h; ⟨fd_42 h, have h := fd_t1 h; ⟨fd_190 h, have h := fd_t1 h; ⟨fd_184 h rfl, have h := fd_t3 h; ⟨fd_42 h, have h := fd_t1 h; ⟨fd_27 h, have h := fd_t1 h; ⟨fd_51 h, have h := fd_t1 h; ⟨fd_17 h (by decide +kernel), have h := fd_t3 h; ⟨fd_126 h, have h := fd_t1 h; ⟨fd_146 h, have h := fd_t1 h; fd_172 h⟩⟩⟩⟩⟩⟩⟩⟩⟩⟩
theorem dJ1_charAt_3b067_0 : decode cJ1_charAt_3b067 0 = .ok (.iload_n 1, 1) := dcq_696.1
theorem dJ1_charAt_3b067_1 : decode cJ1_charAt_3b067 1 = .ok (.aload_n 0, 1) := dcq_696.2.1
theorem dJ1_charAt_3b067_2 : decode cJ1_charAt_3b067 2 = .ok (.arraylength, 1) := dcq_696.2.2.1
theorem dJ1_charAt_3b067_3 : decode cJ1_charAt_3b067 3 = .ok (.invokestatic 9, 3) := dcq_696.2.2.2.1
theorem dJ1_charAt_3b067_6 : decode cJ1_charAt_3b067 6 = .ok (.aload_n 0, 1) := dcq_696.2.2.2.2.1
theorem dJ1_charAt_3b067_7 : decode cJ1_charAt_3b067 7 = .ok (.iload_n 1, 1) := dcq_696.2.2.2.2.2.1
theorem dJ1_charAt_3b067_8 : decode cJ1_charAt_3b067 8 = .ok (.baload, 1) := dcq_696.2.2.2.2.2.2.1
theorem dJ1_charAt_3b067_9 : decode cJ1_charAt_3b067 9 = .ok (.sipush 255, 3) := dcq_696.2.2.2.2.2.2.2.1
theorem dJ1_charAt_3b067_12 : decode cJ1_charAt_3b067 12 = .ok (.iand, 1) := dcq_696.2.2.2.2.2.2.2.2.1
theorem dJ1_charAt_3b067_13 : decode cJ1_charAt_3b067 13 = .ok (.i2c, 1) := dcq_696.2.2.2.2.2.2.2.2.2.1
theorem dJ1_charAt_3b067_14 : decode cJ1_charAt_3b067 14 = .ok (.ireturn, 1) := dcq_696.2.2.2.2.2.2.2.2.2.2
set_option maxRecDepth 20000 in
theorem dcb_697 : fd_B cJ2_getChar_3b067 0 [178, 0, 44, 154, 0, 25, 27, 155, 0, 11, 27, 42, 184, 0, 48, 161, 0, 13, 187, 0, 52, 89, 18, 54, 183, 0, 56] := fd_o cJ2_getChar_3b067 0 _ (by decide +kernel)
theorem dcq_697 : (decode cJ2_getChar_3b067 0 = .ok (.getstatic 44, 3)) ∧ (decode cJ2_getChar_3b067 3 = .ok (.ifCond .ne 25, 3)) ∧ (decode cJ2_getChar_3b067 6 = .ok (.iload_n 1, 1)) ∧ (decode cJ2_getChar_3b067 7 = .ok (.ifCond .lt 11, 3)) ∧ (decode cJ2_getChar_3b067 10 = .ok (.iload_n 1, 1)) ∧ (decode cJ2_getChar_3b067 11 = .ok (.aload_n 0, 1)) ∧ (decode cJ2_getChar_3b067 12 = .ok (.invokestatic 48, 3)) ∧ (decode cJ2_getChar_3b067 15 = .ok (.if_icmp .lt 13, 3)) ∧ (decode cJ2_getChar_3b067 18 = .ok (.new 52, 3)) ∧ (decode cJ2_getChar_3b067 21 = .ok (.dup, 1)) ∧ (decode cJ2_getChar_3b067 22 = .ok (.ldc 54, 2)) ∧ (decode cJ2_getChar_3b067 24 = .ok (.invokespecial 56, 3)) := have h := dcb_697; ⟨fd_178 h rfl, have h := fd_t3 h; ⟨fd_154 h (by decide +kernel), have h := fd_t3 h; ⟨fd_27 h, have h := fd_t1 h; ⟨fd_155 h (by decide +kernel), have h := fd_t3 h; ⟨fd_27 h, have h := fd_t1 h; ⟨fd_42 h, have h := fd_t1 h; ⟨fd_184 h rfl, have h := fd_t3 h; ⟨fd_161 h (by decide +kernel), have h := fd_t3 h; ⟨fd_187 h rfl, have h := fd_t3 h; ⟨fd_89 h, have h := fd_t1 h; ⟨fd_18 h rfl, have h := fd_t2 h; fd_183 h rfl⟩⟩⟩⟩⟩⟩⟩⟩⟩⟩⟩
theorem dJ2_getChar_3b067_0 : decode cJ2_getChar_3b067 0 = .ok (.getstatic 44, 3) := dcq_697.1
theorem dJ2_getChar_3b067_3 : decode cJ2_getChar_3b067 3 = .ok (.ifCond .ne 25, 3) := dcq_697.2.1
theorem dJ2_getChar_3b067_6 : decode cJ2_getChar_3b067 6 = .ok (.iload_n 1, 1) := dcq_697.2.2.1
theorem dJ2_getChar_3b067_7 : decode cJ2_getChar_3b067 7 = .ok (.ifCond .lt 11, 3) := dcq_697.2.2.2.1
theorem dJ2_getChar_3b067_10 : decode cJ2_getChar_3b067 10 = .ok (.iload_n 1, 1) := dcq_697.2.2.2.2.1
theorem dJ2_getChar_3b067_11 : decode cJ2_getChar_3b067 11 = .ok (.aload_n 0, 1) := dcq_697.2.2.2.2.2.1
theorem dJ2_getChar_3b067_12 : decode cJ2_getChar_3b067 12 = .ok (.invokestatic 48, 3) := dcq_697.2.2.2.2.2.2.1
theorem dJ2_getChar_3b067_15 : decode cJ2_getChar_3b067 15 = .ok (.if_icmp .lt 13, 3) := dcq_697.2.2.2.2.2.2.2.1
theorem dJ2_getChar_3b067_18 : decode cJ2_getChar_3b067 18 = .ok (.new 52, 3) := dcq_697.2.2.2.2.2.2.2.2.1
theorem dJ2_getChar_3b067_21 : decode cJ2_getChar_3b067 21 = .ok (.dup, 1) := dcq_697.2.2.2.2.2.2.2.2.2.1
theorem dJ2_getChar_3b067_22 : decode cJ2_getChar_3b067 22 = .ok (.ldc 54, 2) := dcq_697.2.2.2.2.2.2.2.2.2.2.1
theorem dJ2_getChar_3b067_24 : decode cJ2_getChar_3b067 24 = .ok (.invokespecial 56, 3) := dcq_697.2.2.2.2.2.2.2.2.2.2.2
set_option maxRecDepth 20000 in
theorem dcb_698 : fd_B cJ2_getChar_3b067 27 [191, 27, 4, 120, 60, 42, 27, 132, 1, 1, 51, 17, 0, 255, 126, 178, 0, 59] := fd_o cJ2_getChar_3b067 27 _ (by decide +kernel)
theorem dcq_698 : (decode cJ2_getChar_3b067 27 = .ok (.athrow, 1)) ∧ (decode cJ2_getChar_3b067 28 = .ok (.iload_n 1, 1)) ∧ (decode cJ2_getChar_3b067 29 = .ok (.iconst 1, 1)) ∧ (decode cJ2_getChar_3b067 30 = .ok (.ishl, 1)) ∧ (decode cJ2_getChar_3b067 31 = .ok (.istore_n 1, 1)) ∧ (decode cJ2_getChar_3b067 32 = .ok (.aload_n 0, 1)) ∧ (decode cJ2_getChar_3b067 33 = .ok (.iload_n 1, 1)) ∧ (decode cJ2_getChar_3b067 34 = .ok (.iinc 1 1, 3)) ∧ (decode cJ2_getChar_3b067 37 = .ok (.baload, 1)) ∧ (decode cJ2_getChar_3b067 38 = .ok (.sipush 255, 3)) ∧ (decode cJ2_getChar_3b067 41 = .ok (.iand, 1)) ∧ (decode cJ2_getChar_3b067 42 = .ok (.getstatic 59, 3)) := have h := dcb_698; ⟨fd_191 h, have h := fd_t1 h; ⟨fd_27 h, have h := fd_t1 h; ⟨fd_4 h, have h := fd_t1 h; ⟨fd_120 h, have h := fd_t1 h; ⟨fd_60 h, have h := fd_t1 h; ⟨fd_42 h, have h := fd_t1 h; ⟨fd_27 h, have h := fd_t1 h; ⟨fd_132 h rfl (by decide +kernel), have h := fd_t3 h; ⟨fd_51 h, have h := fd_t1 h; ⟨fd_17 h (by decide +kernel), have h := fd_t3 h; ⟨fd_126 h, have h := fd_t1 h; fd_178 h rfl⟩⟩⟩⟩⟩⟩⟩⟩⟩⟩⟩
theorem dJ2_getChar_3b067_27 : decode cJ2_getChar_3b067 27 = .ok (.athrow, 1) := dcq_698.1
theorem dJ2_getChar_3b067_28 : decode cJ2_getChar_3b067 28 = .ok (.iload_n 1, 1) := dcq_698.2.1
theorem dJ2_getChar_3b067_29 : decode cJ2_getChar_3b067 29 = .ok (.iconst 1, 1) := dcq_698.2.2.1
theorem dJ2_getChar_3b067_30 : decode cJ2_getChar_3b067 30 = .ok (.ishl, 1) := dcq_698.2.2.2.1
theorem dJ2_getChar_3b067_31 : decode cJ2_getChar_3b067 31 = .ok (.istore_n 1, 1) := dcq_698.2.2.2.2.1
theorem dJ2_getChar_3b067_32 : decode cJ2_getChar_3b067 32 = .ok (.aload_n 0, 1) := dcq_698.2.2.2.2.2.1
theorem dJ2_getChar_3b067_33 : decode cJ2_getChar_3b067 33 = .ok (.iload_n 1, 1) := dcq_698.2.2.2.2.2.2.1
theorem dJ2_getChar_3b067_34 : decode cJ2_getChar_3b067 34 = .ok (.iinc 1 1, 3) := dcq_698.2.2.2.2.2.2.2.1
theorem dJ2_getChar_3b067_37 : decode cJ2_getChar_3b067 37 = .ok (.baload, 1) := dcq_698.2.2.2.2.2.2.2.2.1
theorem dJ2_getChar_3b067_38 : decode cJ2_getChar_3b067 38 = .ok (.sipush 255, 3) := dcq_698.2.2.2.2.2.2.2.2.2.1
theorem dJ2_getChar_3b067_41 : decode cJ2_getChar_3b067 41 = .ok (.iand, 1) := dcq_698.2.2.2.2.2.2.2.2.2.2.1
theorem dJ2_getChar_3b067_42 : decode cJ2_getChar_3b067 42 = .ok (.getstatic 59, 3) := dcq_698.2.2.2.2.2.2.2.2.2.2.2
set_option maxRecDepth 20000 in
theorem dcb_699 : fd_B cJ2_getChar_3b067 45 [120, 42, 27, 51, 17, 0, 255, 126, 178, 0, 63, 120, 128, 146, 172] := fd_o cJ2_getChar_3b067 45 _ (by decide +kernel)
theorem dcq_699 : (decode cJ2_getChar_3b067 45 = .ok (.ishl, 1)) ∧ (decode cJ2_getChar_3b067 46 = .ok (.aload_n 0, 1)) ∧ (decode cJ2_getChar_3b067 47 = .ok (.iload_n 1, 1)) ∧ (decode cJ2_getChar_3b067 48 = .ok (.baload, 1)) ∧ (decode cJ2_getChar_3b067 49 = .ok (.sipush 255, 3)) ∧ (decode cJ2_getChar_3b067 52 = .ok (.iand, 1)) ∧ (decode cJ2_getChar_3b067 53 = .ok (.getstatic 63, 3)) ∧ (decode cJ2_getChar_3b067 56 = .ok (.ishl, 1)) ∧ (decode cJ2_getChar_3b067 57 = .ok (.ior, 1)) ∧ (decode cJ2_getChar_3b067 58 = .ok (.i2c, 1)) ∧ (decode cJ2_getChar_3b067 59 = .ok (.ireturn, 1)) := have h := dcb_699; ⟨fd_120 h, have h := fd_t1 h; ⟨fd_42 h, have h := fd_t1 h; ⟨fd_27 h, have h := fd_t1 h; ⟨fd_51 h, have h := fd_t1 h; ⟨fd_17 h (by decide +kernel), have h := fd_t3 h; ⟨fd_126 h, have h := fd_t1 h; ⟨fd_178 h rfl, have h := fd_t3 h; ⟨fd_120 h, have h := fd_t1 h; ⟨fd_128 h, have h := fd_t1 h; ⟨fd_146 h, have h := fd_t1 h; fd_172 h⟩⟩⟩⟩⟩⟩⟩⟩⟩⟩
theorem dJ2_getChar_3b067_45 : decode cJ2_getChar_3b067 45 = .ok (.ishl, 1) := dcq_699.1
theorem dJ2_getChar_3b067_46 : decode cJ2_getChar_3b067 46 = .ok (.aload_n 0, 1) := dcq_699.2.1
theorem dJ2_getChar_3b067_47 : decode cJ2_getChar_3b067 47 = .ok (.iload_n 1, 1) := dcq_699.2.2.1
theorem dJ2_getChar_3b067_48 : decode cJ2_getChar_3b067 48 = .ok (.baload, 1) := dcq_699.2.2.2.1
theorem dJ2_getChar_3b067_49 : decode cJ2_getChar_3b067 49 = .ok (.sipush 255, 3) := dcq_699.2.2.2.2.1
theorem dJ2_getChar_3b067_52 : decode cJ2_getChar_3b067 52 = .ok (.iand, 1) := dcq_699.2.2.2.2.2.1
theorem dJ2_getChar_3b067_53 : decode cJ2_getChar_3b067 53 = .ok (.getstatic 63, 3) := dcq_699.2.2.2.2.2.2.1
theorem dJ2_getChar_3b067_56 : decode cJ2_getChar_3b067 56 = .ok (.ishl, 1) := dcq_699.2.2.2.2.2.2.2.1
theorem dJ2_getChar_3b067_57 : decode cJ2_getChar_3b067 57 = .ok (.ior, 1) := dcq_699.2.2.2.2.2.2.2.2.1
theorem dJ2_getChar_3b067_58 : decode cJ2_getChar_3b067 58 = .ok (.i2c, 1) := dcq_699.2.2.2.2.2.2.2.2.2.1
theorem dJ2_getChar_3b067_59 : decode cJ2_getChar_3b067 59 = .ok (.ireturn, 1) := dcq_699.2.2.2.2.2.2.2.2.2.2
set_option maxRecDepth 20000 in
theorem dcb_700 : fd_B cJ2_length_9d52b 0 [42, 190, 4, 122, 172] := fd_o cJ2_length_9d52b 0 _ (by decide +kernel)
theorem dcq_700 : (decode cJ2_length_9d52b 0 = .ok (.aload_n 0, 1)) ∧ (decode cJ2_length_9d52b 1 = .ok (.arraylength, 1)) ∧ (decode cJ2_length_9d52b 2 = .ok (.iconst 1, 1)) ∧ (decode cJ2_length_9d52b 3 = .ok (.ishr, 1)) ∧ (decode cJ2_length_9d52b 4 = .ok (.ireturn, 1)) := have h := dcb_700; ⟨fd_42 h, have h := fd_t1 h; ⟨fd_190 h, have h := fd_t1 h; ⟨fd_4 h, have h := fd_t1 h; ⟨fd_122 h, have h := fd_t1 h; fd_172 h⟩⟩⟩⟩
theorem dJ2_length_9d52b_0 : decode cJ2_length_9d52b 0 = .ok (.aload_n 0, 1) := dcq_700.1
theorem dJ2_length_9d52b_1 : decode cJ2_length_9d52b 1 = .ok (.arraylength, 1) := dcq_700.2.1
theorem dJ2_length_9d52b_2 : decode cJ2_length_9d52b 2 = .ok (.iconst 1, 1) := dcq_700.2.2.1
theorem dJ2_length_9d52b_3 : decode cJ2_length_9d52b 3 = .ok (.ishr, 1) := dcq_700.2.2.2.1
theorem dJ2_length_9d52b_4 : decode cJ2_length_9d52b 4 = .ok (.ireturn, 1) := dcq_700.2.2.2.2
set_option maxRecDepth 20000 in
theorem dcb_701 : fd_B cJ2_charAt_3b067 0 [27, 42, 184, 0, 67, 42, 27, 184, 0, 71, 172] := fd_o cJ2_charAt_3b067 0 _ (by decide +kernel)
theorem dcq_701 : (decode cJ2_charAt_3b067 0 = .ok (.iload_n 1, 1)) ∧ (decode cJ2_charAt_3b067 1 = .ok (.aload_n 0, 1)) ∧ (decode cJ2_charAt_3b067 2 = .ok (.invokestatic 67, 3)) ∧ (decode cJ2_charAt_3b067 5 = .ok (.aload_n 0, 1)) ∧ (decode cJ2_charAt_3b067 6 = .ok (.iload_n 1, 1)) ∧ (decode cJ2_charAt_3b067 7 = .ok (.invokestatic 71, 3)) ∧ (decode cJ2_charAt_3b067 10 = .ok (.ireturn, 1)) := have h := dcb_701; ⟨fd_27 h, have h := fd_t1 h; ⟨fd_42 h, have h := fd_t1 h; ⟨fd_184 h rfl, have h := fd_t3 h; ⟨fd_42 h, have h := fd_t1 h; ⟨fd_27 h, have h := fd_t1 h; ⟨fd_184 h rfl, have h := fd_t3 h; fd_172 h⟩⟩⟩⟩⟩⟩
theorem dJ2_charAt_3b067_0 : decode cJ2_charAt_3b067 0 = .ok (.iload_n 1, 1) := dcq_701.1
theorem dJ2_charAt_3b067_1 : decode cJ2_charAt_3b067 1 = .ok (.aload_n 0, 1) := dcq_701.2.1
theorem dJ2_charAt_3b067_2 : decode cJ2_charAt_3b067 2 = .ok (.invokestatic 67, 3) := dcq_701.2.2.1
theorem dJ2_charAt_3b067_5 : decode cJ2_charAt_3b067 5 = .ok (.aload_n 0, 1) := dcq_701.2.2.2.1
theorem dJ2_charAt_3b067_6 : decode cJ2_charAt_3b067 6 = .ok (.iload_n 1, 1) := dcq_701.2.2.2.2.1
theorem dJ2_charAt_3b067_7 : decode cJ2_charAt_3b067 7 = .ok (.invokestatic 71, 3) := dcq_701.2.2.2.2.2.1
theorem dJ2_charAt_3b067_10 : decode cJ2_charAt_3b067 10 = .ok (.ireturn, 1) := dcq_701.2.2.2.2.2.2
set_option maxRecDepth 20000 in
theorem dcb_702 : fd_B cJ2_checkIndex_2214a 0 [26, 43, 184, 0, 48, 184, 1, 158, 177] := fd_o cJ2_checkIndex_2214a 0 _ (by decide +kernel)
theorem dcq_702 : (decode cJ2_checkIndex_2214a 0 = .ok (.iload_n 0, 1)) ∧ (decode cJ2_checkIndex_2214a 1 = .ok (.aload_n 1, 1)) ∧ (decode cJ2_checkIndex_2214a 2 = .ok (.invokestatic 48, 3)) ∧ (decode cJ2_checkIndex_2214a 5 = .ok (.invokestatic 414, 3)) ∧ (decode cJ2_checkIndex_2214a 8 = .ok (.return_, 1)) := have h := dcb_702; ⟨fd_26 h, have h := fd_t1 h; ⟨fd_43 h, have h := fd_t1 h; ⟨fd_184 h rfl, have h := fd_t3 h; ⟨fd_184 h rfl, have h := fd_t3 h; fd_177 h⟩⟩⟩⟩
theorem dJ2_checkIndex_2214a_0 : decode cJ2_checkIndex_2214a 0 = .ok (.iload_n 0, 1) := dcq_702.1
theorem dJ2_checkIndex_2214a_1 : decode cJ2_checkIndex_2214a 1 = .ok (.aload_n 1, 1) := dcq_702.2.1
theorem dJ2_checkIndex_2214a_2 : decode cJ2_checkIndex_2214a 2 = .ok (.invokestatic 48, 3) := dcq_702.2.2.1
theorem dJ2_checkIndex_2214a_5 : decode cJ2_checkIndex_2214a 5 = .ok (.invokestatic 414, 3) := dcq_702.2.2.2.1
theorem dJ2_checkIndex_2214a_8 : decode cJ2_checkIndex_2214a 8 = .ok (.return_, 1) := dcq_702.2.2.2.2
set_option maxRecDepth 20000 in
theorem dcb_703 : fd_B cJ3_checkIndex_8e157 0 [26, 155, 0, 8, 26, 27, 161, 0, 10, 44, 26, 27, 184, 0, 95, 191, 26, 172] := fd_o cJ3_checkIndex_8e157 0 _ (by decide +kernel)
theorem dcq_703 : (decode cJ3_checkIndex_8e157 0 = .ok (.iload_n 0, 1)) ∧ (decode cJ3_checkIndex_8e157 1 = .ok (.ifCond .lt 8, 3)) ∧ (decode cJ3_checkIndex_8e157 4 = .ok (.iload_n 0, 1)) ∧ (decode cJ3_checkIndex_8e157 5 = .ok (.iload_n 1, 1)) ∧ (decode cJ3_checkIndex_8e157 6 = .ok (.if_icmp .lt 10, 3)) ∧ (decode cJ3_checkIndex_8e157 9 = .ok (.aload_n 2, 1)) ∧ (decode cJ3_checkIndex_8e157 10 = .ok (.iload_n 0, 1)) ∧ (decode cJ3_checkIndex_8e157 11 = .ok (.iload_n 1, 1)) ∧ (decode cJ3_checkIndex_8e157 12 = .ok (.invokestatic 95, 3)) ∧ (decode cJ3_checkIndex_8e157 15 = .ok (.athrow, 1)) ∧ (decode cJ3_checkIndex_8e157 16 = .ok (.iload_n 0, 1)) ∧ (decode cJ3_checkIndex_8e157 17 = .ok (.ireturn, 1)) := have h := dcb_703; ⟨fd_26 h, have h := fd_t1 h; ⟨fd_155 h (by decide +kernel), have h := fd_t3 h; ⟨fd_26 h, have h := fd_t1 h; ⟨fd_27 h, have h := fd_t1 h; ⟨fd_161 h (by decide +kernel), have h := fd_t3 h; ⟨fd_44 h, have h := fd_t1 h; ⟨fd_26 h, have h := fd_t1 h; ⟨fd_27 h, have h := fd_t1 h; ⟨fd_184 h rfl, have h := fd_t3 h; ⟨fd_191 h, have h := fd_t1 h; ⟨fd_26 h, have h := fd_t1 h; fd_172 h⟩⟩⟩⟩⟩⟩⟩⟩⟩⟩⟩
theorem dJ3_checkIndex_8e157_0 : decode cJ3_checkIndex_8e157 0 = .ok (.iload_n 0, 1) := dcq_703.1
theorem dJ3_checkIndex_8e157_1 : decode cJ3_checkIndex_8e157 1 = .ok (.ifCond .lt 8, 3) := dcq_703.2.1
theorem dJ3_checkIndex_8e157_4 : decode cJ3_checkIndex_8e157 4 = .ok (.iload_n 0, 1) := dcq_703.2.2.1
theorem dJ3_checkIndex_8e157_5 : decode cJ3_checkIndex_8e157 5 = .ok (.iload_n 1, 1) := dcq_703.2.2.2.1
theorem dJ3_checkIndex_8e157_6 : decode cJ3_checkIndex_8e157 6 = .ok (.if_icmp .lt 10, 3) := dcq_703.2.2.2.2.1
theorem dJ3_checkIndex_8e157_9 : decode cJ3_checkIndex_8e157 9 = .ok (.aload_n 2, 1) := dcq_703.2.2.2.2.2.1
theorem dJ3_checkIndex_8e157_10 : decode cJ3_checkIndex_8e157 10 = .ok (.iload_n 0, 1) := dcq_703.2.2.2.2.2.2.1
theorem dJ3_checkIndex_8e157_11 : decode cJ3_checkIndex_8e157 11 = .ok (.iload_n 1, 1) := dcq_703.2.2.2.2.2.2.2.1
theorem dJ3_checkIndex_8e157_12 : decode cJ3_checkIndex_8e157 12 = .ok (.invokestatic 95, 3) := dcq_703.2.2.2.2.2.2.2.2.1
theorem dJ3_checkIndex_8e157_15 : decode cJ3_checkIndex_8e157 15 = .ok (.athrow, 1) := dcq_703.2.2.2.2.2.2.2.2.2.1
theorem dJ3_checkIndex_8e157_16 : decode cJ3_checkIndex_8e157 16 = .ok (.iload_n 0, 1) := dcq_703.2.2.2.2.2.2.2.2.2.2.1
theorem dJ3_checkIndex_8e157_17 : decode cJ3_checkIndex_8e157 17 = .ok (.ireturn, 1) := dcq_703.2.2.2.2.2.2.2.2.2.2.2
set_option maxRecDepth 20000 in
theorem dcb_704 : fd_B cL_law 0 [187, 0, 7, 89, 183, 0, 9, 76, 187, 0, 10, 89, 183, 0, 12, 77, 3, 62, 29, 42] := fd_o cL_law 0 _ (by decide +kernel)
theorem dcq_704 : (decode cL_law 0 = .ok (.new 7, 3)) ∧ (decode cL_law 3 = .ok (.dup, 1)) ∧ (decode cL_law 4 = .ok (.invokespecial 9, 3)) ∧ (decode cL_law 7 = .ok (.astore_n 1, 1)) ∧ (decode cL_law 8 = .ok (.new 10, 3)) ∧ (decode cL_law 11 = .ok (.dup, 1)) ∧ (decode cL_law 12 = .ok (.invokespecial 12, 3)) ∧ (decode cL_law 15 = .ok (.astore_n 2, 1)) ∧ (decode cL_law 16 = .ok (.iconst 0, 1)) ∧ (decode cL_law 17 = .ok (.istore_n 3, 1)) ∧ (decode cL_law 18 = .ok (.iload_n 3, 1)) ∧ (decode cL_law 19 = .ok (.aload_n 0, 1)) := have h := dcb_704; ⟨fd_187 h rfl, have h := fd_t3 h; ⟨fd_89 h, have h := fd_t1 h; ⟨fd_183 h rfl, have h := fd_t3 h; ⟨fd_76 h, have h := fd_t1 h; ⟨fd_187 h rfl, have h := fd_t3 h; ⟨fd_89 h, have h := fd_t1 h; ⟨fd_183 h rfl, have h := fd_t3 h; ⟨fd_77 h, have h := fd_t1 h; ⟨fd_3 h, have h := fd_t1 h; ⟨fd_62 h, have h := fd_t1 h; ⟨fd_29 h, have h := fd_t1 h; fd_42 h⟩⟩⟩⟩⟩⟩⟩⟩⟩⟩⟩
theorem dL_law_0 : decode cL_law 0 = .ok (.new 7, 3) := dcq_704.1
theorem dL_law_3 : decode cL_law 3 = .ok (.dup, 1) := dcq_704.2.1
theorem dL_law_4 : decode cL_law 4 = .ok (.invokespecial 9, 3) := dcq_704.2.2.1
theorem dL_law_7 : decode cL_law 7 = .ok (.astore_n 1, 1) := dcq_704.2.2.2.1
theorem dL_law_8 : decode cL_law 8 = .ok (.new 10, 3) := dcq_704.2.2.2.2.1
theorem dL_law_11 : decode cL_law 11 = .ok (.dup, 1) := dcq_704.2.2.2.2.2.1
theorem dL_law_12 : decode cL_law 12 = .ok (.invokespecial 12, 3) := dcq_704.2.2.2.2.2.2.1
theorem dL_law_15 : decode cL_law 15 = .ok (.astore_n 2, 1) := dcq_704.2.2.2.2.2.2.2.1
theorem dL_law_16 : decode cL_law 16 = .ok (.iconst 0, 1) := dcq_704.2.2.2.2.2.2.2.2.1
theorem dL_law_17 : decode cL_law 17 = .ok (.istore_n 3, 1) := dcq_704.2.2.2.2.2.2.2.2.2.1
theorem dL_law_18 : decode cL_law 18 = .ok (.iload_n 3, 1) := dcq_704.2.2.2.2.2.2.2.2.2.2.1
theorem dL_law_19 : decode cL_law 19 = .ok (.aload_n 0, 1) := dcq_704.2.2.2.2.2.2.2.2.2.2.2
set_option maxRecDepth 20000 in
theorem dcb_705 : fd_B cL_law 20 [190, 8, 100, 163, 6, 26, 42, 29, 46, 16, 63, 126] := fd_o cL_law 20 _ (by decide +kernel)
theorem dcq_705 : (decode cL_law 20 = .ok (.arraylength, 1)) ∧ (decode cL_law 21 = .ok (.iconst 5, 1)) ∧ (decode cL_law 22 = .ok (.isub, 1)) ∧ (decode cL_law 23 = .ok (.if_icmp .gt 1562, 3)) ∧ (decode cL_law 26 = .ok (.aload_n 0, 1)) ∧ (decode cL_law 27 = .ok (.iload_n 3, 1)) ∧ (decode cL_law 28 = .ok (.iaload, 1)) ∧ (decode cL_law 29 = .ok (.bipush 63, 2)) ∧ (decode cL_law 31 = .ok (.iand, 1)) := have h := dcb_705; ⟨fd_190 h, have h := fd_t1 h; ⟨fd_8 h, have h := fd_t1 h; ⟨fd_100 h, have h := fd_t1 h; ⟨fd_163 h (by decide +kernel), have h := fd_t3 h; ⟨fd_42 h, have h := fd_t1 h; ⟨fd_29 h, have h := fd_t1 h; ⟨fd_46 h, have h := fd_t1 h; ⟨fd_16 h (by decide +kernel), have h := fd_t2 h; fd_126 h⟩⟩⟩⟩⟩⟩⟩⟩
theorem dL_law_20 : decode cL_law 20 = .ok (.arraylength, 1) := dcq_705.1
theorem dL_law_21 : decode cL_law 21 = .ok (.iconst 5, 1) := dcq_705.2.1
theorem dL_law_22 : decode cL_law 22 = .ok (.isub, 1) := dcq_705.2.2.1
theorem dL_law_23 : decode cL_law 23 = .ok (.if_icmp .gt 1562, 3) := dcq_705.2.2.2.1
theorem dL_law_26 : decode cL_law 26 = .ok (.aload_n 0, 1) := dcq_705.2.2.2.2.1
theorem dL_law_27 : decode cL_law 27 = .ok (.iload_n 3, 1) := dcq_705.2.2.2.2.2.1
theorem dL_law_28 : decode cL_law 28 = .ok (.iaload, 1) := dcq_705.2.2.2.2.2.2.1
theorem dL_law_29 : decode cL_law 29 = .ok (.bipush 63, 2) := dcq_705.2.2.2.2.2.2.2.1
theorem dL_law_31 : decode cL_law 31 = .ok (.iand, 1) := dcq_705.2.2.2.2.2.2.2.2
set_option maxRecDepth 100000 in
theorem dL_law_32 : decode cL_law 32 = .ok (.tableswitch 1547 0 42 #[188, 251, 264, 297, 320, 373, 406, 439, 482, 515, 548, 581, 604, 627, 640, 663, 686, 709, 732, 745, 778, 811, 844, 867, 900, 923, 966, 1009, 1042, 1075, 1108, 1151, 1174, 1227, 1270, 1313, 1356, 1399, 1432, 1475, 1498, 1521, 1534], 188) := by decide +kernel
set_option maxRecDepth 20000 in
theorem dcb_706 : fd_B cL_law 220 [43, 42, 29, 4, 96, 46, 133, 16, 32, 121, 42, 29, 5] := fd_o cL_law 220 _ (by decide +kernel)
theorem dcq_706 : (decode cL_law 220 = .ok (.aload_n 1, 1)) ∧ (decode cL_law 221 = .ok (.aload_n 0, 1)) ∧ (decode cL_law 222 = .ok (.iload_n 3, 1)) ∧ (decode cL_law 223 = .ok (.iconst 1, 1)) ∧ (decode cL_law 224 = .ok (.iadd, 1)) ∧ (decode cL_law 225 = .ok (.iaload, 1)) ∧ (decode cL_law 226 = .ok (.i2l, 1)) ∧ (decode cL_law 227 = .ok (.bipush 32, 2)) ∧ (decode cL_law 229 = .ok (.lshl, 1)) ∧ (decode cL_law 230 = .ok (.aload_n 0, 1)) ∧ (decode cL_law 231 = .ok (.iload_n 3, 1)) ∧ (decode cL_law 232 = .ok (.iconst 2, 1)) := have h := dcb_706; ⟨fd_43 h, have h := fd_t1 h; ⟨fd_42 h, have h := fd_t1 h; ⟨fd_29 h, have h := fd_t1 h; ⟨fd_4 h, have h := fd_t1 h; ⟨fd_96 h, have h := fd_t1 h; ⟨fd_46 h, have h := fd_t1 h; ⟨fd_133 h, have h := fd_t1 h; ⟨fd_16 h (by decide +kernel), have h := fd_t2 h; ⟨fd_121 h, have h := fd_t1 h; ⟨fd_42 h, have h := fd_t1 h; ⟨fd_29 h, have h := fd_t1 h; fd_5 h⟩⟩⟩⟩⟩⟩⟩⟩⟩⟩⟩
theorem dL_law_220 : decode cL_law 220 = .ok (.aload_n 1, 1) := dcq_706.1
theorem dL_law_221 : decode cL_law 221 = .ok (.aload_n 0, 1) := dcq_706.2.1
theorem dL_law_222 : decode cL_law 222 = .ok (.iload_n 3, 1) := dcq_706.2.2.1
theorem dL_law_223 : decode cL_law 223 = .ok (.iconst 1, 1) := dcq_706.2.2.2.1
theorem dL_law_224 : decode cL_law 224 = .ok (.iadd, 1) := dcq_706.2.2.2.2.1
theorem dL_law_225 : decode cL_law 225 = .ok (.iaload, 1) := dcq_706.2.2.2.2.2.1
theorem dL_law_226 : decode cL_law 226 = .ok (.i2l, 1) := dcq_706.2.2.2.2.2.2.1
theorem dL_law_227 : decode cL_law 227 = .ok (.bipush 32, 2) := dcq_706.2.2.2.2.2.2.2.1
theorem dL_law_229 : decode cL_law 229 = .ok (.lshl, 1) := dcq_706.2.2.2.2.2.2.2.2.1
theorem dL_law_230 : decode cL_law 230 = .ok (.aload_n 0, 1) := dcq_706.2.2.2.2.2.2.2.2.2.1
theorem dL_law_231 : decode cL_law 231 = .ok (.iload_n 3, 1) := dcq_706.2.2.2.2.2.2.2.2.2.2.1
theorem dL_law_232 : decode cL_law 232 = .ok (.iconst 2, 1) := dcq_706.2.2.2.2.2.2.2.2.2.2.2
set_option maxRecDepth 20000 in
theorem dcb_707 : fd_B cL_law 233 [96, 46, 133, 20, 0, 13, 127, 129, 42, 29, 6, 96, 46, 182, 0, 15] := fd_o cL_law 233 _ (by decide +kernel)
theorem dcq_707 : (decode cL_law 233 = .ok (.iadd, 1)) ∧ (decode cL_law 234 = .ok (.iaload, 1)) ∧ (decode cL_law 235 = .ok (.i2l, 1)) ∧ (decode cL_law 236 = .ok (.ldc2_w 13, 3)) ∧ (decode cL_law 239 = .ok (.land, 1)) ∧ (decode cL_law 240 = .ok (.lor, 1)) ∧ (decode cL_law 241 = .ok (.aload_n 0, 1)) ∧ (decode cL_law 242 = .ok (.iload_n 3, 1)) ∧ (decode cL_law 243 = .ok (.iconst 3, 1)) ∧ (decode cL_law 244 = .ok (.iadd, 1)) ∧ (decode cL_law 245 = .ok (.iaload, 1)) ∧ (decode cL_law 246 = .ok (.invokevirtual 15, 3)) := have h := dcb_707; ⟨fd_96 h, have h := fd_t1 h; ⟨fd_46 h, have h := fd_t1 h; ⟨fd_133 h, have h := fd_t1 h; ⟨fd_20 h rfl, have h := fd_t3 h; ⟨fd_127 h, have h := fd_t1 h; ⟨fd_129 h, have h := fd_t1 h; ⟨fd_42 h, have h := fd_t1 h; ⟨fd_29 h, have h := fd_t1 h; ⟨fd_6 h, have h := fd_t1 h; ⟨fd_96 h, have h := fd_t1 h; ⟨fd_46 h, have h := fd_t1 h; fd_182 h rfl⟩⟩⟩⟩⟩⟩⟩⟩⟩⟩⟩
theorem dL_law_233 : decode cL_law 233 = .ok (.iadd, 1) := dcq_707.1
theorem dL_law_234 : decode cL_law 234 = .ok (.iaload, 1) := dcq_707.2.1
theorem dL_law_235 : decode cL_law 235 = .ok (.i2l, 1) := dcq_707.2.2.1
theorem dL_law_236 : decode cL_law 236 = .ok (.ldc2_w 13, 3) := dcq_707.2.2.2.1
theorem dL_law_239 : decode cL_law 239 = .ok (.land, 1) := dcq_707.2.2.2.2.1
theorem dL_law_240 : decode cL_law 240 = .ok (.lor, 1) := dcq_707.2.2.2.2.2.1
theorem dL_law_241 : decode cL_law 241 = .ok (.aload_n 0, 1) := dcq_707.2.2.2.2.2.2.1
theorem dL_law_242 : decode cL_law 242 = .ok (.iload_n 3, 1) := dcq_707.2.2.2.2.2.2.2.1
theorem dL_law_243 : decode cL_law 243 = .ok (.iconst 3, 1) := dcq_707.2.2.2.2.2.2.2.2.1
theorem dL_law_244 : decode cL_law 244 = .ok (.iadd, 1) := dcq_707.2.2.2.2.2.2.2.2.2.1
theorem dL_law_245 : decode cL_law 245 = .ok (.iaload, 1) := dcq_707.2.2.2.2.2.2.2.2.2.2.1
theorem dL_law_246 : decode cL_law 246 = .ok (.invokevirtual 15, 3) := dcq_707.2.2.2.2.2.2.2.2.2.2.2
set_option maxRecDepth 20000 in
theorem dcb_708 : fd_B cL_law 249 [87, 44, 42, 29, 4, 96, 46, 133, 16, 32, 121, 42, 29] := fd_o cL_law 249 _ (by decide +kernel)
theorem dcq_708 : (decode cL_law 249 = .ok (.pop, 1)) ∧ (decode cL_law 250 = .ok (.aload_n 2, 1)) ∧ (decode cL_law 251 = .ok (.aload_n 0, 1)) ∧ (decode cL_law 252 = .ok (.iload_n 3, 1)) ∧ (decode cL_law 253 = .ok (.iconst 1, 1)) ∧ (decode cL_law 254 = .ok (.iadd, 1)) ∧ (decode cL_law 255 = .ok (.iaload, 1)) ∧ (decode cL_law 256 = .ok (.i2l, 1)) ∧ (decode cL_law 257 = .ok (.bipush 32, 2)) ∧ (decode cL_law 259 = .ok (.lshl, 1)) ∧ (decode cL_law 260 = .ok (.aload_n 0, 1)) ∧ (decode cL_law 261 = .ok (.iload_n 3, 1)) := have h := dcb_708; ⟨fd_87 h, have h := fd_t1 h; ⟨fd_44 h, have h := fd_t1 h; ⟨fd_42 h, have h := fd_t1 h; ⟨fd_29 h, have h := fd_t1 h; ⟨fd_4 h, have h := fd_t1 h; ⟨fd_96 h, have h := fd_t1 h; ⟨fd_46 h, have h := fd_t1 h; ⟨fd_133 h, have h := fd_t1 h; ⟨fd_16 h (by decide +kernel), have h := fd_t2 h; ⟨fd_121 h, have h := fd_t1 h; ⟨fd_42 h, have h := fd_t1 h; fd_29 h⟩⟩⟩⟩⟩⟩⟩⟩⟩⟩⟩
theorem dL_law_249 : decode cL_law 249 = .ok (.pop, 1) := dcq_708.1
theorem dL_law_250 : decode cL_law 250 = .ok (.aload_n 2, 1) := dcq_708.2.1
theorem dL_law_251 : decode cL_law 251 = .ok (.aload_n 0, 1) := dcq_708.2.2.1
theorem dL_law_252 : decode cL_law 252 = .ok (.iload_n 3, 1) := dcq_708.2.2.2.1
theorem dL_law_253 : decode cL_law 253 = .ok (.iconst 1, 1) := dcq_708.2.2.2.2.1
theorem dL_law_254 : decode cL_law 254 = .ok (.iadd, 1) := dcq_708.2.2.2.2.2.1
theorem dL_law_255 : decode cL_law 255 = .ok (.iaload, 1) := dcq_708.2.2.2.2.2.2.1
theorem dL_law_256 : decode cL_law 256 = .ok (.i2l, 1) := dcq_708.2.2.2.2.2.2.2.1
theorem dL_law_257 : decode cL_law 257 = .ok (.bipush 32, 2) := dcq_708.2.2.2.2.2.2.2.2.1
theorem dL_law_259 : decode cL_law 259 = .ok (.lshl, 1) := dcq_708.2.2.2.2.2.2.2.2.2.1
theorem dL_law_260 : decode cL_law 260 = .ok (.aload_n 0, 1) := dcq_708.2.2.2.2.2.2.2.2.2.2.1
theorem dL_law_261 : decode cL_law 261 = .ok (.iload_n 3, 1) := dcq_708.2.2.2.2.2.2.2.2.2.2.2
set_option maxRecDepth 20000 in
theorem dcb_709 : fd_B cL_law 262 [5, 96, 46, 133, 20, 0, 13, 127, 129, 42, 29, 6, 96, 46] := fd_o cL_law 262 _ (by decide +kernel)
theorem dcq_709 : (decode cL_law 262 = .ok (.iconst 2, 1)) ∧ (decode cL_law 263 = .ok (.iadd, 1)) ∧ (decode cL_law 264 = .ok (.iaload, 1)) ∧ (decode cL_law 265 = .ok (.i2l, 1)) ∧ (decode cL_law 266 = .ok (.ldc2_w 13, 3)) ∧ (decode cL_law 269 = .ok (.land, 1)) ∧ (decode cL_law 270 = .ok (.lor, 1)) ∧ (decode cL_law 271 = .ok (.aload_n 0, 1)) ∧ (decode cL_law 272 = .ok (.iload_n 3, 1)) ∧ (decode cL_law 273 = .ok (.iconst 3, 1)) ∧ (decode cL_law 274 = .ok (.iadd, 1)) ∧ (decode cL_law 275 = .ok (.iaload, 1)) := have h := dcb_709; ⟨fd_5 h, have h := fd_t1 h; ⟨fd_96 h, have h := fd_t1 h; ⟨fd_46 h, have h := fd_t1 h; ⟨fd_133 h, have h := fd_t1 h; ⟨fd_20 h rfl, have h := fd_t3 h; ⟨fd_127 h, have h := fd_t1 h; ⟨fd_129 h, have h := fd_t1 h; ⟨fd_42 h, have h := fd_t1 h; ⟨fd_29 h, have h := fd_t1 h; ⟨fd_6 h, have h := fd_t1 h; ⟨fd_96 h, have h := fd_t1 h; fd_46 h⟩⟩⟩⟩⟩⟩⟩⟩⟩⟩⟩
theorem dL_law_262 : decode cL_law 262 = .ok (.iconst 2, 1) := dcq_709.1
theorem dL_law_263 : decode cL_law 263 = .ok (.iadd, 1) := dcq_709.2.1
theorem dL_law_264 : decode cL_law 264 = .ok (.iaload, 1) := dcq_709.2.2.1
theorem dL_law_265 : decode cL_law 265 = .ok (.i2l, 1) := dcq_709.2.2.2.1
theorem dL_law_266 : decode cL_law 266 = .ok (.ldc2_w 13, 3) := dcq_709.2.2.2.2.1
theorem dL_law_269 : decode cL_law 269 = .ok (.land, 1) := dcq_709.2.2.2.2.2.1
theorem dL_law_270 : decode cL_law 270 = .ok (.lor, 1) := dcq_709.2.2.2.2.2.2.1
theorem dL_law_271 : decode cL_law 271 = .ok (.aload_n 0, 1) := dcq_709.2.2.2.2.2.2.2.1
theorem dL_law_272 : decode cL_law 272 = .ok (.iload_n 3, 1) := dcq_709.2.2.2.2.2.2.2.2.1
theorem dL_law_273 : decode cL_law 273 = .ok (.iconst 3, 1) := dcq_709.2.2.2.2.2.2.2.2.2.1
theorem dL_law_274 : decode cL_law 274 = .ok (.iadd, 1) := dcq_709.2.2.2.2.2.2.2.2.2.2.1
theorem dL_law_275 : decode cL_law 275 = .ok (.iaload, 1) := dcq_709.2.2.2.2.2.2.2.2.2.2.2
set_option maxRecDepth 20000 in
theorem dcb_710 : fd_B cL_law 276 [182, 0, 19, 87, 167, 5, 19, 43, 182, 0, 20, 87, 44, 182, 0, 24, 87, 167, 5, 6, 43, 42] := fd_o cL_law 276 _ (by decide +kernel)
theorem dcq_710 : (decode cL_law 276 = .ok (.invokevirtual 19, 3)) ∧ (decode cL_law 279 = .ok (.pop, 1)) ∧ (decode cL_law 280 = .ok (.goto 1299, 3)) ∧ (decode cL_law 283 = .ok (.aload_n 1, 1)) ∧ (decode cL_law 284 = .ok (.invokevirtual 20, 3)) ∧ (decode cL_law 287 = .ok (.pop, 1)) ∧ (decode cL_law 288 = .ok (.aload_n 2, 1)) ∧ (decode cL_law 289 = .ok (.invokevirtual 24, 3)) ∧ (decode cL_law 292 = .ok (.pop, 1)) ∧ (decode cL_law 293 = .ok (.goto 1286, 3)) ∧ (decode cL_law 296 = .ok (.aload_n 1, 1)) ∧ (decode cL_law 297 = .ok (.aload_n 0, 1)) := have h := dcb_710; ⟨fd_182 h rfl, have h := fd_t3 h; ⟨fd_87 h, have h := fd_t1 h; ⟨fd_167 h (by decide +kernel), have h := fd_t3 h; ⟨fd_43 h, have h := fd_t1 h; ⟨fd_182 h rfl, have h := fd_t3 h; ⟨fd_87 h, have h := fd_t1 h; ⟨fd_44 h, have h := fd_t1 h; ⟨fd_182 h rfl, have h := fd_t3 h; ⟨fd_87 h, have h := fd_t1 h; ⟨fd_167 h (by decide +kernel), have h := fd_t3 h; ⟨fd_43 h, have h := fd_t1 h; fd_42 h⟩⟩⟩⟩⟩⟩⟩⟩⟩⟩⟩
theorem dL_law_276 : decode cL_law 276 = .ok (.invokevirtual 19, 3) := dcq_710.1
theorem dL_law_279 : decode cL_law 279 = .ok (.pop, 1) := dcq_710.2.1
theorem dL_law_280 : decode cL_law 280 = .ok (.goto 1299, 3) := dcq_710.2.2.1
theorem dL_law_283 : decode cL_law 283 = .ok (.aload_n 1, 1) := dcq_710.2.2.2.1
theorem dL_law_284 : decode cL_law 284 = .ok (.invokevirtual 20, 3) := dcq_710.2.2.2.2.1
theorem dL_law_287 : decode cL_law 287 = .ok (.pop, 1) := dcq_710.2.2.2.2.2.1
theorem dL_law_288 : decode cL_law 288 = .ok (.aload_n 2, 1) := dcq_710.2.2.2.2.2.2.1
theorem dL_law_289 : decode cL_law 289 = .ok (.invokevirtual 24, 3) := dcq_710.2.2.2.2.2.2.2.1
theorem dL_law_292 : decode cL_law 292 = .ok (.pop, 1) := dcq_710.2.2.2.2.2.2.2.2.1
theorem dL_law_293 : decode cL_law 293 = .ok (.goto 1286, 3) := dcq_710.2.2.2.2.2.2.2.2.2.1
theorem dL_law_296 : decode cL_law 296 = .ok (.aload_n 1, 1) := dcq_710.2.2.2.2.2.2.2.2.2.2.1
theorem dL_law_297 : decode cL_law 297 = .ok (.aload_n 0, 1) := dcq_710.2.2.2.2.2.2.2.2.2.2.2
set_option maxRecDepth 20000 in
theorem dcb_711 : fd_B cL_law 298 [29, 4, 96, 46, 42, 29, 5, 96, 46, 182, 0, 25, 87, 44] := fd_o cL_law 298 _ (by decide +kernel)
theorem dcq_711 : (decode cL_law 298 = .ok (.iload_n 3, 1)) ∧ (decode cL_law 299 = .ok (.iconst 1, 1)) ∧ (decode cL_law 300 = .ok (.iadd, 1)) ∧ (decode cL_law 301 = .ok (.iaload, 1)) ∧ (decode cL_law 302 = .ok (.aload_n 0, 1)) ∧ (decode cL_law 303 = .ok (.iload_n 3, 1)) ∧ (decode cL_law 304 = .ok (.iconst 2, 1)) ∧ (decode cL_law 305 = .ok (.iadd, 1)) ∧ (decode cL_law 306 = .ok (.iaload, 1)) ∧ (decode cL_law 307 = .ok (.invokevirtual 25, 3)) ∧ (decode cL_law 310 = .ok (.pop, 1)) ∧ (decode cL_law 311 = .ok (.aload_n 2, 1)) := have h := dcb_711; ⟨fd_29 h, have h := fd_t1 h; ⟨fd_4 h, have h := fd_t1 h; ⟨fd_96 h, have h := fd_t1 h; ⟨fd_46 h, have h := fd_t1 h; ⟨fd_42 h, have h := fd_t1 h; ⟨fd_29 h, have h := fd_t1 h; ⟨fd_5 h, have h := fd_t1 h; ⟨fd_96 h, have h := fd_t1 h; ⟨fd_46 h, have h := fd_t1 h; ⟨fd_182 h rfl, have h := fd_t3 h; ⟨fd_87 h, have h := fd_t1 h; fd_44 h⟩⟩⟩⟩⟩⟩⟩⟩⟩⟩⟩
theorem dL_law_298 : decode cL_law 298 = .ok (.iload_n 3, 1) := dcq_711.1
theorem dL_law_299 : decode cL_law 299 = .ok (.iconst 1, 1) := dcq_711.2.1
theorem dL_law_300 : decode cL_law 300 = .ok (.iadd, 1) := dcq_711.2.2.1
theorem dL_law_301 : decode cL_law 301 = .ok (.iaload, 1) := dcq_711.2.2.2.1
theorem dL_law_302 : decode cL_law 302 = .ok (.aload_n 0, 1) := dcq_711.2.2.2.2.1
theorem dL_law_303 : decode cL_law 303 = .ok (.iload_n 3, 1) := dcq_711.2.2.2.2.2.1
theorem dL_law_304 : decode cL_law 304 = .ok (.iconst 2, 1) := dcq_711.2.2.2.2.2.2.1
theorem dL_law_305 : decode cL_law 305 = .ok (.iadd, 1) := dcq_711.2.2.2.2.2.2.2.1
theorem dL_law_306 : decode cL_law 306 = .ok (.iaload, 1) := dcq_711.2.2.2.2.2.2.2.2.1
theorem dL_law_307 : decode cL_law 307 = .ok (.invokevirtual 25, 3) := dcq_711.2.2.2.2.2.2.2.2.2.1
theorem dL_law_310 : decode cL_law 310 = .ok (.pop, 1) := dcq_711.2.2.2.2.2.2.2.2.2.2.1
theorem dL_law_311 : decode cL_law 311 = .ok (.aload_n 2, 1) := dcq_711.2.2.2.2.2.2.2.2.2.2.2
set_option maxRecDepth 20000 in
theorem dcb_712 : fd_B cL_law 312 [42, 29, 4, 96, 46, 42, 29, 5, 96, 46, 182, 0, 29, 87] := fd_o cL_law 312 _ (by decide +kernel)
theorem dcq_712 : (decode cL_law 312 = .ok (.aload_n 0, 1)) ∧ (decode cL_law 313 = .ok (.iload_n 3, 1)) ∧ (decode cL_law 314 = .ok (.iconst 1, 1)) ∧ (decode cL_law 315 = .ok (.iadd, 1)) ∧ (decode cL_law 316 = .ok (.iaload, 1)) ∧ (decode cL_law 317 = .ok (.aload_n 0, 1)) ∧ (decode cL_law 318 = .ok (.iload_n 3, 1)) ∧ (decode cL_law 319 = .ok (.iconst 2, 1)) ∧ (decode cL_law 320 = .ok (.iadd, 1)) ∧ (decode cL_law 321 = .ok (.iaload, 1)) ∧ (decode cL_law 322 = .ok (.invokevirtual 29, 3)) ∧ (decode cL_law 325 = .ok (.pop, 1)) := have h := dcb_712; ⟨fd_42 h, have h := fd_t1 h; ⟨fd_29 h, have h := fd_t1 h; ⟨fd_4 h, have h := fd_t1 h; ⟨fd_96 h, have h := fd_t1 h; ⟨fd_46 h, have h := fd_t1 h; ⟨fd_42 h, have h := fd_t1 h; ⟨fd_29 h, have h := fd_t1 h; ⟨fd_5 h, have h := fd_t1 h; ⟨fd_96 h, have h := fd_t1 h; ⟨fd_46 h, have h := fd_t1 h; ⟨fd_182 h rfl, have h := fd_t3 h; fd_87 h⟩⟩⟩⟩⟩⟩⟩⟩⟩⟩⟩
theorem dL_law_312 : decode cL_law 312 = .ok (.aload_n 0, 1) := dcq_712.1
theorem dL_law_313 : decode cL_law 313 = .ok (.iload_n 3, 1) := dcq_712.2.1
theorem dL_law_314 : decode cL_law 314 = .ok (.iconst 1, 1) := dcq_712.2.2.1
theorem dL_law_315 : decode cL_law 315 = .ok (.iadd, 1) := dcq_712.2.2.2.1
theorem dL_law_316 : decode cL_law 316 = .ok (.iaload, 1) := dcq_712.2.2.2.2.1
theorem dL_law_317 : decode cL_law 317 = .ok (.aload_n 0, 1) := dcq_712.2.2.2.2.2.1
theorem dL_law_318 : decode cL_law 318 = .ok (.iload_n 3, 1) := dcq_712.2.2.2.2.2.2.1
theorem dL_law_319 : decode cL_law 319 = .ok (.iconst 2, 1) := dcq_712.2.2.2.2.2.2.2.1
theorem dL_law_320 : decode cL_law 320 = .ok (.iadd, 1) := dcq_712.2.2.2.2.2.2.2.2.1
theorem dL_law_321 : decode cL_law 321 = .ok (.iaload, 1) := dcq_712.2.2.2.2.2.2.2.2.2.1
theorem dL_law_322 : decode cL_law 322 = .ok (.invokevirtual 29, 3) := dcq_712.2.2.2.2.2.2.2.2.2.2.1
theorem dL_law_325 : decode cL_law 325 = .ok (.pop, 1) := dcq_712.2.2.2.2.2.2.2.2.2.2.2
set_option maxRecDepth 20000 in
theorem dcb_713 : fd_B cL_law 326 [167, 4, 229, 43, 42, 29, 4, 96, 46, 182, 0, 30, 87, 44, 42, 29] := fd_o cL_law 326 _ (by decide +kernel)
theorem dcq_713 : (decode cL_law 326 = .ok (.goto 1253, 3)) ∧ (decode cL_law 329 = .ok (.aload_n 1, 1)) ∧ (decode cL_law 330 = .ok (.aload_n 0, 1)) ∧ (decode cL_law 331 = .ok (.iload_n 3, 1)) ∧ (decode cL_law 332 = .ok (.iconst 1, 1)) ∧ (decode cL_law 333 = .ok (.iadd, 1)) ∧ (decode cL_law 334 = .ok (.iaload, 1)) ∧ (decode cL_law 335 = .ok (.invokevirtual 30, 3)) ∧ (decode cL_law 338 = .ok (.pop, 1)) ∧ (decode cL_law 339 = .ok (.aload_n 2, 1)) ∧ (decode cL_law 340 = .ok (.aload_n 0, 1)) ∧ (decode cL_law 341 = .ok (.iload_n 3, 1)) := have h := dcb_713; ⟨fd_167 h (by decide +kernel), have h := fd_t3 h; ⟨fd_43 h, have h := fd_t1 h; ⟨fd_42 h, have h := fd_t1 h; ⟨fd_29 h, have h := fd_t1 h; ⟨fd_4 h, have h := fd_t1 h; ⟨fd_96 h, have h := fd_t1 h; ⟨fd_46 h, have h := fd_t1 h; ⟨fd_182 h rfl, have h := fd_t3 h; ⟨fd_87 h, have h := fd_t1 h; ⟨fd_44 h, have h := fd_t1 h; ⟨fd_42 h, have h := fd_t1 h; fd_29 h⟩⟩⟩⟩⟩⟩⟩⟩⟩⟩⟩
theorem dL_law_326 : decode cL_law 326 = .ok (.goto 1253, 3) := dcq_713.1
theorem dL_law_329 : decode cL_law 329 = .ok (.aload_n 1, 1) := dcq_713.2.1
theorem dL_law_330 : decode cL_law 330 = .ok (.aload_n 0, 1) := dcq_713.2.2.1
theorem dL_law_331 : decode cL_law 331 = .ok (.iload_n 3, 1) := dcq_713.2.2.2.1
theorem dL_law_332 : decode cL_law 332 = .ok (.iconst 1, 1) := dcq_713.2.2.2.2.1
theorem dL_law_333 : decode cL_law 333 = .ok (.iadd, 1) := dcq_713.2.2.2.2.2.1
theorem dL_law_334 : decode cL_law 334 = .ok (.iaload, 1) := dcq_713.2.2.2.2.2.2.1
theorem dL_law_335 : decode cL_law 335 = .ok (.invokevirtual 30, 3) := dcq_713.2.2.2.2.2.2.2.1
theorem dL_law_338 : decode cL_law 338 = .ok (.pop, 1) := dcq_713.2.2.2.2.2.2.2.2.1
theorem dL_law_339 : decode cL_law 339 = .ok (.aload_n 2, 1) := dcq_713.2.2.2.2.2.2.2.2.2.1
theorem dL_law_340 : decode cL_law 340 = .ok (.aload_n 0, 1) := dcq_713.2.2.2.2.2.2.2.2.2.2.1
theorem dL_law_341 : decode cL_law 341 = .ok (.iload_n 3, 1) := dcq_713.2.2.2.2.2.2.2.2.2.2.2
set_option maxRecDepth 20000 in
theorem dcb_714 : fd_B cL_law 342 [4, 96, 46, 182, 0, 34, 87, 167, 4, 206, 43, 42, 29, 4, 96, 46] := fd_o cL_law 342 _ (by decide +kernel)
theorem dcq_714 : (decode cL_law 342 = .ok (.iconst 1, 1)) ∧ (decode cL_law 343 = .ok (.iadd, 1)) ∧ (decode cL_law 344 = .ok (.iaload, 1)) ∧ (decode cL_law 345 = .ok (.invokevirtual 34, 3)) ∧ (decode cL_law 348 = .ok (.pop, 1)) ∧ (decode cL_law 349 = .ok (.goto 1230, 3)) ∧ (decode cL_law 352 = .ok (.aload_n 1, 1)) ∧ (decode cL_law 353 = .ok (.aload_n 0, 1)) ∧ (decode cL_law 354 = .ok (.iload_n 3, 1)) ∧ (decode cL_law 355 = .ok (.iconst 1, 1)) ∧ (decode cL_law 356 = .ok (.iadd, 1)) ∧ (decode cL_law 357 = .ok (.iaload, 1)) := have h := dcb_714; ⟨fd_4 h, have h := fd_t1 h; ⟨fd_96 h, have h := fd_t1 h; ⟨fd_46 h, have h := fd_t1 h; ⟨fd_182 h rfl, have h := fd_t3 h; ⟨fd_87 h, have h := fd_t1 h; ⟨fd_167 h (by decide +kernel), have h := fd_t3 h; ⟨fd_43 h, have h := fd_t1 h; ⟨fd_42 h, have h := fd_t1 h; ⟨fd_29 h, have h := fd_t1 h; ⟨fd_4 h, have h := fd_t1 h; ⟨fd_96 h, have h := fd_t1 h; fd_46 h⟩⟩⟩⟩⟩⟩⟩⟩⟩⟩⟩
theorem dL_law_342 : decode cL_law 342 = .ok (.iconst 1, 1) := dcq_714.1
theorem dL_law_343 : decode cL_law 343 = .ok (.iadd, 1) := dcq_714.2.1
theorem dL_law_344 : decode cL_law 344 = .ok (.iaload, 1) := dcq_714.2.2.1
theorem dL_law_345 : decode cL_law 345 = .ok (.invokevirtual 34, 3) := dcq_714.2.2.2.1
theorem dL_law_348 : decode cL_law 348 = .ok (.pop, 1) := dcq_714.2.2.2.2.1
theorem dL_law_349 : decode cL_law 349 = .ok (.goto 1230, 3) := dcq_714.2.2.2.2.2.1
theorem dL_law_352 : decode cL_law 352 = .ok (.aload_n 1, 1) := dcq_714.2.2.2.2.2.2.1
theorem dL_law_353 : decode cL_law 353 = .ok (.aload_n 0, 1) := dcq_714.2.2.2.2.2.2.2.1
theorem dL_law_354 : decode cL_law 354 = .ok (.iload_n 3, 1) := dcq_714.2.2.2.2.2.2.2.2.1
theorem dL_law_355 : decode cL_law 355 = .ok (.iconst 1, 1) := dcq_714.2.2.2.2.2.2.2.2.2.1
theorem dL_law_356 : decode cL_law 356 = .ok (.iadd, 1) := dcq_714.2.2.2.2.2.2.2.2.2.2.1
theorem dL_law_357 : decode cL_law 357 = .ok (.iaload, 1) := dcq_714.2.2.2.2.2.2.2.2.2.2.2
set_option maxRecDepth 20000 in
theorem dcb_715 : fd_B cL_law 358 [42, 29, 5, 96, 46, 42, 29, 6, 96, 46, 42, 29] := fd_o cL_law 358 _ (by decide +kernel)
theorem dcq_715 : (decode cL_law 358 = .ok (.aload_n 0, 1)) ∧ (decode cL_law 359 = .ok (.iload_n 3, 1)) ∧ (decode cL_law 360 = .ok (.iconst 2, 1)) ∧ (decode cL_law 361 = .ok (.iadd, 1)) ∧ (decode cL_law 362 = .ok (.iaload, 1)) ∧ (decode cL_law 363 = .ok (.aload_n 0, 1)) ∧ (decode cL_law 364 = .ok (.iload_n 3, 1)) ∧ (decode cL_law 365 = .ok (.iconst 3, 1)) ∧ (decode cL_law 366 = .ok (.iadd, 1)) ∧ (decode cL_law 367 = .ok (.iaload, 1)) ∧ (decode cL_law 368 = .ok (.aload_n 0, 1)) ∧ (decode cL_law 369 = .ok (.iload_n 3, 1)) := have h := dcb_715; ⟨fd_42 h, have h := fd_t1 h; ⟨fd_29 h, have h := fd_t1 h; ⟨fd_5 h, have h := fd_t1 h; ⟨fd_96 h, have h := fd_t1 h; ⟨fd_46 h, have h := fd_t1 h; ⟨fd_42 h, have h := fd_t1 h; ⟨fd_29 h, have h := fd_t1 h; ⟨fd_6 h, have h := fd_t1 h; ⟨fd_96 h, have h := fd_t1 h; ⟨fd_46 h, have h := fd_t1 h; ⟨fd_42 h, have h := fd_t1 h; fd_29 h⟩⟩⟩⟩⟩⟩⟩⟩⟩⟩⟩
theorem dL_law_358 : decode cL_law 358 = .ok (.aload_n 0, 1) := dcq_715.1
theorem dL_law_359 : decode cL_law 359 = .ok (.iload_n 3, 1) := dcq_715.2.1
theorem dL_law_360 : decode cL_law 360 = .ok (.iconst 2, 1) := dcq_715.2.2.1
theorem dL_law_361 : decode cL_law 361 = .ok (.iadd, 1) := dcq_715.2.2.2.1
theorem dL_law_362 : decode cL_law 362 = .ok (.iaload, 1) := dcq_715.2.2.2.2.1
theorem dL_law_363 : decode cL_law 363 = .ok (.aload_n 0, 1) := dcq_715.2.2.2.2.2.1
theorem dL_law_364 : decode cL_law 364 = .ok (.iload_n 3, 1) := dcq_715.2.2.2.2.2.2.1
theorem dL_law_365 : decode cL_law 365 = .ok (.iconst 3, 1) := dcq_715.2.2.2.2.2.2.2.1
theorem dL_law_366 : decode cL_law 366 = .ok (.iadd, 1) := dcq_715.2.2.2.2.2.2.2.2.1
theorem dL_law_367 : decode cL_law 367 = .ok (.iaload, 1) := dcq_715.2.2.2.2.2.2.2.2.2.1
theorem dL_law_368 : decode cL_law 368 = .ok (.aload_n 0, 1) := dcq_715.2.2.2.2.2.2.2.2.2.2.1
theorem dL_law_369 : decode cL_law 369 = .ok (.iload_n 3, 1) := dcq_715.2.2.2.2.2.2.2.2.2.2.2
set_option maxRecDepth 20000 in
theorem dcb_716 : fd_B cL_law 370 [7, 96, 46, 182, 0, 35, 87, 44, 42, 29, 4, 96, 46, 42] := fd_o cL_law 370 _ (by decide +kernel)
theorem dcq_716 : (decode cL_law 370 = .ok (.iconst 4, 1)) ∧ (decode cL_law 371 = .ok (.iadd, 1)) ∧ (decode cL_law 372 = .ok (.iaload, 1)) ∧ (decode cL_law 373 = .ok (.invokevirtual 35, 3)) ∧ (decode cL_law 376 = .ok (.pop, 1)) ∧ (decode cL_law 377 = .ok (.aload_n 2, 1)) ∧ (decode cL_law 378 = .ok (.aload_n 0, 1)) ∧ (decode cL_law 379 = .ok (.iload_n 3, 1)) ∧ (decode cL_law 380 = .ok (.iconst 1, 1)) ∧ (decode cL_law 381 = .ok (.iadd, 1)) ∧ (decode cL_law 382 = .ok (.iaload, 1)) ∧ (decode cL_law 383 = .ok (.aload_n 0, 1)) := have h := dcb_716; ⟨fd_7 h, have h := fd_t1 h; ⟨fd_96 h, have h := fd_t1 h; ⟨fd_46 h, have h := fd_t1 h; ⟨fd_182 h rfl, have h := fd_t3 h; ⟨fd_87 h, have h := fd_t1 h; ⟨fd_44 h, have h := fd_t1 h; ⟨fd_42 h, have h := fd_t1 h; ⟨fd_29 h, have h := fd_t1 h; ⟨fd_4 h, have h := fd_t1 h; ⟨fd_96 h, have h := fd_t1 h; ⟨fd_46 h, have h := fd_t1 h; fd_42 h⟩⟩⟩⟩⟩⟩⟩⟩⟩⟩⟩
theorem dL_law_370 : decode cL_law 370 = .ok (.iconst 4, 1) := dcq_716.1
theorem dL_law_371 : decode cL_law 371 = .ok (.iadd, 1) := dcq_716.2.1
theorem dL_law_372 : decode cL_law 372 = .ok (.iaload, 1) := dcq_716.2.2.1
theorem dL_law_373 : decode cL_law 373 = .ok (.invokevirtual 35, 3) := dcq_716.2.2.2.1
theorem dL_law_376 : decode cL_law 376 = .ok (.pop, 1) := dcq_716.2.2.2.2.1
theorem dL_law_377 : decode cL_law 377 = .ok (.aload_n 2, 1) := dcq_716.2.2.2.2.2.1
theorem dL_law_378 : decode cL_law 378 = .ok (.aload_n 0, 1) := dcq_716.2.2.2.2.2.2.1
theorem dL_law_379 : decode cL_law 379 = .ok (.iload_n 3, 1) := dcq_716.2.2.2.2.2.2.2.1
theorem dL_law_380 : decode cL_law 380 = .ok (.iconst 1, 1) := dcq_716.2.2.2.2.2.2.2.2.1
theorem dL_law_381 : decode cL_law 381 = .ok (.iadd, 1) := dcq_716.2.2.2.2.2.2.2.2.2.1
theorem dL_law_382 : decode cL_law 382 = .ok (.iaload, 1) := dcq_716.2.2.2.2.2.2.2.2.2.2.1
theorem dL_law_383 : decode cL_law 383 = .ok (.aload_n 0, 1) := dcq_716.2.2.2.2.2.2.2.2.2.2.2
set_option maxRecDepth 20000 in
theorem dcb_717 : fd_B cL_law 384 [29, 5, 96, 46, 42, 29, 6, 96, 46, 42, 29, 7] := fd_o cL_law 384 _ (by decide +kernel)
theorem dcq_717 : (decode cL_law 384 = .ok (.iload_n 3, 1)) ∧ (decode cL_law 385 = .ok (.iconst 2, 1)) ∧ (decode cL_law 386 = .ok (.iadd, 1)) ∧ (decode cL_law 387 = .ok (.iaload, 1)) ∧ (decode cL_law 388 = .ok (.aload_n 0, 1)) ∧ (decode cL_law 389 = .ok (.iload_n 3, 1)) ∧ (decode cL_law 390 = .ok (.iconst 3, 1)) ∧ (decode cL_law 391 = .ok (.iadd, 1)) ∧ (decode cL_law 392 = .ok (.iaload, 1)) ∧ (decode cL_law 393 = .ok (.aload_n 0, 1)) ∧ (decode cL_law 394 = .ok (.iload_n 3, 1)) ∧ (decode cL_law 395 = .ok (.iconst 4, 1)) := have h := dcb_717; ⟨fd_29 h, have h := fd_t1 h; ⟨fd_5 h, have h := fd_t1 h; ⟨fd_96 h, have h := fd_t1 h; ⟨fd_46 h, have h := fd_t1 h; ⟨fd_42 h, have h := fd_t1 h; ⟨fd_29 h, have h := fd_t1 h; ⟨fd_6 h, have h := fd_t1 h; ⟨fd_96 h, have h := fd_t1 h; ⟨fd_46 h, have h := fd_t1 h; ⟨fd_42 h, have h := fd_t1 h; ⟨fd_29 h, have h := fd_t1 h; fd_7 h⟩⟩⟩⟩⟩⟩⟩⟩⟩⟩⟩
theorem dL_law_384 : decode cL_law 384 = .ok (.iload_n 3, 1) := dcq_717.1
theorem dL_law_385 : decode cL_law 385 = .ok (.iconst 2, 1) := dcq_717.2.1
theorem dL_law_386 : decode cL_law 386 = .ok (.iadd, 1) := dcq_717.2.2.1
theorem dL_law_387 : decode cL_law 387 = .ok (.iaload, 1) := dcq_717.2.2.2.1
theorem dL_law_388 : decode cL_law 388 = .ok (.aload_n 0, 1) := dcq_717.2.2.2.2.1
theorem dL_law_389 : decode cL_law 389 = .ok (.iload_n 3, 1) := dcq_717.2.2.2.2.2.1
theorem dL_law_390 : decode cL_law 390 = .ok (.iconst 3, 1) := dcq_717.2.2.2.2.2.2.1
theorem dL_law_391 : decode cL_law 391 = .ok (.iadd, 1) := dcq_717.2.2.2.2.2.2.2.1
theorem dL_law_392 : decode cL_law 392 = .ok (.iaload, 1) := dcq_717.2.2.2.2.2.2.2.2.1
theorem dL_law_393 : decode cL_law 393 = .ok (.aload_n 0, 1) := dcq_717.2.2.2.2.2.2.2.2.2.1
theorem dL_law_394 : decode cL_law 394 = .ok (.iload_n 3, 1) := dcq_717.2.2.2.2.2.2.2.2.2.2.1
theorem dL_law_395 : decode cL_law 395 = .ok (.iconst 4, 1) := dcq_717.2.2.2.2.2.2.2.2.2.2.2
set_option maxRecDepth 20000 in
theorem dcb_718 : fd_B cL_law 396 [96, 46, 182, 0, 39, 87, 167, 4, 153, 43, 42, 29, 4, 96, 46, 42] := fd_o cL_law 396 _ (by decide +kernel)
theorem dcq_718 : (decode cL_law 396 = .ok (.iadd, 1)) ∧ (decode cL_law 397 = .ok (.iaload, 1)) ∧ (decode cL_law 398 = .ok (.invokevirtual 39, 3)) ∧ (decode cL_law 401 = .ok (.pop, 1)) ∧ (decode cL_law 402 = .ok (.goto 1177, 3)) ∧ (decode cL_law 405 = .ok (.aload_n 1, 1)) ∧ (decode cL_law 406 = .ok (.aload_n 0, 1)) ∧ (decode cL_law 407 = .ok (.iload_n 3, 1)) ∧ (decode cL_law 408 = .ok (.iconst 1, 1)) ∧ (decode cL_law 409 = .ok (.iadd, 1)) ∧ (decode cL_law 410 = .ok (.iaload, 1)) ∧ (decode cL_law 411 = .ok (.aload_n 0, 1)) := have h := dcb_718; ⟨fd_96 h, have h := fd_t1 h; ⟨fd_46 h, have h := fd_t1 h; ⟨fd_182 h rfl, have h := fd_t3 h; ⟨fd_87 h, have h := fd_t1 h; ⟨fd_167 h (by decide +kernel), have h := fd_t3 h; ⟨fd_43 h, have h := fd_t1 h; ⟨fd_42 h, have h := fd_t1 h; ⟨fd_29 h, have h := fd_t1 h; ⟨fd_4 h, have h := fd_t1 h; ⟨fd_96 h, have h := fd_t1 h; ⟨fd_46 h, have h := fd_t1 h; fd_42 h⟩⟩⟩⟩⟩⟩⟩⟩⟩⟩⟩
theorem dL_law_396 : decode cL_law 396 = .ok (.iadd, 1) := dcq_718.1
theorem dL_law_397 : decode cL_law 397 = .ok (.iaload, 1) := dcq_718.2.1
theorem dL_law_398 : decode cL_law 398 = .ok (.invokevirtual 39, 3) := dcq_718.2.2.1
theorem dL_law_401 : decode cL_law 401 = .ok (.pop, 1) := dcq_718.2.2.2.1
theorem dL_law_402 : decode cL_law 402 = .ok (.goto 1177, 3) := dcq_718.2.2.2.2.1
theorem dL_law_405 : decode cL_law 405 = .ok (.aload_n 1, 1) := dcq_718.2.2.2.2.2.1
theorem dL_law_406 : decode cL_law 406 = .ok (.aload_n 0, 1) := dcq_718.2.2.2.2.2.2.1
theorem dL_law_407 : decode cL_law 407 = .ok (.iload_n 3, 1) := dcq_718.2.2.2.2.2.2.2.1
theorem dL_law_408 : decode cL_law 408 = .ok (.iconst 1, 1) := dcq_718.2.2.2.2.2.2.2.2.1
theorem dL_law_409 : decode cL_law 409 = .ok (.iadd, 1) := dcq_718.2.2.2.2.2.2.2.2.2.1
theorem dL_law_410 : decode cL_law 410 = .ok (.iaload, 1) := dcq_718.2.2.2.2.2.2.2.2.2.2.1
theorem dL_law_411 : decode cL_law 411 = .ok (.aload_n 0, 1) := dcq_718.2.2.2.2.2.2.2.2.2.2.2
set_option maxRecDepth 20000 in
theorem dcb_719 : fd_B cL_law 412 [29, 5, 96, 46, 182, 0, 40, 87, 44, 42, 29, 4, 96, 46] := fd_o cL_law 412 _ (by decide +kernel)
theorem dcq_719 : (decode cL_law 412 = .ok (.iload_n 3, 1)) ∧ (decode cL_law 413 = .ok (.iconst 2, 1)) ∧ (decode cL_law 414 = .ok (.iadd, 1)) ∧ (decode cL_law 415 = .ok (.iaload, 1)) ∧ (decode cL_law 416 = .ok (.invokevirtual 40, 3)) ∧ (decode cL_law 419 = .ok (.pop, 1)) ∧ (decode cL_law 420 = .ok (.aload_n 2, 1)) ∧ (decode cL_law 421 = .ok (.aload_n 0, 1)) ∧ (decode cL_law 422 = .ok (.iload_n 3, 1)) ∧ (decode cL_law 423 = .ok (.iconst 1, 1)) ∧ (decode cL_law 424 = .ok (.iadd, 1)) ∧ (decode cL_law 425 = .ok (.iaload, 1)) := have h := dcb_719; ⟨fd_29 h, have h := fd_t1 h; ⟨fd_5 h, have h := fd_t1 h; ⟨fd_96 h, have h := fd_t1 h; ⟨fd_46 h, have h := fd_t1 h; ⟨fd_182 h rfl, have h := fd_t3 h; ⟨fd_87 h, have h := fd_t1 h; ⟨fd_44 h, have h := fd_t1 h; ⟨fd_42 h, have h := fd_t1 h; ⟨fd_29 h, have h := fd_t1 h; ⟨fd_4 h, have h := fd_t1 h; ⟨fd_96 h, have h := fd_t1 h; fd_46 h⟩⟩⟩⟩⟩⟩⟩⟩⟩⟩⟩
theorem dL_law_412 : decode cL_law 412 = .ok (.iload_n 3, 1) := dcq_719.1
theorem dL_law_413 : decode cL_law 413 = .ok (.iconst 2, 1) := dcq_719.2.1
theorem dL_law_414 : decode cL_law 414 = .ok (.iadd, 1) := dcq_719.2.2.1
theorem dL_law_415 : decode cL_law 415 = .ok (.iaload, 1) := dcq_719.2.2.2.1
theorem dL_law_416 : decode cL_law 416 = .ok (.invokevirtual 40, 3) := dcq_719.2.2.2.2.1
theorem dL_law_419 : decode cL_law 419 = .ok (.pop, 1) := dcq_719.2.2.2.2.2.1
theorem dL_law_420 : decode cL_law 420 = .ok (.aload_n 2, 1) := dcq_719.2.2.2.2.2.2.1
theorem dL_law_421 : decode cL_law 421 = .ok (.aload_n 0, 1) := dcq_719.2.2.2.2.2.2.2.1
theorem dL_law_422 : decode cL_law 422 = .ok (.iload_n 3, 1) := dcq_719.2.2.2.2.2.2.2.2.1
theorem dL_law_423 : decode cL_law 423 = .ok (.iconst 1, 1) := dcq_719.2.2.2.2.2.2.2.2.2.1
theorem dL_law_424 : decode cL_law 424 = .ok (.iadd, 1) := dcq_719.2.2.2.2.2.2.2.2.2.2.1
theorem dL_law_425 : decode cL_law 425 = .ok (.iaload, 1) := dcq_719.2.2.2.2.2.2.2.2.2.2.2
set_option maxRecDepth 20000 in
theorem dcb_720 : fd_B cL_law 426 [42, 29, 5, 96, 46, 182, 0, 43, 87, 167, 4, 120, 43, 42, 29, 4] := fd_o cL_law 426 _ (by decide +kernel)
theorem dcq_720 : (decode cL_law 426 = .ok (.aload_n 0, 1)) ∧ (decode cL_law 427 = .ok (.iload_n 3, 1)) ∧ (decode cL_law 428 = .ok (.iconst 2, 1)) ∧ (decode cL_law 429 = .ok (.iadd, 1)) ∧ (decode cL_law 430 = .ok (.iaload, 1)) ∧ (decode cL_law 431 = .ok (.invokevirtual 43, 3)) ∧ (decode cL_law 434 = .ok (.pop, 1)) ∧ (decode cL_law 435 = .ok (.goto 1144, 3)) ∧ (decode cL_law 438 = .ok (.aload_n 1, 1)) ∧ (decode cL_law 439 = .ok (.aload_n 0, 1)) ∧ (decode cL_law 440 = .ok (.iload_n 3, 1)) ∧ (decode cL_law 441 = .ok (.iconst 1, 1)) := have h := dcb_720; ⟨fd_42 h, have h := fd_t1 h; ⟨fd_29 h, have h := fd_t1 h; ⟨fd_5 h, have h := fd_t1 h; ⟨fd_96 h, have h := fd_t1 h; ⟨fd_46 h, have h := fd_t1 h; ⟨fd_182 h rfl, have h := fd_t3 h; ⟨fd_87 h, have h := fd_t1 h; ⟨fd_167 h (by decide +kernel), have h := fd_t3 h; ⟨fd_43 h, have h := fd_t1 h; ⟨fd_42 h, have h := fd_t1 h; ⟨fd_29 h, have h := fd_t1 h; fd_4 h⟩⟩⟩⟩⟩⟩⟩⟩⟩⟩⟩
theorem dL_law_426 : decode cL_law 426 = .ok (.aload_n 0, 1) := dcq_720.1
theorem dL_law_427 : decode cL_law 427 = .ok (.iload_n 3, 1) := dcq_720.2.1
theorem dL_law_428 : decode cL_law 428 = .ok (.iconst 2, 1) := dcq_720.2.2.1
theorem dL_law_429 : decode cL_law 429 = .ok (.iadd, 1) := dcq_720.2.2.2.1
theorem dL_law_430 : decode cL_law 430 = .ok (.iaload, 1) := dcq_720.2.2.2.2.1
theorem dL_law_431 : decode cL_law 431 = .ok (.invokevirtual 43, 3) := dcq_720.2.2.2.2.2.1
theorem dL_law_434 : decode cL_law 434 = .ok (.pop, 1) := dcq_720.2.2.2.2.2.2.1
theorem dL_law_435 : decode cL_law 435 = .ok (.goto 1144, 3) := dcq_720.2.2.2.2.2.2.2.1
theorem dL_law_438 : decode cL_law 438 = .ok (.aload_n 1, 1) := dcq_720.2.2.2.2.2.2.2.2.1
theorem dL_law_439 : decode cL_law 439 = .ok (.aload_n 0, 1) := dcq_720.2.2.2.2.2.2.2.2.2.1
theorem dL_law_440 : decode cL_law 440 = .ok (.iload_n 3, 1) := dcq_720.2.2.2.2.2.2.2.2.2.2.1
theorem dL_law_441 : decode cL_law 441 = .ok (.iconst 1, 1) := dcq_720.2.2.2.2.2.2.2.2.2.2.2
set_option maxRecDepth 20000 in
theorem dcb_721 : fd_B cL_law 442 [96, 46, 42, 29, 5, 96, 46, 182, 0, 44, 87, 44, 42, 29] := fd_o cL_law 442 _ (by decide +kernel)
theorem dcq_721 : (decode cL_law 442 = .ok (.iadd, 1)) ∧ (decode cL_law 443 = .ok (.iaload, 1)) ∧ (decode cL_law 444 = .ok (.aload_n 0, 1)) ∧ (decode cL_law 445 = .ok (.iload_n 3, 1)) ∧ (decode cL_law 446 = .ok (.iconst 2, 1)) ∧ (decode cL_law 447 = .ok (.iadd, 1)) ∧ (decode cL_law 448 = .ok (.iaload, 1)) ∧ (decode cL_law 449 = .ok (.invokevirtual 44, 3)) ∧ (decode cL_law 452 = .ok (.pop, 1)) ∧ (decode cL_law 453 = .ok (.aload_n 2, 1)) ∧ (decode cL_law 454 = .ok (.aload_n 0, 1)) ∧ (decode cL_law 455 = .ok (.iload_n 3, 1)) := have h := dcb_721; ⟨fd_96 h, have h := fd_t1 h; ⟨fd_46 h, have h := fd_t1 h; ⟨fd_42 h, have h := fd_t1 h; ⟨fd_29 h, have h := fd_t1 h; ⟨fd_5 h, have h := fd_t1 h; ⟨fd_96 h, have h := fd_t1 h; ⟨fd_46 h, have h := fd_t1 h; ⟨fd_182 h rfl, have h := fd_t3 h; ⟨fd_87 h, have h := fd_t1 h; ⟨fd_44 h, have h := fd_t1 h; ⟨fd_42 h, have h := fd_t1 h; fd_29 h⟩⟩⟩⟩⟩⟩⟩⟩⟩⟩⟩
theorem dL_law_442 : decode cL_law 442 = .ok (.iadd, 1) := dcq_721.1
theorem dL_law_443 : decode cL_law 443 = .ok (.iaload, 1) := dcq_721.2.1
theorem dL_law_444 : decode cL_law 444 = .ok (.aload_n 0, 1) := dcq_721.2.2.1
theorem dL_law_445 : decode cL_law 445 = .ok (.iload_n 3, 1) := dcq_721.2.2.2.1
theorem dL_law_446 : decode cL_law 446 = .ok (.iconst 2, 1) := dcq_721.2.2.2.2.1
theorem dL_law_447 : decode cL_law 447 = .ok (.iadd, 1) := dcq_721.2.2.2.2.2.1
theorem dL_law_448 : decode cL_law 448 = .ok (.iaload, 1) := dcq_721.2.2.2.2.2.2.1
theorem dL_law_449 : decode cL_law 449 = .ok (.invokevirtual 44, 3) := dcq_721.2.2.2.2.2.2.2.1
theorem dL_law_452 : decode cL_law 452 = .ok (.pop, 1) := dcq_721.2.2.2.2.2.2.2.2.1
theorem dL_law_453 : decode cL_law 453 = .ok (.aload_n 2, 1) := dcq_721.2.2.2.2.2.2.2.2.2.1
theorem dL_law_454 : decode cL_law 454 = .ok (.aload_n 0, 1) := dcq_721.2.2.2.2.2.2.2.2.2.2.1
theorem dL_law_455 : decode cL_law 455 = .ok (.iload_n 3, 1) := dcq_721.2.2.2.2.2.2.2.2.2.2.2
set_option maxRecDepth 20000 in
theorem dcb_722 : fd_B cL_law 456 [4, 96, 46, 42, 29, 5, 96, 46, 182, 0, 47, 87, 167, 4, 87, 43] := fd_o cL_law 456 _ (by decide +kernel)
theorem dcq_722 : (decode cL_law 456 = .ok (.iconst 1, 1)) ∧ (decode cL_law 457 = .ok (.iadd, 1)) ∧ (decode cL_law 458 = .ok (.iaload, 1)) ∧ (decode cL_law 459 = .ok (.aload_n 0, 1)) ∧ (decode cL_law 460 = .ok (.iload_n 3, 1)) ∧ (decode cL_law 461 = .ok (.iconst 2, 1)) ∧ (decode cL_law 462 = .ok (.iadd, 1)) ∧ (decode cL_law 463 = .ok (.iaload, 1)) ∧ (decode cL_law 464 = .ok (.invokevirtual 47, 3)) ∧ (decode cL_law 467 = .ok (.pop, 1)) ∧ (decode cL_law 468 = .ok (.goto 1111, 3)) ∧ (decode cL_law 471 = .ok (.aload_n 1, 1)) := have h := dcb_722; ⟨fd_4 h, have h := fd_t1 h; ⟨fd_96 h, have h := fd_t1 h; ⟨fd_46 h, have h := fd_t1 h; ⟨fd_42 h, have h := fd_t1 h; ⟨fd_29 h, have h := fd_t1 h; ⟨fd_5 h, have h := fd_t1 h; ⟨fd_96 h, have h := fd_t1 h; ⟨fd_46 h, have h := fd_t1 h; ⟨fd_182 h rfl, have h := fd_t3 h; ⟨fd_87 h, have h := fd_t1 h; ⟨fd_167 h (by decide +kernel), have h := fd_t3 h; fd_43 h⟩⟩⟩⟩⟩⟩⟩⟩⟩⟩⟩
theorem dL_law_456 : decode cL_law 456 = .ok (.iconst 1, 1) := dcq_722.1
theorem dL_law_457 : decode cL_law 457 = .ok (.iadd, 1) := dcq_722.2.1
theorem dL_law_458 : decode cL_law 458 = .ok (.iaload, 1) := dcq_722.2.2.1
theorem dL_law_459 : decode cL_law 459 = .ok (.aload_n 0, 1) := dcq_722.2.2.2.1
theorem dL_law_460 : decode cL_law 460 = .ok (.iload_n 3, 1) := dcq_722.2.2.2.2.1
theorem dL_law_461 : decode cL_law 461 = .ok (.iconst 2, 1) := dcq_722.2.2.2.2.2.1
theorem dL_law_462 : decode cL_law 462 = .ok (.iadd, 1) := dcq_722.2.2.2.2.2.2.1
theorem dL_law_463 : decode cL_law 463 = .ok (.iaload, 1) := dcq_722.2.2.2.2.2.2.2.1
theorem dL_law_464 : decode cL_law 464 = .ok (.invokevirtual 47, 3) := dcq_722.2.2.2.2.2.2.2.2.1
theorem dL_law_467 : decode cL_law 467 = .ok (.pop, 1) := dcq_722.2.2.2.2.2.2.2.2.2.1
theorem dL_law_468 : decode cL_law 468 = .ok (.goto 1111, 3) := dcq_722.2.2.2.2.2.2.2.2.2.2.1
theorem dL_law_471 : decode cL_law 471 = .ok (.aload_n 1, 1) := dcq_722.2.2.2.2.2.2.2.2.2.2.2
set_option maxRecDepth 20000 in
theorem dcb_723 : fd_B cL_law 472 [42, 29, 4, 96, 46, 42, 29, 5, 96, 46, 42, 29] := fd_o cL_law 472 _ (by decide +kernel)
theorem dcq_723 : (decode cL_law 472 = .ok (.aload_n 0, 1)) ∧ (decode cL_law 473 = .ok (.iload_n 3, 1)) ∧ (decode cL_law 474 = .ok (.iconst 1, 1)) ∧ (decode cL_law 475 = .ok (.iadd, 1)) ∧ (decode cL_law 476 = .ok (.iaload, 1)) ∧ (decode cL_law 477 = .ok (.aload_n 0, 1)) ∧ (decode cL_law 478 = .ok (.iload_n 3, 1)) ∧ (decode cL_law 479 = .ok (.iconst 2, 1)) ∧ (decode cL_law 480 = .ok (.iadd, 1)) ∧ (decode cL_law 481 = .ok (.iaload, 1)) ∧ (decode cL_law 482 = .ok (.aload_n 0, 1)) ∧ (decode cL_law 483 = .ok (.iload_n 3, 1)) := have h := dcb_723; ⟨fd_42 h, have h := fd_t1 h; ⟨fd_29 h, have h := fd_t1 h; ⟨fd_4 h, have h := fd_t1 h; ⟨fd_96 h, have h := fd_t1 h; ⟨fd_46 h, have h := fd_t1 h; ⟨fd_42 h, have h := fd_t1 h; ⟨fd_29 h, have h := fd_t1 h; ⟨fd_5 h, have h := fd_t1 h; ⟨fd_96 h, have h := fd_t1 h; ⟨fd_46 h, have h := fd_t1 h; ⟨fd_42 h, have h := fd_t1 h; fd_29 h⟩⟩⟩⟩⟩⟩⟩⟩⟩⟩⟩
theorem dL_law_472 : decode cL_law 472 = .ok (.aload_n 0, 1) := dcq_723.1
theorem dL_law_473 : decode cL_law 473 = .ok (.iload_n 3, 1) := dcq_723.2.1
theorem dL_law_474 : decode cL_law 474 = .ok (.iconst 1, 1) := dcq_723.2.2.1
theorem dL_law_475 : decode cL_law 475 = .ok (.iadd, 1) := dcq_723.2.2.2.1
theorem dL_law_476 : decode cL_law 476 = .ok (.iaload, 1) := dcq_723.2.2.2.2.1
theorem dL_law_477 : decode cL_law 477 = .ok (.aload_n 0, 1) := dcq_723.2.2.2.2.2.1
theorem dL_law_478 : decode cL_law 478 = .ok (.iload_n 3, 1) := dcq_723.2.2.2.2.2.2.1
theorem dL_law_479 : decode cL_law 479 = .ok (.iconst 2, 1) := dcq_723.2.2.2.2.2.2.2.1
theorem dL_law_480 : decode cL_law 480 = .ok (.iadd, 1) := dcq_723.2.2.2.2.2.2.2.2.1
theorem dL_law_481 : decode cL_law 481 = .ok (.iaload, 1) := dcq_723.2.2.2.2.2.2.2.2.2.1
theorem dL_law_482 : decode cL_law 482 = .ok (.aload_n 0, 1) := dcq_723.2.2.2.2.2.2.2.2.2.2.1
theorem dL_law_483 : decode cL_law 483 = .ok (.iload_n 3, 1) := dcq_723.2.2.2.2.2.2.2.2.2.2.2
set_option maxRecDepth 20000 in
theorem dcb_724 : fd_B cL_law 484 [6, 96, 46, 182, 0, 48, 87, 44, 42, 29, 4, 96, 46, 42] := fd_o cL_law 484 _ (by decide +kernel)
theorem dcq_724 : (decode cL_law 484 = .ok (.iconst 3, 1)) ∧ (decode cL_law 485 = .ok (.iadd, 1)) ∧ (decode cL_law 486 = .ok (.iaload, 1)) ∧ (decode cL_law 487 = .ok (.invokevirtual 48, 3)) ∧ (decode cL_law 490 = .ok (.pop, 1)) ∧ (decode cL_law 491 = .ok (.aload_n 2, 1)) ∧ (decode cL_law 492 = .ok (.aload_n 0, 1)) ∧ (decode cL_law 493 = .ok (.iload_n 3, 1)) ∧ (decode cL_law 494 = .ok (.iconst 1, 1)) ∧ (decode cL_law 495 = .ok (.iadd, 1)) ∧ (decode cL_law 496 = .ok (.iaload, 1)) ∧ (decode cL_law 497 = .ok (.aload_n 0, 1)) := have h := dcb_724; ⟨fd_6 h, have h := fd_t1 h; ⟨fd_96 h, have h := fd_t1 h; ⟨fd_46 h, have h := fd_t1 h; ⟨fd_182 h rfl, have h := fd_t3 h; ⟨fd_87 h, have h := fd_t1 h; ⟨fd_44 h, have h := fd_t1 h; ⟨fd_42 h, have h := fd_t1 h; ⟨fd_29 h, have h := fd_t1 h; ⟨fd_4 h, have h := fd_t1 h; ⟨fd_96 h, have h := fd_t1 h; ⟨fd_46 h, have h := fd_t1 h; fd_42 h⟩⟩⟩⟩⟩⟩⟩⟩⟩⟩⟩
theorem dL_law_484 : decode cL_law 484 = .ok (.iconst 3, 1) := dcq_724.1
theorem dL_law_485 : decode cL_law 485 = .ok (.iadd, 1) := dcq_724.2.1
theorem dL_law_486 : decode cL_law 486 = .ok (.iaload, 1) := dcq_724.2.2.1
theorem dL_law_487 : decode cL_law 487 = .ok (.invokevirtual 48, 3) := dcq_724.2.2.2.1
theorem dL_law_490 : decode cL_law 490 = .ok (.pop, 1) := dcq_724.2.2.2.2.1
theorem dL_law_491 : decode cL_law 491 = .ok (.aload_n 2, 1) := dcq_724.2.2.2.2.2.1
theorem dL_law_492 : decode cL_law 492 = .ok (.aload_n 0, 1) := dcq_724.2.2.2.2.2.2.1
theorem dL_law_493 : decode cL_law 493 = .ok (.iload_n 3, 1) := dcq_724.2.2.2.2.2.2.2.1
theorem dL_law_494 : decode cL_law 494 = .ok (.iconst 1, 1) := dcq_724.2.2.2.2.2.2.2.2.1
theorem dL_law_495 : decode cL_law 495 = .ok (.iadd, 1) := dcq_724.2.2.2.2.2.2.2.2.2.1
theorem dL_law_496 : decode cL_law 496 = .ok (.iaload, 1) := dcq_724.2.2.2.2.2.2.2.2.2.2.1
theorem dL_law_497 : decode cL_law 497 = .ok (.aload_n 0, 1) := dcq_724.2.2.2.2.2.2.2.2.2.2.2
set_option maxRecDepth 20000 in
theorem dcb_725 : fd_B cL_law 498 [29, 5, 96, 46, 42, 29, 6, 96, 46, 182, 0, 52, 87, 167, 4, 44] := fd_o cL_law 498 _ (by decide +kernel)
theorem dcq_725 : (decode cL_law 498 = .ok (.iload_n 3, 1)) ∧ (decode cL_law 499 = .ok (.iconst 2, 1)) ∧ (decode cL_law 500 = .ok (.iadd, 1)) ∧ (decode cL_law 501 = .ok (.iaload, 1)) ∧ (decode cL_law 502 = .ok (.aload_n 0, 1)) ∧ (decode cL_law 503 = .ok (.iload_n 3, 1)) ∧ (decode cL_law 504 = .ok (.iconst 3, 1)) ∧ (decode cL_law 505 = .ok (.iadd, 1)) ∧ (decode cL_law 506 = .ok (.iaload, 1)) ∧ (decode cL_law 507 = .ok (.invokevirtual 52, 3)) ∧ (decode cL_law 510 = .ok (.pop, 1)) ∧ (decode cL_law 511 = .ok (.goto 1068, 3)) := have h := dcb_725; ⟨fd_29 h, have h := fd_t1 h; ⟨fd_5 h, have h := fd_t1 h; ⟨fd_96 h, have h := fd_t1 h; ⟨fd_46 h, have h := fd_t1 h; ⟨fd_42 h, have h := fd_t1 h; ⟨fd_29 h, have h := fd_t1 h; ⟨fd_6 h, have h := fd_t1 h; ⟨fd_96 h, have h := fd_t1 h; ⟨fd_46 h, have h := fd_t1 h; ⟨fd_182 h rfl, have h := fd_t3 h; ⟨fd_87 h, have h := fd_t1 h; fd_167 h (by decide +kernel)⟩⟩⟩⟩⟩⟩⟩⟩⟩⟩⟩
theorem dL_law_498 : decode cL_law 498 = .ok (.iload_n 3, 1) := dcq_725.1
theorem dL_law_499 : decode cL_law 499 = .ok (.iconst 2, 1) := dcq_725.2.1
theorem dL_law_500 : decode cL_law 500 = .ok (.iadd, 1) := dcq_725.2.2.1
theorem dL_law_501 : decode cL_law 501 = .ok (.iaload, 1) := dcq_725.2.2.2.1
theorem dL_law_502 : decode cL_law 502 = .ok (.aload_n 0, 1) := dcq_725.2.2.2.2.1
theorem dL_law_503 : decode cL_law 503 = .ok (.iload_n 3, 1) := dcq_725.2.2.2.2.2.1
theorem dL_law_504 : decode cL_law 504 = .ok (.iconst 3, 1) := dcq_725.2.2.2.2.2.2.1
theorem dL_law_505 : decode cL_law 505 = .ok (.iadd, 1) := dcq_725.2.2.2.2.2.2.2.1
theorem dL_law_506 : decode cL_law 506 = .ok (.iaload, 1) := dcq_725.2.2.2.2.2.2.2.2.1
theorem dL_law_507 : decode cL_law 507 = .ok (.invokevirtual 52, 3) := dcq_725.2.2.2.2.2.2.2.2.2.1
theorem dL_law_510 : decode cL_law 510 = .ok (.pop, 1) := dcq_725.2.2.2.2.2.2.2.2.2.2.1
theorem dL_law_511 : decode cL_law 511 = .ok (.goto 1068, 3) := dcq_725.2.2.2.2.2.2.2.2.2.2.2
set_option maxRecDepth 20000 in
theorem dcb_726 : fd_B cL_law 514 [43, 42, 29, 4, 96, 46, 42, 29, 5, 96, 46, 182, 0, 53] := fd_o cL_law 514 _ (by decide +kernel)
theorem dcq_726 : (decode cL_law 514 = .ok (.aload_n 1, 1)) ∧ (decode cL_law 515 = .ok (.aload_n 0, 1)) ∧ (decode cL_law 516 = .ok (.iload_n 3, 1)) ∧ (decode cL_law 517 = .ok (.iconst 1, 1)) ∧ (decode cL_law 518 = .ok (.iadd, 1)) ∧ (decode cL_law 519 = .ok (.iaload, 1)) ∧ (decode cL_law 520 = .ok (.aload_n 0, 1)) ∧ (decode cL_law 521 = .ok (.iload_n 3, 1)) ∧ (decode cL_law 522 = .ok (.iconst 2, 1)) ∧ (decode cL_law 523 = .ok (.iadd, 1)) ∧ (decode cL_law 524 = .ok (.iaload, 1)) ∧ (decode cL_law 525 = .ok (.invokevirtual 53, 3)) := have h := dcb_726; ⟨fd_43 h, have h := fd_t1 h; ⟨fd_42 h, have h := fd_t1 h; ⟨fd_29 h, have h := fd_t1 h; ⟨fd_4 h, have h := fd_t1 h; ⟨fd_96 h, have h := fd_t1 h; ⟨fd_46 h, have h := fd_t1 h; ⟨fd_42 h, have h := fd_t1 h; ⟨fd_29 h, have h := fd_t1 h; ⟨fd_5 h, have h := fd_t1 h; ⟨fd_96 h, have h := fd_t1 h; ⟨fd_46 h, have h := fd_t1 h; fd_182 h rfl⟩⟩⟩⟩⟩⟩⟩⟩⟩⟩⟩
theorem dL_law_514 : decode cL_law 514 = .ok (.aload_n 1, 1) := dcq_726.1
theorem dL_law_515 : decode cL_law 515 = .ok (.aload_n 0, 1) := dcq_726.2.1
theorem dL_law_516 : decode cL_law 516 = .ok (.iload_n 3, 1) := dcq_726.2.2.1
theorem dL_law_517 : decode cL_law 517 = .ok (.iconst 1, 1) := dcq_726.2.2.2.1
theorem dL_law_518 : decode cL_law 518 = .ok (.iadd, 1) := dcq_726.2.2.2.2.1
theorem dL_law_519 : decode cL_law 519 = .ok (.iaload, 1) := dcq_726.2.2.2.2.2.1
theorem dL_law_520 : decode cL_law 520 = .ok (.aload_n 0, 1) := dcq_726.2.2.2.2.2.2.1
theorem dL_law_521 : decode cL_law 521 = .ok (.iload_n 3, 1) := dcq_726.2.2.2.2.2.2.2.1
theorem dL_law_522 : decode cL_law 522 = .ok (.iconst 2, 1) := dcq_726.2.2.2.2.2.2.2.2.1
theorem dL_law_523 : decode cL_law 523 = .ok (.iadd, 1) := dcq_726.2.2.2.2.2.2.2.2.2.1
theorem dL_law_524 : decode cL_law 524 = .ok (.iaload, 1) := dcq_726.2.2.2.2.2.2.2.2.2.2.1
theorem dL_law_525 : decode cL_law 525 = .ok (.invokevirtual 53, 3) := dcq_726.2.2.2.2.2.2.2.2.2.2.2
set_option maxRecDepth 20000 in
theorem dcb_727 : fd_B cL_law 528 [87, 44, 42, 29, 4, 96, 46, 42, 29, 5, 96, 46] := fd_o cL_law 528 _ (by decide +kernel)
theorem dcq_727 : (decode cL_law 528 = .ok (.pop, 1)) ∧ (decode cL_law 529 = .ok (.aload_n 2, 1)) ∧ (decode cL_law 530 = .ok (.aload_n 0, 1)) ∧ (decode cL_law 531 = .ok (.iload_n 3, 1)) ∧ (decode cL_law 532 = .ok (.iconst 1, 1)) ∧ (decode cL_law 533 = .ok (.iadd, 1)) ∧ (decode cL_law 534 = .ok (.iaload, 1)) ∧ (decode cL_law 535 = .ok (.aload_n 0, 1)) ∧ (decode cL_law 536 = .ok (.iload_n 3, 1)) ∧ (decode cL_law 537 = .ok (.iconst 2, 1)) ∧ (decode cL_law 538 = .ok (.iadd, 1)) ∧ (decode cL_law 539 = .ok (.iaload, 1)) := have h := dcb_727; ⟨fd_87 h, have h := fd_t1 h; ⟨fd_44 h, have h := fd_t1 h; ⟨fd_42 h, have h := fd_t1 h; ⟨fd_29 h, have h := fd_t1 h; ⟨fd_4 h, have h := fd_t1 h; ⟨fd_96 h, have h := fd_t1 h; ⟨fd_46 h, have h := fd_t1 h; ⟨fd_42 h, have h := fd_t1 h; ⟨fd_29 h, have h := fd_t1 h; ⟨fd_5 h, have h := fd_t1 h; ⟨fd_96 h, have h := fd_t1 h; fd_46 h⟩⟩⟩⟩⟩⟩⟩⟩⟩⟩⟩
theorem dL_law_528 : decode cL_law 528 = .ok (.pop, 1) := dcq_727.1
theorem dL_law_529 : decode cL_law 529 = .ok (.aload_n 2, 1) := dcq_727.2.1
theorem dL_law_530 : decode cL_law 530 = .ok (.aload_n 0, 1) := dcq_727.2.2.1
theorem dL_law_531 : decode cL_law 531 = .ok (.iload_n 3, 1) := dcq_727.2.2.2.1
theorem dL_law_532 : decode cL_law 532 = .ok (.iconst 1, 1) := dcq_727.2.2.2.2.1
theorem dL_law_533 : decode cL_law 533 = .ok (.iadd, 1) := dcq_727.2.2.2.2.2.1
theorem dL_law_534 : decode cL_law 534 = .ok (.iaload, 1) := dcq_727.2.2.2.2.2.2.1
theorem dL_law_535 : decode cL_law 535 = .ok (.aload_n 0, 1) := dcq_727.2.2.2.2.2.2.2.1
theorem dL_law_536 : decode cL_law 536 = .ok (.iload_n 3, 1) := dcq_727.2.2.2.2.2.2.2.2.1
theorem dL_law_537 : decode cL_law 537 = .ok (.iconst 2, 1) := dcq_727.2.2.2.2.2.2.2.2.2.1
theorem dL_law_538 : decode cL_law 538 = .ok (.iadd, 1) := dcq_727.2.2.2.2.2.2.2.2.2.2.1
theorem dL_law_539 : decode cL_law 539 = .ok (.iaload, 1) := dcq_727.2.2.2.2.2.2.2.2.2.2.2
set_option maxRecDepth 20000 in
theorem dcb_728 : fd_B cL_law 540 [182, 0, 56, 87, 167, 4, 11, 43, 42, 29, 4, 96, 46, 42, 29, 5] := fd_o cL_law 540 _ (by decide +kernel)
theorem dcq_728 : (decode cL_law 540 = .ok (.invokevirtual 56, 3)) ∧ (decode cL_law 543 = .ok (.pop, 1)) ∧ (decode cL_law 544 = .ok (.goto 1035, 3)) ∧ (decode cL_law 547 = .ok (.aload_n 1, 1)) ∧ (decode cL_law 548 = .ok (.aload_n 0, 1)) ∧ (decode cL_law 549 = .ok (.iload_n 3, 1)) ∧ (decode cL_law 550 = .ok (.iconst 1, 1)) ∧ (decode cL_law 551 = .ok (.iadd, 1)) ∧ (decode cL_law 552 = .ok (.iaload, 1)) ∧ (decode cL_law 553 = .ok (.aload_n 0, 1)) ∧ (decode cL_law 554 = .ok (.iload_n 3, 1)) ∧ (decode cL_law 555 = .ok (.iconst 2, 1)) := have h := dcb_728; ⟨fd_182 h rfl, have h := fd_t3 h; ⟨fd_87 h, have h := fd_t1 h; ⟨fd_167 h (by decide +kernel), have h := fd_t3 h; ⟨fd_43 h, have h := fd_t1 h; ⟨fd_42 h, have h := fd_t1 h; ⟨fd_29 h, have h := fd_t1 h; ⟨fd_4 h, have h := fd_t1 h; ⟨fd_96 h, have h := fd_t1 h; ⟨fd_46 h, have h := fd_t1 h; ⟨fd_42 h, have h := fd_t1 h; ⟨fd_29 h, have h := fd_t1 h; fd_5 h⟩⟩⟩⟩⟩⟩⟩⟩⟩⟩⟩
theorem dL_law_540 : decode cL_law 540 = .ok (.invokevirtual 56, 3) := dcq_728.1
theorem dL_law_543 : decode cL_law 543 = .ok (.pop, 1) := dcq_728.2.1
theorem dL_law_544 : decode cL_law 544 = .ok (.goto 1035, 3) := dcq_728.2.2.1
theorem dL_law_547 : decode cL_law 547 = .ok (.aload_n 1, 1) := dcq_728.2.2.2.1
theorem dL_law_548 : decode cL_law 548 = .ok (.aload_n 0, 1) := dcq_728.2.2.2.2.1
theorem dL_law_549 : decode cL_law 549 = .ok (.iload_n 3, 1) := dcq_728.2.2.2.2.2.1
theorem dL_law_550 : decode cL_law 550 = .ok (.iconst 1, 1) := dcq_728.2.2.2.2.2.2.1
theorem dL_law_551 : decode cL_law 551 = .ok (.iadd, 1) := dcq_728.2.2.2.2.2.2.2.1
theorem dL_law_552 : decode cL_law 552 = .ok (.iaload, 1) := dcq_728.2.2.2.2.2.2.2.2.1
theorem dL_law_553 : decode cL_law 553 = .ok (.aload_n 0, 1) := dcq_728.2.2.2.2.2.2.2.2.2.1
theorem dL_law_554 : decode cL_law 554 = .ok (.iload_n 3, 1) := dcq_728.2.2.2.2.2.2.2.2.2.2.1
theorem dL_law_555 : decode cL_law 555 = .ok (.iconst 2, 1) := dcq_728.2.2.2.2.2.2.2.2.2.2.2
set_option maxRecDepth 20000 in
theorem dcb_729 : fd_B cL_law 556 [96, 46, 182, 0, 57, 87, 44, 42, 29, 4, 96, 46, 42, 29] := fd_o cL_law 556 _ (by decide +kernel)
theorem dcq_729 : (decode cL_law 556 = .ok (.iadd, 1)) ∧ (decode cL_law 557 = .ok (.iaload, 1)) ∧ (decode cL_law 558 = .ok (.invokevirtual 57, 3)) ∧ (decode cL_law 561 = .ok (.pop, 1)) ∧ (decode cL_law 562 = .ok (.aload_n 2, 1)) ∧ (decode cL_law 563 = .ok (.aload_n 0, 1)) ∧ (decode cL_law 564 = .ok (.iload_n 3, 1)) ∧ (decode cL_law 565 = .ok (.iconst 1, 1)) ∧ (decode cL_law 566 = .ok (.iadd, 1)) ∧ (decode cL_law 567 = .ok (.iaload, 1)) ∧ (decode cL_law 568 = .ok (.aload_n 0, 1)) ∧ (decode cL_law 569 = .ok (.iload_n 3, 1)) := have h := dcb_729; ⟨fd_96 h, have h := fd_t1 h; ⟨fd_46 h, have h := fd_t1 h; ⟨fd_182 h rfl, have h := fd_t3 h; ⟨fd_87 h, have h := fd_t1 h; ⟨fd_44 h, have h := fd_t1 h; ⟨fd_42 h, have h := fd_t1 h; ⟨fd_29 h, have h := fd_t1 h; ⟨fd_4 h, have h := fd_t1 h; ⟨fd_96 h, have h := fd_t1 h; ⟨fd_46 h, have h := fd_t1 h; ⟨fd_42 h, have h := fd_t1 h; fd_29 h⟩⟩⟩⟩⟩⟩⟩⟩⟩⟩⟩
theorem dL_law_556 : decode cL_law 556 = .ok (.iadd, 1) := dcq_729.1
theorem dL_law_557 : decode cL_law 557 = .ok (.iaload, 1) := dcq_729.2.1
theorem dL_law_558 : decode cL_law 558 = .ok (.invokevirtual 57, 3) := dcq_729.2.2.1
theorem dL_law_561 : decode cL_law 561 = .ok (.pop, 1) := dcq_729.2.2.2.1
theorem dL_law_562 : decode cL_law 562 = .ok (.aload_n 2, 1) := dcq_729.2.2.2.2.1
theorem dL_law_563 : decode cL_law 563 = .ok (.aload_n 0, 1) := dcq_729.2.2.2.2.2.1
theorem dL_law_564 : decode cL_law 564 = .ok (.iload_n 3, 1) := dcq_729.2.2.2.2.2.2.1
theorem dL_law_565 : decode cL_law 565 = .ok (.iconst 1, 1) := dcq_729.2.2.2.2.2.2.2.1
theorem dL_law_566 : decode cL_law 566 = .ok (.iadd, 1) := dcq_729.2.2.2.2.2.2.2.2.1
theorem dL_law_567 : decode cL_law 567 = .ok (.iaload, 1) := dcq_729.2.2.2.2.2.2.2.2.2.1
theorem dL_law_568 : decode cL_law 568 = .ok (.aload_n 0, 1) := dcq_729.2.2.2.2.2.2.2.2.2.2.1
theorem dL_law_569 : decode cL_law 569 = .ok (.iload_n 3, 1) := dcq_729.2.2.2.2.2.2.2.2.2.2.2
set_option maxRecDepth 20000 in
theorem dcb_730 : fd_B cL_law 570 [5, 96, 46, 182, 0, 60, 87, 167, 3, 234, 43, 42, 29, 4, 96, 46] := fd_o cL_law 570 _ (by decide +kernel)
theorem dcq_730 : (decode cL_law 570 = .ok (.iconst 2, 1)) ∧ (decode cL_law 571 = .ok (.iadd, 1)) ∧ (decode cL_law 572 = .ok (.iaload, 1)) ∧ (decode cL_law 573 = .ok (.invokevirtual 60, 3)) ∧ (decode cL_law 576 = .ok (.pop, 1)) ∧ (decode cL_law 577 = .ok (.goto 1002, 3)) ∧ (decode cL_law 580 = .ok (.aload_n 1, 1)) ∧ (decode cL_law 581 = .ok (.aload_n 0, 1)) ∧ (decode cL_law 582 = .ok (.iload_n 3, 1)) ∧ (decode cL_law 583 = .ok (.iconst 1, 1)) ∧ (decode cL_law 584 = .ok (.iadd, 1)) ∧ (decode cL_law 585 = .ok (.iaload, 1)) := have h := dcb_730; ⟨fd_5 h, have h := fd_t1 h; ⟨fd_96 h, have h := fd_t1 h; ⟨fd_46 h, have h := fd_t1 h; ⟨fd_182 h rfl, have h := fd_t3 h; ⟨fd_87 h, have h := fd_t1 h; ⟨fd_167 h (by decide +kernel), have h := fd_t3 h; ⟨fd_43 h, have h := fd_t1 h; ⟨fd_42 h, have h := fd_t1 h; ⟨fd_29 h, have h := fd_t1 h; ⟨fd_4 h, have h := fd_t1 h; ⟨fd_96 h, have h := fd_t1 h; fd_46 h⟩⟩⟩⟩⟩⟩⟩⟩⟩⟩⟩
theorem dL_law_570 : decode cL_law 570 = .ok (.iconst 2, 1) := dcq_730.1
theorem dL_law_571 : decode cL_law 571 = .ok (.iadd, 1) := dcq_730.2.1
theorem dL_law_572 : decode cL_law 572 = .ok (.iaload, 1) := dcq_730.2.2.1
theorem dL_law_573 : decode cL_law 573 = .ok (.invokevirtual 60, 3) := dcq_730.2.2.2.1
theorem dL_law_576 : decode cL_law 576 = .ok (.pop, 1) := dcq_730.2.2.2.2.1
theorem dL_law_577 : decode cL_law 577 = .ok (.goto 1002, 3) := dcq_730.2.2.2.2.2.1
theorem dL_law_580 : decode cL_law 580 = .ok (.aload_n 1, 1) := dcq_730.2.2.2.2.2.2.1
theorem dL_law_581 : decode cL_law 581 = .ok (.aload_n 0, 1) := dcq_730.2.2.2.2.2.2.2.1
theorem dL_law_582 : decode cL_law 582 = .ok (.iload_n 3, 1) := dcq_730.2.2.2.2.2.2.2.2.1
theorem dL_law_583 : decode cL_law 583 = .ok (.iconst 1, 1) := dcq_730.2.2.2.2.2.2.2.2.2.1
theorem dL_law_584 : decode cL_law 584 = .ok (.iadd, 1) := dcq_730.2.2.2.2.2.2.2.2.2.2.1
theorem dL_law_585 : decode cL_law 585 = .ok (.iaload, 1) := dcq_730.2.2.2.2.2.2.2.2.2.2.2
set_option maxRecDepth 20000 in
theorem dcb_731 : fd_B cL_law 586 [42, 29, 5, 96, 46, 182, 0, 61, 87, 44, 42, 29, 4, 96] := fd_o cL_law 586 _ (by decide +kernel)
theorem dcq_731 : (decode cL_law 586 = .ok (.aload_n 0, 1)) ∧ (decode cL_law 587 = .ok (.iload_n 3, 1)) ∧ (decode cL_law 588 = .ok (.iconst 2, 1)) ∧ (decode cL_law 589 = .ok (.iadd, 1)) ∧ (decode cL_law 590 = .ok (.iaload, 1)) ∧ (decode cL_law 591 = .ok (.invokevirtual 61, 3)) ∧ (decode cL_law 594 = .ok (.pop, 1)) ∧ (decode cL_law 595 = .ok (.aload_n 2, 1)) ∧ (decode cL_law 596 = .ok (.aload_n 0, 1)) ∧ (decode cL_law 597 = .ok (.iload_n 3, 1)) ∧ (decode cL_law 598 = .ok (.iconst 1, 1)) ∧ (decode cL_law 599 = .ok (.iadd, 1)) := have h := dcb_731; ⟨fd_42 h, have h := fd_t1 h; ⟨fd_29 h, have h := fd_t1 h; ⟨fd_5 h, have h := fd_t1 h; ⟨fd_96 h, have h := fd_t1 h; ⟨fd_46 h, have h := fd_t1 h; ⟨fd_182 h rfl, have h := fd_t3 h; ⟨fd_87 h, have h := fd_t1 h; ⟨fd_44 h, have h := fd_t1 h; ⟨fd_42 h, have h := fd_t1 h; ⟨fd_29 h, have h := fd_t1 h; ⟨fd_4 h, have h := fd_t1 h; fd_96 h⟩⟩⟩⟩⟩⟩⟩⟩⟩⟩⟩
theorem dL_law_586 : decode cL_law 586 = .ok (.aload_n 0, 1) := dcq_731.1
theorem dL_law_587 : decode cL_law 587 = .ok (.iload_n 3, 1) := dcq_731.2.1
theorem dL_law_588 : decode cL_law 588 = .ok (.iconst 2, 1) := dcq_731.2.2.1
theorem dL_law_589 : decode cL_law 589 = .ok (.iadd, 1) := dcq_731.2.2.2.1
theorem dL_law_590 : decode cL_law 590 = .ok (.iaload, 1) := dcq_731.2.2.2.2.1
theorem dL_law_591 : decode cL_law 591 = .ok (.invokevirtual 61, 3) := dcq_731.2.2.2.2.2.1
theorem dL_law_594 : decode cL_law 594 = .ok (.pop, 1) := dcq_731.2.2.2.2.2.2.1
theorem dL_law_595 : decode cL_law 595 = .ok (.aload_n 2, 1) := dcq_731.2.2.2.2.2.2.2.1
theorem dL_law_596 : decode cL_law 596 = .ok (.aload_n 0, 1) := dcq_731.2.2.2.2.2.2.2.2.1
theorem dL_law_597 : decode cL_law 597 = .ok (.iload_n 3, 1) := dcq_731.2.2.2.2.2.2.2.2.2.1
theorem dL_law_598 : decode cL_law 598 = .ok (.iconst 1, 1) := dcq_731.2.2.2.2.2.2.2.2.2.2.1
theorem dL_law_599 : decode cL_law 599 = .ok (.iadd, 1) := dcq_731.2.2.2.2.2.2.2.2.2.2.2
set_option maxRecDepth 20000 in
theorem dcb_732 : fd_B cL_law 600 [46, 42, 29, 5, 96, 46, 182, 0, 64, 87, 167, 3, 201, 43, 42, 29] := fd_o cL_law 600 _ (by decide +kernel)
theorem dcq_732 : (decode cL_law 600 = .ok (.iaload, 1)) ∧ (decode cL_law 601 = .ok (.aload_n 0, 1)) ∧ (decode cL_law 602 = .ok (.iload_n 3, 1)) ∧ (decode cL_law 603 = .ok (.iconst 2, 1)) ∧ (decode cL_law 604 = .ok (.iadd, 1)) ∧ (decode cL_law 605 = .ok (.iaload, 1)) ∧ (decode cL_law 606 = .ok (.invokevirtual 64, 3)) ∧ (decode cL_law 609 = .ok (.pop, 1)) ∧ (decode cL_law 610 = .ok (.goto 969, 3)) ∧ (decode cL_law 613 = .ok (.aload_n 1, 1)) ∧ (decode cL_law 614 = .ok (.aload_n 0, 1)) ∧ (decode cL_law 615 = .ok (.iload_n 3, 1)) := have h := dcb_732; ⟨fd_46 h, have h := fd_t1 h; ⟨fd_42 h, have h := fd_t1 h; ⟨fd_29 h, have h := fd_t1 h; ⟨fd_5 h, have h := fd_t1 h; ⟨fd_96 h, have h := fd_t1 h; ⟨fd_46 h, have h := fd_t1 h; ⟨fd_182 h rfl, have h := fd_t3 h; ⟨fd_87 h, have h := fd_t1 h; ⟨fd_167 h (by decide +kernel), have h := fd_t3 h; ⟨fd_43 h, have h := fd_t1 h; ⟨fd_42 h, have h := fd_t1 h; fd_29 h⟩⟩⟩⟩⟩⟩⟩⟩⟩⟩⟩
theorem dL_law_600 : decode cL_law 600 = .ok (.iaload, 1) := dcq_732.1
theorem dL_law_601 : decode cL_law 601 = .ok (.aload_n 0, 1) := dcq_732.2.1
theorem dL_law_602 : decode cL_law 602 = .ok (.iload_n 3, 1) := dcq_732.2.2.1
theorem dL_law_603 : decode cL_law 603 = .ok (.iconst 2, 1) := dcq_732.2.2.2.1
theorem dL_law_604 : decode cL_law 604 = .ok (.iadd, 1) := dcq_732.2.2.2.2.1
theorem dL_law_605 : decode cL_law 605 = .ok (.iaload, 1) := dcq_732.2.2.2.2.2.1
theorem dL_law_606 : decode cL_law 606 = .ok (.invokevirtual 64, 3) := dcq_732.2.2.2.2.2.2.1
theorem dL_law_609 : decode cL_law 609 = .ok (.pop, 1) := dcq_732.2.2.2.2.2.2.2.1
theorem dL_law_610 : decode cL_law 610 = .ok (.goto 969, 3) := dcq_732.2.2.2.2.2.2.2.2.1
theorem dL_law_613 : decode cL_law 613 = .ok (.aload_n 1, 1) := dcq_732.2.2.2.2.2.2.2.2.2.1
theorem dL_law_614 : decode cL_law 614 = .ok (.aload_n 0, 1) := dcq_732.2.2.2.2.2.2.2.2.2.2.1
theorem dL_law_615 : decode cL_law 615 = .ok (.iload_n 3, 1) := dcq_732.2.2.2.2.2.2.2.2.2.2.2
set_option maxRecDepth 20000 in
theorem dcb_733 : fd_B cL_law 616 [4, 96, 46, 182, 0, 65, 87, 44, 42, 29, 4, 96, 46, 182, 0, 68] := fd_o cL_law 616 _ (by decide +kernel)
theorem dcq_733 : (decode cL_law 616 = .ok (.iconst 1, 1)) ∧ (decode cL_law 617 = .ok (.iadd, 1)) ∧ (decode cL_law 618 = .ok (.iaload, 1)) ∧ (decode cL_law 619 = .ok (.invokevirtual 65, 3)) ∧ (decode cL_law 622 = .ok (.pop, 1)) ∧ (decode cL_law 623 = .ok (.aload_n 2, 1)) ∧ (decode cL_law 624 = .ok (.aload_n 0, 1)) ∧ (decode cL_law 625 = .ok (.iload_n 3, 1)) ∧ (decode cL_law 626 = .ok (.iconst 1, 1)) ∧ (decode cL_law 627 = .ok (.iadd, 1)) ∧ (decode cL_law 628 = .ok (.iaload, 1)) ∧ (decode cL_law 629 = .ok (.invokevirtual 68, 3)) := have h := dcb_733; ⟨fd_4 h, have h := fd_t1 h; ⟨fd_96 h, have h := fd_t1 h; ⟨fd_46 h, have h := fd_t1 h; ⟨fd_182 h rfl, have h := fd_t3 h; ⟨fd_87 h, have h := fd_t1 h; ⟨fd_44 h, have h := fd_t1 h; ⟨fd_42 h, have h := fd_t1 h; ⟨fd_29 h, have h := fd_t1 h; ⟨fd_4 h, have h := fd_t1 h; ⟨fd_96 h, have h := fd_t1 h; ⟨fd_46 h, have h := fd_t1 h; fd_182 h rfl⟩⟩⟩⟩⟩⟩⟩⟩⟩⟩⟩
theorem dL_law_616 : decode cL_law 616 = .ok (.iconst 1, 1) := dcq_733.1
theorem dL_law_617 : decode cL_law 617 = .ok (.iadd, 1) := dcq_733.2.1
theorem dL_law_618 : decode cL_law 618 = .ok (.iaload, 1) := dcq_733.2.2.1
theorem dL_law_619 : decode cL_law 619 = .ok (.invokevirtual 65, 3) := dcq_733.2.2.2.1
theorem dL_law_622 : decode cL_law 622 = .ok (.pop, 1) := dcq_733.2.2.2.2.1
theorem dL_law_623 : decode cL_law 623 = .ok (.aload_n 2, 1) := dcq_733.2.2.2.2.2.1
theorem dL_law_624 : decode cL_law 624 = .ok (.aload_n 0, 1) := dcq_733.2.2.2.2.2.2.1
theorem dL_law_625 : decode cL_law 625 = .ok (.iload_n 3, 1) := dcq_733.2.2.2.2.2.2.2.1
theorem dL_law_626 : decode cL_law 626 = .ok (.iconst 1, 1) := dcq_733.2.2.2.2.2.2.2.2.1
theorem dL_law_627 : decode cL_law 627 = .ok (.iadd, 1) := dcq_733.2.2.2.2.2.2.2.2.2.1
theorem dL_law_628 : decode cL_law 628 = .ok (.iaload, 1) := dcq_733.2.2.2.2.2.2.2.2.2.2.1
theorem dL_law_629 : decode cL_law 629 = .ok (.invokevirtual 68, 3) := dcq_733.2.2.2.2.2.2.2.2.2.2.2
set_option maxRecDepth 20000 in
theorem dcb_734 : fd_B cL_law 632 [87, 167, 3, 178, 43, 42, 29, 4, 96, 46, 182, 0, 69, 87, 44, 42] := fd_o cL_law 632 _ (by decide +kernel)
theorem dcq_734 : (decode cL_law 632 = .ok (.pop, 1)) ∧ (decode cL_law 633 = .ok (.goto 946, 3)) ∧ (decode cL_law 636 = .ok (.aload_n 1, 1)) ∧ (decode cL_law 637 = .ok (.aload_n 0, 1)) ∧ (decode cL_law 638 = .ok (.iload_n 3, 1)) ∧ (decode cL_law 639 = .ok (.iconst 1, 1)) ∧ (decode cL_law 640 = .ok (.iadd, 1)) ∧ (decode cL_law 641 = .ok (.iaload, 1)) ∧ (decode cL_law 642 = .ok (.invokevirtual 69, 3)) ∧ (decode cL_law 645 = .ok (.pop, 1)) ∧ (decode cL_law 646 = .ok (.aload_n 2, 1)) ∧ (decode cL_law 647 = .ok (.aload_n 0, 1)) := have h := dcb_734; ⟨fd_87 h, have h := fd_t1 h; ⟨fd_167 h (by decide +kernel), have h := fd_t3 h; ⟨fd_43 h, have h := fd_t1 h; ⟨fd_42 h, have h := fd_t1 h; ⟨fd_29 h, have h := fd_t1 h; ⟨fd_4 h, have h := fd_t1 h; ⟨fd_96 h, have h := fd_t1 h; ⟨fd_46 h, have h := fd_t1 h; ⟨fd_182 h rfl, have h := fd_t3 h; ⟨fd_87 h, have h := fd_t1 h; ⟨fd_44 h, have h := fd_t1 h; fd_42 h⟩⟩⟩⟩⟩⟩⟩⟩⟩⟩⟩
theorem dL_law_632 : decode cL_law 632 = .ok (.pop, 1) := dcq_734.1
theorem dL_law_633 : decode cL_law 633 = .ok (.goto 946, 3) := dcq_734.2.1
theorem dL_law_636 : decode cL_law 636 = .ok (.aload_n 1, 1) := dcq_734.2.2.1
theorem dL_law_637 : decode cL_law 637 = .ok (.aload_n 0, 1) := dcq_734.2.2.2.1
theorem dL_law_638 : decode cL_law 638 = .ok (.iload_n 3, 1) := dcq_734.2.2.2.2.1
theorem dL_law_639 : decode cL_law 639 = .ok (.iconst 1, 1) := dcq_734.2.2.2.2.2.1
theorem dL_law_640 : decode cL_law 640 = .ok (.iadd, 1) := dcq_734.2.2.2.2.2.2.1
theorem dL_law_641 : decode cL_law 641 = .ok (.iaload, 1) := dcq_734.2.2.2.2.2.2.2.1
theorem dL_law_642 : decode cL_law 642 = .ok (.invokevirtual 69, 3) := dcq_734.2.2.2.2.2.2.2.2.1
theorem dL_law_645 : decode cL_law 645 = .ok (.pop, 1) := dcq_734.2.2.2.2.2.2.2.2.2.1
theorem dL_law_646 : decode cL_law 646 = .ok (.aload_n 2, 1) := dcq_734.2.2.2.2.2.2.2.2.2.2.1
theorem dL_law_647 : decode cL_law 647 = .ok (.aload_n 0, 1) := dcq_734.2.2.2.2.2.2.2.2.2.2.2
set_option maxRecDepth 20000 in
theorem dcb_735 : fd_B cL_law 648 [29, 4, 96, 46, 182, 0, 72, 87, 167, 3, 155, 43, 182, 0, 73, 87, 44, 182, 0, 76] := fd_o cL_law 648 _ (by decide +kernel)
theorem dcq_735 : (decode cL_law 648 = .ok (.iload_n 3, 1)) ∧ (decode cL_law 649 = .ok (.iconst 1, 1)) ∧ (decode cL_law 650 = .ok (.iadd, 1)) ∧ (decode cL_law 651 = .ok (.iaload, 1)) ∧ (decode cL_law 652 = .ok (.invokevirtual 72, 3)) ∧ (decode cL_law 655 = .ok (.pop, 1)) ∧ (decode cL_law 656 = .ok (.goto 923, 3)) ∧ (decode cL_law 659 = .ok (.aload_n 1, 1)) ∧ (decode cL_law 660 = .ok (.invokevirtual 73, 3)) ∧ (decode cL_law 663 = .ok (.pop, 1)) ∧ (decode cL_law 664 = .ok (.aload_n 2, 1)) ∧ (decode cL_law 665 = .ok (.invokevirtual 76, 3)) := have h := dcb_735; ⟨fd_29 h, have h := fd_t1 h; ⟨fd_4 h, have h := fd_t1 h; ⟨fd_96 h, have h := fd_t1 h; ⟨fd_46 h, have h := fd_t1 h; ⟨fd_182 h rfl, have h := fd_t3 h; ⟨fd_87 h, have h := fd_t1 h; ⟨fd_167 h (by decide +kernel), have h := fd_t3 h; ⟨fd_43 h, have h := fd_t1 h; ⟨fd_182 h rfl, have h := fd_t3 h; ⟨fd_87 h, have h := fd_t1 h; ⟨fd_44 h, have h := fd_t1 h; fd_182 h rfl⟩⟩⟩⟩⟩⟩⟩⟩⟩⟩⟩
theorem dL_law_648 : decode cL_law 648 = .ok (.iload_n 3, 1) := dcq_735.1
theorem dL_law_649 : decode cL_law 649 = .ok (.iconst 1, 1) := dcq_735.2.1
theorem dL_law_650 : decode cL_law 650 = .ok (.iadd, 1) := dcq_735.2.2.1
theorem dL_law_651 : decode cL_law 651 = .ok (.iaload, 1) := dcq_735.2.2.2.1
theorem dL_law_652 : decode cL_law 652 = .ok (.invokevirtual 72, 3) := dcq_735.2.2.2.2.1
theorem dL_law_655 : decode cL_law 655 = .ok (.pop, 1) := dcq_735.2.2.2.2.2.1
theorem dL_law_656 : decode cL_law 656 = .ok (.goto 923, 3) := dcq_735.2.2.2.2.2.2.1
theorem dL_law_659 : decode cL_law 659 = .ok (.aload_n 1, 1) := dcq_735.2.2.2.2.2.2.2.1
theorem dL_law_660 : decode cL_law 660 = .ok (.invokevirtual 73, 3) := dcq_735.2.2.2.2.2.2.2.2.1
theorem dL_law_663 : decode cL_law 663 = .ok (.pop, 1) := dcq_735.2.2.2.2.2.2.2.2.2.1
theorem dL_law_664 : decode cL_law 664 = .ok (.aload_n 2, 1) := dcq_735.2.2.2.2.2.2.2.2.2.2.1
theorem dL_law_665 : decode cL_law 665 = .ok (.invokevirtual 76, 3) := dcq_735.2.2.2.2.2.2.2.2.2.2.2
set_option maxRecDepth 20000 in
theorem dcb_736 : fd_B cL_law 668 [87, 167, 3, 142, 43, 42, 29, 4, 96, 46, 182, 0, 77, 87, 44, 42] := fd_o cL_law 668 _ (by decide +kernel)
theorem dcq_736 : (decode cL_law 668 = .ok (.pop, 1)) ∧ (decode cL_law 669 = .ok (.goto 910, 3)) ∧ (decode cL_law 672 = .ok (.aload_n 1, 1)) ∧ (decode cL_law 673 = .ok (.aload_n 0, 1)) ∧ (decode cL_law 674 = .ok (.iload_n 3, 1)) ∧ (decode cL_law 675 = .ok (.iconst 1, 1)) ∧ (decode cL_law 676 = .ok (.iadd, 1)) ∧ (decode cL_law 677 = .ok (.iaload, 1)) ∧ (decode cL_law 678 = .ok (.invokevirtual 77, 3)) ∧ (decode cL_law 681 = .ok (.pop, 1)) ∧ (decode cL_law 682 = .ok (.aload_n 2, 1)) ∧ (decode cL_law 683 = .ok (.aload_n 0, 1)) := have h := dcb_736; ⟨fd_87 h, have h := fd_t1 h; ⟨fd_167 h (by decide +kernel), have h := fd_t3 h; ⟨fd_43 h, have h := fd_t1 h; ⟨fd_42 h, have h := fd_t1 h; ⟨fd_29 h, have h := fd_t1 h; ⟨fd_4 h, have h := fd_t1 h; ⟨fd_96 h, have h := fd_t1 h; ⟨fd_46 h, have h := fd_t1 h; ⟨fd_182 h rfl, have h := fd_t3 h; ⟨fd_87 h, have h := fd_t1 h; ⟨fd_44 h, have h := fd_t1 h; fd_42 h⟩⟩⟩⟩⟩⟩⟩⟩⟩⟩⟩
theorem dL_law_668 : decode cL_law 668 = .ok (.pop, 1) := dcq_736.1
theorem dL_law_669 : decode cL_law 669 = .ok (.goto 910, 3) := dcq_736.2.1
theorem dL_law_672 : decode cL_law 672 = .ok (.aload_n 1, 1) := dcq_736.2.2.1
theorem dL_law_673 : decode cL_law 673 = .ok (.aload_n 0, 1) := dcq_736.2.2.2.1
theorem dL_law_674 : decode cL_law 674 = .ok (.iload_n 3, 1) := dcq_736.2.2.2.2.1
theorem dL_law_675 : decode cL_law 675 = .ok (.iconst 1, 1) := dcq_736.2.2.2.2.2.1
theorem dL_law_676 : decode cL_law 676 = .ok (.iadd, 1) := dcq_736.2.2.2.2.2.2.1
theorem dL_law_677 : decode cL_law 677 = .ok (.iaload, 1) := dcq_736.2.2.2.2.2.2.2.1
theorem dL_law_678 : decode cL_law 678 = .ok (.invokevirtual 77, 3) := dcq_736.2.2.2.2.2.2.2.2.1
theorem dL_law_681 : decode cL_law 681 = .ok (.pop, 1) := dcq_736.2.2.2.2.2.2.2.2.2.1
theorem dL_law_682 : decode cL_law 682 = .ok (.aload_n 2, 1) := dcq_736.2.2.2.2.2.2.2.2.2.2.1
theorem dL_law_683 : decode cL_law 683 = .ok (.aload_n 0, 1) := dcq_736.2.2.2.2.2.2.2.2.2.2.2
set_option maxRecDepth 20000 in
theorem dcb_737 : fd_B cL_law 684 [29, 4, 96, 46, 182, 0, 80, 87, 167, 3, 119, 43, 42, 29, 4, 96] := fd_o cL_law 684 _ (by decide +kernel)
theorem dcq_737 : (decode cL_law 684 = .ok (.iload_n 3, 1)) ∧ (decode cL_law 685 = .ok (.iconst 1, 1)) ∧ (decode cL_law 686 = .ok (.iadd, 1)) ∧ (decode cL_law 687 = .ok (.iaload, 1)) ∧ (decode cL_law 688 = .ok (.invokevirtual 80, 3)) ∧ (decode cL_law 691 = .ok (.pop, 1)) ∧ (decode cL_law 692 = .ok (.goto 887, 3)) ∧ (decode cL_law 695 = .ok (.aload_n 1, 1)) ∧ (decode cL_law 696 = .ok (.aload_n 0, 1)) ∧ (decode cL_law 697 = .ok (.iload_n 3, 1)) ∧ (decode cL_law 698 = .ok (.iconst 1, 1)) ∧ (decode cL_law 699 = .ok (.iadd, 1)) := have h := dcb_737; ⟨fd_29 h, have h := fd_t1 h; ⟨fd_4 h, have h := fd_t1 h; ⟨fd_96 h, have h := fd_t1 h; ⟨fd_46 h, have h := fd_t1 h; ⟨fd_182 h rfl, have h := fd_t3 h; ⟨fd_87 h, have h := fd_t1 h; ⟨fd_167 h (by decide +kernel), have h := fd_t3 h; ⟨fd_43 h, have h := fd_t1 h; ⟨fd_42 h, have h := fd_t1 h; ⟨fd_29 h, have h := fd_t1 h; ⟨fd_4 h, have h := fd_t1 h; fd_96 h⟩⟩⟩⟩⟩⟩⟩⟩⟩⟩⟩
theorem dL_law_684 : decode cL_law 684 = .ok (.iload_n 3, 1) := dcq_737.1
theorem dL_law_685 : decode cL_law 685 = .ok (.iconst 1, 1) := dcq_737.2.1
theorem dL_law_686 : decode cL_law 686 = .ok (.iadd, 1) := dcq_737.2.2.1
theorem dL_law_687 : decode cL_law 687 = .ok (.iaload, 1) := dcq_737.2.2.2.1
theorem dL_law_688 : decode cL_law 688 = .ok (.invokevirtual 80, 3) := dcq_737.2.2.2.2.1
theorem dL_law_691 : decode cL_law 691 = .ok (.pop, 1) := dcq_737.2.2.2.2.2.1
theorem dL_law_692 : decode cL_law 692 = .ok (.goto 887, 3) := dcq_737.2.2.2.2.2.2.1
theorem dL_law_695 : decode cL_law 695 = .ok (.aload_n 1, 1) := dcq_737.2.2.2.2.2.2.2.1
theorem dL_law_696 : decode cL_law 696 = .ok (.aload_n 0, 1) := dcq_737.2.2.2.2.2.2.2.2.1
theorem dL_law_697 : decode cL_law 697 = .ok (.iload_n 3, 1) := dcq_737.2.2.2.2.2.2.2.2.2.1
theorem dL_law_698 : decode cL_law 698 = .ok (.iconst 1, 1) := dcq_737.2.2.2.2.2.2.2.2.2.2.1
theorem dL_law_699 : decode cL_law 699 = .ok (.iadd, 1) := dcq_737.2.2.2.2.2.2.2.2.2.2.2
set_option maxRecDepth 20000 in
theorem dcb_738 : fd_B cL_law 700 [46, 182, 0, 81, 87, 44, 42, 29, 4, 96, 46, 182, 0, 84, 87, 167, 3, 96] := fd_o cL_law 700 _ (by decide +kernel)
theorem dcq_738 : (decode cL_law 700 = .ok (.iaload, 1)) ∧ (decode cL_law 701 = .ok (.invokevirtual 81, 3)) ∧ (decode cL_law 704 = .ok (.pop, 1)) ∧ (decode cL_law 705 = .ok (.aload_n 2, 1)) ∧ (decode cL_law 706 = .ok (.aload_n 0, 1)) ∧ (decode cL_law 707 = .ok (.iload_n 3, 1)) ∧ (decode cL_law 708 = .ok (.iconst 1, 1)) ∧ (decode cL_law 709 = .ok (.iadd, 1)) ∧ (decode cL_law 710 = .ok (.iaload, 1)) ∧ (decode cL_law 711 = .ok (.invokevirtual 84, 3)) ∧ (decode cL_law 714 = .ok (.pop, 1)) ∧ (decode cL_law 715 = .ok (.goto 864, 3)) := have h := dcb_738; ⟨fd_46 h, have h := fd_t1 h; ⟨fd_182 h rfl, have h := fd_t3 h; ⟨fd_87 h, have h := fd_t1 h; ⟨fd_44 h, have h := fd_t1 h; ⟨fd_42 h, have h := fd_t1 h; ⟨fd_29 h, have h := fd_t1 h; ⟨fd_4 h, have h := fd_t1 h; ⟨fd_96 h, have h := fd_t1 h; ⟨fd_46 h, have h := fd_t1 h; ⟨fd_182 h rfl, have h := fd_t3 h; ⟨fd_87 h, have h := fd_t1 h; fd_167 h (by decide +kernel)⟩⟩⟩⟩⟩⟩⟩⟩⟩⟩⟩
theorem dL_law_700 : decode cL_law 700 = .ok (.iaload, 1) := dcq_738.1
theorem dL_law_701 : decode cL_law 701 = .ok (.invokevirtual 81, 3) := dcq_738.2.1
theorem dL_law_704 : decode cL_law 704 = .ok (.pop, 1) := dcq_738.2.2.1
theorem dL_law_705 : decode cL_law 705 = .ok (.aload_n 2, 1) := dcq_738.2.2.2.1
theorem dL_law_706 : decode cL_law 706 = .ok (.aload_n 0, 1) := dcq_738.2.2.2.2.1
theorem dL_law_707 : decode cL_law 707 = .ok (.iload_n 3, 1) := dcq_738.2.2.2.2.2.1
theorem dL_law_708 : decode cL_law 708 = .ok (.iconst 1, 1) := dcq_738.2.2.2.2.2.2.1
theorem dL_law_709 : decode cL_law 709 = .ok (.iadd, 1) := dcq_738.2.2.2.2.2.2.2.1
theorem dL_law_710 : decode cL_law 710 = .ok (.iaload, 1) := dcq_738.2.2.2.2.2.2.2.2.1
theorem dL_law_711 : decode cL_law 711 = .ok (.invokevirtual 84, 3) := dcq_738.2.2.2.2.2.2.2.2.2.1
theorem dL_law_714 : decode cL_law 714 = .ok (.pop, 1) := dcq_738.2.2.2.2.2.2.2.2.2.2.1
theorem dL_law_715 : decode cL_law 715 = .ok (.goto 864, 3) := dcq_738.2.2.2.2.2.2.2.2.2.2.2
set_option maxRecDepth 20000 in
theorem dcb_739 : fd_B cL_law 718 [43, 42, 29, 4, 96, 46, 182, 0, 85, 87, 44, 42, 29, 4] := fd_o cL_law 718 _ (by decide +kernel)
theorem dcq_739 : (decode cL_law 718 = .ok (.aload_n 1, 1)) ∧ (decode cL_law 719 = .ok (.aload_n 0, 1)) ∧ (decode cL_law 720 = .ok (.iload_n 3, 1)) ∧ (decode cL_law 721 = .ok (.iconst 1, 1)) ∧ (decode cL_law 722 = .ok (.iadd, 1)) ∧ (decode cL_law 723 = .ok (.iaload, 1)) ∧ (decode cL_law 724 = .ok (.invokevirtual 85, 3)) ∧ (decode cL_law 727 = .ok (.pop, 1)) ∧ (decode cL_law 728 = .ok (.aload_n 2, 1)) ∧ (decode cL_law 729 = .ok (.aload_n 0, 1)) ∧ (decode cL_law 730 = .ok (.iload_n 3, 1)) ∧ (decode cL_law 731 = .ok (.iconst 1, 1)) := have h := dcb_739; ⟨fd_43 h, have h := fd_t1 h; ⟨fd_42 h, have h := fd_t1 h; ⟨fd_29 h, have h := fd_t1 h; ⟨fd_4 h, have h := fd_t1 h; ⟨fd_96 h, have h := fd_t1 h; ⟨fd_46 h, have h := fd_t1 h; ⟨fd_182 h rfl, have h := fd_t3 h; ⟨fd_87 h, have h := fd_t1 h; ⟨fd_44 h, have h := fd_t1 h; ⟨fd_42 h, have h := fd_t1 h; ⟨fd_29 h, have h := fd_t1 h; fd_4 h⟩⟩⟩⟩⟩⟩⟩⟩⟩⟩⟩
theorem dL_law_718 : decode cL_law 718 = .ok (.aload_n 1, 1) := dcq_739.1
theorem dL_law_719 : decode cL_law 719 = .ok (.aload_n 0, 1) := dcq_739.2.1
theorem dL_law_720 : decode cL_law 720 = .ok (.iload_n 3, 1) := dcq_739.2.2.1
theorem dL_law_721 : decode cL_law 721 = .ok (.iconst 1, 1) := dcq_739.2.2.2.1
theorem dL_law_722 : decode cL_law 722 = .ok (.iadd, 1) := dcq_739.2.2.2.2.1
theorem dL_law_723 : decode cL_law 723 = .ok (.iaload, 1) := dcq_739.2.2.2.2.2.1
theorem dL_law_724 : decode cL_law 724 = .ok (.invokevirtual 85, 3) := dcq_739.2.2.2.2.2.2.1
theorem dL_law_727 : decode cL_law 727 = .ok (.pop, 1) := dcq_739.2.2.2.2.2.2.2.1
theorem dL_law_728 : decode cL_law 728 = .ok (.aload_n 2, 1) := dcq_739.2.2.2.2.2.2.2.2.1
theorem dL_law_729 : decode cL_law 729 = .ok (.aload_n 0, 1) := dcq_739.2.2.2.2.2.2.2.2.2.1
theorem dL_law_730 : decode cL_law 730 = .ok (.iload_n 3, 1) := dcq_739.2.2.2.2.2.2.2.2.2.2.1
theorem dL_law_731 : decode cL_law 731 = .ok (.iconst 1, 1) := dcq_739.2.2.2.2.2.2.2.2.2.2.2
set_option maxRecDepth 20000 in
theorem dcb_740 : fd_B cL_law 732 [96, 46, 182, 0, 88, 87, 167, 3, 73, 43, 42, 29, 4, 96, 46, 182, 0, 89] := fd_o cL_law 732 _ (by decide +kernel)
theorem dcq_740 : (decode cL_law 732 = .ok (.iadd, 1)) ∧ (decode cL_law 733 = .ok (.iaload, 1)) ∧ (decode cL_law 734 = .ok (.invokevirtual 88, 3)) ∧ (decode cL_law 737 = .ok (.pop, 1)) ∧ (decode cL_law 738 = .ok (.goto 841, 3)) ∧ (decode cL_law 741 = .ok (.aload_n 1, 1)) ∧ (decode cL_law 742 = .ok (.aload_n 0, 1)) ∧ (decode cL_law 743 = .ok (.iload_n 3, 1)) ∧ (decode cL_law 744 = .ok (.iconst 1, 1)) ∧ (decode cL_law 745 = .ok (.iadd, 1)) ∧ (decode cL_law 746 = .ok (.iaload, 1)) ∧ (decode cL_law 747 = .ok (.invokevirtual 89, 3)) := have h := dcb_740; ⟨fd_96 h, have h := fd_t1 h; ⟨fd_46 h, have h := fd_t1 h; ⟨fd_182 h rfl, have h := fd_t3 h; ⟨fd_87 h, have h := fd_t1 h; ⟨fd_167 h (by decide +kernel), have h := fd_t3 h; ⟨fd_43 h, have h := fd_t1 h; ⟨fd_42 h, have h := fd_t1 h; ⟨fd_29 h, have h := fd_t1 h; ⟨fd_4 h, have h := fd_t1 h; ⟨fd_96 h, have h := fd_t1 h; ⟨fd_46 h, have h := fd_t1 h; fd_182 h rfl⟩⟩⟩⟩⟩⟩⟩⟩⟩⟩⟩
theorem dL_law_732 : decode cL_law 732 = .ok (.iadd, 1) := dcq_740.1
theorem dL_law_733 : decode cL_law 733 = .ok (.iaload, 1) := dcq_740.2.1
theorem dL_law_734 : decode cL_law 734 = .ok (.invokevirtual 88, 3) := dcq_740.2.2.1
theorem dL_law_737 : decode cL_law 737 = .ok (.pop, 1) := dcq_740.2.2.2.1
theorem dL_law_738 : decode cL_law 738 = .ok (.goto 841, 3) := dcq_740.2.2.2.2.1
theorem dL_law_741 : decode cL_law 741 = .ok (.aload_n 1, 1) := dcq_740.2.2.2.2.2.1
theorem dL_law_742 : decode cL_law 742 = .ok (.aload_n 0, 1) := dcq_740.2.2.2.2.2.2.1
theorem dL_law_743 : decode cL_law 743 = .ok (.iload_n 3, 1) := dcq_740.2.2.2.2.2.2.2.1
theorem dL_law_744 : decode cL_law 744 = .ok (.iconst 1, 1) := dcq_740.2.2.2.2.2.2.2.2.1
theorem dL_law_745 : decode cL_law 745 = .ok (.iadd, 1) := dcq_740.2.2.2.2.2.2.2.2.2.1
theorem dL_law_746 : decode cL_law 746 = .ok (.iaload, 1) := dcq_740.2.2.2.2.2.2.2.2.2.2.1
theorem dL_law_747 : decode cL_law 747 = .ok (.invokevirtual 89, 3) := dcq_740.2.2.2.2.2.2.2.2.2.2.2
set_option maxRecDepth 20000 in
theorem dcb_741 : fd_B cL_law 750 [87, 44, 42, 29, 4, 96, 46, 182, 0, 92, 87, 167, 3, 50, 43, 182, 0, 93] := fd_o cL_law 750 _ (by decide +kernel)
theorem dcq_741 : (decode cL_law 750 = .ok (.pop, 1)) ∧ (decode cL_law 751 = .ok (.aload_n 2, 1)) ∧ (decode cL_law 752 = .ok (.aload_n 0, 1)) ∧ (decode cL_law 753 = .ok (.iload_n 3, 1)) ∧ (decode cL_law 754 = .ok (.iconst 1, 1)) ∧ (decode cL_law 755 = .ok (.iadd, 1)) ∧ (decode cL_law 756 = .ok (.iaload, 1)) ∧ (decode cL_law 757 = .ok (.invokevirtual 92, 3)) ∧ (decode cL_law 760 = .ok (.pop, 1)) ∧ (decode cL_law 761 = .ok (.goto 818, 3)) ∧ (decode cL_law 764 = .ok (.aload_n 1, 1)) ∧ (decode cL_law 765 = .ok (.invokevirtual 93, 3)) := have h := dcb_741; ⟨fd_87 h, have h := fd_t1 h; ⟨fd_44 h, have h := fd_t1 h; ⟨fd_42 h, have h := fd_t1 h; ⟨fd_29 h, have h := fd_t1 h; ⟨fd_4 h, have h := fd_t1 h; ⟨fd_96 h, have h := fd_t1 h; ⟨fd_46 h, have h := fd_t1 h; ⟨fd_182 h rfl, have h := fd_t3 h; ⟨fd_87 h, have h := fd_t1 h; ⟨fd_167 h (by decide +kernel), have h := fd_t3 h; ⟨fd_43 h, have h := fd_t1 h; fd_182 h rfl⟩⟩⟩⟩⟩⟩⟩⟩⟩⟩⟩
theorem dL_law_750 : decode cL_law 750 = .ok (.pop, 1) := dcq_741.1
theorem dL_law_751 : decode cL_law 751 = .ok (.aload_n 2, 1) := dcq_741.2.1
theorem dL_law_752 : decode cL_law 752 = .ok (.aload_n 0, 1) := dcq_741.2.2.1
theorem dL_law_753 : decode cL_law 753 = .ok (.iload_n 3, 1) := dcq_741.2.2.2.1
theorem dL_law_754 : decode cL_law 754 = .ok (.iconst 1, 1) := dcq_741.2.2.2.2.1
theorem dL_law_755 : decode cL_law 755 = .ok (.iadd, 1) := dcq_741.2.2.2.2.2.1
theorem dL_law_756 : decode cL_law 756 = .ok (.iaload, 1) := dcq_741.2.2.2.2.2.2.1
theorem dL_law_757 : decode cL_law 757 = .ok (.invokevirtual 92, 3) := dcq_741.2.2.2.2.2.2.2.1
theorem dL_law_760 : decode cL_law 760 = .ok (.pop, 1) := dcq_741.2.2.2.2.2.2.2.2.1
theorem dL_law_761 : decode cL_law 761 = .ok (.goto 818, 3) := dcq_741.2.2.2.2.2.2.2.2.2.1
theorem dL_law_764 : decode cL_law 764 = .ok (.aload_n 1, 1) := dcq_741.2.2.2.2.2.2.2.2.2.2.1
theorem dL_law_765 : decode cL_law 765 = .ok (.invokevirtual 93, 3) := dcq_741.2.2.2.2.2.2.2.2.2.2.2
set_option maxRecDepth 20000 in
theorem dcb_742 : fd_B cL_law 768 [87, 44, 182, 0, 96, 87, 167, 3, 37, 43, 42, 29, 4, 96, 46, 42] := fd_o cL_law 768 _ (by decide +kernel)
theorem dcq_742 : (decode cL_law 768 = .ok (.pop, 1)) ∧ (decode cL_law 769 = .ok (.aload_n 2, 1)) ∧ (decode cL_law 770 = .ok (.invokevirtual 96, 3)) ∧ (decode cL_law 773 = .ok (.pop, 1)) ∧ (decode cL_law 774 = .ok (.goto 805, 3)) ∧ (decode cL_law 777 = .ok (.aload_n 1, 1)) ∧ (decode cL_law 778 = .ok (.aload_n 0, 1)) ∧ (decode cL_law 779 = .ok (.iload_n 3, 1)) ∧ (decode cL_law 780 = .ok (.iconst 1, 1)) ∧ (decode cL_law 781 = .ok (.iadd, 1)) ∧ (decode cL_law 782 = .ok (.iaload, 1)) ∧ (decode cL_law 783 = .ok (.aload_n 0, 1)) := have h := dcb_742; ⟨fd_87 h, have h := fd_t1 h; ⟨fd_44 h, have h := fd_t1 h; ⟨fd_182 h rfl, have h := fd_t3 h; ⟨fd_87 h, have h := fd_t1 h; ⟨fd_167 h (by decide +kernel), have h := fd_t3 h; ⟨fd_43 h, have h := fd_t1 h; ⟨fd_42 h, have h := fd_t1 h; ⟨fd_29 h, have h := fd_t1 h; ⟨fd_4 h, have h := fd_t1 h; ⟨fd_96 h, have h := fd_t1 h; ⟨fd_46 h, have h := fd_t1 h; fd_42 h⟩⟩⟩⟩⟩⟩⟩⟩⟩⟩⟩
theorem dL_law_768 : decode cL_law 768 = .ok (.pop, 1) := dcq_742.1
theorem dL_law_769 : decode cL_law 769 = .ok (.aload_n 2, 1) := dcq_742.2.1
theorem dL_law_770 : decode cL_law 770 = .ok (.invokevirtual 96, 3) := dcq_742.2.2.1
theorem dL_law_773 : decode cL_law 773 = .ok (.pop, 1) := dcq_742.2.2.2.1
theorem dL_law_774 : decode cL_law 774 = .ok (.goto 805, 3) := dcq_742.2.2.2.2.1
theorem dL_law_777 : decode cL_law 777 = .ok (.aload_n 1, 1) := dcq_742.2.2.2.2.2.1
theorem dL_law_778 : decode cL_law 778 = .ok (.aload_n 0, 1) := dcq_742.2.2.2.2.2.2.1
theorem dL_law_779 : decode cL_law 779 = .ok (.iload_n 3, 1) := dcq_742.2.2.2.2.2.2.2.1
theorem dL_law_780 : decode cL_law 780 = .ok (.iconst 1, 1) := dcq_742.2.2.2.2.2.2.2.2.1
theorem dL_law_781 : decode cL_law 781 = .ok (.iadd, 1) := dcq_742.2.2.2.2.2.2.2.2.2.1
theorem dL_law_782 : decode cL_law 782 = .ok (.iaload, 1) := dcq_742.2.2.2.2.2.2.2.2.2.2.1
theorem dL_law_783 : decode cL_law 783 = .ok (.aload_n 0, 1) := dcq_742.2.2.2.2.2.2.2.2.2.2.2
set_option maxRecDepth 20000 in
theorem dcb_743 : fd_B cL_law 784 [29, 5, 96, 46, 182, 0, 97, 87, 44, 42, 29, 4, 96, 46] := fd_o cL_law 784 _ (by decide +kernel)
theorem dcq_743 : (decode cL_law 784 = .ok (.iload_n 3, 1)) ∧ (decode cL_law 785 = .ok (.iconst 2, 1)) ∧ (decode cL_law 786 = .ok (.iadd, 1)) ∧ (decode cL_law 787 = .ok (.iaload, 1)) ∧ (decode cL_law 788 = .ok (.invokevirtual 97, 3)) ∧ (decode cL_law 791 = .ok (.pop, 1)) ∧ (decode cL_law 792 = .ok (.aload_n 2, 1)) ∧ (decode cL_law 793 = .ok (.aload_n 0, 1)) ∧ (decode cL_law 794 = .ok (.iload_n 3, 1)) ∧ (decode cL_law 795 = .ok (.iconst 1, 1)) ∧ (decode cL_law 796 = .ok (.iadd, 1)) ∧ (decode cL_law 797 = .ok (.iaload, 1)) := have h := dcb_743; ⟨fd_29 h, have h := fd_t1 h; ⟨fd_5 h, have h := fd_t1 h; ⟨fd_96 h, have h := fd_t1 h; ⟨fd_46 h, have h := fd_t1 h; ⟨fd_182 h rfl, have h := fd_t3 h; ⟨fd_87 h, have h := fd_t1 h; ⟨fd_44 h, have h := fd_t1 h; ⟨fd_42 h, have h := fd_t1 h; ⟨fd_29 h, have h := fd_t1 h; ⟨fd_4 h, have h := fd_t1 h; ⟨fd_96 h, have h := fd_t1 h; fd_46 h⟩⟩⟩⟩⟩⟩⟩⟩⟩⟩⟩
theorem dL_law_784 : decode cL_law 784 = .ok (.iload_n 3, 1) := dcq_743.1
theorem dL_law_785 : decode cL_law 785 = .ok (.iconst 2, 1) := dcq_743.2.1
theorem dL_law_786 : decode cL_law 786 = .ok (.iadd, 1) := dcq_743.2.2.1
theorem dL_law_787 : decode cL_law 787 = .ok (.iaload, 1) := dcq_743.2.2.2.1
theorem dL_law_788 : decode cL_law 788 = .ok (.invokevirtual 97, 3) := dcq_743.2.2.2.2.1
theorem dL_law_791 : decode cL_law 791 = .ok (.pop, 1) := dcq_743.2.2.2.2.2.1
theorem dL_law_792 : decode cL_law 792 = .ok (.aload_n 2, 1) := dcq_743.2.2.2.2.2.2.1
theorem dL_law_793 : decode cL_law 793 = .ok (.aload_n 0, 1) := dcq_743.2.2.2.2.2.2.2.1
theorem dL_law_794 : decode cL_law 794 = .ok (.iload_n 3, 1) := dcq_743.2.2.2.2.2.2.2.2.1
theorem dL_law_795 : decode cL_law 795 = .ok (.iconst 1, 1) := dcq_743.2.2.2.2.2.2.2.2.2.1
theorem dL_law_796 : decode cL_law 796 = .ok (.iadd, 1) := dcq_743.2.2.2.2.2.2.2.2.2.2.1
theorem dL_law_797 : decode cL_law 797 = .ok (.iaload, 1) := dcq_743.2.2.2.2.2.2.2.2.2.2.2
set_option maxRecDepth 20000 in
theorem dcb_744 : fd_B cL_law 798 [42, 29, 5, 96, 46, 182, 0, 100, 87, 167, 3, 4, 43, 42, 29, 4] := fd_o cL_law 798 _ (by decide +kernel)
theorem dcq_744 : (decode cL_law 798 = .ok (.aload_n 0, 1)) ∧ (decode cL_law 799 = .ok (.iload_n 3, 1)) ∧ (decode cL_law 800 = .ok (.iconst 2, 1)) ∧ (decode cL_law 801 = .ok (.iadd, 1)) ∧ (decode cL_law 802 = .ok (.iaload, 1)) ∧ (decode cL_law 803 = .ok (.invokevirtual 100, 3)) ∧ (decode cL_law 806 = .ok (.pop, 1)) ∧ (decode cL_law 807 = .ok (.goto 772, 3)) ∧ (decode cL_law 810 = .ok (.aload_n 1, 1)) ∧ (decode cL_law 811 = .ok (.aload_n 0, 1)) ∧ (decode cL_law 812 = .ok (.iload_n 3, 1)) ∧ (decode cL_law 813 = .ok (.iconst 1, 1)) := have h := dcb_744; ⟨fd_42 h, have h := fd_t1 h; ⟨fd_29 h, have h := fd_t1 h; ⟨fd_5 h, have h := fd_t1 h; ⟨fd_96 h, have h := fd_t1 h; ⟨fd_46 h, have h := fd_t1 h; ⟨fd_182 h rfl, have h := fd_t3 h; ⟨fd_87 h, have h := fd_t1 h; ⟨fd_167 h (by decide +kernel), have h := fd_t3 h; ⟨fd_43 h, have h := fd_t1 h; ⟨fd_42 h, have h := fd_t1 h; ⟨fd_29 h, have h := fd_t1 h; fd_4 h⟩⟩⟩⟩⟩⟩⟩⟩⟩⟩⟩
theorem dL_law_798 : decode cL_law 798 = .ok (.aload_n 0, 1) := dcq_744.1
theorem dL_law_799 : decode cL_law 799 = .ok (.iload_n 3, 1) := dcq_744.2.1
theorem dL_law_800 : decode cL_law 800 = .ok (.iconst 2, 1) := dcq_744.2.2.1
theorem dL_law_801 : decode cL_law 801 = .ok (.iadd, 1) := dcq_744.2.2.2.1
theorem dL_law_802 : decode cL_law 802 = .ok (.iaload, 1) := dcq_744.2.2.2.2.1
theorem dL_law_803 : decode cL_law 803 = .ok (.invokevirtual 100, 3) := dcq_744.2.2.2.2.2.1
theorem dL_law_806 : decode cL_law 806 = .ok (.pop, 1) := dcq_744.2.2.2.2.2.2.1
theorem dL_law_807 : decode cL_law 807 = .ok (.goto 772, 3) := dcq_744.2.2.2.2.2.2.2.1
theorem dL_law_810 : decode cL_law 810 = .ok (.aload_n 1, 1) := dcq_744.2.2.2.2.2.2.2.2.1
theorem dL_law_811 : decode cL_law 811 = .ok (.aload_n 0, 1) := dcq_744.2.2.2.2.2.2.2.2.2.1
theorem dL_law_812 : decode cL_law 812 = .ok (.iload_n 3, 1) := dcq_744.2.2.2.2.2.2.2.2.2.2.1
theorem dL_law_813 : decode cL_law 813 = .ok (.iconst 1, 1) := dcq_744.2.2.2.2.2.2.2.2.2.2.2
set_option maxRecDepth 20000 in
theorem dcb_745 : fd_B cL_law 814 [96, 46, 42, 29, 5, 96, 46, 182, 0, 101, 87, 44, 42, 29] := fd_o cL_law 814 _ (by decide +kernel)
theorem dcq_745 : (decode cL_law 814 = .ok (.iadd, 1)) ∧ (decode cL_law 815 = .ok (.iaload, 1)) ∧ (decode cL_law 816 = .ok (.aload_n 0, 1)) ∧ (decode cL_law 817 = .ok (.iload_n 3, 1)) ∧ (decode cL_law 818 = .ok (.iconst 2, 1)) ∧ (decode cL_law 819 = .ok (.iadd, 1)) ∧ (decode cL_law 820 = .ok (.iaload, 1)) ∧ (decode cL_law 821 = .ok (.invokevirtual 101, 3)) ∧ (decode cL_law 824 = .ok (.pop, 1)) ∧ (decode cL_law 825 = .ok (.aload_n 2, 1)) ∧ (decode cL_law 826 = .ok (.aload_n 0, 1)) ∧ (decode cL_law 827 = .ok (.iload_n 3, 1)) := have h := dcb_745; ⟨fd_96 h, have h := fd_t1 h; ⟨fd_46 h, have h := fd_t1 h; ⟨fd_42 h, have h := fd_t1 h; ⟨fd_29 h, have h := fd_t1 h; ⟨fd_5 h, have h := fd_t1 h; ⟨fd_96 h, have h := fd_t1 h; ⟨fd_46 h, have h := fd_t1 h; ⟨fd_182 h rfl, have h := fd_t3 h; ⟨fd_87 h, have h := fd_t1 h; ⟨fd_44 h, have h := fd_t1 h; ⟨fd_42 h, have h := fd_t1 h; fd_29 h⟩⟩⟩⟩⟩⟩⟩⟩⟩⟩⟩
theorem dL_law_814 : decode cL_law 814 = .ok (.iadd, 1) := dcq_745.1
theorem dL_law_815 : decode cL_law 815 = .ok (.iaload, 1) := dcq_745.2.1
theorem dL_law_816 : decode cL_law 816 = .ok (.aload_n 0, 1) := dcq_745.2.2.1
theorem dL_law_817 : decode cL_law 817 = .ok (.iload_n 3, 1) := dcq_745.2.2.2.1
theorem dL_law_818 : decode cL_law 818 = .ok (.iconst 2, 1) := dcq_745.2.2.2.2.1
theorem dL_law_819 : decode cL_law 819 = .ok (.iadd, 1) := dcq_745.2.2.2.2.2.1
theorem dL_law_820 : decode cL_law 820 = .ok (.iaload, 1) := dcq_745.2.2.2.2.2.2.1
theorem dL_law_821 : decode cL_law 821 = .ok (.invokevirtual 101, 3) := dcq_745.2.2.2.2.2.2.2.1
theorem dL_law_824 : decode cL_law 824 = .ok (.pop, 1) := dcq_745.2.2.2.2.2.2.2.2.1
theorem dL_law_825 : decode cL_law 825 = .ok (.aload_n 2, 1) := dcq_745.2.2.2.2.2.2.2.2.2.1
theorem dL_law_826 : decode cL_law 826 = .ok (.aload_n 0, 1) := dcq_745.2.2.2.2.2.2.2.2.2.2.1
theorem dL_law_827 : decode cL_law 827 = .ok (.iload_n 3, 1) := dcq_745.2.2.2.2.2.2.2.2.2.2.2
set_option maxRecDepth 20000 in
theorem dcb_746 : fd_B cL_law 828 [4, 96, 46, 42, 29, 5, 96, 46, 182, 0, 104, 87, 167, 2, 227, 43] := fd_o cL_law 828 _ (by decide +kernel)
theorem dcq_746 : (decode cL_law 828 = .ok (.iconst 1, 1)) ∧ (decode cL_law 829 = .ok (.iadd, 1)) ∧ (decode cL_law 830 = .ok (.iaload, 1)) ∧ (decode cL_law 831 = .ok (.aload_n 0, 1)) ∧ (decode cL_law 832 = .ok (.iload_n 3, 1)) ∧ (decode cL_law 833 = .ok (.iconst 2, 1)) ∧ (decode cL_law 834 = .ok (.iadd, 1)) ∧ (decode cL_law 835 = .ok (.iaload, 1)) ∧ (decode cL_law 836 = .ok (.invokevirtual 104, 3)) ∧ (decode cL_law 839 = .ok (.pop, 1)) ∧ (decode cL_law 840 = .ok (.goto 739, 3)) ∧ (decode cL_law 843 = .ok (.aload_n 1, 1)) := have h := dcb_746; ⟨fd_4 h, have h := fd_t1 h; ⟨fd_96 h, have h := fd_t1 h; ⟨fd_46 h, have h := fd_t1 h; ⟨fd_42 h, have h := fd_t1 h; ⟨fd_29 h, have h := fd_t1 h; ⟨fd_5 h, have h := fd_t1 h; ⟨fd_96 h, have h := fd_t1 h; ⟨fd_46 h, have h := fd_t1 h; ⟨fd_182 h rfl, have h := fd_t3 h; ⟨fd_87 h, have h := fd_t1 h; ⟨fd_167 h (by decide +kernel), have h := fd_t3 h; fd_43 h⟩⟩⟩⟩⟩⟩⟩⟩⟩⟩⟩
theorem dL_law_828 : decode cL_law 828 = .ok (.iconst 1, 1) := dcq_746.1
theorem dL_law_829 : decode cL_law 829 = .ok (.iadd, 1) := dcq_746.2.1
theorem dL_law_830 : decode cL_law 830 = .ok (.iaload, 1) := dcq_746.2.2.1
theorem dL_law_831 : decode cL_law 831 = .ok (.aload_n 0, 1) := dcq_746.2.2.2.1
theorem dL_law_832 : decode cL_law 832 = .ok (.iload_n 3, 1) := dcq_746.2.2.2.2.1
theorem dL_law_833 : decode cL_law 833 = .ok (.iconst 2, 1) := dcq_746.2.2.2.2.2.1
theorem dL_law_834 : decode cL_law 834 = .ok (.iadd, 1) := dcq_746.2.2.2.2.2.2.1
theorem dL_law_835 : decode cL_law 835 = .ok (.iaload, 1) := dcq_746.2.2.2.2.2.2.2.1
theorem dL_law_836 : decode cL_law 836 = .ok (.invokevirtual 104, 3) := dcq_746.2.2.2.2.2.2.2.2.1
theorem dL_law_839 : decode cL_law 839 = .ok (.pop, 1) := dcq_746.2.2.2.2.2.2.2.2.2.1
theorem dL_law_840 : decode cL_law 840 = .ok (.goto 739, 3) := dcq_746.2.2.2.2.2.2.2.2.2.2.1
theorem dL_law_843 : decode cL_law 843 = .ok (.aload_n 1, 1) := dcq_746.2.2.2.2.2.2.2.2.2.2.2
set_option maxRecDepth 20000 in
theorem dcb_747 : fd_B cL_law 844 [42, 29, 4, 96, 46, 42, 29, 5, 96, 46, 182, 0, 105, 87] := fd_o cL_law 844 _ (by decide +kernel)
theorem dcq_747 : (decode cL_law 844 = .ok (.aload_n 0, 1)) ∧ (decode cL_law 845 = .ok (.iload_n 3, 1)) ∧ (decode cL_law 846 = .ok (.iconst 1, 1)) ∧ (decode cL_law 847 = .ok (.iadd, 1)) ∧ (decode cL_law 848 = .ok (.iaload, 1)) ∧ (decode cL_law 849 = .ok (.aload_n 0, 1)) ∧ (decode cL_law 850 = .ok (.iload_n 3, 1)) ∧ (decode cL_law 851 = .ok (.iconst 2, 1)) ∧ (decode cL_law 852 = .ok (.iadd, 1)) ∧ (decode cL_law 853 = .ok (.iaload, 1)) ∧ (decode cL_law 854 = .ok (.invokevirtual 105, 3)) ∧ (decode cL_law 857 = .ok (.pop, 1)) := have h := dcb_747; ⟨fd_42 h, have h := fd_t1 h; ⟨fd_29 h, have h := fd_t1 h; ⟨fd_4 h, have h := fd_t1 h; ⟨fd_96 h, have h := fd_t1 h; ⟨fd_46 h, have h := fd_t1 h; ⟨fd_42 h, have h := fd_t1 h; ⟨fd_29 h, have h := fd_t1 h; ⟨fd_5 h, have h := fd_t1 h; ⟨fd_96 h, have h := fd_t1 h; ⟨fd_46 h, have h := fd_t1 h; ⟨fd_182 h rfl, have h := fd_t3 h; fd_87 h⟩⟩⟩⟩⟩⟩⟩⟩⟩⟩⟩
theorem dL_law_844 : decode cL_law 844 = .ok (.aload_n 0, 1) := dcq_747.1
theorem dL_law_845 : decode cL_law 845 = .ok (.iload_n 3, 1) := dcq_747.2.1
theorem dL_law_846 : decode cL_law 846 = .ok (.iconst 1, 1) := dcq_747.2.2.1
theorem dL_law_847 : decode cL_law 847 = .ok (.iadd, 1) := dcq_747.2.2.2.1
theorem dL_law_848 : decode cL_law 848 = .ok (.iaload, 1) := dcq_747.2.2.2.2.1
theorem dL_law_849 : decode cL_law 849 = .ok (.aload_n 0, 1) := dcq_747.2.2.2.2.2.1
theorem dL_law_850 : decode cL_law 850 = .ok (.iload_n 3, 1) := dcq_747.2.2.2.2.2.2.1
theorem dL_law_851 : decode cL_law 851 = .ok (.iconst 2, 1) := dcq_747.2.2.2.2.2.2.2.1
theorem dL_law_852 : decode cL_law 852 = .ok (.iadd, 1) := dcq_747.2.2.2.2.2.2.2.2.1
theorem dL_law_853 : decode cL_law 853 = .ok (.iaload, 1) := dcq_747.2.2.2.2.2.2.2.2.2.1
theorem dL_law_854 : decode cL_law 854 = .ok (.invokevirtual 105, 3) := dcq_747.2.2.2.2.2.2.2.2.2.2.1
theorem dL_law_857 : decode cL_law 857 = .ok (.pop, 1) := dcq_747.2.2.2.2.2.2.2.2.2.2.2
set_option maxRecDepth 20000 in
theorem dcb_748 : fd_B cL_law 858 [44, 42, 29, 4, 96, 46, 42, 29, 5, 96, 46, 182, 0, 108] := fd_o cL_law 858 _ (by decide +kernel)
theorem dcq_748 : (decode cL_law 858 = .ok (.aload_n 2, 1)) ∧ (decode cL_law 859 = .ok (.aload_n 0, 1)) ∧ (decode cL_law 860 = .ok (.iload_n 3, 1)) ∧ (decode cL_law 861 = .ok (.iconst 1, 1)) ∧ (decode cL_law 862 = .ok (.iadd, 1)) ∧ (decode cL_law 863 = .ok (.iaload, 1)) ∧ (decode cL_law 864 = .ok (.aload_n 0, 1)) ∧ (decode cL_law 865 = .ok (.iload_n 3, 1)) ∧ (decode cL_law 866 = .ok (.iconst 2, 1)) ∧ (decode cL_law 867 = .ok (.iadd, 1)) ∧ (decode cL_law 868 = .ok (.iaload, 1)) ∧ (decode cL_law 869 = .ok (.invokevirtual 108, 3)) := have h := dcb_748; ⟨fd_44 h, have h := fd_t1 h; ⟨fd_42 h, have h := fd_t1 h; ⟨fd_29 h, have h := fd_t1 h; ⟨fd_4 h, have h := fd_t1 h; ⟨fd_96 h, have h := fd_t1 h; ⟨fd_46 h, have h := fd_t1 h; ⟨fd_42 h, have h := fd_t1 h; ⟨fd_29 h, have h := fd_t1 h; ⟨fd_5 h, have h := fd_t1 h; ⟨fd_96 h, have h := fd_t1 h; ⟨fd_46 h, have h := fd_t1 h; fd_182 h rfl⟩⟩⟩⟩⟩⟩⟩⟩⟩⟩⟩
theorem dL_law_858 : decode cL_law 858 = .ok (.aload_n 2, 1) := dcq_748.1
theorem dL_law_859 : decode cL_law 859 = .ok (.aload_n 0, 1) := dcq_748.2.1
theorem dL_law_860 : decode cL_law 860 = .ok (.iload_n 3, 1) := dcq_748.2.2.1
theorem dL_law_861 : decode cL_law 861 = .ok (.iconst 1, 1) := dcq_748.2.2.2.1
theorem dL_law_862 : decode cL_law 862 = .ok (.iadd, 1) := dcq_748.2.2.2.2.1
theorem dL_law_863 : decode cL_law 863 = .ok (.iaload, 1) := dcq_748.2.2.2.2.2.1
theorem dL_law_864 : decode cL_law 864 = .ok (.aload_n 0, 1) := dcq_748.2.2.2.2.2.2.1
theorem dL_law_865 : decode cL_law 865 = .ok (.iload_n 3, 1) := dcq_748.2.2.2.2.2.2.2.1
theorem dL_law_866 : decode cL_law 866 = .ok (.iconst 2, 1) := dcq_748.2.2.2.2.2.2.2.2.1
theorem dL_law_867 : decode cL_law 867 = .ok (.iadd, 1) := dcq_748.2.2.2.2.2.2.2.2.2.1
theorem dL_law_868 : decode cL_law 868 = .ok (.iaload, 1) := dcq_748.2.2.2.2.2.2.2.2.2.2.1
theorem dL_law_869 : decode cL_law 869 = .ok (.invokevirtual 108, 3) := dcq_748.2.2.2.2.2.2.2.2.2.2.2
set_option maxRecDepth 20000 in
theorem dcb_749 : fd_B cL_law 872 [87, 167, 2, 194, 43, 42, 29, 4, 96, 46, 182, 0, 109, 87, 44, 42] := fd_o cL_law 872 _ (by decide +kernel)
theorem dcq_749 : (decode cL_law 872 = .ok (.pop, 1)) ∧ (decode cL_law 873 = .ok (.goto 706, 3)) ∧ (decode cL_law 876 = .ok (.aload_n 1, 1)) ∧ (decode cL_law 877 = .ok (.aload_n 0, 1)) ∧ (decode cL_law 878 = .ok (.iload_n 3, 1)) ∧ (decode cL_law 879 = .ok (.iconst 1, 1)) ∧ (decode cL_law 880 = .ok (.iadd, 1)) ∧ (decode cL_law 881 = .ok (.iaload, 1)) ∧ (decode cL_law 882 = .ok (.invokevirtual 109, 3)) ∧ (decode cL_law 885 = .ok (.pop, 1)) ∧ (decode cL_law 886 = .ok (.aload_n 2, 1)) ∧ (decode cL_law 887 = .ok (.aload_n 0, 1)) := have h := dcb_749; ⟨fd_87 h, have h := fd_t1 h; ⟨fd_167 h (by decide +kernel), have h := fd_t3 h; ⟨fd_43 h, have h := fd_t1 h; ⟨fd_42 h, have h := fd_t1 h; ⟨fd_29 h, have h := fd_t1 h; ⟨fd_4 h, have h := fd_t1 h; ⟨fd_96 h, have h := fd_t1 h; ⟨fd_46 h, have h := fd_t1 h; ⟨fd_182 h rfl, have h := fd_t3 h; ⟨fd_87 h, have h := fd_t1 h; ⟨fd_44 h, have h := fd_t1 h; fd_42 h⟩⟩⟩⟩⟩⟩⟩⟩⟩⟩⟩
theorem dL_law_872 : decode cL_law 872 = .ok (.pop, 1) := dcq_749.1
theorem dL_law_873 : decode cL_law 873 = .ok (.goto 706, 3) := dcq_749.2.1
theorem dL_law_876 : decode cL_law 876 = .ok (.aload_n 1, 1) := dcq_749.2.2.1
theorem dL_law_877 : decode cL_law 877 = .ok (.aload_n 0, 1) := dcq_749.2.2.2.1
theorem dL_law_878 : decode cL_law 878 = .ok (.iload_n 3, 1) := dcq_749.2.2.2.2.1
theorem dL_law_879 : decode cL_law 879 = .ok (.iconst 1, 1) := dcq_749.2.2.2.2.2.1
theorem dL_law_880 : decode cL_law 880 = .ok (.iadd, 1) := dcq_749.2.2.2.2.2.2.1
theorem dL_law_881 : decode cL_law 881 = .ok (.iaload, 1) := dcq_749.2.2.2.2.2.2.2.1
theorem dL_law_882 : decode cL_law 882 = .ok (.invokevirtual 109, 3) := dcq_749.2.2.2.2.2.2.2.2.1
theorem dL_law_885 : decode cL_law 885 = .ok (.pop, 1) := dcq_749.2.2.2.2.2.2.2.2.2.1
theorem dL_law_886 : decode cL_law 886 = .ok (.aload_n 2, 1) := dcq_749.2.2.2.2.2.2.2.2.2.2.1
theorem dL_law_887 : decode cL_law 887 = .ok (.aload_n 0, 1) := dcq_749.2.2.2.2.2.2.2.2.2.2.2
set_option maxRecDepth 20000 in
theorem dcb_750 : fd_B cL_law 888 [29, 4, 96, 46, 182, 0, 112, 87, 167, 2, 171, 43, 42, 29, 4, 96] := fd_o cL_law 888 _ (by decide +kernel)
theorem dcq_750 : (decode cL_law 888 = .ok (.iload_n 3, 1)) ∧ (decode cL_law 889 = .ok (.iconst 1, 1)) ∧ (decode cL_law 890 = .ok (.iadd, 1)) ∧ (decode cL_law 891 = .ok (.iaload, 1)) ∧ (decode cL_law 892 = .ok (.invokevirtual 112, 3)) ∧ (decode cL_law 895 = .ok (.pop, 1)) ∧ (decode cL_law 896 = .ok (.goto 683, 3)) ∧ (decode cL_law 899 = .ok (.aload_n 1, 1)) ∧ (decode cL_law 900 = .ok (.aload_n 0, 1)) ∧ (decode cL_law 901 = .ok (.iload_n 3, 1)) ∧ (decode cL_law 902 = .ok (.iconst 1, 1)) ∧ (decode cL_law 903 = .ok (.iadd, 1)) := have h := dcb_750; ⟨fd_29 h, have h := fd_t1 h; ⟨fd_4 h, have h := fd_t1 h; ⟨fd_96 h, have h := fd_t1 h; ⟨fd_46 h, have h := fd_t1 h; ⟨fd_182 h rfl, have h := fd_t3 h; ⟨fd_87 h, have h := fd_t1 h; ⟨fd_167 h (by decide +kernel), have h := fd_t3 h; ⟨fd_43 h, have h := fd_t1 h; ⟨fd_42 h, have h := fd_t1 h; ⟨fd_29 h, have h := fd_t1 h; ⟨fd_4 h, have h := fd_t1 h; fd_96 h⟩⟩⟩⟩⟩⟩⟩⟩⟩⟩⟩
theorem dL_law_888 : decode cL_law 888 = .ok (.iload_n 3, 1) := dcq_750.1
theorem dL_law_889 : decode cL_law 889 = .ok (.iconst 1, 1) := dcq_750.2.1
theorem dL_law_890 : decode cL_law 890 = .ok (.iadd, 1) := dcq_750.2.2.1
theorem dL_law_891 : decode cL_law 891 = .ok (.iaload, 1) := dcq_750.2.2.2.1
theorem dL_law_892 : decode cL_law 892 = .ok (.invokevirtual 112, 3) := dcq_750.2.2.2.2.1
theorem dL_law_895 : decode cL_law 895 = .ok (.pop, 1) := dcq_750.2.2.2.2.2.1
theorem dL_law_896 : decode cL_law 896 = .ok (.goto 683, 3) := dcq_750.2.2.2.2.2.2.1
theorem dL_law_899 : decode cL_law 899 = .ok (.aload_n 1, 1) := dcq_750.2.2.2.2.2.2.2.1
theorem dL_law_900 : decode cL_law 900 = .ok (.aload_n 0, 1) := dcq_750.2.2.2.2.2.2.2.2.1
theorem dL_law_901 : decode cL_law 901 = .ok (.iload_n 3, 1) := dcq_750.2.2.2.2.2.2.2.2.2.1
theorem dL_law_902 : decode cL_law 902 = .ok (.iconst 1, 1) := dcq_750.2.2.2.2.2.2.2.2.2.2.1
theorem dL_law_903 : decode cL_law 903 = .ok (.iadd, 1) := dcq_750.2.2.2.2.2.2.2.2.2.2.2
set_option maxRecDepth 20000 in
theorem dcb_751 : fd_B cL_law 904 [46, 42, 29, 5, 96, 46, 182, 0, 113, 87, 44, 42, 29, 4] := fd_o cL_law 904 _ (by decide +kernel)
theorem dcq_751 : (decode cL_law 904 = .ok (.iaload, 1)) ∧ (decode cL_law 905 = .ok (.aload_n 0, 1)) ∧ (decode cL_law 906 = .ok (.iload_n 3, 1)) ∧ (decode cL_law 907 = .ok (.iconst 2, 1)) ∧ (decode cL_law 908 = .ok (.iadd, 1)) ∧ (decode cL_law 909 = .ok (.iaload, 1)) ∧ (decode cL_law 910 = .ok (.invokevirtual 113, 3)) ∧ (decode cL_law 913 = .ok (.pop, 1)) ∧ (decode cL_law 914 = .ok (.aload_n 2, 1)) ∧ (decode cL_law 915 = .ok (.aload_n 0, 1)) ∧ (decode cL_law 916 = .ok (.iload_n 3, 1)) ∧ (decode cL_law 917 = .ok (.iconst 1, 1)) := have h := dcb_751; ⟨fd_46 h, have h := fd_t1 h; ⟨fd_42 h, have h := fd_t1 h; ⟨fd_29 h, have h := fd_t1 h; ⟨fd_5 h, have h := fd_t1 h; ⟨fd_96 h, have h := fd_t1 h; ⟨fd_46 h, have h := fd_t1 h; ⟨fd_182 h rfl, have h := fd_t3 h; ⟨fd_87 h, have h := fd_t1 h; ⟨fd_44 h, have h := fd_t1 h; ⟨fd_42 h, have h := fd_t1 h; ⟨fd_29 h, have h := fd_t1 h; fd_4 h⟩⟩⟩⟩⟩⟩⟩⟩⟩⟩⟩
theorem dL_law_904 : decode cL_law 904 = .ok (.iaload, 1) := dcq_751.1
theorem dL_law_905 : decode cL_law 905 = .ok (.aload_n 0, 1) := dcq_751.2.1
theorem dL_law_906 : decode cL_law 906 = .ok (.iload_n 3, 1) := dcq_751.2.2.1
theorem dL_law_907 : decode cL_law 907 = .ok (.iconst 2, 1) := dcq_751.2.2.2.1
theorem dL_law_908 : decode cL_law 908 = .ok (.iadd, 1) := dcq_751.2.2.2.2.1
theorem dL_law_909 : decode cL_law 909 = .ok (.iaload, 1) := dcq_751.2.2.2.2.2.1
theorem dL_law_910 : decode cL_law 910 = .ok (.invokevirtual 113, 3) := dcq_751.2.2.2.2.2.2.1
theorem dL_law_913 : decode cL_law 913 = .ok (.pop, 1) := dcq_751.2.2.2.2.2.2.2.1
theorem dL_law_914 : decode cL_law 914 = .ok (.aload_n 2, 1) := dcq_751.2.2.2.2.2.2.2.2.1
theorem dL_law_915 : decode cL_law 915 = .ok (.aload_n 0, 1) := dcq_751.2.2.2.2.2.2.2.2.2.1
theorem dL_law_916 : decode cL_law 916 = .ok (.iload_n 3, 1) := dcq_751.2.2.2.2.2.2.2.2.2.2.1
theorem dL_law_917 : decode cL_law 917 = .ok (.iconst 1, 1) := dcq_751.2.2.2.2.2.2.2.2.2.2.2
set_option maxRecDepth 20000 in
theorem dcb_752 : fd_B cL_law 918 [96, 46, 42, 29, 5, 96, 46, 182, 0, 116, 87, 167, 2, 138, 43, 42] := fd_o cL_law 918 _ (by decide +kernel)
theorem dcq_752 : (decode cL_law 918 = .ok (.iadd, 1)) ∧ (decode cL_law 919 = .ok (.iaload, 1)) ∧ (decode cL_law 920 = .ok (.aload_n 0, 1)) ∧ (decode cL_law 921 = .ok (.iload_n 3, 1)) ∧ (decode cL_law 922 = .ok (.iconst 2, 1)) ∧ (decode cL_law 923 = .ok (.iadd, 1)) ∧ (decode cL_law 924 = .ok (.iaload, 1)) ∧ (decode cL_law 925 = .ok (.invokevirtual 116, 3)) ∧ (decode cL_law 928 = .ok (.pop, 1)) ∧ (decode cL_law 929 = .ok (.goto 650, 3)) ∧ (decode cL_law 932 = .ok (.aload_n 1, 1)) ∧ (decode cL_law 933 = .ok (.aload_n 0, 1)) := have h := dcb_752; ⟨fd_96 h, have h := fd_t1 h; ⟨fd_46 h, have h := fd_t1 h; ⟨fd_42 h, have h := fd_t1 h; ⟨fd_29 h, have h := fd_t1 h; ⟨fd_5 h, have h := fd_t1 h; ⟨fd_96 h, have h := fd_t1 h; ⟨fd_46 h, have h := fd_t1 h; ⟨fd_182 h rfl, have h := fd_t3 h; ⟨fd_87 h, have h := fd_t1 h; ⟨fd_167 h (by decide +kernel), have h := fd_t3 h; ⟨fd_43 h, have h := fd_t1 h; fd_42 h⟩⟩⟩⟩⟩⟩⟩⟩⟩⟩⟩
theorem dL_law_918 : decode cL_law 918 = .ok (.iadd, 1) := dcq_752.1
theorem dL_law_919 : decode cL_law 919 = .ok (.iaload, 1) := dcq_752.2.1
theorem dL_law_920 : decode cL_law 920 = .ok (.aload_n 0, 1) := dcq_752.2.2.1
theorem dL_law_921 : decode cL_law 921 = .ok (.iload_n 3, 1) := dcq_752.2.2.2.1
theorem dL_law_922 : decode cL_law 922 = .ok (.iconst 2, 1) := dcq_752.2.2.2.2.1
theorem dL_law_923 : decode cL_law 923 = .ok (.iadd, 1) := dcq_752.2.2.2.2.2.1
theorem dL_law_924 : decode cL_law 924 = .ok (.iaload, 1) := dcq_752.2.2.2.2.2.2.1
theorem dL_law_925 : decode cL_law 925 = .ok (.invokevirtual 116, 3) := dcq_752.2.2.2.2.2.2.2.1
theorem dL_law_928 : decode cL_law 928 = .ok (.pop, 1) := dcq_752.2.2.2.2.2.2.2.2.1
theorem dL_law_929 : decode cL_law 929 = .ok (.goto 650, 3) := dcq_752.2.2.2.2.2.2.2.2.2.1
theorem dL_law_932 : decode cL_law 932 = .ok (.aload_n 1, 1) := dcq_752.2.2.2.2.2.2.2.2.2.2.1
theorem dL_law_933 : decode cL_law 933 = .ok (.aload_n 0, 1) := dcq_752.2.2.2.2.2.2.2.2.2.2.2
set_option maxRecDepth 20000 in
theorem dcb_753 : fd_B cL_law 934 [29, 4, 96, 46, 182, 0, 117, 87, 44, 42, 29, 4, 96, 46] := fd_o cL_law 934 _ (by decide +kernel)
theorem dcq_753 : (decode cL_law 934 = .ok (.iload_n 3, 1)) ∧ (decode cL_law 935 = .ok (.iconst 1, 1)) ∧ (decode cL_law 936 = .ok (.iadd, 1)) ∧ (decode cL_law 937 = .ok (.iaload, 1)) ∧ (decode cL_law 938 = .ok (.invokevirtual 117, 3)) ∧ (decode cL_law 941 = .ok (.pop, 1)) ∧ (decode cL_law 942 = .ok (.aload_n 2, 1)) ∧ (decode cL_law 943 = .ok (.aload_n 0, 1)) ∧ (decode cL_law 944 = .ok (.iload_n 3, 1)) ∧ (decode cL_law 945 = .ok (.iconst 1, 1)) ∧ (decode cL_law 946 = .ok (.iadd, 1)) ∧ (decode cL_law 947 = .ok (.iaload, 1)) := have h := dcb_753; ⟨fd_29 h, have h := fd_t1 h; ⟨fd_4 h, have h := fd_t1 h; ⟨fd_96 h, have h := fd_t1 h; ⟨fd_46 h, have h := fd_t1 h; ⟨fd_182 h rfl, have h := fd_t3 h; ⟨fd_87 h, have h := fd_t1 h; ⟨fd_44 h, have h := fd_t1 h; ⟨fd_42 h, have h := fd_t1 h; ⟨fd_29 h, have h := fd_t1 h; ⟨fd_4 h, have h := fd_t1 h; ⟨fd_96 h, have h := fd_t1 h; fd_46 h⟩⟩⟩⟩⟩⟩⟩⟩⟩⟩⟩
theorem dL_law_934 : decode cL_law 934 = .ok (.iload_n 3, 1) := dcq_753.1
theorem dL_law_935 : decode cL_law 935 = .ok (.iconst 1, 1) := dcq_753.2.1
theorem dL_law_936 : decode cL_law 936 = .ok (.iadd, 1) := dcq_753.2.2.1
theorem dL_law_937 : decode cL_law 937 = .ok (.iaload, 1) := dcq_753.2.2.2.1
theorem dL_law_938 : decode cL_law 938 = .ok (.invokevirtual 117, 3) := dcq_753.2.2.2.2.1
theorem dL_law_941 : decode cL_law 941 = .ok (.pop, 1) := dcq_753.2.2.2.2.2.1
theorem dL_law_942 : decode cL_law 942 = .ok (.aload_n 2, 1) := dcq_753.2.2.2.2.2.2.1
theorem dL_law_943 : decode cL_law 943 = .ok (.aload_n 0, 1) := dcq_753.2.2.2.2.2.2.2.1
theorem dL_law_944 : decode cL_law 944 = .ok (.iload_n 3, 1) := dcq_753.2.2.2.2.2.2.2.2.1
theorem dL_law_945 : decode cL_law 945 = .ok (.iconst 1, 1) := dcq_753.2.2.2.2.2.2.2.2.2.1
theorem dL_law_946 : decode cL_law 946 = .ok (.iadd, 1) := dcq_753.2.2.2.2.2.2.2.2.2.2.1
theorem dL_law_947 : decode cL_law 947 = .ok (.iaload, 1) := dcq_753.2.2.2.2.2.2.2.2.2.2.2
set_option maxRecDepth 20000 in
theorem dcb_754 : fd_B cL_law 948 [182, 0, 120, 87, 167, 2, 115, 43, 42, 29, 4, 96, 46, 42, 29, 5] := fd_o cL_law 948 _ (by decide +kernel)
theorem dcq_754 : (decode cL_law 948 = .ok (.invokevirtual 120, 3)) ∧ (decode cL_law 951 = .ok (.pop, 1)) ∧ (decode cL_law 952 = .ok (.goto 627, 3)) ∧ (decode cL_law 955 = .ok (.aload_n 1, 1)) ∧ (decode cL_law 956 = .ok (.aload_n 0, 1)) ∧ (decode cL_law 957 = .ok (.iload_n 3, 1)) ∧ (decode cL_law 958 = .ok (.iconst 1, 1)) ∧ (decode cL_law 959 = .ok (.iadd, 1)) ∧ (decode cL_law 960 = .ok (.iaload, 1)) ∧ (decode cL_law 961 = .ok (.aload_n 0, 1)) ∧ (decode cL_law 962 = .ok (.iload_n 3, 1)) ∧ (decode cL_law 963 = .ok (.iconst 2, 1)) := have h := dcb_754; ⟨fd_182 h rfl, have h := fd_t3 h; ⟨fd_87 h, have h := fd_t1 h; ⟨fd_167 h (by decide +kernel), have h := fd_t3 h; ⟨fd_43 h, have h := fd_t1 h; ⟨fd_42 h, have h := fd_t1 h; ⟨fd_29 h, have h := fd_t1 h; ⟨fd_4 h, have h := fd_t1 h; ⟨fd_96 h, have h := fd_t1 h; ⟨fd_46 h, have h := fd_t1 h; ⟨fd_42 h, have h := fd_t1 h; ⟨fd_29 h, have h := fd_t1 h; fd_5 h⟩⟩⟩⟩⟩⟩⟩⟩⟩⟩⟩
theorem dL_law_948 : decode cL_law 948 = .ok (.invokevirtual 120, 3) := dcq_754.1
theorem dL_law_951 : decode cL_law 951 = .ok (.pop, 1) := dcq_754.2.1
theorem dL_law_952 : decode cL_law 952 = .ok (.goto 627, 3) := dcq_754.2.2.1
theorem dL_law_955 : decode cL_law 955 = .ok (.aload_n 1, 1) := dcq_754.2.2.2.1
theorem dL_law_956 : decode cL_law 956 = .ok (.aload_n 0, 1) := dcq_754.2.2.2.2.1
theorem dL_law_957 : decode cL_law 957 = .ok (.iload_n 3, 1) := dcq_754.2.2.2.2.2.1
theorem dL_law_958 : decode cL_law 958 = .ok (.iconst 1, 1) := dcq_754.2.2.2.2.2.2.1
theorem dL_law_959 : decode cL_law 959 = .ok (.iadd, 1) := dcq_754.2.2.2.2.2.2.2.1
theorem dL_law_960 : decode cL_law 960 = .ok (.iaload, 1) := dcq_754.2.2.2.2.2.2.2.2.1
theorem dL_law_961 : decode cL_law 961 = .ok (.aload_n 0, 1) := dcq_754.2.2.2.2.2.2.2.2.2.1
theorem dL_law_962 : decode cL_law 962 = .ok (.iload_n 3, 1) := dcq_754.2.2.2.2.2.2.2.2.2.2.1
theorem dL_law_963 : decode cL_law 963 = .ok (.iconst 2, 1) := dcq_754.2.2.2.2.2.2.2.2.2.2.2
set_option maxRecDepth 20000 in
theorem dcb_755 : fd_B cL_law 964 [96, 46, 42, 29, 6, 96, 46, 182, 0, 121, 87, 44, 42, 29] := fd_o cL_law 964 _ (by decide +kernel)
theorem dcq_755 : (decode cL_law 964 = .ok (.iadd, 1)) ∧ (decode cL_law 965 = .ok (.iaload, 1)) ∧ (decode cL_law 966 = .ok (.aload_n 0, 1)) ∧ (decode cL_law 967 = .ok (.iload_n 3, 1)) ∧ (decode cL_law 968 = .ok (.iconst 3, 1)) ∧ (decode cL_law 969 = .ok (.iadd, 1)) ∧ (decode cL_law 970 = .ok (.iaload, 1)) ∧ (decode cL_law 971 = .ok (.invokevirtual 121, 3)) ∧ (decode cL_law 974 = .ok (.pop, 1)) ∧ (decode cL_law 975 = .ok (.aload_n 2, 1)) ∧ (decode cL_law 976 = .ok (.aload_n 0, 1)) ∧ (decode cL_law 977 = .ok (.iload_n 3, 1)) := have h := dcb_755; ⟨fd_96 h, have h := fd_t1 h; ⟨fd_46 h, have h := fd_t1 h; ⟨fd_42 h, have h := fd_t1 h; ⟨fd_29 h, have h := fd_t1 h; ⟨fd_6 h, have h := fd_t1 h; ⟨fd_96 h, have h := fd_t1 h; ⟨fd_46 h, have h := fd_t1 h; ⟨fd_182 h rfl, have h := fd_t3 h; ⟨fd_87 h, have h := fd_t1 h; ⟨fd_44 h, have h := fd_t1 h; ⟨fd_42 h, have h := fd_t1 h; fd_29 h⟩⟩⟩⟩⟩⟩⟩⟩⟩⟩⟩
theorem dL_law_964 : decode cL_law 964 = .ok (.iadd, 1) := dcq_755.1
theorem dL_law_965 : decode cL_law 965 = .ok (.iaload, 1) := dcq_755.2.1
theorem dL_law_966 : decode cL_law 966 = .ok (.aload_n 0, 1) := dcq_755.2.2.1
theorem dL_law_967 : decode cL_law 967 = .ok (.iload_n 3, 1) := dcq_755.2.2.2.1
theorem dL_law_968 : decode cL_law 968 = .ok (.iconst 3, 1) := dcq_755.2.2.2.2.1
theorem dL_law_969 : decode cL_law 969 = .ok (.iadd, 1) := dcq_755.2.2.2.2.2.1
theorem dL_law_970 : decode cL_law 970 = .ok (.iaload, 1) := dcq_755.2.2.2.2.2.2.1
theorem dL_law_971 : decode cL_law 971 = .ok (.invokevirtual 121, 3) := dcq_755.2.2.2.2.2.2.2.1
theorem dL_law_974 : decode cL_law 974 = .ok (.pop, 1) := dcq_755.2.2.2.2.2.2.2.2.1
theorem dL_law_975 : decode cL_law 975 = .ok (.aload_n 2, 1) := dcq_755.2.2.2.2.2.2.2.2.2.1
theorem dL_law_976 : decode cL_law 976 = .ok (.aload_n 0, 1) := dcq_755.2.2.2.2.2.2.2.2.2.2.1
theorem dL_law_977 : decode cL_law 977 = .ok (.iload_n 3, 1) := dcq_755.2.2.2.2.2.2.2.2.2.2.2
set_option maxRecDepth 20000 in
theorem dcb_756 : fd_B cL_law 978 [4, 96, 46, 42, 29, 5, 96, 46, 42, 29, 6, 96] := fd_o cL_law 978 _ (by decide +kernel)
theorem dcq_756 : (decode cL_law 978 = .ok (.iconst 1, 1)) ∧ (decode cL_law 979 = .ok (.iadd, 1)) ∧ (decode cL_law 980 = .ok (.iaload, 1)) ∧ (decode cL_law 981 = .ok (.aload_n 0, 1)) ∧ (decode cL_law 982 = .ok (.iload_n 3, 1)) ∧ (decode cL_law 983 = .ok (.iconst 2, 1)) ∧ (decode cL_law 984 = .ok (.iadd, 1)) ∧ (decode cL_law 985 = .ok (.iaload, 1)) ∧ (decode cL_law 986 = .ok (.aload_n 0, 1)) ∧ (decode cL_law 987 = .ok (.iload_n 3, 1)) ∧ (decode cL_law 988 = .ok (.iconst 3, 1)) ∧ (decode cL_law 989 = .ok (.iadd, 1)) := have h := dcb_756; ⟨fd_4 h, have h := fd_t1 h; ⟨fd_96 h, have h := fd_t1 h; ⟨fd_46 h, have h := fd_t1 h; ⟨fd_42 h, have h := fd_t1 h; ⟨fd_29 h, have h := fd_t1 h; ⟨fd_5 h, have h := fd_t1 h; ⟨fd_96 h, have h := fd_t1 h; ⟨fd_46 h, have h := fd_t1 h; ⟨fd_42 h, have h := fd_t1 h; ⟨fd_29 h, have h := fd_t1 h; ⟨fd_6 h, have h := fd_t1 h; fd_96 h⟩⟩⟩⟩⟩⟩⟩⟩⟩⟩⟩
theorem dL_law_978 : decode cL_law 978 = .ok (.iconst 1, 1) := dcq_756.1
theorem dL_law_979 : decode cL_law 979 = .ok (.iadd, 1) := dcq_756.2.1
theorem dL_law_980 : decode cL_law 980 = .ok (.iaload, 1) := dcq_756.2.2.1
theorem dL_law_981 : decode cL_law 981 = .ok (.aload_n 0, 1) := dcq_756.2.2.2.1
theorem dL_law_982 : decode cL_law 982 = .ok (.iload_n 3, 1) := dcq_756.2.2.2.2.1
theorem dL_law_983 : decode cL_law 983 = .ok (.iconst 2, 1) := dcq_756.2.2.2.2.2.1
theorem dL_law_984 : decode cL_law 984 = .ok (.iadd, 1) := dcq_756.2.2.2.2.2.2.1
theorem dL_law_985 : decode cL_law 985 = .ok (.iaload, 1) := dcq_756.2.2.2.2.2.2.2.1
theorem dL_law_986 : decode cL_law 986 = .ok (.aload_n 0, 1) := dcq_756.2.2.2.2.2.2.2.2.1
theorem dL_law_987 : decode cL_law 987 = .ok (.iload_n 3, 1) := dcq_756.2.2.2.2.2.2.2.2.2.1
theorem dL_law_988 : decode cL_law 988 = .ok (.iconst 3, 1) := dcq_756.2.2.2.2.2.2.2.2.2.2.1
theorem dL_law_989 : decode cL_law 989 = .ok (.iadd, 1) := dcq_756.2.2.2.2.2.2.2.2.2.2.2
set_option maxRecDepth 20000 in
theorem dcb_757 : fd_B cL_law 990 [46, 182, 0, 124, 87, 167, 2, 72, 43, 42, 29, 4, 96, 46, 42, 29] := fd_o cL_law 990 _ (by decide +kernel)
theorem dcq_757 : (decode cL_law 990 = .ok (.iaload, 1)) ∧ (decode cL_law 991 = .ok (.invokevirtual 124, 3)) ∧ (decode cL_law 994 = .ok (.pop, 1)) ∧ (decode cL_law 995 = .ok (.goto 584, 3)) ∧ (decode cL_law 998 = .ok (.aload_n 1, 1)) ∧ (decode cL_law 999 = .ok (.aload_n 0, 1)) ∧ (decode cL_law 1000 = .ok (.iload_n 3, 1)) ∧ (decode cL_law 1001 = .ok (.iconst 1, 1)) ∧ (decode cL_law 1002 = .ok (.iadd, 1)) ∧ (decode cL_law 1003 = .ok (.iaload, 1)) ∧ (decode cL_law 1004 = .ok (.aload_n 0, 1)) ∧ (decode cL_law 1005 = .ok (.iload_n 3, 1)) := have h := dcb_757; ⟨fd_46 h, have h := fd_t1 h; ⟨fd_182 h rfl, have h := fd_t3 h; ⟨fd_87 h, have h := fd_t1 h; ⟨fd_167 h (by decide +kernel), have h := fd_t3 h; ⟨fd_43 h, have h := fd_t1 h; ⟨fd_42 h, have h := fd_t1 h; ⟨fd_29 h, have h := fd_t1 h; ⟨fd_4 h, have h := fd_t1 h; ⟨fd_96 h, have h := fd_t1 h; ⟨fd_46 h, have h := fd_t1 h; ⟨fd_42 h, have h := fd_t1 h; fd_29 h⟩⟩⟩⟩⟩⟩⟩⟩⟩⟩⟩
theorem dL_law_990 : decode cL_law 990 = .ok (.iaload, 1) := dcq_757.1
theorem dL_law_991 : decode cL_law 991 = .ok (.invokevirtual 124, 3) := dcq_757.2.1
theorem dL_law_994 : decode cL_law 994 = .ok (.pop, 1) := dcq_757.2.2.1
theorem dL_law_995 : decode cL_law 995 = .ok (.goto 584, 3) := dcq_757.2.2.2.1
theorem dL_law_998 : decode cL_law 998 = .ok (.aload_n 1, 1) := dcq_757.2.2.2.2.1
theorem dL_law_999 : decode cL_law 999 = .ok (.aload_n 0, 1) := dcq_757.2.2.2.2.2.1
theorem dL_law_1000 : decode cL_law 1000 = .ok (.iload_n 3, 1) := dcq_757.2.2.2.2.2.2.1
theorem dL_law_1001 : decode cL_law 1001 = .ok (.iconst 1, 1) := dcq_757.2.2.2.2.2.2.2.1
theorem dL_law_1002 : decode cL_law 1002 = .ok (.iadd, 1) := dcq_757.2.2.2.2.2.2.2.2.1
theorem dL_law_1003 : decode cL_law 1003 = .ok (.iaload, 1) := dcq_757.2.2.2.2.2.2.2.2.2.1
theorem dL_law_1004 : decode cL_law 1004 = .ok (.aload_n 0, 1) := dcq_757.2.2.2.2.2.2.2.2.2.2.1
theorem dL_law_1005 : decode cL_law 1005 = .ok (.iload_n 3, 1) := dcq_757.2.2.2.2.2.2.2.2.2.2.2
set_option maxRecDepth 20000 in
theorem dcb_758 : fd_B cL_law 1006 [5, 96, 46, 42, 29, 6, 96, 46, 182, 0, 125, 88, 44, 42] := fd_o cL_law 1006 _ (by decide +kernel)
theorem dcq_758 : (decode cL_law 1006 = .ok (.iconst 2, 1)) ∧ (decode cL_law 1007 = .ok (.iadd, 1)) ∧ (decode cL_law 1008 = .ok (.iaload, 1)) ∧ (decode cL_law 1009 = .ok (.aload_n 0, 1)) ∧ (decode cL_law 1010 = .ok (.iload_n 3, 1)) ∧ (decode cL_law 1011 = .ok (.iconst 3, 1)) ∧ (decode cL_law 1012 = .ok (.iadd, 1)) ∧ (decode cL_law 1013 = .ok (.iaload, 1)) ∧ (decode cL_law 1014 = .ok (.invokevirtual 125, 3)) ∧ (decode cL_law 1017 = .ok (.pop2, 1)) ∧ (decode cL_law 1018 = .ok (.aload_n 2, 1)) ∧ (decode cL_law 1019 = .ok (.aload_n 0, 1)) := have h := dcb_758; ⟨fd_5 h, have h := fd_t1 h; ⟨fd_96 h, have h := fd_t1 h; ⟨fd_46 h, have h := fd_t1 h; ⟨fd_42 h, have h := fd_t1 h; ⟨fd_29 h, have h := fd_t1 h; ⟨fd_6 h, have h := fd_t1 h; ⟨fd_96 h, have h := fd_t1 h; ⟨fd_46 h, have h := fd_t1 h; ⟨fd_182 h rfl, have h := fd_t3 h; ⟨fd_88 h, have h := fd_t1 h; ⟨fd_44 h, have h := fd_t1 h; fd_42 h⟩⟩⟩⟩⟩⟩⟩⟩⟩⟩⟩
theorem dL_law_1006 : decode cL_law 1006 = .ok (.iconst 2, 1) := dcq_758.1
theorem dL_law_1007 : decode cL_law 1007 = .ok (.iadd, 1) := dcq_758.2.1
theorem dL_law_1008 : decode cL_law 1008 = .ok (.iaload, 1) := dcq_758.2.2.1
theorem dL_law_1009 : decode cL_law 1009 = .ok (.aload_n 0, 1) := dcq_758.2.2.2.1
theorem dL_law_1010 : decode cL_law 1010 = .ok (.iload_n 3, 1) := dcq_758.2.2.2.2.1
theorem dL_law_1011 : decode cL_law 1011 = .ok (.iconst 3, 1) := dcq_758.2.2.2.2.2.1
theorem dL_law_1012 : decode cL_law 1012 = .ok (.iadd, 1) := dcq_758.2.2.2.2.2.2.1
theorem dL_law_1013 : decode cL_law 1013 = .ok (.iaload, 1) := dcq_758.2.2.2.2.2.2.2.1
theorem dL_law_1014 : decode cL_law 1014 = .ok (.invokevirtual 125, 3) := dcq_758.2.2.2.2.2.2.2.2.1
theorem dL_law_1017 : decode cL_law 1017 = .ok (.pop2, 1) := dcq_758.2.2.2.2.2.2.2.2.2.1
theorem dL_law_1018 : decode cL_law 1018 = .ok (.aload_n 2, 1) := dcq_758.2.2.2.2.2.2.2.2.2.2.1
theorem dL_law_1019 : decode cL_law 1019 = .ok (.aload_n 0, 1) := dcq_758.2.2.2.2.2.2.2.2.2.2.2
set_option maxRecDepth 20000 in
theorem dcb_759 : fd_B cL_law 1020 [29, 4, 96, 46, 42, 29, 5, 96, 46, 42, 29, 6] := fd_o cL_law 1020 _ (by decide +kernel)
theorem dcq_759 : (decode cL_law 1020 = .ok (.iload_n 3, 1)) ∧ (decode cL_law 1021 = .ok (.iconst 1, 1)) ∧ (decode cL_law 1022 = .ok (.iadd, 1)) ∧ (decode cL_law 1023 = .ok (.iaload, 1)) ∧ (decode cL_law 1024 = .ok (.aload_n 0, 1)) ∧ (decode cL_law 1025 = .ok (.iload_n 3, 1)) ∧ (decode cL_law 1026 = .ok (.iconst 2, 1)) ∧ (decode cL_law 1027 = .ok (.iadd, 1)) ∧ (decode cL_law 1028 = .ok (.iaload, 1)) ∧ (decode cL_law 1029 = .ok (.aload_n 0, 1)) ∧ (decode cL_law 1030 = .ok (.iload_n 3, 1)) ∧ (decode cL_law 1031 = .ok (.iconst 3, 1)) := have h := dcb_759; ⟨fd_29 h, have h := fd_t1 h; ⟨fd_4 h, have h := fd_t1 h; ⟨fd_96 h, have h := fd_t1 h; ⟨fd_46 h, have h := fd_t1 h; ⟨fd_42 h, have h := fd_t1 h; ⟨fd_29 h, have h := fd_t1 h; ⟨fd_5 h, have h := fd_t1 h; ⟨fd_96 h, have h := fd_t1 h; ⟨fd_46 h, have h := fd_t1 h; ⟨fd_42 h, have h := fd_t1 h; ⟨fd_29 h, have h := fd_t1 h; fd_6 h⟩⟩⟩⟩⟩⟩⟩⟩⟩⟩⟩
theorem dL_law_1020 : decode cL_law 1020 = .ok (.iload_n 3, 1) := dcq_759.1
theorem dL_law_1021 : decode cL_law 1021 = .ok (.iconst 1, 1) := dcq_759.2.1
theorem dL_law_1022 : decode cL_law 1022 = .ok (.iadd, 1) := dcq_759.2.2.1
theorem dL_law_1023 : decode cL_law 1023 = .ok (.iaload, 1) := dcq_759.2.2.2.1
theorem dL_law_1024 : decode cL_law 1024 = .ok (.aload_n 0, 1) := dcq_759.2.2.2.2.1
theorem dL_law_1025 : decode cL_law 1025 = .ok (.iload_n 3, 1) := dcq_759.2.2.2.2.2.1
theorem dL_law_1026 : decode cL_law 1026 = .ok (.iconst 2, 1) := dcq_759.2.2.2.2.2.2.1
theorem dL_law_1027 : decode cL_law 1027 = .ok (.iadd, 1) := dcq_759.2.2.2.2.2.2.2.1
theorem dL_law_1028 : decode cL_law 1028 = .ok (.iaload, 1) := dcq_759.2.2.2.2.2.2.2.2.1
theorem dL_law_1029 : decode cL_law 1029 = .ok (.aload_n 0, 1) := dcq_759.2.2.2.2.2.2.2.2.2.1
theorem dL_law_1030 : decode cL_law 1030 = .ok (.iload_n 3, 1) := dcq_759.2.2.2.2.2.2.2.2.2.2.1
theorem dL_law_1031 : decode cL_law 1031 = .ok (.iconst 3, 1) := dcq_759.2.2.2.2.2.2.2.2.2.2.2
set_option maxRecDepth 20000 in
theorem dcb_760 : fd_B cL_law 1032 [96, 46, 182, 0, 129, 88, 167, 2, 29, 43, 42, 29, 4, 96, 46, 42] := fd_o cL_law 1032 _ (by decide +kernel)
theorem dcq_760 : (decode cL_law 1032 = .ok (.iadd, 1)) ∧ (decode cL_law 1033 = .ok (.iaload, 1)) ∧ (decode cL_law 1034 = .ok (.invokevirtual 129, 3)) ∧ (decode cL_law 1037 = .ok (.pop2, 1)) ∧ (decode cL_law 1038 = .ok (.goto 541, 3)) ∧ (decode cL_law 1041 = .ok (.aload_n 1, 1)) ∧ (decode cL_law 1042 = .ok (.aload_n 0, 1)) ∧ (decode cL_law 1043 = .ok (.iload_n 3, 1)) ∧ (decode cL_law 1044 = .ok (.iconst 1, 1)) ∧ (decode cL_law 1045 = .ok (.iadd, 1)) ∧ (decode cL_law 1046 = .ok (.iaload, 1)) ∧ (decode cL_law 1047 = .ok (.aload_n 0, 1)) := have h := dcb_760; ⟨fd_96 h, have h := fd_t1 h; ⟨fd_46 h, have h := fd_t1 h; ⟨fd_182 h rfl, have h := fd_t3 h; ⟨fd_88 h, have h := fd_t1 h; ⟨fd_167 h (by decide +kernel), have h := fd_t3 h; ⟨fd_43 h, have h := fd_t1 h; ⟨fd_42 h, have h := fd_t1 h; ⟨fd_29 h, have h := fd_t1 h; ⟨fd_4 h, have h := fd_t1 h; ⟨fd_96 h, have h := fd_t1 h; ⟨fd_46 h, have h := fd_t1 h; fd_42 h⟩⟩⟩⟩⟩⟩⟩⟩⟩⟩⟩
theorem dL_law_1032 : decode cL_law 1032 = .ok (.iadd, 1) := dcq_760.1
theorem dL_law_1033 : decode cL_law 1033 = .ok (.iaload, 1) := dcq_760.2.1
theorem dL_law_1034 : decode cL_law 1034 = .ok (.invokevirtual 129, 3) := dcq_760.2.2.1
theorem dL_law_1037 : decode cL_law 1037 = .ok (.pop2, 1) := dcq_760.2.2.2.1
theorem dL_law_1038 : decode cL_law 1038 = .ok (.goto 541, 3) := dcq_760.2.2.2.2.1
theorem dL_law_1041 : decode cL_law 1041 = .ok (.aload_n 1, 1) := dcq_760.2.2.2.2.2.1
theorem dL_law_1042 : decode cL_law 1042 = .ok (.aload_n 0, 1) := dcq_760.2.2.2.2.2.2.1
theorem dL_law_1043 : decode cL_law 1043 = .ok (.iload_n 3, 1) := dcq_760.2.2.2.2.2.2.2.1
theorem dL_law_1044 : decode cL_law 1044 = .ok (.iconst 1, 1) := dcq_760.2.2.2.2.2.2.2.2.1
theorem dL_law_1045 : decode cL_law 1045 = .ok (.iadd, 1) := dcq_760.2.2.2.2.2.2.2.2.2.1
theorem dL_law_1046 : decode cL_law 1046 = .ok (.iaload, 1) := dcq_760.2.2.2.2.2.2.2.2.2.2.1
theorem dL_law_1047 : decode cL_law 1047 = .ok (.aload_n 0, 1) := dcq_760.2.2.2.2.2.2.2.2.2.2.2
set_option maxRecDepth 20000 in
theorem dcb_761 : fd_B cL_law 1048 [29, 5, 96, 46, 182, 0, 130, 88, 44, 42, 29, 4, 96, 46] := fd_o cL_law 1048 _ (by decide +kernel)
theorem dcq_761 : (decode cL_law 1048 = .ok (.iload_n 3, 1)) ∧ (decode cL_law 1049 = .ok (.iconst 2, 1)) ∧ (decode cL_law 1050 = .ok (.iadd, 1)) ∧ (decode cL_law 1051 = .ok (.iaload, 1)) ∧ (decode cL_law 1052 = .ok (.invokevirtual 130, 3)) ∧ (decode cL_law 1055 = .ok (.pop2, 1)) ∧ (decode cL_law 1056 = .ok (.aload_n 2, 1)) ∧ (decode cL_law 1057 = .ok (.aload_n 0, 1)) ∧ (decode cL_law 1058 = .ok (.iload_n 3, 1)) ∧ (decode cL_law 1059 = .ok (.iconst 1, 1)) ∧ (decode cL_law 1060 = .ok (.iadd, 1)) ∧ (decode cL_law 1061 = .ok (.iaload, 1)) := have h := dcb_761; ⟨fd_29 h, have h := fd_t1 h; ⟨fd_5 h, have h := fd_t1 h; ⟨fd_96 h, have h := fd_t1 h; ⟨fd_46 h, have h := fd_t1 h; ⟨fd_182 h rfl, have h := fd_t3 h; ⟨fd_88 h, have h := fd_t1 h; ⟨fd_44 h, have h := fd_t1 h; ⟨fd_42 h, have h := fd_t1 h; ⟨fd_29 h, have h := fd_t1 h; ⟨fd_4 h, have h := fd_t1 h; ⟨fd_96 h, have h := fd_t1 h; fd_46 h⟩⟩⟩⟩⟩⟩⟩⟩⟩⟩⟩
theorem dL_law_1048 : decode cL_law 1048 = .ok (.iload_n 3, 1) := dcq_761.1
theorem dL_law_1049 : decode cL_law 1049 = .ok (.iconst 2, 1) := dcq_761.2.1
theorem dL_law_1050 : decode cL_law 1050 = .ok (.iadd, 1) := dcq_761.2.2.1
theorem dL_law_1051 : decode cL_law 1051 = .ok (.iaload, 1) := dcq_761.2.2.2.1
theorem dL_law_1052 : decode cL_law 1052 = .ok (.invokevirtual 130, 3) := dcq_761.2.2.2.2.1
theorem dL_law_1055 : decode cL_law 1055 = .ok (.pop2, 1) := dcq_761.2.2.2.2.2.1
theorem dL_law_1056 : decode cL_law 1056 = .ok (.aload_n 2, 1) := dcq_761.2.2.2.2.2.2.1
theorem dL_law_1057 : decode cL_law 1057 = .ok (.aload_n 0, 1) := dcq_761.2.2.2.2.2.2.2.1
theorem dL_law_1058 : decode cL_law 1058 = .ok (.iload_n 3, 1) := dcq_761.2.2.2.2.2.2.2.2.1
theorem dL_law_1059 : decode cL_law 1059 = .ok (.iconst 1, 1) := dcq_761.2.2.2.2.2.2.2.2.2.1
theorem dL_law_1060 : decode cL_law 1060 = .ok (.iadd, 1) := dcq_761.2.2.2.2.2.2.2.2.2.2.1
theorem dL_law_1061 : decode cL_law 1061 = .ok (.iaload, 1) := dcq_761.2.2.2.2.2.2.2.2.2.2.2
set_option maxRecDepth 20000 in
theorem dcb_762 : fd_B cL_law 1062 [42, 29, 5, 96, 46, 182, 0, 134, 88, 167, 1, 252, 43, 42, 29, 4] := fd_o cL_law 1062 _ (by decide +kernel)
theorem dcq_762 : (decode cL_law 1062 = .ok (.aload_n 0, 1)) ∧ (decode cL_law 1063 = .ok (.iload_n 3, 1)) ∧ (decode cL_law 1064 = .ok (.iconst 2, 1)) ∧ (decode cL_law 1065 = .ok (.iadd, 1)) ∧ (decode cL_law 1066 = .ok (.iaload, 1)) ∧ (decode cL_law 1067 = .ok (.invokevirtual 134, 3)) ∧ (decode cL_law 1070 = .ok (.pop2, 1)) ∧ (decode cL_law 1071 = .ok (.goto 508, 3)) ∧ (decode cL_law 1074 = .ok (.aload_n 1, 1)) ∧ (decode cL_law 1075 = .ok (.aload_n 0, 1)) ∧ (decode cL_law 1076 = .ok (.iload_n 3, 1)) ∧ (decode cL_law 1077 = .ok (.iconst 1, 1)) := have h := dcb_762; ⟨fd_42 h, have h := fd_t1 h; ⟨fd_29 h, have h := fd_t1 h; ⟨fd_5 h, have h := fd_t1 h; ⟨fd_96 h, have h := fd_t1 h; ⟨fd_46 h, have h := fd_t1 h; ⟨fd_182 h rfl, have h := fd_t3 h; ⟨fd_88 h, have h := fd_t1 h; ⟨fd_167 h (by decide +kernel), have h := fd_t3 h; ⟨fd_43 h, have h := fd_t1 h; ⟨fd_42 h, have h := fd_t1 h; ⟨fd_29 h, have h := fd_t1 h; fd_4 h⟩⟩⟩⟩⟩⟩⟩⟩⟩⟩⟩
theorem dL_law_1062 : decode cL_law 1062 = .ok (.aload_n 0, 1) := dcq_762.1
theorem dL_law_1063 : decode cL_law 1063 = .ok (.iload_n 3, 1) := dcq_762.2.1
theorem dL_law_1064 : decode cL_law 1064 = .ok (.iconst 2, 1) := dcq_762.2.2.1
theorem dL_law_1065 : decode cL_law 1065 = .ok (.iadd, 1) := dcq_762.2.2.2.1
theorem dL_law_1066 : decode cL_law 1066 = .ok (.iaload, 1) := dcq_762.2.2.2.2.1
theorem dL_law_1067 : decode cL_law 1067 = .ok (.invokevirtual 134, 3) := dcq_762.2.2.2.2.2.1
theorem dL_law_1070 : decode cL_law 1070 = .ok (.pop2, 1) := dcq_762.2.2.2.2.2.2.1
theorem dL_law_1071 : decode cL_law 1071 = .ok (.goto 508, 3) := dcq_762.2.2.2.2.2.2.2.1
theorem dL_law_1074 : decode cL_law 1074 = .ok (.aload_n 1, 1) := dcq_762.2.2.2.2.2.2.2.2.1
theorem dL_law_1075 : decode cL_law 1075 = .ok (.aload_n 0, 1) := dcq_762.2.2.2.2.2.2.2.2.2.1
theorem dL_law_1076 : decode cL_law 1076 = .ok (.iload_n 3, 1) := dcq_762.2.2.2.2.2.2.2.2.2.2.1
theorem dL_law_1077 : decode cL_law 1077 = .ok (.iconst 1, 1) := dcq_762.2.2.2.2.2.2.2.2.2.2.2
set_option maxRecDepth 20000 in
theorem dcb_763 : fd_B cL_law 1078 [96, 46, 42, 29, 5, 96, 46, 182, 0, 135, 87, 44, 42, 29] := fd_o cL_law 1078 _ (by decide +kernel)
theorem dcq_763 : (decode cL_law 1078 = .ok (.iadd, 1)) ∧ (decode cL_law 1079 = .ok (.iaload, 1)) ∧ (decode cL_law 1080 = .ok (.aload_n 0, 1)) ∧ (decode cL_law 1081 = .ok (.iload_n 3, 1)) ∧ (decode cL_law 1082 = .ok (.iconst 2, 1)) ∧ (decode cL_law 1083 = .ok (.iadd, 1)) ∧ (decode cL_law 1084 = .ok (.iaload, 1)) ∧ (decode cL_law 1085 = .ok (.invokevirtual 135, 3)) ∧ (decode cL_law 1088 = .ok (.pop, 1)) ∧ (decode cL_law 1089 = .ok (.aload_n 2, 1)) ∧ (decode cL_law 1090 = .ok (.aload_n 0, 1)) ∧ (decode cL_law 1091 = .ok (.iload_n 3, 1)) := have h := dcb_763; ⟨fd_96 h, have h := fd_t1 h; ⟨fd_46 h, have h := fd_t1 h; ⟨fd_42 h, have h := fd_t1 h; ⟨fd_29 h, have h := fd_t1 h; ⟨fd_5 h, have h := fd_t1 h; ⟨fd_96 h, have h := fd_t1 h; ⟨fd_46 h, have h := fd_t1 h; ⟨fd_182 h rfl, have h := fd_t3 h; ⟨fd_87 h, have h := fd_t1 h; ⟨fd_44 h, have h := fd_t1 h; ⟨fd_42 h, have h := fd_t1 h; fd_29 h⟩⟩⟩⟩⟩⟩⟩⟩⟩⟩⟩
theorem dL_law_1078 : decode cL_law 1078 = .ok (.iadd, 1) := dcq_763.1
theorem dL_law_1079 : decode cL_law 1079 = .ok (.iaload, 1) := dcq_763.2.1
theorem dL_law_1080 : decode cL_law 1080 = .ok (.aload_n 0, 1) := dcq_763.2.2.1
theorem dL_law_1081 : decode cL_law 1081 = .ok (.iload_n 3, 1) := dcq_763.2.2.2.1
theorem dL_law_1082 : decode cL_law 1082 = .ok (.iconst 2, 1) := dcq_763.2.2.2.2.1
theorem dL_law_1083 : decode cL_law 1083 = .ok (.iadd, 1) := dcq_763.2.2.2.2.2.1
theorem dL_law_1084 : decode cL_law 1084 = .ok (.iaload, 1) := dcq_763.2.2.2.2.2.2.1
theorem dL_law_1085 : decode cL_law 1085 = .ok (.invokevirtual 135, 3) := dcq_763.2.2.2.2.2.2.2.1
theorem dL_law_1088 : decode cL_law 1088 = .ok (.pop, 1) := dcq_763.2.2.2.2.2.2.2.2.1
theorem dL_law_1089 : decode cL_law 1089 = .ok (.aload_n 2, 1) := dcq_763.2.2.2.2.2.2.2.2.2.1
theorem dL_law_1090 : decode cL_law 1090 = .ok (.aload_n 0, 1) := dcq_763.2.2.2.2.2.2.2.2.2.2.1
theorem dL_law_1091 : decode cL_law 1091 = .ok (.iload_n 3, 1) := dcq_763.2.2.2.2.2.2.2.2.2.2.2
set_option maxRecDepth 20000 in
theorem dcb_764 : fd_B cL_law 1092 [4, 96, 46, 42, 29, 5, 96, 46, 182, 0, 138, 87, 167, 1, 219, 43] := fd_o cL_law 1092 _ (by decide +kernel)
theorem dcq_764 : (decode cL_law 1092 = .ok (.iconst 1, 1)) ∧ (decode cL_law 1093 = .ok (.iadd, 1)) ∧ (decode cL_law 1094 = .ok (.iaload, 1)) ∧ (decode cL_law 1095 = .ok (.aload_n 0, 1)) ∧ (decode cL_law 1096 = .ok (.iload_n 3, 1)) ∧ (decode cL_law 1097 = .ok (.iconst 2, 1)) ∧ (decode cL_law 1098 = .ok (.iadd, 1)) ∧ (decode cL_law 1099 = .ok (.iaload, 1)) ∧ (decode cL_law 1100 = .ok (.invokevirtual 138, 3)) ∧ (decode cL_law 1103 = .ok (.pop, 1)) ∧ (decode cL_law 1104 = .ok (.goto 475, 3)) ∧ (decode cL_law 1107 = .ok (.aload_n 1, 1)) := have h := dcb_764; ⟨fd_4 h, have h := fd_t1 h; ⟨fd_96 h, have h := fd_t1 h; ⟨fd_46 h, have h := fd_t1 h; ⟨fd_42 h, have h := fd_t1 h; ⟨fd_29 h, have h := fd_t1 h; ⟨fd_5 h, have h := fd_t1 h; ⟨fd_96 h, have h := fd_t1 h; ⟨fd_46 h, have h := fd_t1 h; ⟨fd_182 h rfl, have h := fd_t3 h; ⟨fd_87 h, have h := fd_t1 h; ⟨fd_167 h (by decide +kernel), have h := fd_t3 h; fd_43 h⟩⟩⟩⟩⟩⟩⟩⟩⟩⟩⟩
theorem dL_law_1092 : decode cL_law 1092 = .ok (.iconst 1, 1) := dcq_764.1
theorem dL_law_1093 : decode cL_law 1093 = .ok (.iadd, 1) := dcq_764.2.1
theorem dL_law_1094 : decode cL_law 1094 = .ok (.iaload, 1) := dcq_764.2.2.1
theorem dL_law_1095 : decode cL_law 1095 = .ok (.aload_n 0, 1) := dcq_764.2.2.2.1
theorem dL_law_1096 : decode cL_law 1096 = .ok (.iload_n 3, 1) := dcq_764.2.2.2.2.1
theorem dL_law_1097 : decode cL_law 1097 = .ok (.iconst 2, 1) := dcq_764.2.2.2.2.2.1
theorem dL_law_1098 : decode cL_law 1098 = .ok (.iadd, 1) := dcq_764.2.2.2.2.2.2.1
theorem dL_law_1099 : decode cL_law 1099 = .ok (.iaload, 1) := dcq_764.2.2.2.2.2.2.2.1
theorem dL_law_1100 : decode cL_law 1100 = .ok (.invokevirtual 138, 3) := dcq_764.2.2.2.2.2.2.2.2.1
theorem dL_law_1103 : decode cL_law 1103 = .ok (.pop, 1) := dcq_764.2.2.2.2.2.2.2.2.2.1
theorem dL_law_1104 : decode cL_law 1104 = .ok (.goto 475, 3) := dcq_764.2.2.2.2.2.2.2.2.2.2.1
theorem dL_law_1107 : decode cL_law 1107 = .ok (.aload_n 1, 1) := dcq_764.2.2.2.2.2.2.2.2.2.2.2
set_option maxRecDepth 20000 in
theorem dcb_765 : fd_B cL_law 1108 [42, 29, 4, 96, 46, 42, 29, 5, 96, 46, 182, 0, 139, 87] := fd_o cL_law 1108 _ (by decide +kernel)
theorem dcq_765 : (decode cL_law 1108 = .ok (.aload_n 0, 1)) ∧ (decode cL_law 1109 = .ok (.iload_n 3, 1)) ∧ (decode cL_law 1110 = .ok (.iconst 1, 1)) ∧ (decode cL_law 1111 = .ok (.iadd, 1)) ∧ (decode cL_law 1112 = .ok (.iaload, 1)) ∧ (decode cL_law 1113 = .ok (.aload_n 0, 1)) ∧ (decode cL_law 1114 = .ok (.iload_n 3, 1)) ∧ (decode cL_law 1115 = .ok (.iconst 2, 1)) ∧ (decode cL_law 1116 = .ok (.iadd, 1)) ∧ (decode cL_law 1117 = .ok (.iaload, 1)) ∧ (decode cL_law 1118 = .ok (.invokevirtual 139, 3)) ∧ (decode cL_law 1121 = .ok (.pop, 1)) := have h := dcb_765; ⟨fd_42 h, have h := fd_t1 h; ⟨fd_29 h, have h := fd_t1 h; ⟨fd_4 h, have h := fd_t1 h; ⟨fd_96 h, have h := fd_t1 h; ⟨fd_46 h, have h := fd_t1 h; ⟨fd_42 h, have h := fd_t1 h; ⟨fd_29 h, have h := fd_t1 h; ⟨fd_5 h, have h := fd_t1 h; ⟨fd_96 h, have h := fd_t1 h; ⟨fd_46 h, have h := fd_t1 h; ⟨fd_182 h rfl, have h := fd_t3 h; fd_87 h⟩⟩⟩⟩⟩⟩⟩⟩⟩⟩⟩
theorem dL_law_1108 : decode cL_law 1108 = .ok (.aload_n 0, 1) := dcq_765.1
theorem dL_law_1109 : decode cL_law 1109 = .ok (.iload_n 3, 1) := dcq_765.2.1
theorem dL_law_1110 : decode cL_law 1110 = .ok (.iconst 1, 1) := dcq_765.2.2.1
theorem dL_law_1111 : decode cL_law 1111 = .ok (.iadd, 1) := dcq_765.2.2.2.1
theorem dL_law_1112 : decode cL_law 1112 = .ok (.iaload, 1) := dcq_765.2.2.2.2.1
theorem dL_law_1113 : decode cL_law 1113 = .ok (.aload_n 0, 1) := dcq_765.2.2.2.2.2.1
theorem dL_law_1114 : decode cL_law 1114 = .ok (.iload_n 3, 1) := dcq_765.2.2.2.2.2.2.1
theorem dL_law_1115 : decode cL_law 1115 = .ok (.iconst 2, 1) := dcq_765.2.2.2.2.2.2.2.1
theorem dL_law_1116 : decode cL_law 1116 = .ok (.iadd, 1) := dcq_765.2.2.2.2.2.2.2.2.1
theorem dL_law_1117 : decode cL_law 1117 = .ok (.iaload, 1) := dcq_765.2.2.2.2.2.2.2.2.2.1
theorem dL_law_1118 : decode cL_law 1118 = .ok (.invokevirtual 139, 3) := dcq_765.2.2.2.2.2.2.2.2.2.2.1
theorem dL_law_1121 : decode cL_law 1121 = .ok (.pop, 1) := dcq_765.2.2.2.2.2.2.2.2.2.2.2
set_option maxRecDepth 20000 in
theorem dcb_766 : fd_B cL_law 1122 [44, 42, 29, 4, 96, 46, 42, 29, 5, 96, 46, 182, 0, 142] := fd_o cL_law 1122 _ (by decide +kernel)
theorem dcq_766 : (decode cL_law 1122 = .ok (.aload_n 2, 1)) ∧ (decode cL_law 1123 = .ok (.aload_n 0, 1)) ∧ (decode cL_law 1124 = .ok (.iload_n 3, 1)) ∧ (decode cL_law 1125 = .ok (.iconst 1, 1)) ∧ (decode cL_law 1126 = .ok (.iadd, 1)) ∧ (decode cL_law 1127 = .ok (.iaload, 1)) ∧ (decode cL_law 1128 = .ok (.aload_n 0, 1)) ∧ (decode cL_law 1129 = .ok (.iload_n 3, 1)) ∧ (decode cL_law 1130 = .ok (.iconst 2, 1)) ∧ (decode cL_law 1131 = .ok (.iadd, 1)) ∧ (decode cL_law 1132 = .ok (.iaload, 1)) ∧ (decode cL_law 1133 = .ok (.invokevirtual 142, 3)) := have h := dcb_766; ⟨fd_44 h, have h := fd_t1 h; ⟨fd_42 h, have h := fd_t1 h; ⟨fd_29 h, have h := fd_t1 h; ⟨fd_4 h, have h := fd_t1 h; ⟨fd_96 h, have h := fd_t1 h; ⟨fd_46 h, have h := fd_t1 h; ⟨fd_42 h, have h := fd_t1 h; ⟨fd_29 h, have h := fd_t1 h; ⟨fd_5 h, have h := fd_t1 h; ⟨fd_96 h, have h := fd_t1 h; ⟨fd_46 h, have h := fd_t1 h; fd_182 h rfl⟩⟩⟩⟩⟩⟩⟩⟩⟩⟩⟩
theorem dL_law_1122 : decode cL_law 1122 = .ok (.aload_n 2, 1) := dcq_766.1
theorem dL_law_1123 : decode cL_law 1123 = .ok (.aload_n 0, 1) := dcq_766.2.1
theorem dL_law_1124 : decode cL_law 1124 = .ok (.iload_n 3, 1) := dcq_766.2.2.1
theorem dL_law_1125 : decode cL_law 1125 = .ok (.iconst 1, 1) := dcq_766.2.2.2.1
theorem dL_law_1126 : decode cL_law 1126 = .ok (.iadd, 1) := dcq_766.2.2.2.2.1
theorem dL_law_1127 : decode cL_law 1127 = .ok (.iaload, 1) := dcq_766.2.2.2.2.2.1
theorem dL_law_1128 : decode cL_law 1128 = .ok (.aload_n 0, 1) := dcq_766.2.2.2.2.2.2.1
theorem dL_law_1129 : decode cL_law 1129 = .ok (.iload_n 3, 1) := dcq_766.2.2.2.2.2.2.2.1
theorem dL_law_1130 : decode cL_law 1130 = .ok (.iconst 2, 1) := dcq_766.2.2.2.2.2.2.2.2.1
theorem dL_law_1131 : decode cL_law 1131 = .ok (.iadd, 1) := dcq_766.2.2.2.2.2.2.2.2.2.1
theorem dL_law_1132 : decode cL_law 1132 = .ok (.iaload, 1) := dcq_766.2.2.2.2.2.2.2.2.2.2.1
theorem dL_law_1133 : decode cL_law 1133 = .ok (.invokevirtual 142, 3) := dcq_766.2.2.2.2.2.2.2.2.2.2.2
set_option maxRecDepth 20000 in
theorem dcb_767 : fd_B cL_law 1136 [87, 167, 1, 186, 43, 42, 29, 4, 96, 46, 42, 29, 5, 96] := fd_o cL_law 1136 _ (by decide +kernel)
theorem dcq_767 : (decode cL_law 1136 = .ok (.pop, 1)) ∧ (decode cL_law 1137 = .ok (.goto 442, 3)) ∧ (decode cL_law 1140 = .ok (.aload_n 1, 1)) ∧ (decode cL_law 1141 = .ok (.aload_n 0, 1)) ∧ (decode cL_law 1142 = .ok (.iload_n 3, 1)) ∧ (decode cL_law 1143 = .ok (.iconst 1, 1)) ∧ (decode cL_law 1144 = .ok (.iadd, 1)) ∧ (decode cL_law 1145 = .ok (.iaload, 1)) ∧ (decode cL_law 1146 = .ok (.aload_n 0, 1)) ∧ (decode cL_law 1147 = .ok (.iload_n 3, 1)) ∧ (decode cL_law 1148 = .ok (.iconst 2, 1)) ∧ (decode cL_law 1149 = .ok (.iadd, 1)) := have h := dcb_767; ⟨fd_87 h, have h := fd_t1 h; ⟨fd_167 h (by decide +kernel), have h := fd_t3 h; ⟨fd_43 h, have h := fd_t1 h; ⟨fd_42 h, have h := fd_t1 h; ⟨fd_29 h, have h := fd_t1 h; ⟨fd_4 h, have h := fd_t1 h; ⟨fd_96 h, have h := fd_t1 h; ⟨fd_46 h, have h := fd_t1 h; ⟨fd_42 h, have h := fd_t1 h; ⟨fd_29 h, have h := fd_t1 h; ⟨fd_5 h, have h := fd_t1 h; fd_96 h⟩⟩⟩⟩⟩⟩⟩⟩⟩⟩⟩
theorem dL_law_1136 : decode cL_law 1136 = .ok (.pop, 1) := dcq_767.1
theorem dL_law_1137 : decode cL_law 1137 = .ok (.goto 442, 3) := dcq_767.2.1
theorem dL_law_1140 : decode cL_law 1140 = .ok (.aload_n 1, 1) := dcq_767.2.2.1
theorem dL_law_1141 : decode cL_law 1141 = .ok (.aload_n 0, 1) := dcq_767.2.2.2.1
theorem dL_law_1142 : decode cL_law 1142 = .ok (.iload_n 3, 1) := dcq_767.2.2.2.2.1
theorem dL_law_1143 : decode cL_law 1143 = .ok (.iconst 1, 1) := dcq_767.2.2.2.2.2.1
theorem dL_law_1144 : decode cL_law 1144 = .ok (.iadd, 1) := dcq_767.2.2.2.2.2.2.1
theorem dL_law_1145 : decode cL_law 1145 = .ok (.iaload, 1) := dcq_767.2.2.2.2.2.2.2.1
theorem dL_law_1146 : decode cL_law 1146 = .ok (.aload_n 0, 1) := dcq_767.2.2.2.2.2.2.2.2.1
theorem dL_law_1147 : decode cL_law 1147 = .ok (.iload_n 3, 1) := dcq_767.2.2.2.2.2.2.2.2.2.1
theorem dL_law_1148 : decode cL_law 1148 = .ok (.iconst 2, 1) := dcq_767.2.2.2.2.2.2.2.2.2.2.1
theorem dL_law_1149 : decode cL_law 1149 = .ok (.iadd, 1) := dcq_767.2.2.2.2.2.2.2.2.2.2.2
set_option maxRecDepth 20000 in
theorem dcb_768 : fd_B cL_law 1150 [46, 42, 29, 6, 96, 46, 182, 0, 143, 87, 44, 42, 29, 4] := fd_o cL_law 1150 _ (by decide +kernel)
theorem dcq_768 : (decode cL_law 1150 = .ok (.iaload, 1)) ∧ (decode cL_law 1151 = .ok (.aload_n 0, 1)) ∧ (decode cL_law 1152 = .ok (.iload_n 3, 1)) ∧ (decode cL_law 1153 = .ok (.iconst 3, 1)) ∧ (decode cL_law 1154 = .ok (.iadd, 1)) ∧ (decode cL_law 1155 = .ok (.iaload, 1)) ∧ (decode cL_law 1156 = .ok (.invokevirtual 143, 3)) ∧ (decode cL_law 1159 = .ok (.pop, 1)) ∧ (decode cL_law 1160 = .ok (.aload_n 2, 1)) ∧ (decode cL_law 1161 = .ok (.aload_n 0, 1)) ∧ (decode cL_law 1162 = .ok (.iload_n 3, 1)) ∧ (decode cL_law 1163 = .ok (.iconst 1, 1)) := have h := dcb_768; ⟨fd_46 h, have h := fd_t1 h; ⟨fd_42 h, have h := fd_t1 h; ⟨fd_29 h, have h := fd_t1 h; ⟨fd_6 h, have h := fd_t1 h; ⟨fd_96 h, have h := fd_t1 h; ⟨fd_46 h, have h := fd_t1 h; ⟨fd_182 h rfl, have h := fd_t3 h; ⟨fd_87 h, have h := fd_t1 h; ⟨fd_44 h, have h := fd_t1 h; ⟨fd_42 h, have h := fd_t1 h; ⟨fd_29 h, have h := fd_t1 h; fd_4 h⟩⟩⟩⟩⟩⟩⟩⟩⟩⟩⟩
theorem dL_law_1150 : decode cL_law 1150 = .ok (.iaload, 1) := dcq_768.1
theorem dL_law_1151 : decode cL_law 1151 = .ok (.aload_n 0, 1) := dcq_768.2.1
theorem dL_law_1152 : decode cL_law 1152 = .ok (.iload_n 3, 1) := dcq_768.2.2.1
theorem dL_law_1153 : decode cL_law 1153 = .ok (.iconst 3, 1) := dcq_768.2.2.2.1
theorem dL_law_1154 : decode cL_law 1154 = .ok (.iadd, 1) := dcq_768.2.2.2.2.1
theorem dL_law_1155 : decode cL_law 1155 = .ok (.iaload, 1) := dcq_768.2.2.2.2.2.1
theorem dL_law_1156 : decode cL_law 1156 = .ok (.invokevirtual 143, 3) := dcq_768.2.2.2.2.2.2.1
theorem dL_law_1159 : decode cL_law 1159 = .ok (.pop, 1) := dcq_768.2.2.2.2.2.2.2.1
theorem dL_law_1160 : decode cL_law 1160 = .ok (.aload_n 2, 1) := dcq_768.2.2.2.2.2.2.2.2.1
theorem dL_law_1161 : decode cL_law 1161 = .ok (.aload_n 0, 1) := dcq_768.2.2.2.2.2.2.2.2.2.1
theorem dL_law_1162 : decode cL_law 1162 = .ok (.iload_n 3, 1) := dcq_768.2.2.2.2.2.2.2.2.2.2.1
theorem dL_law_1163 : decode cL_law 1163 = .ok (.iconst 1, 1) := dcq_768.2.2.2.2.2.2.2.2.2.2.2
set_option maxRecDepth 20000 in
theorem dcb_769 : fd_B cL_law 1164 [96, 46, 42, 29, 5, 96, 46, 42, 29, 6, 96, 46] := fd_o cL_law 1164 _ (by decide +kernel)
theorem dcq_769 : (decode cL_law 1164 = .ok (.iadd, 1)) ∧ (decode cL_law 1165 = .ok (.iaload, 1)) ∧ (decode cL_law 1166 = .ok (.aload_n 0, 1)) ∧ (decode cL_law 1167 = .ok (.iload_n 3, 1)) ∧ (decode cL_law 1168 = .ok (.iconst 2, 1)) ∧ (decode cL_law 1169 = .ok (.iadd, 1)) ∧ (decode cL_law 1170 = .ok (.iaload, 1)) ∧ (decode cL_law 1171 = .ok (.aload_n 0, 1)) ∧ (decode cL_law 1172 = .ok (.iload_n 3, 1)) ∧ (decode cL_law 1173 = .ok (.iconst 3, 1)) ∧ (decode cL_law 1174 = .ok (.iadd, 1)) ∧ (decode cL_law 1175 = .ok (.iaload, 1)) := have h := dcb_769; ⟨fd_96 h, have h := fd_t1 h; ⟨fd_46 h, have h := fd_t1 h; ⟨fd_42 h, have h := fd_t1 h; ⟨fd_29 h, have h := fd_t1 h; ⟨fd_5 h, have h := fd_t1 h; ⟨fd_96 h, have h := fd_t1 h; ⟨fd_46 h, have h := fd_t1 h; ⟨fd_42 h, have h := fd_t1 h; ⟨fd_29 h, have h := fd_t1 h; ⟨fd_6 h, have h := fd_t1 h; ⟨fd_96 h, have h := fd_t1 h; fd_46 h⟩⟩⟩⟩⟩⟩⟩⟩⟩⟩⟩
theorem dL_law_1164 : decode cL_law 1164 = .ok (.iadd, 1) := dcq_769.1
theorem dL_law_1165 : decode cL_law 1165 = .ok (.iaload, 1) := dcq_769.2.1
theorem dL_law_1166 : decode cL_law 1166 = .ok (.aload_n 0, 1) := dcq_769.2.2.1
theorem dL_law_1167 : decode cL_law 1167 = .ok (.iload_n 3, 1) := dcq_769.2.2.2.1
theorem dL_law_1168 : decode cL_law 1168 = .ok (.iconst 2, 1) := dcq_769.2.2.2.2.1
theorem dL_law_1169 : decode cL_law 1169 = .ok (.iadd, 1) := dcq_769.2.2.2.2.2.1
theorem dL_law_1170 : decode cL_law 1170 = .ok (.iaload, 1) := dcq_769.2.2.2.2.2.2.1
theorem dL_law_1171 : decode cL_law 1171 = .ok (.aload_n 0, 1) := dcq_769.2.2.2.2.2.2.2.1
theorem dL_law_1172 : decode cL_law 1172 = .ok (.iload_n 3, 1) := dcq_769.2.2.2.2.2.2.2.2.1
theorem dL_law_1173 : decode cL_law 1173 = .ok (.iconst 3, 1) := dcq_769.2.2.2.2.2.2.2.2.2.1
theorem dL_law_1174 : decode cL_law 1174 = .ok (.iadd, 1) := dcq_769.2.2.2.2.2.2.2.2.2.2.1
theorem dL_law_1175 : decode cL_law 1175 = .ok (.iaload, 1) := dcq_769.2.2.2.2.2.2.2.2.2.2.2
set_option maxRecDepth 20000 in
theorem dcb_770 : fd_B cL_law 1176 [182, 0, 146, 87, 167, 1, 143, 43, 42, 29, 4, 96, 46, 182, 0, 147, 87, 44] := fd_o cL_law 1176 _ (by decide +kernel)
theorem dcq_770 : (decode cL_law 1176 = .ok (.invokevirtual 146, 3)) ∧ (decode cL_law 1179 = .ok (.pop, 1)) ∧ (decode cL_law 1180 = .ok (.goto 399, 3)) ∧ (decode cL_law 1183 = .ok (.aload_n 1, 1)) ∧ (decode cL_law 1184 = .ok (.aload_n 0, 1)) ∧ (decode cL_law 1185 = .ok (.iload_n 3, 1)) ∧ (decode cL_law 1186 = .ok (.iconst 1, 1)) ∧ (decode cL_law 1187 = .ok (.iadd, 1)) ∧ (decode cL_law 1188 = .ok (.iaload, 1)) ∧ (decode cL_law 1189 = .ok (.invokevirtual 147, 3)) ∧ (decode cL_law 1192 = .ok (.pop, 1)) ∧ (decode cL_law 1193 = .ok (.aload_n 2, 1)) := have h := dcb_770; ⟨fd_182 h rfl, have h := fd_t3 h; ⟨fd_87 h, have h := fd_t1 h; ⟨fd_167 h (by decide +kernel), have h := fd_t3 h; ⟨fd_43 h, have h := fd_t1 h; ⟨fd_42 h, have h := fd_t1 h; ⟨fd_29 h, have h := fd_t1 h; ⟨fd_4 h, have h := fd_t1 h; ⟨fd_96 h, have h := fd_t1 h; ⟨fd_46 h, have h := fd_t1 h; ⟨fd_182 h rfl, have h := fd_t3 h; ⟨fd_87 h, have h := fd_t1 h; fd_44 h⟩⟩⟩⟩⟩⟩⟩⟩⟩⟩⟩
theorem dL_law_1176 : decode cL_law 1176 = .ok (.invokevirtual 146, 3) := dcq_770.1
theorem dL_law_1179 : decode cL_law 1179 = .ok (.pop, 1) := dcq_770.2.1
theorem dL_law_1180 : decode cL_law 1180 = .ok (.goto 399, 3) := dcq_770.2.2.1
theorem dL_law_1183 : decode cL_law 1183 = .ok (.aload_n 1, 1) := dcq_770.2.2.2.1
theorem dL_law_1184 : decode cL_law 1184 = .ok (.aload_n 0, 1) := dcq_770.2.2.2.2.1
theorem dL_law_1185 : decode cL_law 1185 = .ok (.iload_n 3, 1) := dcq_770.2.2.2.2.2.1
theorem dL_law_1186 : decode cL_law 1186 = .ok (.iconst 1, 1) := dcq_770.2.2.2.2.2.2.1
theorem dL_law_1187 : decode cL_law 1187 = .ok (.iadd, 1) := dcq_770.2.2.2.2.2.2.2.1
theorem dL_law_1188 : decode cL_law 1188 = .ok (.iaload, 1) := dcq_770.2.2.2.2.2.2.2.2.1
theorem dL_law_1189 : decode cL_law 1189 = .ok (.invokevirtual 147, 3) := dcq_770.2.2.2.2.2.2.2.2.2.1
theorem dL_law_1192 : decode cL_law 1192 = .ok (.pop, 1) := dcq_770.2.2.2.2.2.2.2.2.2.2.1
theorem dL_law_1193 : decode cL_law 1193 = .ok (.aload_n 2, 1) := dcq_770.2.2.2.2.2.2.2.2.2.2.2
set_option maxRecDepth 20000 in
theorem dcb_771 : fd_B cL_law 1194 [42, 29, 4, 96, 46, 182, 0, 150, 87, 167, 1, 120, 43, 42, 29, 4] := fd_o cL_law 1194 _ (by decide +kernel)
theorem dcq_771 : (decode cL_law 1194 = .ok (.aload_n 0, 1)) ∧ (decode cL_law 1195 = .ok (.iload_n 3, 1)) ∧ (decode cL_law 1196 = .ok (.iconst 1, 1)) ∧ (decode cL_law 1197 = .ok (.iadd, 1)) ∧ (decode cL_law 1198 = .ok (.iaload, 1)) ∧ (decode cL_law 1199 = .ok (.invokevirtual 150, 3)) ∧ (decode cL_law 1202 = .ok (.pop, 1)) ∧ (decode cL_law 1203 = .ok (.goto 376, 3)) ∧ (decode cL_law 1206 = .ok (.aload_n 1, 1)) ∧ (decode cL_law 1207 = .ok (.aload_n 0, 1)) ∧ (decode cL_law 1208 = .ok (.iload_n 3, 1)) ∧ (decode cL_law 1209 = .ok (.iconst 1, 1)) := have h := dcb_771; ⟨fd_42 h, have h := fd_t1 h; ⟨fd_29 h, have h := fd_t1 h; ⟨fd_4 h, have h := fd_t1 h; ⟨fd_96 h, have h := fd_t1 h; ⟨fd_46 h, have h := fd_t1 h; ⟨fd_182 h rfl, have h := fd_t3 h; ⟨fd_87 h, have h := fd_t1 h; ⟨fd_167 h (by decide +kernel), have h := fd_t3 h; ⟨fd_43 h, have h := fd_t1 h; ⟨fd_42 h, have h := fd_t1 h; ⟨fd_29 h, have h := fd_t1 h; fd_4 h⟩⟩⟩⟩⟩⟩⟩⟩⟩⟩⟩
theorem dL_law_1194 : decode cL_law 1194 = .ok (.aload_n 0, 1) := dcq_771.1
theorem dL_law_1195 : decode cL_law 1195 = .ok (.iload_n 3, 1) := dcq_771.2.1
theorem dL_law_1196 : decode cL_law 1196 = .ok (.iconst 1, 1) := dcq_771.2.2.1
theorem dL_law_1197 : decode cL_law 1197 = .ok (.iadd, 1) := dcq_771.2.2.2.1
theorem dL_law_1198 : decode cL_law 1198 = .ok (.iaload, 1) := dcq_771.2.2.2.2.1
theorem dL_law_1199 : decode cL_law 1199 = .ok (.invokevirtual 150, 3) := dcq_771.2.2.2.2.2.1
theorem dL_law_1202 : decode cL_law 1202 = .ok (.pop, 1) := dcq_771.2.2.2.2.2.2.1
theorem dL_law_1203 : decode cL_law 1203 = .ok (.goto 376, 3) := dcq_771.2.2.2.2.2.2.2.1
theorem dL_law_1206 : decode cL_law 1206 = .ok (.aload_n 1, 1) := dcq_771.2.2.2.2.2.2.2.2.1
theorem dL_law_1207 : decode cL_law 1207 = .ok (.aload_n 0, 1) := dcq_771.2.2.2.2.2.2.2.2.2.1
theorem dL_law_1208 : decode cL_law 1208 = .ok (.iload_n 3, 1) := dcq_771.2.2.2.2.2.2.2.2.2.2.1
theorem dL_law_1209 : decode cL_law 1209 = .ok (.iconst 1, 1) := dcq_771.2.2.2.2.2.2.2.2.2.2.2
set_option maxRecDepth 20000 in
theorem dcb_772 : fd_B cL_law 1210 [96, 46, 42, 29, 5, 96, 46, 42, 29, 6, 96, 46] := fd_o cL_law 1210 _ (by decide +kernel)
theorem dcq_772 : (decode cL_law 1210 = .ok (.iadd, 1)) ∧ (decode cL_law 1211 = .ok (.iaload, 1)) ∧ (decode cL_law 1212 = .ok (.aload_n 0, 1)) ∧ (decode cL_law 1213 = .ok (.iload_n 3, 1)) ∧ (decode cL_law 1214 = .ok (.iconst 2, 1)) ∧ (decode cL_law 1215 = .ok (.iadd, 1)) ∧ (decode cL_law 1216 = .ok (.iaload, 1)) ∧ (decode cL_law 1217 = .ok (.aload_n 0, 1)) ∧ (decode cL_law 1218 = .ok (.iload_n 3, 1)) ∧ (decode cL_law 1219 = .ok (.iconst 3, 1)) ∧ (decode cL_law 1220 = .ok (.iadd, 1)) ∧ (decode cL_law 1221 = .ok (.iaload, 1)) := have h := dcb_772; ⟨fd_96 h, have h := fd_t1 h; ⟨fd_46 h, have h := fd_t1 h; ⟨fd_42 h, have h := fd_t1 h; ⟨fd_29 h, have h := fd_t1 h; ⟨fd_5 h, have h := fd_t1 h; ⟨fd_96 h, have h := fd_t1 h; ⟨fd_46 h, have h := fd_t1 h; ⟨fd_42 h, have h := fd_t1 h; ⟨fd_29 h, have h := fd_t1 h; ⟨fd_6 h, have h := fd_t1 h; ⟨fd_96 h, have h := fd_t1 h; fd_46 h⟩⟩⟩⟩⟩⟩⟩⟩⟩⟩⟩
theorem dL_law_1210 : decode cL_law 1210 = .ok (.iadd, 1) := dcq_772.1
theorem dL_law_1211 : decode cL_law 1211 = .ok (.iaload, 1) := dcq_772.2.1
theorem dL_law_1212 : decode cL_law 1212 = .ok (.aload_n 0, 1) := dcq_772.2.2.1
theorem dL_law_1213 : decode cL_law 1213 = .ok (.iload_n 3, 1) := dcq_772.2.2.2.1
theorem dL_law_1214 : decode cL_law 1214 = .ok (.iconst 2, 1) := dcq_772.2.2.2.2.1
theorem dL_law_1215 : decode cL_law 1215 = .ok (.iadd, 1) := dcq_772.2.2.2.2.2.1
theorem dL_law_1216 : decode cL_law 1216 = .ok (.iaload, 1) := dcq_772.2.2.2.2.2.2.1
theorem dL_law_1217 : decode cL_law 1217 = .ok (.aload_n 0, 1) := dcq_772.2.2.2.2.2.2.2.1
theorem dL_law_1218 : decode cL_law 1218 = .ok (.iload_n 3, 1) := dcq_772.2.2.2.2.2.2.2.2.1
theorem dL_law_1219 : decode cL_law 1219 = .ok (.iconst 3, 1) := dcq_772.2.2.2.2.2.2.2.2.2.1
theorem dL_law_1220 : decode cL_law 1220 = .ok (.iadd, 1) := dcq_772.2.2.2.2.2.2.2.2.2.2.1
theorem dL_law_1221 : decode cL_law 1221 = .ok (.iaload, 1) := dcq_772.2.2.2.2.2.2.2.2.2.2.2
set_option maxRecDepth 20000 in
theorem dcb_773 : fd_B cL_law 1222 [42, 29, 7, 96, 46, 182, 0, 151, 87, 44, 42, 29, 4, 96] := fd_o cL_law 1222 _ (by decide +kernel)
theorem dcq_773 : (decode cL_law 1222 = .ok (.aload_n 0, 1)) ∧ (decode cL_law 1223 = .ok (.iload_n 3, 1)) ∧ (decode cL_law 1224 = .ok (.iconst 4, 1)) ∧ (decode cL_law 1225 = .ok (.iadd, 1)) ∧ (decode cL_law 1226 = .ok (.iaload, 1)) ∧ (decode cL_law 1227 = .ok (.invokevirtual 151, 3)) ∧ (decode cL_law 1230 = .ok (.pop, 1)) ∧ (decode cL_law 1231 = .ok (.aload_n 2, 1)) ∧ (decode cL_law 1232 = .ok (.aload_n 0, 1)) ∧ (decode cL_law 1233 = .ok (.iload_n 3, 1)) ∧ (decode cL_law 1234 = .ok (.iconst 1, 1)) ∧ (decode cL_law 1235 = .ok (.iadd, 1)) := have h := dcb_773; ⟨fd_42 h, have h := fd_t1 h; ⟨fd_29 h, have h := fd_t1 h; ⟨fd_7 h, have h := fd_t1 h; ⟨fd_96 h, have h := fd_t1 h; ⟨fd_46 h, have h := fd_t1 h; ⟨fd_182 h rfl, have h := fd_t3 h; ⟨fd_87 h, have h := fd_t1 h; ⟨fd_44 h, have h := fd_t1 h; ⟨fd_42 h, have h := fd_t1 h; ⟨fd_29 h, have h := fd_t1 h; ⟨fd_4 h, have h := fd_t1 h; fd_96 h⟩⟩⟩⟩⟩⟩⟩⟩⟩⟩⟩
theorem dL_law_1222 : decode cL_law 1222 = .ok (.aload_n 0, 1) := dcq_773.1
theorem dL_law_1223 : decode cL_law 1223 = .ok (.iload_n 3, 1) := dcq_773.2.1
theorem dL_law_1224 : decode cL_law 1224 = .ok (.iconst 4, 1) := dcq_773.2.2.1
theorem dL_law_1225 : decode cL_law 1225 = .ok (.iadd, 1) := dcq_773.2.2.2.1
theorem dL_law_1226 : decode cL_law 1226 = .ok (.iaload, 1) := dcq_773.2.2.2.2.1
theorem dL_law_1227 : decode cL_law 1227 = .ok (.invokevirtual 151, 3) := dcq_773.2.2.2.2.2.1
theorem dL_law_1230 : decode cL_law 1230 = .ok (.pop, 1) := dcq_773.2.2.2.2.2.2.1
theorem dL_law_1231 : decode cL_law 1231 = .ok (.aload_n 2, 1) := dcq_773.2.2.2.2.2.2.2.1
theorem dL_law_1232 : decode cL_law 1232 = .ok (.aload_n 0, 1) := dcq_773.2.2.2.2.2.2.2.2.1
theorem dL_law_1233 : decode cL_law 1233 = .ok (.iload_n 3, 1) := dcq_773.2.2.2.2.2.2.2.2.2.1
theorem dL_law_1234 : decode cL_law 1234 = .ok (.iconst 1, 1) := dcq_773.2.2.2.2.2.2.2.2.2.2.1
theorem dL_law_1235 : decode cL_law 1235 = .ok (.iadd, 1) := dcq_773.2.2.2.2.2.2.2.2.2.2.2
set_option maxRecDepth 20000 in
theorem dcb_774 : fd_B cL_law 1236 [46, 42, 29, 5, 96, 46, 42, 29, 6, 96, 46, 42] := fd_o cL_law 1236 _ (by decide +kernel)
theorem dcq_774 : (decode cL_law 1236 = .ok (.iaload, 1)) ∧ (decode cL_law 1237 = .ok (.aload_n 0, 1)) ∧ (decode cL_law 1238 = .ok (.iload_n 3, 1)) ∧ (decode cL_law 1239 = .ok (.iconst 2, 1)) ∧ (decode cL_law 1240 = .ok (.iadd, 1)) ∧ (decode cL_law 1241 = .ok (.iaload, 1)) ∧ (decode cL_law 1242 = .ok (.aload_n 0, 1)) ∧ (decode cL_law 1243 = .ok (.iload_n 3, 1)) ∧ (decode cL_law 1244 = .ok (.iconst 3, 1)) ∧ (decode cL_law 1245 = .ok (.iadd, 1)) ∧ (decode cL_law 1246 = .ok (.iaload, 1)) ∧ (decode cL_law 1247 = .ok (.aload_n 0, 1)) := have h := dcb_774; ⟨fd_46 h, have h := fd_t1 h; ⟨fd_42 h, have h := fd_t1 h; ⟨fd_29 h, have h := fd_t1 h; ⟨fd_5 h, have h := fd_t1 h; ⟨fd_96 h, have h := fd_t1 h; ⟨fd_46 h, have h := fd_t1 h; ⟨fd_42 h, have h := fd_t1 h; ⟨fd_29 h, have h := fd_t1 h; ⟨fd_6 h, have h := fd_t1 h; ⟨fd_96 h, have h := fd_t1 h; ⟨fd_46 h, have h := fd_t1 h; fd_42 h⟩⟩⟩⟩⟩⟩⟩⟩⟩⟩⟩
theorem dL_law_1236 : decode cL_law 1236 = .ok (.iaload, 1) := dcq_774.1
theorem dL_law_1237 : decode cL_law 1237 = .ok (.aload_n 0, 1) := dcq_774.2.1
theorem dL_law_1238 : decode cL_law 1238 = .ok (.iload_n 3, 1) := dcq_774.2.2.1
theorem dL_law_1239 : decode cL_law 1239 = .ok (.iconst 2, 1) := dcq_774.2.2.2.1
theorem dL_law_1240 : decode cL_law 1240 = .ok (.iadd, 1) := dcq_774.2.2.2.2.1
theorem dL_law_1241 : decode cL_law 1241 = .ok (.iaload, 1) := dcq_774.2.2.2.2.2.1
theorem dL_law_1242 : decode cL_law 1242 = .ok (.aload_n 0, 1) := dcq_774.2.2.2.2.2.2.1
theorem dL_law_1243 : decode cL_law 1243 = .ok (.iload_n 3, 1) := dcq_774.2.2.2.2.2.2.2.1
theorem dL_law_1244 : decode cL_law 1244 = .ok (.iconst 3, 1) := dcq_774.2.2.2.2.2.2.2.2.1
theorem dL_law_1245 : decode cL_law 1245 = .ok (.iadd, 1) := dcq_774.2.2.2.2.2.2.2.2.2.1
theorem dL_law_1246 : decode cL_law 1246 = .ok (.iaload, 1) := dcq_774.2.2.2.2.2.2.2.2.2.2.1
theorem dL_law_1247 : decode cL_law 1247 = .ok (.aload_n 0, 1) := dcq_774.2.2.2.2.2.2.2.2.2.2.2
set_option maxRecDepth 20000 in
theorem dcb_775 : fd_B cL_law 1248 [29, 7, 96, 46, 182, 0, 154, 87, 167, 1, 67, 43, 42, 29, 4, 96] := fd_o cL_law 1248 _ (by decide +kernel)
theorem dcq_775 : (decode cL_law 1248 = .ok (.iload_n 3, 1)) ∧ (decode cL_law 1249 = .ok (.iconst 4, 1)) ∧ (decode cL_law 1250 = .ok (.iadd, 1)) ∧ (decode cL_law 1251 = .ok (.iaload, 1)) ∧ (decode cL_law 1252 = .ok (.invokevirtual 154, 3)) ∧ (decode cL_law 1255 = .ok (.pop, 1)) ∧ (decode cL_law 1256 = .ok (.goto 323, 3)) ∧ (decode cL_law 1259 = .ok (.aload_n 1, 1)) ∧ (decode cL_law 1260 = .ok (.aload_n 0, 1)) ∧ (decode cL_law 1261 = .ok (.iload_n 3, 1)) ∧ (decode cL_law 1262 = .ok (.iconst 1, 1)) ∧ (decode cL_law 1263 = .ok (.iadd, 1)) := have h := dcb_775; ⟨fd_29 h, have h := fd_t1 h; ⟨fd_7 h, have h := fd_t1 h; ⟨fd_96 h, have h := fd_t1 h; ⟨fd_46 h, have h := fd_t1 h; ⟨fd_182 h rfl, have h := fd_t3 h; ⟨fd_87 h, have h := fd_t1 h; ⟨fd_167 h (by decide +kernel), have h := fd_t3 h; ⟨fd_43 h, have h := fd_t1 h; ⟨fd_42 h, have h := fd_t1 h; ⟨fd_29 h, have h := fd_t1 h; ⟨fd_4 h, have h := fd_t1 h; fd_96 h⟩⟩⟩⟩⟩⟩⟩⟩⟩⟩⟩
theorem dL_law_1248 : decode cL_law 1248 = .ok (.iload_n 3, 1) := dcq_775.1
theorem dL_law_1249 : decode cL_law 1249 = .ok (.iconst 4, 1) := dcq_775.2.1
theorem dL_law_1250 : decode cL_law 1250 = .ok (.iadd, 1) := dcq_775.2.2.1
theorem dL_law_1251 : decode cL_law 1251 = .ok (.iaload, 1) := dcq_775.2.2.2.1
theorem dL_law_1252 : decode cL_law 1252 = .ok (.invokevirtual 154, 3) := dcq_775.2.2.2.2.1
theorem dL_law_1255 : decode cL_law 1255 = .ok (.pop, 1) := dcq_775.2.2.2.2.2.1
theorem dL_law_1256 : decode cL_law 1256 = .ok (.goto 323, 3) := dcq_775.2.2.2.2.2.2.1
theorem dL_law_1259 : decode cL_law 1259 = .ok (.aload_n 1, 1) := dcq_775.2.2.2.2.2.2.2.1
theorem dL_law_1260 : decode cL_law 1260 = .ok (.aload_n 0, 1) := dcq_775.2.2.2.2.2.2.2.2.1
theorem dL_law_1261 : decode cL_law 1261 = .ok (.iload_n 3, 1) := dcq_775.2.2.2.2.2.2.2.2.2.1
theorem dL_law_1262 : decode cL_law 1262 = .ok (.iconst 1, 1) := dcq_775.2.2.2.2.2.2.2.2.2.2.1
theorem dL_law_1263 : decode cL_law 1263 = .ok (.iadd, 1) := dcq_775.2.2.2.2.2.2.2.2.2.2.2
set_option maxRecDepth 20000 in
theorem dcb_776 : fd_B cL_law 1264 [46, 42, 29, 5, 96, 46, 42, 29, 6, 96, 46, 182, 0, 155] := fd_o cL_law 1264 _ (by decide +kernel)
theorem dcq_776 : (decode cL_law 1264 = .ok (.iaload, 1)) ∧ (decode cL_law 1265 = .ok (.aload_n 0, 1)) ∧ (decode cL_law 1266 = .ok (.iload_n 3, 1)) ∧ (decode cL_law 1267 = .ok (.iconst 2, 1)) ∧ (decode cL_law 1268 = .ok (.iadd, 1)) ∧ (decode cL_law 1269 = .ok (.iaload, 1)) ∧ (decode cL_law 1270 = .ok (.aload_n 0, 1)) ∧ (decode cL_law 1271 = .ok (.iload_n 3, 1)) ∧ (decode cL_law 1272 = .ok (.iconst 3, 1)) ∧ (decode cL_law 1273 = .ok (.iadd, 1)) ∧ (decode cL_law 1274 = .ok (.iaload, 1)) ∧ (decode cL_law 1275 = .ok (.invokevirtual 155, 3)) := have h := dcb_776; ⟨fd_46 h, have h := fd_t1 h; ⟨fd_42 h, have h := fd_t1 h; ⟨fd_29 h, have h := fd_t1 h; ⟨fd_5 h, have h := fd_t1 h; ⟨fd_96 h, have h := fd_t1 h; ⟨fd_46 h, have h := fd_t1 h; ⟨fd_42 h, have h := fd_t1 h; ⟨fd_29 h, have h := fd_t1 h; ⟨fd_6 h, have h := fd_t1 h; ⟨fd_96 h, have h := fd_t1 h; ⟨fd_46 h, have h := fd_t1 h; fd_182 h rfl⟩⟩⟩⟩⟩⟩⟩⟩⟩⟩⟩
theorem dL_law_1264 : decode cL_law 1264 = .ok (.iaload, 1) := dcq_776.1
theorem dL_law_1265 : decode cL_law 1265 = .ok (.aload_n 0, 1) := dcq_776.2.1
theorem dL_law_1266 : decode cL_law 1266 = .ok (.iload_n 3, 1) := dcq_776.2.2.1
theorem dL_law_1267 : decode cL_law 1267 = .ok (.iconst 2, 1) := dcq_776.2.2.2.1
theorem dL_law_1268 : decode cL_law 1268 = .ok (.iadd, 1) := dcq_776.2.2.2.2.1
theorem dL_law_1269 : decode cL_law 1269 = .ok (.iaload, 1) := dcq_776.2.2.2.2.2.1
theorem dL_law_1270 : decode cL_law 1270 = .ok (.aload_n 0, 1) := dcq_776.2.2.2.2.2.2.1
theorem dL_law_1271 : decode cL_law 1271 = .ok (.iload_n 3, 1) := dcq_776.2.2.2.2.2.2.2.1
theorem dL_law_1272 : decode cL_law 1272 = .ok (.iconst 3, 1) := dcq_776.2.2.2.2.2.2.2.2.1
theorem dL_law_1273 : decode cL_law 1273 = .ok (.iadd, 1) := dcq_776.2.2.2.2.2.2.2.2.2.1
theorem dL_law_1274 : decode cL_law 1274 = .ok (.iaload, 1) := dcq_776.2.2.2.2.2.2.2.2.2.2.1
theorem dL_law_1275 : decode cL_law 1275 = .ok (.invokevirtual 155, 3) := dcq_776.2.2.2.2.2.2.2.2.2.2.2
set_option maxRecDepth 20000 in
theorem dcb_777 : fd_B cL_law 1278 [87, 44, 42, 29, 4, 96, 46, 42, 29, 5, 96, 46] := fd_o cL_law 1278 _ (by decide +kernel)
theorem dcq_777 : (decode cL_law 1278 = .ok (.pop, 1)) ∧ (decode cL_law 1279 = .ok (.aload_n 2, 1)) ∧ (decode cL_law 1280 = .ok (.aload_n 0, 1)) ∧ (decode cL_law 1281 = .ok (.iload_n 3, 1)) ∧ (decode cL_law 1282 = .ok (.iconst 1, 1)) ∧ (decode cL_law 1283 = .ok (.iadd, 1)) ∧ (decode cL_law 1284 = .ok (.iaload, 1)) ∧ (decode cL_law 1285 = .ok (.aload_n 0, 1)) ∧ (decode cL_law 1286 = .ok (.iload_n 3, 1)) ∧ (decode cL_law 1287 = .ok (.iconst 2, 1)) ∧ (decode cL_law 1288 = .ok (.iadd, 1)) ∧ (decode cL_law 1289 = .ok (.iaload, 1)) := have h := dcb_777; ⟨fd_87 h, have h := fd_t1 h; ⟨fd_44 h, have h := fd_t1 h; ⟨fd_42 h, have h := fd_t1 h; ⟨fd_29 h, have h := fd_t1 h; ⟨fd_4 h, have h := fd_t1 h; ⟨fd_96 h, have h := fd_t1 h; ⟨fd_46 h, have h := fd_t1 h; ⟨fd_42 h, have h := fd_t1 h; ⟨fd_29 h, have h := fd_t1 h; ⟨fd_5 h, have h := fd_t1 h; ⟨fd_96 h, have h := fd_t1 h; fd_46 h⟩⟩⟩⟩⟩⟩⟩⟩⟩⟩⟩
theorem dL_law_1278 : decode cL_law 1278 = .ok (.pop, 1) := dcq_777.1
theorem dL_law_1279 : decode cL_law 1279 = .ok (.aload_n 2, 1) := dcq_777.2.1
theorem dL_law_1280 : decode cL_law 1280 = .ok (.aload_n 0, 1) := dcq_777.2.2.1
theorem dL_law_1281 : decode cL_law 1281 = .ok (.iload_n 3, 1) := dcq_777.2.2.2.1
theorem dL_law_1282 : decode cL_law 1282 = .ok (.iconst 1, 1) := dcq_777.2.2.2.2.1
theorem dL_law_1283 : decode cL_law 1283 = .ok (.iadd, 1) := dcq_777.2.2.2.2.2.1
theorem dL_law_1284 : decode cL_law 1284 = .ok (.iaload, 1) := dcq_777.2.2.2.2.2.2.1
theorem dL_law_1285 : decode cL_law 1285 = .ok (.aload_n 0, 1) := dcq_777.2.2.2.2.2.2.2.1
theorem dL_law_1286 : decode cL_law 1286 = .ok (.iload_n 3, 1) := dcq_777.2.2.2.2.2.2.2.2.1
theorem dL_law_1287 : decode cL_law 1287 = .ok (.iconst 2, 1) := dcq_777.2.2.2.2.2.2.2.2.2.1
theorem dL_law_1288 : decode cL_law 1288 = .ok (.iadd, 1) := dcq_777.2.2.2.2.2.2.2.2.2.2.1
theorem dL_law_1289 : decode cL_law 1289 = .ok (.iaload, 1) := dcq_777.2.2.2.2.2.2.2.2.2.2.2
set_option maxRecDepth 20000 in
theorem dcb_778 : fd_B cL_law 1290 [42, 29, 6, 96, 46, 182, 0, 158, 87, 167, 1, 24, 43, 42, 29, 4] := fd_o cL_law 1290 _ (by decide +kernel)
theorem dcq_778 : (decode cL_law 1290 = .ok (.aload_n 0, 1)) ∧ (decode cL_law 1291 = .ok (.iload_n 3, 1)) ∧ (decode cL_law 1292 = .ok (.iconst 3, 1)) ∧ (decode cL_law 1293 = .ok (.iadd, 1)) ∧ (decode cL_law 1294 = .ok (.iaload, 1)) ∧ (decode cL_law 1295 = .ok (.invokevirtual 158, 3)) ∧ (decode cL_law 1298 = .ok (.pop, 1)) ∧ (decode cL_law 1299 = .ok (.goto 280, 3)) ∧ (decode cL_law 1302 = .ok (.aload_n 1, 1)) ∧ (decode cL_law 1303 = .ok (.aload_n 0, 1)) ∧ (decode cL_law 1304 = .ok (.iload_n 3, 1)) ∧ (decode cL_law 1305 = .ok (.iconst 1, 1)) := have h := dcb_778; ⟨fd_42 h, have h := fd_t1 h; ⟨fd_29 h, have h := fd_t1 h; ⟨fd_6 h, have h := fd_t1 h; ⟨fd_96 h, have h := fd_t1 h; ⟨fd_46 h, have h := fd_t1 h; ⟨fd_182 h rfl, have h := fd_t3 h; ⟨fd_87 h, have h := fd_t1 h; ⟨fd_167 h (by decide +kernel), have h := fd_t3 h; ⟨fd_43 h, have h := fd_t1 h; ⟨fd_42 h, have h := fd_t1 h; ⟨fd_29 h, have h := fd_t1 h; fd_4 h⟩⟩⟩⟩⟩⟩⟩⟩⟩⟩⟩
theorem dL_law_1290 : decode cL_law 1290 = .ok (.aload_n 0, 1) := dcq_778.1
theorem dL_law_1291 : decode cL_law 1291 = .ok (.iload_n 3, 1) := dcq_778.2.1
theorem dL_law_1292 : decode cL_law 1292 = .ok (.iconst 3, 1) := dcq_778.2.2.1
theorem dL_law_1293 : decode cL_law 1293 = .ok (.iadd, 1) := dcq_778.2.2.2.1
theorem dL_law_1294 : decode cL_law 1294 = .ok (.iaload, 1) := dcq_778.2.2.2.2.1
theorem dL_law_1295 : decode cL_law 1295 = .ok (.invokevirtual 158, 3) := dcq_778.2.2.2.2.2.1
theorem dL_law_1298 : decode cL_law 1298 = .ok (.pop, 1) := dcq_778.2.2.2.2.2.2.1
theorem dL_law_1299 : decode cL_law 1299 = .ok (.goto 280, 3) := dcq_778.2.2.2.2.2.2.2.1
theorem dL_law_1302 : decode cL_law 1302 = .ok (.aload_n 1, 1) := dcq_778.2.2.2.2.2.2.2.2.1
theorem dL_law_1303 : decode cL_law 1303 = .ok (.aload_n 0, 1) := dcq_778.2.2.2.2.2.2.2.2.2.1
theorem dL_law_1304 : decode cL_law 1304 = .ok (.iload_n 3, 1) := dcq_778.2.2.2.2.2.2.2.2.2.2.1
theorem dL_law_1305 : decode cL_law 1305 = .ok (.iconst 1, 1) := dcq_778.2.2.2.2.2.2.2.2.2.2.2
set_option maxRecDepth 20000 in
theorem dcb_779 : fd_B cL_law 1306 [96, 46, 42, 29, 5, 96, 46, 42, 29, 6, 96, 46] := fd_o cL_law 1306 _ (by decide +kernel)
theorem dcq_779 : (decode cL_law 1306 = .ok (.iadd, 1)) ∧ (decode cL_law 1307 = .ok (.iaload, 1)) ∧ (decode cL_law 1308 = .ok (.aload_n 0, 1)) ∧ (decode cL_law 1309 = .ok (.iload_n 3, 1)) ∧ (decode cL_law 1310 = .ok (.iconst 2, 1)) ∧ (decode cL_law 1311 = .ok (.iadd, 1)) ∧ (decode cL_law 1312 = .ok (.iaload, 1)) ∧ (decode cL_law 1313 = .ok (.aload_n 0, 1)) ∧ (decode cL_law 1314 = .ok (.iload_n 3, 1)) ∧ (decode cL_law 1315 = .ok (.iconst 3, 1)) ∧ (decode cL_law 1316 = .ok (.iadd, 1)) ∧ (decode cL_law 1317 = .ok (.iaload, 1)) := have h := dcb_779; ⟨fd_96 h, have h := fd_t1 h; ⟨fd_46 h, have h := fd_t1 h; ⟨fd_42 h, have h := fd_t1 h; ⟨fd_29 h, have h := fd_t1 h; ⟨fd_5 h, have h := fd_t1 h; ⟨fd_96 h, have h := fd_t1 h; ⟨fd_46 h, have h := fd_t1 h; ⟨fd_42 h, have h := fd_t1 h; ⟨fd_29 h, have h := fd_t1 h; ⟨fd_6 h, have h := fd_t1 h; ⟨fd_96 h, have h := fd_t1 h; fd_46 h⟩⟩⟩⟩⟩⟩⟩⟩⟩⟩⟩
theorem dL_law_1306 : decode cL_law 1306 = .ok (.iadd, 1) := dcq_779.1
theorem dL_law_1307 : decode cL_law 1307 = .ok (.iaload, 1) := dcq_779.2.1
theorem dL_law_1308 : decode cL_law 1308 = .ok (.aload_n 0, 1) := dcq_779.2.2.1
theorem dL_law_1309 : decode cL_law 1309 = .ok (.iload_n 3, 1) := dcq_779.2.2.2.1
theorem dL_law_1310 : decode cL_law 1310 = .ok (.iconst 2, 1) := dcq_779.2.2.2.2.1
theorem dL_law_1311 : decode cL_law 1311 = .ok (.iadd, 1) := dcq_779.2.2.2.2.2.1
theorem dL_law_1312 : decode cL_law 1312 = .ok (.iaload, 1) := dcq_779.2.2.2.2.2.2.1
theorem dL_law_1313 : decode cL_law 1313 = .ok (.aload_n 0, 1) := dcq_779.2.2.2.2.2.2.2.1
theorem dL_law_1314 : decode cL_law 1314 = .ok (.iload_n 3, 1) := dcq_779.2.2.2.2.2.2.2.2.1
theorem dL_law_1315 : decode cL_law 1315 = .ok (.iconst 3, 1) := dcq_779.2.2.2.2.2.2.2.2.2.1
theorem dL_law_1316 : decode cL_law 1316 = .ok (.iadd, 1) := dcq_779.2.2.2.2.2.2.2.2.2.2.1
theorem dL_law_1317 : decode cL_law 1317 = .ok (.iaload, 1) := dcq_779.2.2.2.2.2.2.2.2.2.2.2
set_option maxRecDepth 20000 in
theorem dcb_780 : fd_B cL_law 1318 [182, 0, 159, 87, 44, 42, 29, 4, 96, 46, 42, 29, 5, 96] := fd_o cL_law 1318 _ (by decide +kernel)
theorem dcq_780 : (decode cL_law 1318 = .ok (.invokevirtual 159, 3)) ∧ (decode cL_law 1321 = .ok (.pop, 1)) ∧ (decode cL_law 1322 = .ok (.aload_n 2, 1)) ∧ (decode cL_law 1323 = .ok (.aload_n 0, 1)) ∧ (decode cL_law 1324 = .ok (.iload_n 3, 1)) ∧ (decode cL_law 1325 = .ok (.iconst 1, 1)) ∧ (decode cL_law 1326 = .ok (.iadd, 1)) ∧ (decode cL_law 1327 = .ok (.iaload, 1)) ∧ (decode cL_law 1328 = .ok (.aload_n 0, 1)) ∧ (decode cL_law 1329 = .ok (.iload_n 3, 1)) ∧ (decode cL_law 1330 = .ok (.iconst 2, 1)) ∧ (decode cL_law 1331 = .ok (.iadd, 1)) := have h := dcb_780; ⟨fd_182 h rfl, have h := fd_t3 h; ⟨fd_87 h, have h := fd_t1 h; ⟨fd_44 h, have h := fd_t1 h; ⟨fd_42 h, have h := fd_t1 h; ⟨fd_29 h, have h := fd_t1 h; ⟨fd_4 h, have h := fd_t1 h; ⟨fd_96 h, have h := fd_t1 h; ⟨fd_46 h, have h := fd_t1 h; ⟨fd_42 h, have h := fd_t1 h; ⟨fd_29 h, have h := fd_t1 h; ⟨fd_5 h, have h := fd_t1 h; fd_96 h⟩⟩⟩⟩⟩⟩⟩⟩⟩⟩⟩
theorem dL_law_1318 : decode cL_law 1318 = .ok (.invokevirtual 159, 3) := dcq_780.1
theorem dL_law_1321 : decode cL_law 1321 = .ok (.pop, 1) := dcq_780.2.1
theorem dL_law_1322 : decode cL_law 1322 = .ok (.aload_n 2, 1) := dcq_780.2.2.1
theorem dL_law_1323 : decode cL_law 1323 = .ok (.aload_n 0, 1) := dcq_780.2.2.2.1
theorem dL_law_1324 : decode cL_law 1324 = .ok (.iload_n 3, 1) := dcq_780.2.2.2.2.1
theorem dL_law_1325 : decode cL_law 1325 = .ok (.iconst 1, 1) := dcq_780.2.2.2.2.2.1
theorem dL_law_1326 : decode cL_law 1326 = .ok (.iadd, 1) := dcq_780.2.2.2.2.2.2.1
theorem dL_law_1327 : decode cL_law 1327 = .ok (.iaload, 1) := dcq_780.2.2.2.2.2.2.2.1
