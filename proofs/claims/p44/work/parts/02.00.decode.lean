-- decode rows: a program laid them
set_option maxRecDepth 20000 in
theorem dcb_0 : fd_B cX0_init 0 [42, 183, 0, 3, 42, 16, 30, 188, 10, 181, 0, 9, 177] := fd_o cX0_init 0 _ (by decide +kernel)
theorem dcq_0 : (decode cX0_init 0 = .ok (.aload_n 0, 1)) ∧ (decode cX0_init 1 = .ok (.invokespecial 3, 3)) ∧ (decode cX0_init 4 = .ok (.aload_n 0, 1)) ∧ (decode cX0_init 5 = .ok (.bipush 30, 2)) ∧ (decode cX0_init 7 = .ok (.newarray .int, 2)) ∧ (decode cX0_init 9 = .ok (.putfield 9, 3)) ∧ (decode cX0_init 12 = .ok (.return_, 1)) := have h := dcb_0; ⟨fd_42 h, have h := fd_t1 h; ⟨fd_183 h rfl, have h := fd_t3 h; ⟨fd_42 h, have h := fd_t1 h; ⟨fd_16 h (by decide +kernel), have h := fd_t2 h; ⟨fd_188_10 h, have h := fd_t2 h; ⟨fd_181 h rfl, have h := fd_t3 h; fd_177 h⟩⟩⟩⟩⟩⟩
theorem dX0_init_0 : decode cX0_init 0 = .ok (.aload_n 0, 1) := dcq_0.1
theorem dX0_init_1 : decode cX0_init 1 = .ok (.invokespecial 3, 3) := dcq_0.2.1
theorem dX0_init_4 : decode cX0_init 4 = .ok (.aload_n 0, 1) := dcq_0.2.2.1
theorem dX0_init_5 : decode cX0_init 5 = .ok (.bipush 30, 2) := dcq_0.2.2.2.1
theorem dX0_init_7 : decode cX0_init 7 = .ok (.newarray .int, 2) := dcq_0.2.2.2.2.1
theorem dX0_init_9 : decode cX0_init 9 = .ok (.putfield 9, 3) := dcq_0.2.2.2.2.2.1
theorem dX0_init_12 : decode cX0_init 12 = .ok (.return_, 1) := dcq_0.2.2.2.2.2.2
set_option maxRecDepth 20000 in
theorem dcb_1 : fd_B cX0_forget 0 [42, 3, 181, 0, 15, 42, 3, 181, 0, 19, 177] := fd_o cX0_forget 0 _ (by decide +kernel)
theorem dcq_1 : (decode cX0_forget 0 = .ok (.aload_n 0, 1)) ∧ (decode cX0_forget 1 = .ok (.iconst 0, 1)) ∧ (decode cX0_forget 2 = .ok (.putfield 15, 3)) ∧ (decode cX0_forget 5 = .ok (.aload_n 0, 1)) ∧ (decode cX0_forget 6 = .ok (.iconst 0, 1)) ∧ (decode cX0_forget 7 = .ok (.putfield 19, 3)) ∧ (decode cX0_forget 10 = .ok (.return_, 1)) := have h := dcb_1; ⟨fd_42 h, have h := fd_t1 h; ⟨fd_3 h, have h := fd_t1 h; ⟨fd_181 h rfl, have h := fd_t3 h; ⟨fd_42 h, have h := fd_t1 h; ⟨fd_3 h, have h := fd_t1 h; ⟨fd_181 h rfl, have h := fd_t3 h; fd_177 h⟩⟩⟩⟩⟩⟩
theorem dX0_forget_0 : decode cX0_forget 0 = .ok (.aload_n 0, 1) := dcq_1.1
theorem dX0_forget_1 : decode cX0_forget 1 = .ok (.iconst 0, 1) := dcq_1.2.1
theorem dX0_forget_2 : decode cX0_forget 2 = .ok (.putfield 15, 3) := dcq_1.2.2.1
theorem dX0_forget_5 : decode cX0_forget 5 = .ok (.aload_n 0, 1) := dcq_1.2.2.2.1
theorem dX0_forget_6 : decode cX0_forget 6 = .ok (.iconst 0, 1) := dcq_1.2.2.2.2.1
theorem dX0_forget_7 : decode cX0_forget 7 = .ok (.putfield 19, 3) := dcq_1.2.2.2.2.2.1
theorem dX0_forget_10 : decode cX0_forget 10 = .ok (.return_, 1) := dcq_1.2.2.2.2.2.2
set_option maxRecDepth 20000 in
theorem dcb_2 : fd_B cX0_play 0 [42, 27, 181, 0, 23, 42, 28, 181, 0, 26, 42, 29, 181, 0, 29, 177] := fd_o cX0_play 0 _ (by decide +kernel)
theorem dcq_2 : (decode cX0_play 0 = .ok (.aload_n 0, 1)) ∧ (decode cX0_play 1 = .ok (.iload_n 1, 1)) ∧ (decode cX0_play 2 = .ok (.putfield 23, 3)) ∧ (decode cX0_play 5 = .ok (.aload_n 0, 1)) ∧ (decode cX0_play 6 = .ok (.iload_n 2, 1)) ∧ (decode cX0_play 7 = .ok (.putfield 26, 3)) ∧ (decode cX0_play 10 = .ok (.aload_n 0, 1)) ∧ (decode cX0_play 11 = .ok (.iload_n 3, 1)) ∧ (decode cX0_play 12 = .ok (.putfield 29, 3)) ∧ (decode cX0_play 15 = .ok (.return_, 1)) := have h := dcb_2; ⟨fd_42 h, have h := fd_t1 h; ⟨fd_27 h, have h := fd_t1 h; ⟨fd_181 h rfl, have h := fd_t3 h; ⟨fd_42 h, have h := fd_t1 h; ⟨fd_28 h, have h := fd_t1 h; ⟨fd_181 h rfl, have h := fd_t3 h; ⟨fd_42 h, have h := fd_t1 h; ⟨fd_29 h, have h := fd_t1 h; ⟨fd_181 h rfl, have h := fd_t3 h; fd_177 h⟩⟩⟩⟩⟩⟩⟩⟩⟩
theorem dX0_play_0 : decode cX0_play 0 = .ok (.aload_n 0, 1) := dcq_2.1
theorem dX0_play_1 : decode cX0_play 1 = .ok (.iload_n 1, 1) := dcq_2.2.1
theorem dX0_play_2 : decode cX0_play 2 = .ok (.putfield 23, 3) := dcq_2.2.2.1
theorem dX0_play_5 : decode cX0_play 5 = .ok (.aload_n 0, 1) := dcq_2.2.2.2.1
theorem dX0_play_6 : decode cX0_play 6 = .ok (.iload_n 2, 1) := dcq_2.2.2.2.2.1
theorem dX0_play_7 : decode cX0_play 7 = .ok (.putfield 26, 3) := dcq_2.2.2.2.2.2.1
theorem dX0_play_10 : decode cX0_play 10 = .ok (.aload_n 0, 1) := dcq_2.2.2.2.2.2.2.1
theorem dX0_play_11 : decode cX0_play 11 = .ok (.iload_n 3, 1) := dcq_2.2.2.2.2.2.2.2.1
theorem dX0_play_12 : decode cX0_play 12 = .ok (.putfield 29, 3) := dcq_2.2.2.2.2.2.2.2.2.1
theorem dX0_play_15 : decode cX0_play 15 = .ok (.return_, 1) := dcq_2.2.2.2.2.2.2.2.2.2
set_option maxRecDepth 20000 in
theorem dcb_3 : fd_B cX0_perform 0 [27] := fd_o cX0_perform 0 _ (by decide +kernel)
theorem dX0_perform_0 : decode cX0_perform 0 = .ok (.iload_n 1, 1) := fd_27 dcb_3
set_option maxRecDepth 20000 in
theorem dX0_perform_1 : decode cX0_perform 1 = .ok (.tableswitch 55 0 3 #[31, 37, 43, 49], 31) := by decide +kernel
set_option maxRecDepth 20000 in
theorem dcb_4 : fd_B cX0_perform 32 [42, 28, 182, 0, 32, 172, 42, 28, 182, 0, 36, 172, 42, 28, 182, 0, 39, 172] := fd_o cX0_perform 32 _ (by decide +kernel)
theorem dcq_4 : (decode cX0_perform 32 = .ok (.aload_n 0, 1)) ∧ (decode cX0_perform 33 = .ok (.iload_n 2, 1)) ∧ (decode cX0_perform 34 = .ok (.invokevirtual 32, 3)) ∧ (decode cX0_perform 37 = .ok (.ireturn, 1)) ∧ (decode cX0_perform 38 = .ok (.aload_n 0, 1)) ∧ (decode cX0_perform 39 = .ok (.iload_n 2, 1)) ∧ (decode cX0_perform 40 = .ok (.invokevirtual 36, 3)) ∧ (decode cX0_perform 43 = .ok (.ireturn, 1)) ∧ (decode cX0_perform 44 = .ok (.aload_n 0, 1)) ∧ (decode cX0_perform 45 = .ok (.iload_n 2, 1)) ∧ (decode cX0_perform 46 = .ok (.invokevirtual 39, 3)) ∧ (decode cX0_perform 49 = .ok (.ireturn, 1)) := have h := dcb_4; ⟨fd_42 h, have h := fd_t1 h; ⟨fd_28 h, have h := fd_t1 h; ⟨fd_182 h rfl, have h := fd_t3 h; ⟨fd_172 h, have h := fd_t1 h; ⟨fd_42 h, have h := fd_t1 h; ⟨fd_28 h, have h := fd_t1 h; ⟨fd_182 h rfl, have h := fd_t3 h; ⟨fd_172 h, have h := fd_t1 h; ⟨fd_42 h, have h := fd_t1 h; ⟨fd_28 h, have h := fd_t1 h; ⟨fd_182 h rfl, have h := fd_t3 h; fd_172 h⟩⟩⟩⟩⟩⟩⟩⟩⟩⟩⟩
theorem dX0_perform_32 : decode cX0_perform 32 = .ok (.aload_n 0, 1) := dcq_4.1
theorem dX0_perform_33 : decode cX0_perform 33 = .ok (.iload_n 2, 1) := dcq_4.2.1
theorem dX0_perform_34 : decode cX0_perform 34 = .ok (.invokevirtual 32, 3) := dcq_4.2.2.1
theorem dX0_perform_37 : decode cX0_perform 37 = .ok (.ireturn, 1) := dcq_4.2.2.2.1
theorem dX0_perform_38 : decode cX0_perform 38 = .ok (.aload_n 0, 1) := dcq_4.2.2.2.2.1
theorem dX0_perform_39 : decode cX0_perform 39 = .ok (.iload_n 2, 1) := dcq_4.2.2.2.2.2.1
theorem dX0_perform_40 : decode cX0_perform 40 = .ok (.invokevirtual 36, 3) := dcq_4.2.2.2.2.2.2.1
theorem dX0_perform_43 : decode cX0_perform 43 = .ok (.ireturn, 1) := dcq_4.2.2.2.2.2.2.2.1
theorem dX0_perform_44 : decode cX0_perform 44 = .ok (.aload_n 0, 1) := dcq_4.2.2.2.2.2.2.2.2.1
theorem dX0_perform_45 : decode cX0_perform 45 = .ok (.iload_n 2, 1) := dcq_4.2.2.2.2.2.2.2.2.2.1
theorem dX0_perform_46 : decode cX0_perform 46 = .ok (.invokevirtual 39, 3) := dcq_4.2.2.2.2.2.2.2.2.2.2.1
theorem dX0_perform_49 : decode cX0_perform 49 = .ok (.ireturn, 1) := dcq_4.2.2.2.2.2.2.2.2.2.2.2
set_option maxRecDepth 20000 in
theorem dcb_5 : fd_B cX0_perform 50 [42, 28, 182, 0, 42, 172, 3, 172] := fd_o cX0_perform 50 _ (by decide +kernel)
theorem dcq_5 : (decode cX0_perform 50 = .ok (.aload_n 0, 1)) ∧ (decode cX0_perform 51 = .ok (.iload_n 2, 1)) ∧ (decode cX0_perform 52 = .ok (.invokevirtual 42, 3)) ∧ (decode cX0_perform 55 = .ok (.ireturn, 1)) ∧ (decode cX0_perform 56 = .ok (.iconst 0, 1)) ∧ (decode cX0_perform 57 = .ok (.ireturn, 1)) := have h := dcb_5; ⟨fd_42 h, have h := fd_t1 h; ⟨fd_28 h, have h := fd_t1 h; ⟨fd_182 h rfl, have h := fd_t3 h; ⟨fd_172 h, have h := fd_t1 h; ⟨fd_3 h, have h := fd_t1 h; fd_172 h⟩⟩⟩⟩⟩
theorem dX0_perform_50 : decode cX0_perform 50 = .ok (.aload_n 0, 1) := dcq_5.1
theorem dX0_perform_51 : decode cX0_perform 51 = .ok (.iload_n 2, 1) := dcq_5.2.1
theorem dX0_perform_52 : decode cX0_perform 52 = .ok (.invokevirtual 42, 3) := dcq_5.2.2.1
theorem dX0_perform_55 : decode cX0_perform 55 = .ok (.ireturn, 1) := dcq_5.2.2.2.1
theorem dX0_perform_56 : decode cX0_perform 56 = .ok (.iconst 0, 1) := dcq_5.2.2.2.2.1
theorem dX0_perform_57 : decode cX0_perform 57 = .ok (.ireturn, 1) := dcq_5.2.2.2.2.2
set_option maxRecDepth 20000 in
theorem dcb_6 : fd_B cX0_enter 0 [42, 180, 0, 15, 16, 30, 162, 0, 23, 42, 180, 0, 9, 42, 180, 0, 15, 27, 79, 42, 89] := fd_o cX0_enter 0 _ (by decide +kernel)
theorem dcq_6 : (decode cX0_enter 0 = .ok (.aload_n 0, 1)) ∧ (decode cX0_enter 1 = .ok (.getfield 15, 3)) ∧ (decode cX0_enter 4 = .ok (.bipush 30, 2)) ∧ (decode cX0_enter 6 = .ok (.if_icmp .ge 23, 3)) ∧ (decode cX0_enter 9 = .ok (.aload_n 0, 1)) ∧ (decode cX0_enter 10 = .ok (.getfield 9, 3)) ∧ (decode cX0_enter 13 = .ok (.aload_n 0, 1)) ∧ (decode cX0_enter 14 = .ok (.getfield 15, 3)) ∧ (decode cX0_enter 17 = .ok (.iload_n 1, 1)) ∧ (decode cX0_enter 18 = .ok (.iastore, 1)) ∧ (decode cX0_enter 19 = .ok (.aload_n 0, 1)) ∧ (decode cX0_enter 20 = .ok (.dup, 1)) := have h := dcb_6; ⟨fd_42 h, have h := fd_t1 h; ⟨fd_180 h rfl, have h := fd_t3 h; ⟨fd_16 h (by decide +kernel), have h := fd_t2 h; ⟨fd_162 h (by decide +kernel), have h := fd_t3 h; ⟨fd_42 h, have h := fd_t1 h; ⟨fd_180 h rfl, have h := fd_t3 h; ⟨fd_42 h, have h := fd_t1 h; ⟨fd_180 h rfl, have h := fd_t3 h; ⟨fd_27 h, have h := fd_t1 h; ⟨fd_79 h, have h := fd_t1 h; ⟨fd_42 h, have h := fd_t1 h; fd_89 h⟩⟩⟩⟩⟩⟩⟩⟩⟩⟩⟩
theorem dX0_enter_0 : decode cX0_enter 0 = .ok (.aload_n 0, 1) := dcq_6.1
theorem dX0_enter_1 : decode cX0_enter 1 = .ok (.getfield 15, 3) := dcq_6.2.1
theorem dX0_enter_4 : decode cX0_enter 4 = .ok (.bipush 30, 2) := dcq_6.2.2.1
theorem dX0_enter_6 : decode cX0_enter 6 = .ok (.if_icmp .ge 23, 3) := dcq_6.2.2.2.1
theorem dX0_enter_9 : decode cX0_enter 9 = .ok (.aload_n 0, 1) := dcq_6.2.2.2.2.1
theorem dX0_enter_10 : decode cX0_enter 10 = .ok (.getfield 9, 3) := dcq_6.2.2.2.2.2.1
theorem dX0_enter_13 : decode cX0_enter 13 = .ok (.aload_n 0, 1) := dcq_6.2.2.2.2.2.2.1
theorem dX0_enter_14 : decode cX0_enter 14 = .ok (.getfield 15, 3) := dcq_6.2.2.2.2.2.2.2.1
theorem dX0_enter_17 : decode cX0_enter 17 = .ok (.iload_n 1, 1) := dcq_6.2.2.2.2.2.2.2.2.1
theorem dX0_enter_18 : decode cX0_enter 18 = .ok (.iastore, 1) := dcq_6.2.2.2.2.2.2.2.2.2.1
theorem dX0_enter_19 : decode cX0_enter 19 = .ok (.aload_n 0, 1) := dcq_6.2.2.2.2.2.2.2.2.2.2.1
theorem dX0_enter_20 : decode cX0_enter 20 = .ok (.dup, 1) := dcq_6.2.2.2.2.2.2.2.2.2.2.2
set_option maxRecDepth 20000 in
theorem dcb_7 : fd_B cX0_enter 21 [180, 0, 15, 4, 96, 181, 0, 15, 177] := fd_o cX0_enter 21 _ (by decide +kernel)
theorem dcq_7 : (decode cX0_enter 21 = .ok (.getfield 15, 3)) ∧ (decode cX0_enter 24 = .ok (.iconst 1, 1)) ∧ (decode cX0_enter 25 = .ok (.iadd, 1)) ∧ (decode cX0_enter 26 = .ok (.putfield 15, 3)) ∧ (decode cX0_enter 29 = .ok (.return_, 1)) := have h := dcb_7; ⟨fd_180 h rfl, have h := fd_t3 h; ⟨fd_4 h, have h := fd_t1 h; ⟨fd_96 h, have h := fd_t1 h; ⟨fd_181 h rfl, have h := fd_t3 h; fd_177 h⟩⟩⟩⟩
theorem dX0_enter_21 : decode cX0_enter 21 = .ok (.getfield 15, 3) := dcq_7.1
theorem dX0_enter_24 : decode cX0_enter 24 = .ok (.iconst 1, 1) := dcq_7.2.1
theorem dX0_enter_25 : decode cX0_enter 25 = .ok (.iadd, 1) := dcq_7.2.2.1
theorem dX0_enter_26 : decode cX0_enter 26 = .ok (.putfield 15, 3) := dcq_7.2.2.2.1
theorem dX0_enter_29 : decode cX0_enter 29 = .ok (.return_, 1) := dcq_7.2.2.2.2
set_option maxRecDepth 20000 in
theorem dcb_8 : fd_B cX0_thinks 0 [42, 180, 0, 23, 7, 160, 0, 9, 42, 16, 40, 182, 0, 45, 42, 180, 0, 23, 5, 184, 0, 49, 153, 0, 9] := fd_o cX0_thinks 0 _ (by decide +kernel)
theorem dcq_8 : (decode cX0_thinks 0 = .ok (.aload_n 0, 1)) ∧ (decode cX0_thinks 1 = .ok (.getfield 23, 3)) ∧ (decode cX0_thinks 4 = .ok (.iconst 4, 1)) ∧ (decode cX0_thinks 5 = .ok (.if_icmp .ne 9, 3)) ∧ (decode cX0_thinks 8 = .ok (.aload_n 0, 1)) ∧ (decode cX0_thinks 9 = .ok (.bipush 40, 2)) ∧ (decode cX0_thinks 11 = .ok (.invokevirtual 45, 3)) ∧ (decode cX0_thinks 14 = .ok (.aload_n 0, 1)) ∧ (decode cX0_thinks 15 = .ok (.getfield 23, 3)) ∧ (decode cX0_thinks 18 = .ok (.iconst 2, 1)) ∧ (decode cX0_thinks 19 = .ok (.invokestatic 49, 3)) ∧ (decode cX0_thinks 22 = .ok (.ifCond .eq 9, 3)) := have h := dcb_8; ⟨fd_42 h, have h := fd_t1 h; ⟨fd_180 h rfl, have h := fd_t3 h; ⟨fd_7 h, have h := fd_t1 h; ⟨fd_160 h (by decide +kernel), have h := fd_t3 h; ⟨fd_42 h, have h := fd_t1 h; ⟨fd_16 h (by decide +kernel), have h := fd_t2 h; ⟨fd_182 h rfl, have h := fd_t3 h; ⟨fd_42 h, have h := fd_t1 h; ⟨fd_180 h rfl, have h := fd_t3 h; ⟨fd_5 h, have h := fd_t1 h; ⟨fd_184 h rfl, have h := fd_t3 h; fd_153 h (by decide +kernel)⟩⟩⟩⟩⟩⟩⟩⟩⟩⟩⟩
theorem dX0_thinks_0 : decode cX0_thinks 0 = .ok (.aload_n 0, 1) := dcq_8.1
theorem dX0_thinks_1 : decode cX0_thinks 1 = .ok (.getfield 23, 3) := dcq_8.2.1
theorem dX0_thinks_4 : decode cX0_thinks 4 = .ok (.iconst 4, 1) := dcq_8.2.2.1
theorem dX0_thinks_5 : decode cX0_thinks 5 = .ok (.if_icmp .ne 9, 3) := dcq_8.2.2.2.1
theorem dX0_thinks_8 : decode cX0_thinks 8 = .ok (.aload_n 0, 1) := dcq_8.2.2.2.2.1
theorem dX0_thinks_9 : decode cX0_thinks 9 = .ok (.bipush 40, 2) := dcq_8.2.2.2.2.2.1
theorem dX0_thinks_11 : decode cX0_thinks 11 = .ok (.invokevirtual 45, 3) := dcq_8.2.2.2.2.2.2.1
theorem dX0_thinks_14 : decode cX0_thinks 14 = .ok (.aload_n 0, 1) := dcq_8.2.2.2.2.2.2.2.1
theorem dX0_thinks_15 : decode cX0_thinks 15 = .ok (.getfield 23, 3) := dcq_8.2.2.2.2.2.2.2.2.1
theorem dX0_thinks_18 : decode cX0_thinks 18 = .ok (.iconst 2, 1) := dcq_8.2.2.2.2.2.2.2.2.2.1
theorem dX0_thinks_19 : decode cX0_thinks 19 = .ok (.invokestatic 49, 3) := dcq_8.2.2.2.2.2.2.2.2.2.2.1
theorem dX0_thinks_22 : decode cX0_thinks 22 = .ok (.ifCond .eq 9, 3) := dcq_8.2.2.2.2.2.2.2.2.2.2.2
set_option maxRecDepth 20000 in
theorem dcb_9 : fd_B cX0_thinks 25 [42, 16, 30, 182, 0, 45, 42, 180, 0, 23, 6, 160, 0, 9, 42, 16, 51, 182, 0, 45, 42, 16, 10] := fd_o cX0_thinks 25 _ (by decide +kernel)
theorem dcq_9 : (decode cX0_thinks 25 = .ok (.aload_n 0, 1)) ∧ (decode cX0_thinks 26 = .ok (.bipush 30, 2)) ∧ (decode cX0_thinks 28 = .ok (.invokevirtual 45, 3)) ∧ (decode cX0_thinks 31 = .ok (.aload_n 0, 1)) ∧ (decode cX0_thinks 32 = .ok (.getfield 23, 3)) ∧ (decode cX0_thinks 35 = .ok (.iconst 3, 1)) ∧ (decode cX0_thinks 36 = .ok (.if_icmp .ne 9, 3)) ∧ (decode cX0_thinks 39 = .ok (.aload_n 0, 1)) ∧ (decode cX0_thinks 40 = .ok (.bipush 51, 2)) ∧ (decode cX0_thinks 42 = .ok (.invokevirtual 45, 3)) ∧ (decode cX0_thinks 45 = .ok (.aload_n 0, 1)) ∧ (decode cX0_thinks 46 = .ok (.bipush 10, 2)) := have h := dcb_9; ⟨fd_42 h, have h := fd_t1 h; ⟨fd_16 h (by decide +kernel), have h := fd_t2 h; ⟨fd_182 h rfl, have h := fd_t3 h; ⟨fd_42 h, have h := fd_t1 h; ⟨fd_180 h rfl, have h := fd_t3 h; ⟨fd_6 h, have h := fd_t1 h; ⟨fd_160 h (by decide +kernel), have h := fd_t3 h; ⟨fd_42 h, have h := fd_t1 h; ⟨fd_16 h (by decide +kernel), have h := fd_t2 h; ⟨fd_182 h rfl, have h := fd_t3 h; ⟨fd_42 h, have h := fd_t1 h; fd_16 h (by decide +kernel)⟩⟩⟩⟩⟩⟩⟩⟩⟩⟩⟩
theorem dX0_thinks_25 : decode cX0_thinks 25 = .ok (.aload_n 0, 1) := dcq_9.1
theorem dX0_thinks_26 : decode cX0_thinks 26 = .ok (.bipush 30, 2) := dcq_9.2.1
theorem dX0_thinks_28 : decode cX0_thinks 28 = .ok (.invokevirtual 45, 3) := dcq_9.2.2.1
theorem dX0_thinks_31 : decode cX0_thinks 31 = .ok (.aload_n 0, 1) := dcq_9.2.2.2.1
theorem dX0_thinks_32 : decode cX0_thinks 32 = .ok (.getfield 23, 3) := dcq_9.2.2.2.2.1
theorem dX0_thinks_35 : decode cX0_thinks 35 = .ok (.iconst 3, 1) := dcq_9.2.2.2.2.2.1
theorem dX0_thinks_36 : decode cX0_thinks 36 = .ok (.if_icmp .ne 9, 3) := dcq_9.2.2.2.2.2.2.1
theorem dX0_thinks_39 : decode cX0_thinks 39 = .ok (.aload_n 0, 1) := dcq_9.2.2.2.2.2.2.2.1
theorem dX0_thinks_40 : decode cX0_thinks 40 = .ok (.bipush 51, 2) := dcq_9.2.2.2.2.2.2.2.2.1
theorem dX0_thinks_42 : decode cX0_thinks 42 = .ok (.invokevirtual 45, 3) := dcq_9.2.2.2.2.2.2.2.2.2.1
theorem dX0_thinks_45 : decode cX0_thinks 45 = .ok (.aload_n 0, 1) := dcq_9.2.2.2.2.2.2.2.2.2.2.1
theorem dX0_thinks_46 : decode cX0_thinks 46 = .ok (.bipush 10, 2) := dcq_9.2.2.2.2.2.2.2.2.2.2.2
set_option maxRecDepth 20000 in
theorem dcb_10 : fd_B cX0_thinks 48 [182, 0, 45, 27, 7, 104, 42, 180, 0, 26, 100, 61, 42, 180, 0, 23, 5, 184, 0, 49] := fd_o cX0_thinks 48 _ (by decide +kernel)
theorem dcq_10 : (decode cX0_thinks 48 = .ok (.invokevirtual 45, 3)) ∧ (decode cX0_thinks 51 = .ok (.iload_n 1, 1)) ∧ (decode cX0_thinks 52 = .ok (.iconst 4, 1)) ∧ (decode cX0_thinks 53 = .ok (.imul, 1)) ∧ (decode cX0_thinks 54 = .ok (.aload_n 0, 1)) ∧ (decode cX0_thinks 55 = .ok (.getfield 26, 3)) ∧ (decode cX0_thinks 58 = .ok (.isub, 1)) ∧ (decode cX0_thinks 59 = .ok (.istore_n 2, 1)) ∧ (decode cX0_thinks 60 = .ok (.aload_n 0, 1)) ∧ (decode cX0_thinks 61 = .ok (.getfield 23, 3)) ∧ (decode cX0_thinks 64 = .ok (.iconst 2, 1)) ∧ (decode cX0_thinks 65 = .ok (.invokestatic 49, 3)) := have h := dcb_10; ⟨fd_182 h rfl, have h := fd_t3 h; ⟨fd_27 h, have h := fd_t1 h; ⟨fd_7 h, have h := fd_t1 h; ⟨fd_104 h, have h := fd_t1 h; ⟨fd_42 h, have h := fd_t1 h; ⟨fd_180 h rfl, have h := fd_t3 h; ⟨fd_100 h, have h := fd_t1 h; ⟨fd_61 h, have h := fd_t1 h; ⟨fd_42 h, have h := fd_t1 h; ⟨fd_180 h rfl, have h := fd_t3 h; ⟨fd_5 h, have h := fd_t1 h; fd_184 h rfl⟩⟩⟩⟩⟩⟩⟩⟩⟩⟩⟩
theorem dX0_thinks_48 : decode cX0_thinks 48 = .ok (.invokevirtual 45, 3) := dcq_10.1
theorem dX0_thinks_51 : decode cX0_thinks 51 = .ok (.iload_n 1, 1) := dcq_10.2.1
theorem dX0_thinks_52 : decode cX0_thinks 52 = .ok (.iconst 4, 1) := dcq_10.2.2.1
theorem dX0_thinks_53 : decode cX0_thinks 53 = .ok (.imul, 1) := dcq_10.2.2.2.1
theorem dX0_thinks_54 : decode cX0_thinks 54 = .ok (.aload_n 0, 1) := dcq_10.2.2.2.2.1
theorem dX0_thinks_55 : decode cX0_thinks 55 = .ok (.getfield 26, 3) := dcq_10.2.2.2.2.2.1
theorem dX0_thinks_58 : decode cX0_thinks 58 = .ok (.isub, 1) := dcq_10.2.2.2.2.2.2.1
theorem dX0_thinks_59 : decode cX0_thinks 59 = .ok (.istore_n 2, 1) := dcq_10.2.2.2.2.2.2.2.1
theorem dX0_thinks_60 : decode cX0_thinks 60 = .ok (.aload_n 0, 1) := dcq_10.2.2.2.2.2.2.2.2.1
theorem dX0_thinks_61 : decode cX0_thinks 61 = .ok (.getfield 23, 3) := dcq_10.2.2.2.2.2.2.2.2.2.1
theorem dX0_thinks_64 : decode cX0_thinks 64 = .ok (.iconst 2, 1) := dcq_10.2.2.2.2.2.2.2.2.2.2.1
theorem dX0_thinks_65 : decode cX0_thinks 65 = .ok (.invokestatic 49, 3) := dcq_10.2.2.2.2.2.2.2.2.2.2.2
set_option maxRecDepth 20000 in
theorem dcb_11 : fd_B cX0_thinks 68 [153, 0, 7, 3, 28, 100, 61, 42, 180, 0, 23, 7, 160, 0, 6, 132, 2, 2, 42, 180, 0, 23] := fd_o cX0_thinks 68 _ (by decide +kernel)
theorem dcq_11 : (decode cX0_thinks 68 = .ok (.ifCond .eq 7, 3)) ∧ (decode cX0_thinks 71 = .ok (.iconst 0, 1)) ∧ (decode cX0_thinks 72 = .ok (.iload_n 2, 1)) ∧ (decode cX0_thinks 73 = .ok (.isub, 1)) ∧ (decode cX0_thinks 74 = .ok (.istore_n 2, 1)) ∧ (decode cX0_thinks 75 = .ok (.aload_n 0, 1)) ∧ (decode cX0_thinks 76 = .ok (.getfield 23, 3)) ∧ (decode cX0_thinks 79 = .ok (.iconst 4, 1)) ∧ (decode cX0_thinks 80 = .ok (.if_icmp .ne 6, 3)) ∧ (decode cX0_thinks 83 = .ok (.iinc 2 2, 3)) ∧ (decode cX0_thinks 86 = .ok (.aload_n 0, 1)) ∧ (decode cX0_thinks 87 = .ok (.getfield 23, 3)) := have h := dcb_11; ⟨fd_153 h (by decide +kernel), have h := fd_t3 h; ⟨fd_3 h, have h := fd_t1 h; ⟨fd_28 h, have h := fd_t1 h; ⟨fd_100 h, have h := fd_t1 h; ⟨fd_61 h, have h := fd_t1 h; ⟨fd_42 h, have h := fd_t1 h; ⟨fd_180 h rfl, have h := fd_t3 h; ⟨fd_7 h, have h := fd_t1 h; ⟨fd_160 h (by decide +kernel), have h := fd_t3 h; ⟨fd_132 h rfl (by decide +kernel), have h := fd_t3 h; ⟨fd_42 h, have h := fd_t1 h; fd_180 h rfl⟩⟩⟩⟩⟩⟩⟩⟩⟩⟩⟩
theorem dX0_thinks_68 : decode cX0_thinks 68 = .ok (.ifCond .eq 7, 3) := dcq_11.1
theorem dX0_thinks_71 : decode cX0_thinks 71 = .ok (.iconst 0, 1) := dcq_11.2.1
theorem dX0_thinks_72 : decode cX0_thinks 72 = .ok (.iload_n 2, 1) := dcq_11.2.2.1
theorem dX0_thinks_73 : decode cX0_thinks 73 = .ok (.isub, 1) := dcq_11.2.2.2.1
theorem dX0_thinks_74 : decode cX0_thinks 74 = .ok (.istore_n 2, 1) := dcq_11.2.2.2.2.1
theorem dX0_thinks_75 : decode cX0_thinks 75 = .ok (.aload_n 0, 1) := dcq_11.2.2.2.2.2.1
theorem dX0_thinks_76 : decode cX0_thinks 76 = .ok (.getfield 23, 3) := dcq_11.2.2.2.2.2.2.1
theorem dX0_thinks_79 : decode cX0_thinks 79 = .ok (.iconst 4, 1) := dcq_11.2.2.2.2.2.2.2.1
theorem dX0_thinks_80 : decode cX0_thinks 80 = .ok (.if_icmp .ne 6, 3) := dcq_11.2.2.2.2.2.2.2.2.1
theorem dX0_thinks_83 : decode cX0_thinks 83 = .ok (.iinc 2 2, 3) := dcq_11.2.2.2.2.2.2.2.2.2.1
theorem dX0_thinks_86 : decode cX0_thinks 86 = .ok (.aload_n 0, 1) := dcq_11.2.2.2.2.2.2.2.2.2.2.1
theorem dX0_thinks_87 : decode cX0_thinks 87 = .ok (.getfield 23, 3) := dcq_11.2.2.2.2.2.2.2.2.2.2.2
set_option maxRecDepth 20000 in
theorem dcb_12 : fd_B cX0_thinks 90 [6, 160, 0, 10, 28, 42, 180, 0, 29, 100, 61, 28, 172] := fd_o cX0_thinks 90 _ (by decide +kernel)
theorem dcq_12 : (decode cX0_thinks 90 = .ok (.iconst 3, 1)) ∧ (decode cX0_thinks 91 = .ok (.if_icmp .ne 10, 3)) ∧ (decode cX0_thinks 94 = .ok (.iload_n 2, 1)) ∧ (decode cX0_thinks 95 = .ok (.aload_n 0, 1)) ∧ (decode cX0_thinks 96 = .ok (.getfield 29, 3)) ∧ (decode cX0_thinks 99 = .ok (.isub, 1)) ∧ (decode cX0_thinks 100 = .ok (.istore_n 2, 1)) ∧ (decode cX0_thinks 101 = .ok (.iload_n 2, 1)) ∧ (decode cX0_thinks 102 = .ok (.ireturn, 1)) := have h := dcb_12; ⟨fd_6 h, have h := fd_t1 h; ⟨fd_160 h (by decide +kernel), have h := fd_t3 h; ⟨fd_28 h, have h := fd_t1 h; ⟨fd_42 h, have h := fd_t1 h; ⟨fd_180 h rfl, have h := fd_t3 h; ⟨fd_100 h, have h := fd_t1 h; ⟨fd_61 h, have h := fd_t1 h; ⟨fd_28 h, have h := fd_t1 h; fd_172 h⟩⟩⟩⟩⟩⟩⟩⟩
theorem dX0_thinks_90 : decode cX0_thinks 90 = .ok (.iconst 3, 1) := dcq_12.1
theorem dX0_thinks_91 : decode cX0_thinks 91 = .ok (.if_icmp .ne 10, 3) := dcq_12.2.1
theorem dX0_thinks_94 : decode cX0_thinks 94 = .ok (.iload_n 2, 1) := dcq_12.2.2.1
theorem dX0_thinks_95 : decode cX0_thinks 95 = .ok (.aload_n 0, 1) := dcq_12.2.2.2.1
theorem dX0_thinks_96 : decode cX0_thinks 96 = .ok (.getfield 29, 3) := dcq_12.2.2.2.2.1
theorem dX0_thinks_99 : decode cX0_thinks 99 = .ok (.isub, 1) := dcq_12.2.2.2.2.2.1
theorem dX0_thinks_100 : decode cX0_thinks 100 = .ok (.istore_n 2, 1) := dcq_12.2.2.2.2.2.2.1
theorem dX0_thinks_101 : decode cX0_thinks 101 = .ok (.iload_n 2, 1) := dcq_12.2.2.2.2.2.2.2.1
theorem dX0_thinks_102 : decode cX0_thinks 102 = .ok (.ireturn, 1) := dcq_12.2.2.2.2.2.2.2.2
set_option maxRecDepth 20000 in
theorem dcb_13 : fd_B cX0_asks 0 [42, 180, 0, 23, 4, 184, 0, 49, 153, 0, 9, 42, 16, 20, 182, 0, 45, 42, 180, 0, 23, 7, 160, 0, 9] := fd_o cX0_asks 0 _ (by decide +kernel)
theorem dcq_13 : (decode cX0_asks 0 = .ok (.aload_n 0, 1)) ∧ (decode cX0_asks 1 = .ok (.getfield 23, 3)) ∧ (decode cX0_asks 4 = .ok (.iconst 1, 1)) ∧ (decode cX0_asks 5 = .ok (.invokestatic 49, 3)) ∧ (decode cX0_asks 8 = .ok (.ifCond .eq 9, 3)) ∧ (decode cX0_asks 11 = .ok (.aload_n 0, 1)) ∧ (decode cX0_asks 12 = .ok (.bipush 20, 2)) ∧ (decode cX0_asks 14 = .ok (.invokevirtual 45, 3)) ∧ (decode cX0_asks 17 = .ok (.aload_n 0, 1)) ∧ (decode cX0_asks 18 = .ok (.getfield 23, 3)) ∧ (decode cX0_asks 21 = .ok (.iconst 4, 1)) ∧ (decode cX0_asks 22 = .ok (.if_icmp .ne 9, 3)) := have h := dcb_13; ⟨fd_42 h, have h := fd_t1 h; ⟨fd_180 h rfl, have h := fd_t3 h; ⟨fd_4 h, have h := fd_t1 h; ⟨fd_184 h rfl, have h := fd_t3 h; ⟨fd_153 h (by decide +kernel), have h := fd_t3 h; ⟨fd_42 h, have h := fd_t1 h; ⟨fd_16 h (by decide +kernel), have h := fd_t2 h; ⟨fd_182 h rfl, have h := fd_t3 h; ⟨fd_42 h, have h := fd_t1 h; ⟨fd_180 h rfl, have h := fd_t3 h; ⟨fd_7 h, have h := fd_t1 h; fd_160 h (by decide +kernel)⟩⟩⟩⟩⟩⟩⟩⟩⟩⟩⟩
theorem dX0_asks_0 : decode cX0_asks 0 = .ok (.aload_n 0, 1) := dcq_13.1
theorem dX0_asks_1 : decode cX0_asks 1 = .ok (.getfield 23, 3) := dcq_13.2.1
theorem dX0_asks_4 : decode cX0_asks 4 = .ok (.iconst 1, 1) := dcq_13.2.2.1
theorem dX0_asks_5 : decode cX0_asks 5 = .ok (.invokestatic 49, 3) := dcq_13.2.2.2.1
theorem dX0_asks_8 : decode cX0_asks 8 = .ok (.ifCond .eq 9, 3) := dcq_13.2.2.2.2.1
theorem dX0_asks_11 : decode cX0_asks 11 = .ok (.aload_n 0, 1) := dcq_13.2.2.2.2.2.1
theorem dX0_asks_12 : decode cX0_asks 12 = .ok (.bipush 20, 2) := dcq_13.2.2.2.2.2.2.1
theorem dX0_asks_14 : decode cX0_asks 14 = .ok (.invokevirtual 45, 3) := dcq_13.2.2.2.2.2.2.2.1
theorem dX0_asks_17 : decode cX0_asks 17 = .ok (.aload_n 0, 1) := dcq_13.2.2.2.2.2.2.2.2.1
theorem dX0_asks_18 : decode cX0_asks 18 = .ok (.getfield 23, 3) := dcq_13.2.2.2.2.2.2.2.2.2.1
theorem dX0_asks_21 : decode cX0_asks 21 = .ok (.iconst 4, 1) := dcq_13.2.2.2.2.2.2.2.2.2.2.1
theorem dX0_asks_22 : decode cX0_asks 22 = .ok (.if_icmp .ne 9, 3) := dcq_13.2.2.2.2.2.2.2.2.2.2.2
set_option maxRecDepth 20000 in
theorem dcb_14 : fd_B cX0_asks 25 [42, 16, 41, 182, 0, 45, 42, 16, 11, 182, 0, 45, 42, 27, 182, 0, 32, 42, 180, 0, 29, 96] := fd_o cX0_asks 25 _ (by decide +kernel)
theorem dcq_14 : (decode cX0_asks 25 = .ok (.aload_n 0, 1)) ∧ (decode cX0_asks 26 = .ok (.bipush 41, 2)) ∧ (decode cX0_asks 28 = .ok (.invokevirtual 45, 3)) ∧ (decode cX0_asks 31 = .ok (.aload_n 0, 1)) ∧ (decode cX0_asks 32 = .ok (.bipush 11, 2)) ∧ (decode cX0_asks 34 = .ok (.invokevirtual 45, 3)) ∧ (decode cX0_asks 37 = .ok (.aload_n 0, 1)) ∧ (decode cX0_asks 38 = .ok (.iload_n 1, 1)) ∧ (decode cX0_asks 39 = .ok (.invokevirtual 32, 3)) ∧ (decode cX0_asks 42 = .ok (.aload_n 0, 1)) ∧ (decode cX0_asks 43 = .ok (.getfield 29, 3)) ∧ (decode cX0_asks 46 = .ok (.iadd, 1)) := have h := dcb_14; ⟨fd_42 h, have h := fd_t1 h; ⟨fd_16 h (by decide +kernel), have h := fd_t2 h; ⟨fd_182 h rfl, have h := fd_t3 h; ⟨fd_42 h, have h := fd_t1 h; ⟨fd_16 h (by decide +kernel), have h := fd_t2 h; ⟨fd_182 h rfl, have h := fd_t3 h; ⟨fd_42 h, have h := fd_t1 h; ⟨fd_27 h, have h := fd_t1 h; ⟨fd_182 h rfl, have h := fd_t3 h; ⟨fd_42 h, have h := fd_t1 h; ⟨fd_180 h rfl, have h := fd_t3 h; fd_96 h⟩⟩⟩⟩⟩⟩⟩⟩⟩⟩⟩
theorem dX0_asks_25 : decode cX0_asks 25 = .ok (.aload_n 0, 1) := dcq_14.1
theorem dX0_asks_26 : decode cX0_asks 26 = .ok (.bipush 41, 2) := dcq_14.2.1
theorem dX0_asks_28 : decode cX0_asks 28 = .ok (.invokevirtual 45, 3) := dcq_14.2.2.1
theorem dX0_asks_31 : decode cX0_asks 31 = .ok (.aload_n 0, 1) := dcq_14.2.2.2.1
theorem dX0_asks_32 : decode cX0_asks 32 = .ok (.bipush 11, 2) := dcq_14.2.2.2.2.1
theorem dX0_asks_34 : decode cX0_asks 34 = .ok (.invokevirtual 45, 3) := dcq_14.2.2.2.2.2.1
theorem dX0_asks_37 : decode cX0_asks 37 = .ok (.aload_n 0, 1) := dcq_14.2.2.2.2.2.2.1
theorem dX0_asks_38 : decode cX0_asks 38 = .ok (.iload_n 1, 1) := dcq_14.2.2.2.2.2.2.2.1
theorem dX0_asks_39 : decode cX0_asks 39 = .ok (.invokevirtual 32, 3) := dcq_14.2.2.2.2.2.2.2.2.1
theorem dX0_asks_42 : decode cX0_asks 42 = .ok (.aload_n 0, 1) := dcq_14.2.2.2.2.2.2.2.2.2.1
theorem dX0_asks_43 : decode cX0_asks 43 = .ok (.getfield 29, 3) := dcq_14.2.2.2.2.2.2.2.2.2.2.1
theorem dX0_asks_46 : decode cX0_asks 46 = .ok (.iadd, 1) := dcq_14.2.2.2.2.2.2.2.2.2.2.2
set_option maxRecDepth 20000 in
theorem dcb_15 : fd_B cX0_asks 47 [61, 42, 180, 0, 23, 4, 184, 0, 49, 153, 0, 7, 28, 6, 104, 61, 42, 180, 0, 23] := fd_o cX0_asks 47 _ (by decide +kernel)
theorem dcq_15 : (decode cX0_asks 47 = .ok (.istore_n 2, 1)) ∧ (decode cX0_asks 48 = .ok (.aload_n 0, 1)) ∧ (decode cX0_asks 49 = .ok (.getfield 23, 3)) ∧ (decode cX0_asks 52 = .ok (.iconst 1, 1)) ∧ (decode cX0_asks 53 = .ok (.invokestatic 49, 3)) ∧ (decode cX0_asks 56 = .ok (.ifCond .eq 7, 3)) ∧ (decode cX0_asks 59 = .ok (.iload_n 2, 1)) ∧ (decode cX0_asks 60 = .ok (.iconst 3, 1)) ∧ (decode cX0_asks 61 = .ok (.imul, 1)) ∧ (decode cX0_asks 62 = .ok (.istore_n 2, 1)) ∧ (decode cX0_asks 63 = .ok (.aload_n 0, 1)) ∧ (decode cX0_asks 64 = .ok (.getfield 23, 3)) := have h := dcb_15; ⟨fd_61 h, have h := fd_t1 h; ⟨fd_42 h, have h := fd_t1 h; ⟨fd_180 h rfl, have h := fd_t3 h; ⟨fd_4 h, have h := fd_t1 h; ⟨fd_184 h rfl, have h := fd_t3 h; ⟨fd_153 h (by decide +kernel), have h := fd_t3 h; ⟨fd_28 h, have h := fd_t1 h; ⟨fd_6 h, have h := fd_t1 h; ⟨fd_104 h, have h := fd_t1 h; ⟨fd_61 h, have h := fd_t1 h; ⟨fd_42 h, have h := fd_t1 h; fd_180 h rfl⟩⟩⟩⟩⟩⟩⟩⟩⟩⟩⟩
theorem dX0_asks_47 : decode cX0_asks 47 = .ok (.istore_n 2, 1) := dcq_15.1
theorem dX0_asks_48 : decode cX0_asks 48 = .ok (.aload_n 0, 1) := dcq_15.2.1
theorem dX0_asks_49 : decode cX0_asks 49 = .ok (.getfield 23, 3) := dcq_15.2.2.1
theorem dX0_asks_52 : decode cX0_asks 52 = .ok (.iconst 1, 1) := dcq_15.2.2.2.1
theorem dX0_asks_53 : decode cX0_asks 53 = .ok (.invokestatic 49, 3) := dcq_15.2.2.2.2.1
theorem dX0_asks_56 : decode cX0_asks 56 = .ok (.ifCond .eq 7, 3) := dcq_15.2.2.2.2.2.1
theorem dX0_asks_59 : decode cX0_asks 59 = .ok (.iload_n 2, 1) := dcq_15.2.2.2.2.2.2.1
theorem dX0_asks_60 : decode cX0_asks 60 = .ok (.iconst 3, 1) := dcq_15.2.2.2.2.2.2.2.1
theorem dX0_asks_61 : decode cX0_asks 61 = .ok (.imul, 1) := dcq_15.2.2.2.2.2.2.2.2.1
theorem dX0_asks_62 : decode cX0_asks 62 = .ok (.istore_n 2, 1) := dcq_15.2.2.2.2.2.2.2.2.2.1
theorem dX0_asks_63 : decode cX0_asks 63 = .ok (.aload_n 0, 1) := dcq_15.2.2.2.2.2.2.2.2.2.2.1
theorem dX0_asks_64 : decode cX0_asks 64 = .ok (.getfield 23, 3) := dcq_15.2.2.2.2.2.2.2.2.2.2.2
set_option maxRecDepth 20000 in
theorem dcb_16 : fd_B cX0_asks 67 [7, 160, 0, 14, 28, 42, 42, 180, 0, 29, 182, 0, 32, 130, 61, 28, 172] := fd_o cX0_asks 67 _ (by decide +kernel)
theorem dcq_16 : (decode cX0_asks 67 = .ok (.iconst 4, 1)) ∧ (decode cX0_asks 68 = .ok (.if_icmp .ne 14, 3)) ∧ (decode cX0_asks 71 = .ok (.iload_n 2, 1)) ∧ (decode cX0_asks 72 = .ok (.aload_n 0, 1)) ∧ (decode cX0_asks 73 = .ok (.aload_n 0, 1)) ∧ (decode cX0_asks 74 = .ok (.getfield 29, 3)) ∧ (decode cX0_asks 77 = .ok (.invokevirtual 32, 3)) ∧ (decode cX0_asks 80 = .ok (.ixor, 1)) ∧ (decode cX0_asks 81 = .ok (.istore_n 2, 1)) ∧ (decode cX0_asks 82 = .ok (.iload_n 2, 1)) ∧ (decode cX0_asks 83 = .ok (.ireturn, 1)) := have h := dcb_16; ⟨fd_7 h, have h := fd_t1 h; ⟨fd_160 h (by decide +kernel), have h := fd_t3 h; ⟨fd_28 h, have h := fd_t1 h; ⟨fd_42 h, have h := fd_t1 h; ⟨fd_42 h, have h := fd_t1 h; ⟨fd_180 h rfl, have h := fd_t3 h; ⟨fd_182 h rfl, have h := fd_t3 h; ⟨fd_130 h, have h := fd_t1 h; ⟨fd_61 h, have h := fd_t1 h; ⟨fd_28 h, have h := fd_t1 h; fd_172 h⟩⟩⟩⟩⟩⟩⟩⟩⟩⟩
theorem dX0_asks_67 : decode cX0_asks 67 = .ok (.iconst 4, 1) := dcq_16.1
theorem dX0_asks_68 : decode cX0_asks 68 = .ok (.if_icmp .ne 14, 3) := dcq_16.2.1
theorem dX0_asks_71 : decode cX0_asks 71 = .ok (.iload_n 2, 1) := dcq_16.2.2.1
theorem dX0_asks_72 : decode cX0_asks 72 = .ok (.aload_n 0, 1) := dcq_16.2.2.2.1
theorem dX0_asks_73 : decode cX0_asks 73 = .ok (.aload_n 0, 1) := dcq_16.2.2.2.2.1
theorem dX0_asks_74 : decode cX0_asks 74 = .ok (.getfield 29, 3) := dcq_16.2.2.2.2.2.1
theorem dX0_asks_77 : decode cX0_asks 77 = .ok (.invokevirtual 32, 3) := dcq_16.2.2.2.2.2.2.1
theorem dX0_asks_80 : decode cX0_asks 80 = .ok (.ixor, 1) := dcq_16.2.2.2.2.2.2.2.1
theorem dX0_asks_81 : decode cX0_asks 81 = .ok (.istore_n 2, 1) := dcq_16.2.2.2.2.2.2.2.2.1
theorem dX0_asks_82 : decode cX0_asks 82 = .ok (.iload_n 2, 1) := dcq_16.2.2.2.2.2.2.2.2.2.1
theorem dX0_asks_83 : decode cX0_asks 83 = .ok (.ireturn, 1) := dcq_16.2.2.2.2.2.2.2.2.2.2
set_option maxRecDepth 20000 in
theorem dcb_17 : fd_B cX0_parts 0 [42, 180, 0, 23, 6, 160, 0, 9, 42, 16, 50, 182, 0, 45, 42, 180, 0, 23, 8, 160, 0, 9, 42] := fd_o cX0_parts 0 _ (by decide +kernel)
theorem dcq_17 : (decode cX0_parts 0 = .ok (.aload_n 0, 1)) ∧ (decode cX0_parts 1 = .ok (.getfield 23, 3)) ∧ (decode cX0_parts 4 = .ok (.iconst 3, 1)) ∧ (decode cX0_parts 5 = .ok (.if_icmp .ne 9, 3)) ∧ (decode cX0_parts 8 = .ok (.aload_n 0, 1)) ∧ (decode cX0_parts 9 = .ok (.bipush 50, 2)) ∧ (decode cX0_parts 11 = .ok (.invokevirtual 45, 3)) ∧ (decode cX0_parts 14 = .ok (.aload_n 0, 1)) ∧ (decode cX0_parts 15 = .ok (.getfield 23, 3)) ∧ (decode cX0_parts 18 = .ok (.iconst 5, 1)) ∧ (decode cX0_parts 19 = .ok (.if_icmp .ne 9, 3)) ∧ (decode cX0_parts 22 = .ok (.aload_n 0, 1)) := have h := dcb_17; ⟨fd_42 h, have h := fd_t1 h; ⟨fd_180 h rfl, have h := fd_t3 h; ⟨fd_6 h, have h := fd_t1 h; ⟨fd_160 h (by decide +kernel), have h := fd_t3 h; ⟨fd_42 h, have h := fd_t1 h; ⟨fd_16 h (by decide +kernel), have h := fd_t2 h; ⟨fd_182 h rfl, have h := fd_t3 h; ⟨fd_42 h, have h := fd_t1 h; ⟨fd_180 h rfl, have h := fd_t3 h; ⟨fd_8 h, have h := fd_t1 h; ⟨fd_160 h (by decide +kernel), have h := fd_t3 h; fd_42 h⟩⟩⟩⟩⟩⟩⟩⟩⟩⟩⟩
theorem dX0_parts_0 : decode cX0_parts 0 = .ok (.aload_n 0, 1) := dcq_17.1
theorem dX0_parts_1 : decode cX0_parts 1 = .ok (.getfield 23, 3) := dcq_17.2.1
theorem dX0_parts_4 : decode cX0_parts 4 = .ok (.iconst 3, 1) := dcq_17.2.2.1
theorem dX0_parts_5 : decode cX0_parts 5 = .ok (.if_icmp .ne 9, 3) := dcq_17.2.2.2.1
theorem dX0_parts_8 : decode cX0_parts 8 = .ok (.aload_n 0, 1) := dcq_17.2.2.2.2.1
theorem dX0_parts_9 : decode cX0_parts 9 = .ok (.bipush 50, 2) := dcq_17.2.2.2.2.2.1
theorem dX0_parts_11 : decode cX0_parts 11 = .ok (.invokevirtual 45, 3) := dcq_17.2.2.2.2.2.2.1
theorem dX0_parts_14 : decode cX0_parts 14 = .ok (.aload_n 0, 1) := dcq_17.2.2.2.2.2.2.2.1
theorem dX0_parts_15 : decode cX0_parts 15 = .ok (.getfield 23, 3) := dcq_17.2.2.2.2.2.2.2.2.1
theorem dX0_parts_18 : decode cX0_parts 18 = .ok (.iconst 5, 1) := dcq_17.2.2.2.2.2.2.2.2.2.1
theorem dX0_parts_19 : decode cX0_parts 19 = .ok (.if_icmp .ne 9, 3) := dcq_17.2.2.2.2.2.2.2.2.2.2.1
theorem dX0_parts_22 : decode cX0_parts 22 = .ok (.aload_n 0, 1) := dcq_17.2.2.2.2.2.2.2.2.2.2.2
set_option maxRecDepth 20000 in
theorem dcb_18 : fd_B cX0_parts 23 [16, 61, 182, 0, 45, 42, 16, 12, 182, 0, 45, 42, 180, 0, 29, 42, 180, 0, 26, 100, 61, 28] := fd_o cX0_parts 23 _ (by decide +kernel)
theorem dcq_18 : (decode cX0_parts 23 = .ok (.bipush 61, 2)) ∧ (decode cX0_parts 25 = .ok (.invokevirtual 45, 3)) ∧ (decode cX0_parts 28 = .ok (.aload_n 0, 1)) ∧ (decode cX0_parts 29 = .ok (.bipush 12, 2)) ∧ (decode cX0_parts 31 = .ok (.invokevirtual 45, 3)) ∧ (decode cX0_parts 34 = .ok (.aload_n 0, 1)) ∧ (decode cX0_parts 35 = .ok (.getfield 29, 3)) ∧ (decode cX0_parts 38 = .ok (.aload_n 0, 1)) ∧ (decode cX0_parts 39 = .ok (.getfield 26, 3)) ∧ (decode cX0_parts 42 = .ok (.isub, 1)) ∧ (decode cX0_parts 43 = .ok (.istore_n 2, 1)) ∧ (decode cX0_parts 44 = .ok (.iload_n 2, 1)) := have h := dcb_18; ⟨fd_16 h (by decide +kernel), have h := fd_t2 h; ⟨fd_182 h rfl, have h := fd_t3 h; ⟨fd_42 h, have h := fd_t1 h; ⟨fd_16 h (by decide +kernel), have h := fd_t2 h; ⟨fd_182 h rfl, have h := fd_t3 h; ⟨fd_42 h, have h := fd_t1 h; ⟨fd_180 h rfl, have h := fd_t3 h; ⟨fd_42 h, have h := fd_t1 h; ⟨fd_180 h rfl, have h := fd_t3 h; ⟨fd_100 h, have h := fd_t1 h; ⟨fd_61 h, have h := fd_t1 h; fd_28 h⟩⟩⟩⟩⟩⟩⟩⟩⟩⟩⟩
theorem dX0_parts_23 : decode cX0_parts 23 = .ok (.bipush 61, 2) := dcq_18.1
theorem dX0_parts_25 : decode cX0_parts 25 = .ok (.invokevirtual 45, 3) := dcq_18.2.1
theorem dX0_parts_28 : decode cX0_parts 28 = .ok (.aload_n 0, 1) := dcq_18.2.2.1
theorem dX0_parts_29 : decode cX0_parts 29 = .ok (.bipush 12, 2) := dcq_18.2.2.2.1
theorem dX0_parts_31 : decode cX0_parts 31 = .ok (.invokevirtual 45, 3) := dcq_18.2.2.2.2.1
theorem dX0_parts_34 : decode cX0_parts 34 = .ok (.aload_n 0, 1) := dcq_18.2.2.2.2.2.1
theorem dX0_parts_35 : decode cX0_parts 35 = .ok (.getfield 29, 3) := dcq_18.2.2.2.2.2.2.1
theorem dX0_parts_38 : decode cX0_parts 38 = .ok (.aload_n 0, 1) := dcq_18.2.2.2.2.2.2.2.1
theorem dX0_parts_39 : decode cX0_parts 39 = .ok (.getfield 26, 3) := dcq_18.2.2.2.2.2.2.2.2.1
theorem dX0_parts_42 : decode cX0_parts 42 = .ok (.isub, 1) := dcq_18.2.2.2.2.2.2.2.2.2.1
theorem dX0_parts_43 : decode cX0_parts 43 = .ok (.istore_n 2, 1) := dcq_18.2.2.2.2.2.2.2.2.2.2.1
theorem dX0_parts_44 : decode cX0_parts 44 = .ok (.iload_n 2, 1) := dcq_18.2.2.2.2.2.2.2.2.2.2.2
set_option maxRecDepth 20000 in
theorem dcb_19 : fd_B cX0_parts 45 [154, 0, 10, 42, 4, 181, 0, 19, 3, 172, 42, 180, 0, 23, 6, 160, 0, 9, 27, 5] := fd_o cX0_parts 45 _ (by decide +kernel)
theorem dcq_19 : (decode cX0_parts 45 = .ok (.ifCond .ne 10, 3)) ∧ (decode cX0_parts 48 = .ok (.aload_n 0, 1)) ∧ (decode cX0_parts 49 = .ok (.iconst 1, 1)) ∧ (decode cX0_parts 50 = .ok (.putfield 19, 3)) ∧ (decode cX0_parts 53 = .ok (.iconst 0, 1)) ∧ (decode cX0_parts 54 = .ok (.ireturn, 1)) ∧ (decode cX0_parts 55 = .ok (.aload_n 0, 1)) ∧ (decode cX0_parts 56 = .ok (.getfield 23, 3)) ∧ (decode cX0_parts 59 = .ok (.iconst 3, 1)) ∧ (decode cX0_parts 60 = .ok (.if_icmp .ne 9, 3)) ∧ (decode cX0_parts 63 = .ok (.iload_n 1, 1)) ∧ (decode cX0_parts 64 = .ok (.iconst 2, 1)) := have h := dcb_19; ⟨fd_154 h (by decide +kernel), have h := fd_t3 h; ⟨fd_42 h, have h := fd_t1 h; ⟨fd_4 h, have h := fd_t1 h; ⟨fd_181 h rfl, have h := fd_t3 h; ⟨fd_3 h, have h := fd_t1 h; ⟨fd_172 h, have h := fd_t1 h; ⟨fd_42 h, have h := fd_t1 h; ⟨fd_180 h rfl, have h := fd_t3 h; ⟨fd_6 h, have h := fd_t1 h; ⟨fd_160 h (by decide +kernel), have h := fd_t3 h; ⟨fd_27 h, have h := fd_t1 h; fd_5 h⟩⟩⟩⟩⟩⟩⟩⟩⟩⟩⟩
theorem dX0_parts_45 : decode cX0_parts 45 = .ok (.ifCond .ne 10, 3) := dcq_19.1
theorem dX0_parts_48 : decode cX0_parts 48 = .ok (.aload_n 0, 1) := dcq_19.2.1
theorem dX0_parts_49 : decode cX0_parts 49 = .ok (.iconst 1, 1) := dcq_19.2.2.1
theorem dX0_parts_50 : decode cX0_parts 50 = .ok (.putfield 19, 3) := dcq_19.2.2.2.1
theorem dX0_parts_53 : decode cX0_parts 53 = .ok (.iconst 0, 1) := dcq_19.2.2.2.2.1
theorem dX0_parts_54 : decode cX0_parts 54 = .ok (.ireturn, 1) := dcq_19.2.2.2.2.2.1
theorem dX0_parts_55 : decode cX0_parts 55 = .ok (.aload_n 0, 1) := dcq_19.2.2.2.2.2.2.1
theorem dX0_parts_56 : decode cX0_parts 56 = .ok (.getfield 23, 3) := dcq_19.2.2.2.2.2.2.2.1
theorem dX0_parts_59 : decode cX0_parts 59 = .ok (.iconst 3, 1) := dcq_19.2.2.2.2.2.2.2.2.1
theorem dX0_parts_60 : decode cX0_parts 60 = .ok (.if_icmp .ne 9, 3) := dcq_19.2.2.2.2.2.2.2.2.2.1
theorem dX0_parts_63 : decode cX0_parts 63 = .ok (.iload_n 1, 1) := dcq_19.2.2.2.2.2.2.2.2.2.2.1
theorem dX0_parts_64 : decode cX0_parts 64 = .ok (.iconst 2, 1) := dcq_19.2.2.2.2.2.2.2.2.2.2.2
set_option maxRecDepth 20000 in
theorem dcb_20 : fd_B cX0_parts 65 [104, 167, 0, 4, 27, 28, 108, 62, 42, 180, 0, 23, 6, 160, 0, 10, 29, 42] := fd_o cX0_parts 65 _ (by decide +kernel)
theorem dcq_20 : (decode cX0_parts 65 = .ok (.imul, 1)) ∧ (decode cX0_parts 66 = .ok (.goto 4, 3)) ∧ (decode cX0_parts 69 = .ok (.iload_n 1, 1)) ∧ (decode cX0_parts 70 = .ok (.iload_n 2, 1)) ∧ (decode cX0_parts 71 = .ok (.idiv, 1)) ∧ (decode cX0_parts 72 = .ok (.istore_n 3, 1)) ∧ (decode cX0_parts 73 = .ok (.aload_n 0, 1)) ∧ (decode cX0_parts 74 = .ok (.getfield 23, 3)) ∧ (decode cX0_parts 77 = .ok (.iconst 3, 1)) ∧ (decode cX0_parts 78 = .ok (.if_icmp .ne 10, 3)) ∧ (decode cX0_parts 81 = .ok (.iload_n 3, 1)) ∧ (decode cX0_parts 82 = .ok (.aload_n 0, 1)) := have h := dcb_20; ⟨fd_104 h, have h := fd_t1 h; ⟨fd_167 h (by decide +kernel), have h := fd_t3 h; ⟨fd_27 h, have h := fd_t1 h; ⟨fd_28 h, have h := fd_t1 h; ⟨fd_108 h, have h := fd_t1 h; ⟨fd_62 h, have h := fd_t1 h; ⟨fd_42 h, have h := fd_t1 h; ⟨fd_180 h rfl, have h := fd_t3 h; ⟨fd_6 h, have h := fd_t1 h; ⟨fd_160 h (by decide +kernel), have h := fd_t3 h; ⟨fd_29 h, have h := fd_t1 h; fd_42 h⟩⟩⟩⟩⟩⟩⟩⟩⟩⟩⟩
theorem dX0_parts_65 : decode cX0_parts 65 = .ok (.imul, 1) := dcq_20.1
theorem dX0_parts_66 : decode cX0_parts 66 = .ok (.goto 4, 3) := dcq_20.2.1
theorem dX0_parts_69 : decode cX0_parts 69 = .ok (.iload_n 1, 1) := dcq_20.2.2.1
theorem dX0_parts_70 : decode cX0_parts 70 = .ok (.iload_n 2, 1) := dcq_20.2.2.2.1
theorem dX0_parts_71 : decode cX0_parts 71 = .ok (.idiv, 1) := dcq_20.2.2.2.2.1
theorem dX0_parts_72 : decode cX0_parts 72 = .ok (.istore_n 3, 1) := dcq_20.2.2.2.2.2.1
theorem dX0_parts_73 : decode cX0_parts 73 = .ok (.aload_n 0, 1) := dcq_20.2.2.2.2.2.2.1
theorem dX0_parts_74 : decode cX0_parts 74 = .ok (.getfield 23, 3) := dcq_20.2.2.2.2.2.2.2.1
theorem dX0_parts_77 : decode cX0_parts 77 = .ok (.iconst 3, 1) := dcq_20.2.2.2.2.2.2.2.2.1
theorem dX0_parts_78 : decode cX0_parts 78 = .ok (.if_icmp .ne 10, 3) := dcq_20.2.2.2.2.2.2.2.2.2.1
theorem dX0_parts_81 : decode cX0_parts 81 = .ok (.iload_n 3, 1) := dcq_20.2.2.2.2.2.2.2.2.2.2.1
theorem dX0_parts_82 : decode cX0_parts 82 = .ok (.aload_n 0, 1) := dcq_20.2.2.2.2.2.2.2.2.2.2.2
set_option maxRecDepth 20000 in
theorem dcb_21 : fd_B cX0_parts 83 [180, 0, 26, 100, 62, 42, 180, 0, 23, 8, 160, 0, 14, 29, 42, 42, 180, 0, 26, 182, 0, 32] := fd_o cX0_parts 83 _ (by decide +kernel)
theorem dcq_21 : (decode cX0_parts 83 = .ok (.getfield 26, 3)) ∧ (decode cX0_parts 86 = .ok (.isub, 1)) ∧ (decode cX0_parts 87 = .ok (.istore_n 3, 1)) ∧ (decode cX0_parts 88 = .ok (.aload_n 0, 1)) ∧ (decode cX0_parts 89 = .ok (.getfield 23, 3)) ∧ (decode cX0_parts 92 = .ok (.iconst 5, 1)) ∧ (decode cX0_parts 93 = .ok (.if_icmp .ne 14, 3)) ∧ (decode cX0_parts 96 = .ok (.iload_n 3, 1)) ∧ (decode cX0_parts 97 = .ok (.aload_n 0, 1)) ∧ (decode cX0_parts 98 = .ok (.aload_n 0, 1)) ∧ (decode cX0_parts 99 = .ok (.getfield 26, 3)) ∧ (decode cX0_parts 102 = .ok (.invokevirtual 32, 3)) := have h := dcb_21; ⟨fd_180 h rfl, have h := fd_t3 h; ⟨fd_100 h, have h := fd_t1 h; ⟨fd_62 h, have h := fd_t1 h; ⟨fd_42 h, have h := fd_t1 h; ⟨fd_180 h rfl, have h := fd_t3 h; ⟨fd_8 h, have h := fd_t1 h; ⟨fd_160 h (by decide +kernel), have h := fd_t3 h; ⟨fd_29 h, have h := fd_t1 h; ⟨fd_42 h, have h := fd_t1 h; ⟨fd_42 h, have h := fd_t1 h; ⟨fd_180 h rfl, have h := fd_t3 h; fd_182 h rfl⟩⟩⟩⟩⟩⟩⟩⟩⟩⟩⟩
theorem dX0_parts_83 : decode cX0_parts 83 = .ok (.getfield 26, 3) := dcq_21.1
theorem dX0_parts_86 : decode cX0_parts 86 = .ok (.isub, 1) := dcq_21.2.1
theorem dX0_parts_87 : decode cX0_parts 87 = .ok (.istore_n 3, 1) := dcq_21.2.2.1
theorem dX0_parts_88 : decode cX0_parts 88 = .ok (.aload_n 0, 1) := dcq_21.2.2.2.1
theorem dX0_parts_89 : decode cX0_parts 89 = .ok (.getfield 23, 3) := dcq_21.2.2.2.2.1
theorem dX0_parts_92 : decode cX0_parts 92 = .ok (.iconst 5, 1) := dcq_21.2.2.2.2.2.1
theorem dX0_parts_93 : decode cX0_parts 93 = .ok (.if_icmp .ne 14, 3) := dcq_21.2.2.2.2.2.2.1
theorem dX0_parts_96 : decode cX0_parts 96 = .ok (.iload_n 3, 1) := dcq_21.2.2.2.2.2.2.2.1
theorem dX0_parts_97 : decode cX0_parts 97 = .ok (.aload_n 0, 1) := dcq_21.2.2.2.2.2.2.2.2.1
theorem dX0_parts_98 : decode cX0_parts 98 = .ok (.aload_n 0, 1) := dcq_21.2.2.2.2.2.2.2.2.2.1
theorem dX0_parts_99 : decode cX0_parts 99 = .ok (.getfield 26, 3) := dcq_21.2.2.2.2.2.2.2.2.2.2.1
theorem dX0_parts_102 : decode cX0_parts 102 = .ok (.invokevirtual 32, 3) := dcq_21.2.2.2.2.2.2.2.2.2.2.2
set_option maxRecDepth 20000 in
theorem dcb_22 : fd_B cX0_parts 105 [100, 62, 29, 172] := fd_o cX0_parts 105 _ (by decide +kernel)
theorem dcq_22 : (decode cX0_parts 105 = .ok (.isub, 1)) ∧ (decode cX0_parts 106 = .ok (.istore_n 3, 1)) ∧ (decode cX0_parts 107 = .ok (.iload_n 3, 1)) ∧ (decode cX0_parts 108 = .ok (.ireturn, 1)) := have h := dcb_22; ⟨fd_100 h, have h := fd_t1 h; ⟨fd_62 h, have h := fd_t1 h; ⟨fd_29 h, have h := fd_t1 h; fd_172 h⟩⟩⟩
theorem dX0_parts_105 : decode cX0_parts 105 = .ok (.isub, 1) := dcq_22.1
theorem dX0_parts_106 : decode cX0_parts 106 = .ok (.istore_n 3, 1) := dcq_22.2.1
theorem dX0_parts_107 : decode cX0_parts 107 = .ok (.iload_n 3, 1) := dcq_22.2.2.1
theorem dX0_parts_108 : decode cX0_parts 108 = .ok (.ireturn, 1) := dcq_22.2.2.2
set_option maxRecDepth 20000 in
theorem dcb_23 : fd_B cX0_writes 0 [42, 180, 0, 23, 5, 184, 0, 49, 153, 0, 9, 42, 16, 31, 182, 0, 45, 42, 180, 0, 23, 8, 160, 0, 9] := fd_o cX0_writes 0 _ (by decide +kernel)
theorem dcq_23 : (decode cX0_writes 0 = .ok (.aload_n 0, 1)) ∧ (decode cX0_writes 1 = .ok (.getfield 23, 3)) ∧ (decode cX0_writes 4 = .ok (.iconst 2, 1)) ∧ (decode cX0_writes 5 = .ok (.invokestatic 49, 3)) ∧ (decode cX0_writes 8 = .ok (.ifCond .eq 9, 3)) ∧ (decode cX0_writes 11 = .ok (.aload_n 0, 1)) ∧ (decode cX0_writes 12 = .ok (.bipush 31, 2)) ∧ (decode cX0_writes 14 = .ok (.invokevirtual 45, 3)) ∧ (decode cX0_writes 17 = .ok (.aload_n 0, 1)) ∧ (decode cX0_writes 18 = .ok (.getfield 23, 3)) ∧ (decode cX0_writes 21 = .ok (.iconst 5, 1)) ∧ (decode cX0_writes 22 = .ok (.if_icmp .ne 9, 3)) := have h := dcb_23; ⟨fd_42 h, have h := fd_t1 h; ⟨fd_180 h rfl, have h := fd_t3 h; ⟨fd_5 h, have h := fd_t1 h; ⟨fd_184 h rfl, have h := fd_t3 h; ⟨fd_153 h (by decide +kernel), have h := fd_t3 h; ⟨fd_42 h, have h := fd_t1 h; ⟨fd_16 h (by decide +kernel), have h := fd_t2 h; ⟨fd_182 h rfl, have h := fd_t3 h; ⟨fd_42 h, have h := fd_t1 h; ⟨fd_180 h rfl, have h := fd_t3 h; ⟨fd_8 h, have h := fd_t1 h; fd_160 h (by decide +kernel)⟩⟩⟩⟩⟩⟩⟩⟩⟩⟩⟩
theorem dX0_writes_0 : decode cX0_writes 0 = .ok (.aload_n 0, 1) := dcq_23.1
theorem dX0_writes_1 : decode cX0_writes 1 = .ok (.getfield 23, 3) := dcq_23.2.1
theorem dX0_writes_4 : decode cX0_writes 4 = .ok (.iconst 2, 1) := dcq_23.2.2.1
theorem dX0_writes_5 : decode cX0_writes 5 = .ok (.invokestatic 49, 3) := dcq_23.2.2.2.1
theorem dX0_writes_8 : decode cX0_writes 8 = .ok (.ifCond .eq 9, 3) := dcq_23.2.2.2.2.1
theorem dX0_writes_11 : decode cX0_writes 11 = .ok (.aload_n 0, 1) := dcq_23.2.2.2.2.2.1
theorem dX0_writes_12 : decode cX0_writes 12 = .ok (.bipush 31, 2) := dcq_23.2.2.2.2.2.2.1
theorem dX0_writes_14 : decode cX0_writes 14 = .ok (.invokevirtual 45, 3) := dcq_23.2.2.2.2.2.2.2.1
theorem dX0_writes_17 : decode cX0_writes 17 = .ok (.aload_n 0, 1) := dcq_23.2.2.2.2.2.2.2.2.1
theorem dX0_writes_18 : decode cX0_writes 18 = .ok (.getfield 23, 3) := dcq_23.2.2.2.2.2.2.2.2.2.1
theorem dX0_writes_21 : decode cX0_writes 21 = .ok (.iconst 5, 1) := dcq_23.2.2.2.2.2.2.2.2.2.2.1
theorem dX0_writes_22 : decode cX0_writes 22 = .ok (.if_icmp .ne 9, 3) := dcq_23.2.2.2.2.2.2.2.2.2.2.2
set_option maxRecDepth 20000 in
theorem dcb_24 : fd_B cX0_writes 25 [42, 16, 60, 182, 0, 45, 42, 16, 13, 182, 0, 45, 42, 27, 182, 0, 36, 16, 10, 130, 61] := fd_o cX0_writes 25 _ (by decide +kernel)
theorem dcq_24 : (decode cX0_writes 25 = .ok (.aload_n 0, 1)) ∧ (decode cX0_writes 26 = .ok (.bipush 60, 2)) ∧ (decode cX0_writes 28 = .ok (.invokevirtual 45, 3)) ∧ (decode cX0_writes 31 = .ok (.aload_n 0, 1)) ∧ (decode cX0_writes 32 = .ok (.bipush 13, 2)) ∧ (decode cX0_writes 34 = .ok (.invokevirtual 45, 3)) ∧ (decode cX0_writes 37 = .ok (.aload_n 0, 1)) ∧ (decode cX0_writes 38 = .ok (.iload_n 1, 1)) ∧ (decode cX0_writes 39 = .ok (.invokevirtual 36, 3)) ∧ (decode cX0_writes 42 = .ok (.bipush 10, 2)) ∧ (decode cX0_writes 44 = .ok (.ixor, 1)) ∧ (decode cX0_writes 45 = .ok (.istore_n 2, 1)) := have h := dcb_24; ⟨fd_42 h, have h := fd_t1 h; ⟨fd_16 h (by decide +kernel), have h := fd_t2 h; ⟨fd_182 h rfl, have h := fd_t3 h; ⟨fd_42 h, have h := fd_t1 h; ⟨fd_16 h (by decide +kernel), have h := fd_t2 h; ⟨fd_182 h rfl, have h := fd_t3 h; ⟨fd_42 h, have h := fd_t1 h; ⟨fd_27 h, have h := fd_t1 h; ⟨fd_182 h rfl, have h := fd_t3 h; ⟨fd_16 h (by decide +kernel), have h := fd_t2 h; ⟨fd_130 h, have h := fd_t1 h; fd_61 h⟩⟩⟩⟩⟩⟩⟩⟩⟩⟩⟩
theorem dX0_writes_25 : decode cX0_writes 25 = .ok (.aload_n 0, 1) := dcq_24.1
theorem dX0_writes_26 : decode cX0_writes 26 = .ok (.bipush 60, 2) := dcq_24.2.1
theorem dX0_writes_28 : decode cX0_writes 28 = .ok (.invokevirtual 45, 3) := dcq_24.2.2.1
theorem dX0_writes_31 : decode cX0_writes 31 = .ok (.aload_n 0, 1) := dcq_24.2.2.2.1
theorem dX0_writes_32 : decode cX0_writes 32 = .ok (.bipush 13, 2) := dcq_24.2.2.2.2.1
theorem dX0_writes_34 : decode cX0_writes 34 = .ok (.invokevirtual 45, 3) := dcq_24.2.2.2.2.2.1
theorem dX0_writes_37 : decode cX0_writes 37 = .ok (.aload_n 0, 1) := dcq_24.2.2.2.2.2.2.1
theorem dX0_writes_38 : decode cX0_writes 38 = .ok (.iload_n 1, 1) := dcq_24.2.2.2.2.2.2.2.1
theorem dX0_writes_39 : decode cX0_writes 39 = .ok (.invokevirtual 36, 3) := dcq_24.2.2.2.2.2.2.2.2.1
theorem dX0_writes_42 : decode cX0_writes 42 = .ok (.bipush 10, 2) := dcq_24.2.2.2.2.2.2.2.2.2.1
theorem dX0_writes_44 : decode cX0_writes 44 = .ok (.ixor, 1) := dcq_24.2.2.2.2.2.2.2.2.2.2.1
theorem dX0_writes_45 : decode cX0_writes 45 = .ok (.istore_n 2, 1) := dcq_24.2.2.2.2.2.2.2.2.2.2.2
set_option maxRecDepth 20000 in
theorem dcb_25 : fd_B cX0_writes 46 [42, 180, 0, 23, 5, 184, 0, 49, 153, 0, 14, 28, 42, 42, 180, 0, 26, 182, 0, 39, 96, 61] := fd_o cX0_writes 46 _ (by decide +kernel)
theorem dcq_25 : (decode cX0_writes 46 = .ok (.aload_n 0, 1)) ∧ (decode cX0_writes 47 = .ok (.getfield 23, 3)) ∧ (decode cX0_writes 50 = .ok (.iconst 2, 1)) ∧ (decode cX0_writes 51 = .ok (.invokestatic 49, 3)) ∧ (decode cX0_writes 54 = .ok (.ifCond .eq 14, 3)) ∧ (decode cX0_writes 57 = .ok (.iload_n 2, 1)) ∧ (decode cX0_writes 58 = .ok (.aload_n 0, 1)) ∧ (decode cX0_writes 59 = .ok (.aload_n 0, 1)) ∧ (decode cX0_writes 60 = .ok (.getfield 26, 3)) ∧ (decode cX0_writes 63 = .ok (.invokevirtual 39, 3)) ∧ (decode cX0_writes 66 = .ok (.iadd, 1)) ∧ (decode cX0_writes 67 = .ok (.istore_n 2, 1)) := have h := dcb_25; ⟨fd_42 h, have h := fd_t1 h; ⟨fd_180 h rfl, have h := fd_t3 h; ⟨fd_5 h, have h := fd_t1 h; ⟨fd_184 h rfl, have h := fd_t3 h; ⟨fd_153 h (by decide +kernel), have h := fd_t3 h; ⟨fd_28 h, have h := fd_t1 h; ⟨fd_42 h, have h := fd_t1 h; ⟨fd_42 h, have h := fd_t1 h; ⟨fd_180 h rfl, have h := fd_t3 h; ⟨fd_182 h rfl, have h := fd_t3 h; ⟨fd_96 h, have h := fd_t1 h; fd_61 h⟩⟩⟩⟩⟩⟩⟩⟩⟩⟩⟩
theorem dX0_writes_46 : decode cX0_writes 46 = .ok (.aload_n 0, 1) := dcq_25.1
theorem dX0_writes_47 : decode cX0_writes 47 = .ok (.getfield 23, 3) := dcq_25.2.1
theorem dX0_writes_50 : decode cX0_writes 50 = .ok (.iconst 2, 1) := dcq_25.2.2.1
theorem dX0_writes_51 : decode cX0_writes 51 = .ok (.invokestatic 49, 3) := dcq_25.2.2.2.1
theorem dX0_writes_54 : decode cX0_writes 54 = .ok (.ifCond .eq 14, 3) := dcq_25.2.2.2.2.1
theorem dX0_writes_57 : decode cX0_writes 57 = .ok (.iload_n 2, 1) := dcq_25.2.2.2.2.2.1
theorem dX0_writes_58 : decode cX0_writes 58 = .ok (.aload_n 0, 1) := dcq_25.2.2.2.2.2.2.1
theorem dX0_writes_59 : decode cX0_writes 59 = .ok (.aload_n 0, 1) := dcq_25.2.2.2.2.2.2.2.1
theorem dX0_writes_60 : decode cX0_writes 60 = .ok (.getfield 26, 3) := dcq_25.2.2.2.2.2.2.2.2.1
theorem dX0_writes_63 : decode cX0_writes 63 = .ok (.invokevirtual 39, 3) := dcq_25.2.2.2.2.2.2.2.2.2.1
theorem dX0_writes_66 : decode cX0_writes 66 = .ok (.iadd, 1) := dcq_25.2.2.2.2.2.2.2.2.2.2.1
theorem dX0_writes_67 : decode cX0_writes 67 = .ok (.istore_n 2, 1) := dcq_25.2.2.2.2.2.2.2.2.2.2.2
set_option maxRecDepth 20000 in
theorem dcb_26 : fd_B cX0_writes 68 [42, 180, 0, 23, 8, 160, 0, 8, 16, 8, 28, 100, 61, 28, 172] := fd_o cX0_writes 68 _ (by decide +kernel)
theorem dcq_26 : (decode cX0_writes 68 = .ok (.aload_n 0, 1)) ∧ (decode cX0_writes 69 = .ok (.getfield 23, 3)) ∧ (decode cX0_writes 72 = .ok (.iconst 5, 1)) ∧ (decode cX0_writes 73 = .ok (.if_icmp .ne 8, 3)) ∧ (decode cX0_writes 76 = .ok (.bipush 8, 2)) ∧ (decode cX0_writes 78 = .ok (.iload_n 2, 1)) ∧ (decode cX0_writes 79 = .ok (.isub, 1)) ∧ (decode cX0_writes 80 = .ok (.istore_n 2, 1)) ∧ (decode cX0_writes 81 = .ok (.iload_n 2, 1)) ∧ (decode cX0_writes 82 = .ok (.ireturn, 1)) := have h := dcb_26; ⟨fd_42 h, have h := fd_t1 h; ⟨fd_180 h rfl, have h := fd_t3 h; ⟨fd_8 h, have h := fd_t1 h; ⟨fd_160 h (by decide +kernel), have h := fd_t3 h; ⟨fd_16 h (by decide +kernel), have h := fd_t2 h; ⟨fd_28 h, have h := fd_t1 h; ⟨fd_100 h, have h := fd_t1 h; ⟨fd_61 h, have h := fd_t1 h; ⟨fd_28 h, have h := fd_t1 h; fd_172 h⟩⟩⟩⟩⟩⟩⟩⟩⟩
theorem dX0_writes_68 : decode cX0_writes 68 = .ok (.aload_n 0, 1) := dcq_26.1
theorem dX0_writes_69 : decode cX0_writes 69 = .ok (.getfield 23, 3) := dcq_26.2.1
theorem dX0_writes_72 : decode cX0_writes 72 = .ok (.iconst 5, 1) := dcq_26.2.2.1
theorem dX0_writes_73 : decode cX0_writes 73 = .ok (.if_icmp .ne 8, 3) := dcq_26.2.2.2.1
theorem dX0_writes_76 : decode cX0_writes 76 = .ok (.bipush 8, 2) := dcq_26.2.2.2.2.1
theorem dX0_writes_78 : decode cX0_writes 78 = .ok (.iload_n 2, 1) := dcq_26.2.2.2.2.2.1
theorem dX0_writes_79 : decode cX0_writes 79 = .ok (.isub, 1) := dcq_26.2.2.2.2.2.2.1
theorem dX0_writes_80 : decode cX0_writes 80 = .ok (.istore_n 2, 1) := dcq_26.2.2.2.2.2.2.2.1
theorem dX0_writes_81 : decode cX0_writes 81 = .ok (.iload_n 2, 1) := dcq_26.2.2.2.2.2.2.2.2.1
theorem dX0_writes_82 : decode cX0_writes 82 = .ok (.ireturn, 1) := dcq_26.2.2.2.2.2.2.2.2.2
set_option maxRecDepth 20000 in
theorem dcb_27 : fd_B cX1_init 0 [42, 183, 0, 3, 42, 178, 0, 9, 190, 188, 10, 181, 0, 13, 42, 16, 8, 188, 10, 181, 0, 18, 42] := fd_o cX1_init 0 _ (by decide +kernel)
theorem dcq_27 : (decode cX1_init 0 = .ok (.aload_n 0, 1)) ∧ (decode cX1_init 1 = .ok (.invokespecial 3, 3)) ∧ (decode cX1_init 4 = .ok (.aload_n 0, 1)) ∧ (decode cX1_init 5 = .ok (.getstatic 9, 3)) ∧ (decode cX1_init 8 = .ok (.arraylength, 1)) ∧ (decode cX1_init 9 = .ok (.newarray .int, 2)) ∧ (decode cX1_init 11 = .ok (.putfield 13, 3)) ∧ (decode cX1_init 14 = .ok (.aload_n 0, 1)) ∧ (decode cX1_init 15 = .ok (.bipush 8, 2)) ∧ (decode cX1_init 17 = .ok (.newarray .int, 2)) ∧ (decode cX1_init 19 = .ok (.putfield 18, 3)) ∧ (decode cX1_init 22 = .ok (.aload_n 0, 1)) := have h := dcb_27; ⟨fd_42 h, have h := fd_t1 h; ⟨fd_183 h rfl, have h := fd_t3 h; ⟨fd_42 h, have h := fd_t1 h; ⟨fd_178 h rfl, have h := fd_t3 h; ⟨fd_190 h, have h := fd_t1 h; ⟨fd_188_10 h, have h := fd_t2 h; ⟨fd_181 h rfl, have h := fd_t3 h; ⟨fd_42 h, have h := fd_t1 h; ⟨fd_16 h (by decide +kernel), have h := fd_t2 h; ⟨fd_188_10 h, have h := fd_t2 h; ⟨fd_181 h rfl, have h := fd_t3 h; fd_42 h⟩⟩⟩⟩⟩⟩⟩⟩⟩⟩⟩
theorem dX1_init_0 : decode cX1_init 0 = .ok (.aload_n 0, 1) := dcq_27.1
theorem dX1_init_1 : decode cX1_init 1 = .ok (.invokespecial 3, 3) := dcq_27.2.1
theorem dX1_init_4 : decode cX1_init 4 = .ok (.aload_n 0, 1) := dcq_27.2.2.1
theorem dX1_init_5 : decode cX1_init 5 = .ok (.getstatic 9, 3) := dcq_27.2.2.2.1
theorem dX1_init_8 : decode cX1_init 8 = .ok (.arraylength, 1) := dcq_27.2.2.2.2.1
theorem dX1_init_9 : decode cX1_init 9 = .ok (.newarray .int, 2) := dcq_27.2.2.2.2.2.1
theorem dX1_init_11 : decode cX1_init 11 = .ok (.putfield 13, 3) := dcq_27.2.2.2.2.2.2.1
theorem dX1_init_14 : decode cX1_init 14 = .ok (.aload_n 0, 1) := dcq_27.2.2.2.2.2.2.2.1
theorem dX1_init_15 : decode cX1_init 15 = .ok (.bipush 8, 2) := dcq_27.2.2.2.2.2.2.2.2.1
theorem dX1_init_17 : decode cX1_init 17 = .ok (.newarray .int, 2) := dcq_27.2.2.2.2.2.2.2.2.2.1
theorem dX1_init_19 : decode cX1_init 19 = .ok (.putfield 18, 3) := dcq_27.2.2.2.2.2.2.2.2.2.2.1
theorem dX1_init_22 : decode cX1_init 22 = .ok (.aload_n 0, 1) := dcq_27.2.2.2.2.2.2.2.2.2.2.2
set_option maxRecDepth 20000 in
theorem dcb_28 : fd_B cX1_init 23 [16, 8, 188, 10, 181, 0, 21, 42, 16, 8, 188, 10, 181, 0, 24, 42, 16, 8, 188, 10, 181, 0, 27, 42] := fd_o cX1_init 23 _ (by decide +kernel)
theorem dcq_28 : (decode cX1_init 23 = .ok (.bipush 8, 2)) ∧ (decode cX1_init 25 = .ok (.newarray .int, 2)) ∧ (decode cX1_init 27 = .ok (.putfield 21, 3)) ∧ (decode cX1_init 30 = .ok (.aload_n 0, 1)) ∧ (decode cX1_init 31 = .ok (.bipush 8, 2)) ∧ (decode cX1_init 33 = .ok (.newarray .int, 2)) ∧ (decode cX1_init 35 = .ok (.putfield 24, 3)) ∧ (decode cX1_init 38 = .ok (.aload_n 0, 1)) ∧ (decode cX1_init 39 = .ok (.bipush 8, 2)) ∧ (decode cX1_init 41 = .ok (.newarray .int, 2)) ∧ (decode cX1_init 43 = .ok (.putfield 27, 3)) ∧ (decode cX1_init 46 = .ok (.aload_n 0, 1)) := have h := dcb_28; ⟨fd_16 h (by decide +kernel), have h := fd_t2 h; ⟨fd_188_10 h, have h := fd_t2 h; ⟨fd_181 h rfl, have h := fd_t3 h; ⟨fd_42 h, have h := fd_t1 h; ⟨fd_16 h (by decide +kernel), have h := fd_t2 h; ⟨fd_188_10 h, have h := fd_t2 h; ⟨fd_181 h rfl, have h := fd_t3 h; ⟨fd_42 h, have h := fd_t1 h; ⟨fd_16 h (by decide +kernel), have h := fd_t2 h; ⟨fd_188_10 h, have h := fd_t2 h; ⟨fd_181 h rfl, have h := fd_t3 h; fd_42 h⟩⟩⟩⟩⟩⟩⟩⟩⟩⟩⟩
theorem dX1_init_23 : decode cX1_init 23 = .ok (.bipush 8, 2) := dcq_28.1
theorem dX1_init_25 : decode cX1_init 25 = .ok (.newarray .int, 2) := dcq_28.2.1
theorem dX1_init_27 : decode cX1_init 27 = .ok (.putfield 21, 3) := dcq_28.2.2.1
theorem dX1_init_30 : decode cX1_init 30 = .ok (.aload_n 0, 1) := dcq_28.2.2.2.1
theorem dX1_init_31 : decode cX1_init 31 = .ok (.bipush 8, 2) := dcq_28.2.2.2.2.1
theorem dX1_init_33 : decode cX1_init 33 = .ok (.newarray .int, 2) := dcq_28.2.2.2.2.2.1
theorem dX1_init_35 : decode cX1_init 35 = .ok (.putfield 24, 3) := dcq_28.2.2.2.2.2.2.1
theorem dX1_init_38 : decode cX1_init 38 = .ok (.aload_n 0, 1) := dcq_28.2.2.2.2.2.2.2.1
theorem dX1_init_39 : decode cX1_init 39 = .ok (.bipush 8, 2) := dcq_28.2.2.2.2.2.2.2.2.1
theorem dX1_init_41 : decode cX1_init 41 = .ok (.newarray .int, 2) := dcq_28.2.2.2.2.2.2.2.2.2.1
theorem dX1_init_43 : decode cX1_init 43 = .ok (.putfield 27, 3) := dcq_28.2.2.2.2.2.2.2.2.2.2.1
theorem dX1_init_46 : decode cX1_init 46 = .ok (.aload_n 0, 1) := dcq_28.2.2.2.2.2.2.2.2.2.2.2
set_option maxRecDepth 20000 in
theorem dcb_29 : fd_B cX1_init 47 [16, 8, 188, 10, 181, 0, 30, 42, 16, 8, 188, 10, 181, 0, 33, 42, 16, 8, 188, 10, 181, 0, 36, 42] := fd_o cX1_init 47 _ (by decide +kernel)
theorem dcq_29 : (decode cX1_init 47 = .ok (.bipush 8, 2)) ∧ (decode cX1_init 49 = .ok (.newarray .int, 2)) ∧ (decode cX1_init 51 = .ok (.putfield 30, 3)) ∧ (decode cX1_init 54 = .ok (.aload_n 0, 1)) ∧ (decode cX1_init 55 = .ok (.bipush 8, 2)) ∧ (decode cX1_init 57 = .ok (.newarray .int, 2)) ∧ (decode cX1_init 59 = .ok (.putfield 33, 3)) ∧ (decode cX1_init 62 = .ok (.aload_n 0, 1)) ∧ (decode cX1_init 63 = .ok (.bipush 8, 2)) ∧ (decode cX1_init 65 = .ok (.newarray .int, 2)) ∧ (decode cX1_init 67 = .ok (.putfield 36, 3)) ∧ (decode cX1_init 70 = .ok (.aload_n 0, 1)) := have h := dcb_29; ⟨fd_16 h (by decide +kernel), have h := fd_t2 h; ⟨fd_188_10 h, have h := fd_t2 h; ⟨fd_181 h rfl, have h := fd_t3 h; ⟨fd_42 h, have h := fd_t1 h; ⟨fd_16 h (by decide +kernel), have h := fd_t2 h; ⟨fd_188_10 h, have h := fd_t2 h; ⟨fd_181 h rfl, have h := fd_t3 h; ⟨fd_42 h, have h := fd_t1 h; ⟨fd_16 h (by decide +kernel), have h := fd_t2 h; ⟨fd_188_10 h, have h := fd_t2 h; ⟨fd_181 h rfl, have h := fd_t3 h; fd_42 h⟩⟩⟩⟩⟩⟩⟩⟩⟩⟩⟩
theorem dX1_init_47 : decode cX1_init 47 = .ok (.bipush 8, 2) := dcq_29.1
theorem dX1_init_49 : decode cX1_init 49 = .ok (.newarray .int, 2) := dcq_29.2.1
theorem dX1_init_51 : decode cX1_init 51 = .ok (.putfield 30, 3) := dcq_29.2.2.1
theorem dX1_init_54 : decode cX1_init 54 = .ok (.aload_n 0, 1) := dcq_29.2.2.2.1
theorem dX1_init_55 : decode cX1_init 55 = .ok (.bipush 8, 2) := dcq_29.2.2.2.2.1
theorem dX1_init_57 : decode cX1_init 57 = .ok (.newarray .int, 2) := dcq_29.2.2.2.2.2.1
theorem dX1_init_59 : decode cX1_init 59 = .ok (.putfield 33, 3) := dcq_29.2.2.2.2.2.2.1
theorem dX1_init_62 : decode cX1_init 62 = .ok (.aload_n 0, 1) := dcq_29.2.2.2.2.2.2.2.1
theorem dX1_init_63 : decode cX1_init 63 = .ok (.bipush 8, 2) := dcq_29.2.2.2.2.2.2.2.2.1
theorem dX1_init_65 : decode cX1_init 65 = .ok (.newarray .int, 2) := dcq_29.2.2.2.2.2.2.2.2.2.1
theorem dX1_init_67 : decode cX1_init 67 = .ok (.putfield 36, 3) := dcq_29.2.2.2.2.2.2.2.2.2.2.1
theorem dX1_init_70 : decode cX1_init 70 = .ok (.aload_n 0, 1) := dcq_29.2.2.2.2.2.2.2.2.2.2.2
set_option maxRecDepth 20000 in
theorem dcb_30 : fd_B cX1_init 71 [182, 0, 39, 42, 4, 181, 0, 42, 177] := fd_o cX1_init 71 _ (by decide +kernel)
theorem dcq_30 : (decode cX1_init 71 = .ok (.invokevirtual 39, 3)) ∧ (decode cX1_init 74 = .ok (.aload_n 0, 1)) ∧ (decode cX1_init 75 = .ok (.iconst 1, 1)) ∧ (decode cX1_init 76 = .ok (.putfield 42, 3)) ∧ (decode cX1_init 79 = .ok (.return_, 1)) := have h := dcb_30; ⟨fd_182 h rfl, have h := fd_t3 h; ⟨fd_42 h, have h := fd_t1 h; ⟨fd_4 h, have h := fd_t1 h; ⟨fd_181 h rfl, have h := fd_t3 h; fd_177 h⟩⟩⟩⟩
theorem dX1_init_71 : decode cX1_init 71 = .ok (.invokevirtual 39, 3) := dcq_30.1
theorem dX1_init_74 : decode cX1_init 74 = .ok (.aload_n 0, 1) := dcq_30.2.1
theorem dX1_init_75 : decode cX1_init 75 = .ok (.iconst 1, 1) := dcq_30.2.2.1
theorem dX1_init_76 : decode cX1_init 76 = .ok (.putfield 42, 3) := dcq_30.2.2.2.1
theorem dX1_init_79 : decode cX1_init 79 = .ok (.return_, 1) := dcq_30.2.2.2.2
set_option maxRecDepth 20000 in
theorem dcb_31 : fd_B cX1_begin 0 [178, 0, 9, 3, 42, 180, 0, 13, 3, 42, 180, 0, 13, 190, 184, 0, 46, 42, 3, 181, 0, 52] := fd_o cX1_begin 0 _ (by decide +kernel)
theorem dcq_31 : (decode cX1_begin 0 = .ok (.getstatic 9, 3)) ∧ (decode cX1_begin 3 = .ok (.iconst 0, 1)) ∧ (decode cX1_begin 4 = .ok (.aload_n 0, 1)) ∧ (decode cX1_begin 5 = .ok (.getfield 13, 3)) ∧ (decode cX1_begin 8 = .ok (.iconst 0, 1)) ∧ (decode cX1_begin 9 = .ok (.aload_n 0, 1)) ∧ (decode cX1_begin 10 = .ok (.getfield 13, 3)) ∧ (decode cX1_begin 13 = .ok (.arraylength, 1)) ∧ (decode cX1_begin 14 = .ok (.invokestatic 46, 3)) ∧ (decode cX1_begin 17 = .ok (.aload_n 0, 1)) ∧ (decode cX1_begin 18 = .ok (.iconst 0, 1)) ∧ (decode cX1_begin 19 = .ok (.putfield 52, 3)) := have h := dcb_31; ⟨fd_178 h rfl, have h := fd_t3 h; ⟨fd_3 h, have h := fd_t1 h; ⟨fd_42 h, have h := fd_t1 h; ⟨fd_180 h rfl, have h := fd_t3 h; ⟨fd_3 h, have h := fd_t1 h; ⟨fd_42 h, have h := fd_t1 h; ⟨fd_180 h rfl, have h := fd_t3 h; ⟨fd_190 h, have h := fd_t1 h; ⟨fd_184 h rfl, have h := fd_t3 h; ⟨fd_42 h, have h := fd_t1 h; ⟨fd_3 h, have h := fd_t1 h; fd_181 h rfl⟩⟩⟩⟩⟩⟩⟩⟩⟩⟩⟩
theorem dX1_begin_0 : decode cX1_begin 0 = .ok (.getstatic 9, 3) := dcq_31.1
theorem dX1_begin_3 : decode cX1_begin 3 = .ok (.iconst 0, 1) := dcq_31.2.1
theorem dX1_begin_4 : decode cX1_begin 4 = .ok (.aload_n 0, 1) := dcq_31.2.2.1
theorem dX1_begin_5 : decode cX1_begin 5 = .ok (.getfield 13, 3) := dcq_31.2.2.2.1
theorem dX1_begin_8 : decode cX1_begin 8 = .ok (.iconst 0, 1) := dcq_31.2.2.2.2.1
theorem dX1_begin_9 : decode cX1_begin 9 = .ok (.aload_n 0, 1) := dcq_31.2.2.2.2.2.1
theorem dX1_begin_10 : decode cX1_begin 10 = .ok (.getfield 13, 3) := dcq_31.2.2.2.2.2.2.1
theorem dX1_begin_13 : decode cX1_begin 13 = .ok (.arraylength, 1) := dcq_31.2.2.2.2.2.2.2.1
theorem dX1_begin_14 : decode cX1_begin 14 = .ok (.invokestatic 46, 3) := dcq_31.2.2.2.2.2.2.2.2.1
theorem dX1_begin_17 : decode cX1_begin 17 = .ok (.aload_n 0, 1) := dcq_31.2.2.2.2.2.2.2.2.2.1
theorem dX1_begin_18 : decode cX1_begin 18 = .ok (.iconst 0, 1) := dcq_31.2.2.2.2.2.2.2.2.2.2.1
theorem dX1_begin_19 : decode cX1_begin 19 = .ok (.putfield 52, 3) := dcq_31.2.2.2.2.2.2.2.2.2.2.2
set_option maxRecDepth 20000 in
theorem dcb_32 : fd_B cX1_begin 22 [42, 3, 181, 0, 55, 42, 3, 181, 0, 58, 177] := fd_o cX1_begin 22 _ (by decide +kernel)
theorem dcq_32 : (decode cX1_begin 22 = .ok (.aload_n 0, 1)) ∧ (decode cX1_begin 23 = .ok (.iconst 0, 1)) ∧ (decode cX1_begin 24 = .ok (.putfield 55, 3)) ∧ (decode cX1_begin 27 = .ok (.aload_n 0, 1)) ∧ (decode cX1_begin 28 = .ok (.iconst 0, 1)) ∧ (decode cX1_begin 29 = .ok (.putfield 58, 3)) ∧ (decode cX1_begin 32 = .ok (.return_, 1)) := have h := dcb_32; ⟨fd_42 h, have h := fd_t1 h; ⟨fd_3 h, have h := fd_t1 h; ⟨fd_181 h rfl, have h := fd_t3 h; ⟨fd_42 h, have h := fd_t1 h; ⟨fd_3 h, have h := fd_t1 h; ⟨fd_181 h rfl, have h := fd_t3 h; fd_177 h⟩⟩⟩⟩⟩⟩
theorem dX1_begin_22 : decode cX1_begin 22 = .ok (.aload_n 0, 1) := dcq_32.1
theorem dX1_begin_23 : decode cX1_begin 23 = .ok (.iconst 0, 1) := dcq_32.2.1
theorem dX1_begin_24 : decode cX1_begin 24 = .ok (.putfield 55, 3) := dcq_32.2.2.1
theorem dX1_begin_27 : decode cX1_begin 27 = .ok (.aload_n 0, 1) := dcq_32.2.2.2.1
theorem dX1_begin_28 : decode cX1_begin 28 = .ok (.iconst 0, 1) := dcq_32.2.2.2.2.1
theorem dX1_begin_29 : decode cX1_begin 29 = .ok (.putfield 58, 3) := dcq_32.2.2.2.2.2.1
theorem dX1_begin_32 : decode cX1_begin 32 = .ok (.return_, 1) := dcq_32.2.2.2.2.2.2
set_option maxRecDepth 20000 in
theorem dcb_33 : fd_B cX1_become 0 [43, 180, 0, 13, 3, 42, 180, 0, 13, 3, 42, 180, 0, 13, 190, 184, 0, 46, 43, 180, 0, 18] := fd_o cX1_become 0 _ (by decide +kernel)
theorem dcq_33 : (decode cX1_become 0 = .ok (.aload_n 1, 1)) ∧ (decode cX1_become 1 = .ok (.getfield 13, 3)) ∧ (decode cX1_become 4 = .ok (.iconst 0, 1)) ∧ (decode cX1_become 5 = .ok (.aload_n 0, 1)) ∧ (decode cX1_become 6 = .ok (.getfield 13, 3)) ∧ (decode cX1_become 9 = .ok (.iconst 0, 1)) ∧ (decode cX1_become 10 = .ok (.aload_n 0, 1)) ∧ (decode cX1_become 11 = .ok (.getfield 13, 3)) ∧ (decode cX1_become 14 = .ok (.arraylength, 1)) ∧ (decode cX1_become 15 = .ok (.invokestatic 46, 3)) ∧ (decode cX1_become 18 = .ok (.aload_n 1, 1)) ∧ (decode cX1_become 19 = .ok (.getfield 18, 3)) := have h := dcb_33; ⟨fd_43 h, have h := fd_t1 h; ⟨fd_180 h rfl, have h := fd_t3 h; ⟨fd_3 h, have h := fd_t1 h; ⟨fd_42 h, have h := fd_t1 h; ⟨fd_180 h rfl, have h := fd_t3 h; ⟨fd_3 h, have h := fd_t1 h; ⟨fd_42 h, have h := fd_t1 h; ⟨fd_180 h rfl, have h := fd_t3 h; ⟨fd_190 h, have h := fd_t1 h; ⟨fd_184 h rfl, have h := fd_t3 h; ⟨fd_43 h, have h := fd_t1 h; fd_180 h rfl⟩⟩⟩⟩⟩⟩⟩⟩⟩⟩⟩
theorem dX1_become_0 : decode cX1_become 0 = .ok (.aload_n 1, 1) := dcq_33.1
theorem dX1_become_1 : decode cX1_become 1 = .ok (.getfield 13, 3) := dcq_33.2.1
theorem dX1_become_4 : decode cX1_become 4 = .ok (.iconst 0, 1) := dcq_33.2.2.1
theorem dX1_become_5 : decode cX1_become 5 = .ok (.aload_n 0, 1) := dcq_33.2.2.2.1
theorem dX1_become_6 : decode cX1_become 6 = .ok (.getfield 13, 3) := dcq_33.2.2.2.2.1
theorem dX1_become_9 : decode cX1_become 9 = .ok (.iconst 0, 1) := dcq_33.2.2.2.2.2.1
theorem dX1_become_10 : decode cX1_become 10 = .ok (.aload_n 0, 1) := dcq_33.2.2.2.2.2.2.1
theorem dX1_become_11 : decode cX1_become 11 = .ok (.getfield 13, 3) := dcq_33.2.2.2.2.2.2.2.1
theorem dX1_become_14 : decode cX1_become 14 = .ok (.arraylength, 1) := dcq_33.2.2.2.2.2.2.2.2.1
theorem dX1_become_15 : decode cX1_become 15 = .ok (.invokestatic 46, 3) := dcq_33.2.2.2.2.2.2.2.2.2.1
theorem dX1_become_18 : decode cX1_become 18 = .ok (.aload_n 1, 1) := dcq_33.2.2.2.2.2.2.2.2.2.2.1
theorem dX1_become_19 : decode cX1_become 19 = .ok (.getfield 18, 3) := dcq_33.2.2.2.2.2.2.2.2.2.2.2
set_option maxRecDepth 20000 in
theorem dcb_34 : fd_B cX1_become 22 [3, 42, 180, 0, 18, 3, 16, 8, 184, 0, 46, 43, 180, 0, 21, 3, 42, 180, 0, 21, 3] := fd_o cX1_become 22 _ (by decide +kernel)
theorem dcq_34 : (decode cX1_become 22 = .ok (.iconst 0, 1)) ∧ (decode cX1_become 23 = .ok (.aload_n 0, 1)) ∧ (decode cX1_become 24 = .ok (.getfield 18, 3)) ∧ (decode cX1_become 27 = .ok (.iconst 0, 1)) ∧ (decode cX1_become 28 = .ok (.bipush 8, 2)) ∧ (decode cX1_become 30 = .ok (.invokestatic 46, 3)) ∧ (decode cX1_become 33 = .ok (.aload_n 1, 1)) ∧ (decode cX1_become 34 = .ok (.getfield 21, 3)) ∧ (decode cX1_become 37 = .ok (.iconst 0, 1)) ∧ (decode cX1_become 38 = .ok (.aload_n 0, 1)) ∧ (decode cX1_become 39 = .ok (.getfield 21, 3)) ∧ (decode cX1_become 42 = .ok (.iconst 0, 1)) := have h := dcb_34; ⟨fd_3 h, have h := fd_t1 h; ⟨fd_42 h, have h := fd_t1 h; ⟨fd_180 h rfl, have h := fd_t3 h; ⟨fd_3 h, have h := fd_t1 h; ⟨fd_16 h (by decide +kernel), have h := fd_t2 h; ⟨fd_184 h rfl, have h := fd_t3 h; ⟨fd_43 h, have h := fd_t1 h; ⟨fd_180 h rfl, have h := fd_t3 h; ⟨fd_3 h, have h := fd_t1 h; ⟨fd_42 h, have h := fd_t1 h; ⟨fd_180 h rfl, have h := fd_t3 h; fd_3 h⟩⟩⟩⟩⟩⟩⟩⟩⟩⟩⟩
theorem dX1_become_22 : decode cX1_become 22 = .ok (.iconst 0, 1) := dcq_34.1
theorem dX1_become_23 : decode cX1_become 23 = .ok (.aload_n 0, 1) := dcq_34.2.1
theorem dX1_become_24 : decode cX1_become 24 = .ok (.getfield 18, 3) := dcq_34.2.2.1
theorem dX1_become_27 : decode cX1_become 27 = .ok (.iconst 0, 1) := dcq_34.2.2.2.1
theorem dX1_become_28 : decode cX1_become 28 = .ok (.bipush 8, 2) := dcq_34.2.2.2.2.1
theorem dX1_become_30 : decode cX1_become 30 = .ok (.invokestatic 46, 3) := dcq_34.2.2.2.2.2.1
theorem dX1_become_33 : decode cX1_become 33 = .ok (.aload_n 1, 1) := dcq_34.2.2.2.2.2.2.1
theorem dX1_become_34 : decode cX1_become 34 = .ok (.getfield 21, 3) := dcq_34.2.2.2.2.2.2.2.1
theorem dX1_become_37 : decode cX1_become 37 = .ok (.iconst 0, 1) := dcq_34.2.2.2.2.2.2.2.2.1
theorem dX1_become_38 : decode cX1_become 38 = .ok (.aload_n 0, 1) := dcq_34.2.2.2.2.2.2.2.2.2.1
theorem dX1_become_39 : decode cX1_become 39 = .ok (.getfield 21, 3) := dcq_34.2.2.2.2.2.2.2.2.2.2.1
theorem dX1_become_42 : decode cX1_become 42 = .ok (.iconst 0, 1) := dcq_34.2.2.2.2.2.2.2.2.2.2.2
set_option maxRecDepth 20000 in
theorem dcb_35 : fd_B cX1_become 43 [16, 8, 184, 0, 46, 43, 180, 0, 24, 3, 42, 180, 0, 24, 3, 16, 8, 184, 0, 46, 43, 180, 0, 27] := fd_o cX1_become 43 _ (by decide +kernel)
theorem dcq_35 : (decode cX1_become 43 = .ok (.bipush 8, 2)) ∧ (decode cX1_become 45 = .ok (.invokestatic 46, 3)) ∧ (decode cX1_become 48 = .ok (.aload_n 1, 1)) ∧ (decode cX1_become 49 = .ok (.getfield 24, 3)) ∧ (decode cX1_become 52 = .ok (.iconst 0, 1)) ∧ (decode cX1_become 53 = .ok (.aload_n 0, 1)) ∧ (decode cX1_become 54 = .ok (.getfield 24, 3)) ∧ (decode cX1_become 57 = .ok (.iconst 0, 1)) ∧ (decode cX1_become 58 = .ok (.bipush 8, 2)) ∧ (decode cX1_become 60 = .ok (.invokestatic 46, 3)) ∧ (decode cX1_become 63 = .ok (.aload_n 1, 1)) ∧ (decode cX1_become 64 = .ok (.getfield 27, 3)) := have h := dcb_35; ⟨fd_16 h (by decide +kernel), have h := fd_t2 h; ⟨fd_184 h rfl, have h := fd_t3 h; ⟨fd_43 h, have h := fd_t1 h; ⟨fd_180 h rfl, have h := fd_t3 h; ⟨fd_3 h, have h := fd_t1 h; ⟨fd_42 h, have h := fd_t1 h; ⟨fd_180 h rfl, have h := fd_t3 h; ⟨fd_3 h, have h := fd_t1 h; ⟨fd_16 h (by decide +kernel), have h := fd_t2 h; ⟨fd_184 h rfl, have h := fd_t3 h; ⟨fd_43 h, have h := fd_t1 h; fd_180 h rfl⟩⟩⟩⟩⟩⟩⟩⟩⟩⟩⟩
theorem dX1_become_43 : decode cX1_become 43 = .ok (.bipush 8, 2) := dcq_35.1
theorem dX1_become_45 : decode cX1_become 45 = .ok (.invokestatic 46, 3) := dcq_35.2.1
theorem dX1_become_48 : decode cX1_become 48 = .ok (.aload_n 1, 1) := dcq_35.2.2.1
theorem dX1_become_49 : decode cX1_become 49 = .ok (.getfield 24, 3) := dcq_35.2.2.2.1
theorem dX1_become_52 : decode cX1_become 52 = .ok (.iconst 0, 1) := dcq_35.2.2.2.2.1
theorem dX1_become_53 : decode cX1_become 53 = .ok (.aload_n 0, 1) := dcq_35.2.2.2.2.2.1
theorem dX1_become_54 : decode cX1_become 54 = .ok (.getfield 24, 3) := dcq_35.2.2.2.2.2.2.1
theorem dX1_become_57 : decode cX1_become 57 = .ok (.iconst 0, 1) := dcq_35.2.2.2.2.2.2.2.1
theorem dX1_become_58 : decode cX1_become 58 = .ok (.bipush 8, 2) := dcq_35.2.2.2.2.2.2.2.2.1
theorem dX1_become_60 : decode cX1_become 60 = .ok (.invokestatic 46, 3) := dcq_35.2.2.2.2.2.2.2.2.2.1
theorem dX1_become_63 : decode cX1_become 63 = .ok (.aload_n 1, 1) := dcq_35.2.2.2.2.2.2.2.2.2.2.1
theorem dX1_become_64 : decode cX1_become 64 = .ok (.getfield 27, 3) := dcq_35.2.2.2.2.2.2.2.2.2.2.2
set_option maxRecDepth 20000 in
theorem dcb_36 : fd_B cX1_become 67 [3, 42, 180, 0, 27, 3, 16, 8, 184, 0, 46, 43, 180, 0, 30, 3, 42, 180, 0, 30, 3] := fd_o cX1_become 67 _ (by decide +kernel)
theorem dcq_36 : (decode cX1_become 67 = .ok (.iconst 0, 1)) ∧ (decode cX1_become 68 = .ok (.aload_n 0, 1)) ∧ (decode cX1_become 69 = .ok (.getfield 27, 3)) ∧ (decode cX1_become 72 = .ok (.iconst 0, 1)) ∧ (decode cX1_become 73 = .ok (.bipush 8, 2)) ∧ (decode cX1_become 75 = .ok (.invokestatic 46, 3)) ∧ (decode cX1_become 78 = .ok (.aload_n 1, 1)) ∧ (decode cX1_become 79 = .ok (.getfield 30, 3)) ∧ (decode cX1_become 82 = .ok (.iconst 0, 1)) ∧ (decode cX1_become 83 = .ok (.aload_n 0, 1)) ∧ (decode cX1_become 84 = .ok (.getfield 30, 3)) ∧ (decode cX1_become 87 = .ok (.iconst 0, 1)) := have h := dcb_36; ⟨fd_3 h, have h := fd_t1 h; ⟨fd_42 h, have h := fd_t1 h; ⟨fd_180 h rfl, have h := fd_t3 h; ⟨fd_3 h, have h := fd_t1 h; ⟨fd_16 h (by decide +kernel), have h := fd_t2 h; ⟨fd_184 h rfl, have h := fd_t3 h; ⟨fd_43 h, have h := fd_t1 h; ⟨fd_180 h rfl, have h := fd_t3 h; ⟨fd_3 h, have h := fd_t1 h; ⟨fd_42 h, have h := fd_t1 h; ⟨fd_180 h rfl, have h := fd_t3 h; fd_3 h⟩⟩⟩⟩⟩⟩⟩⟩⟩⟩⟩
theorem dX1_become_67 : decode cX1_become 67 = .ok (.iconst 0, 1) := dcq_36.1
theorem dX1_become_68 : decode cX1_become 68 = .ok (.aload_n 0, 1) := dcq_36.2.1
theorem dX1_become_69 : decode cX1_become 69 = .ok (.getfield 27, 3) := dcq_36.2.2.1
theorem dX1_become_72 : decode cX1_become 72 = .ok (.iconst 0, 1) := dcq_36.2.2.2.1
theorem dX1_become_73 : decode cX1_become 73 = .ok (.bipush 8, 2) := dcq_36.2.2.2.2.1
theorem dX1_become_75 : decode cX1_become 75 = .ok (.invokestatic 46, 3) := dcq_36.2.2.2.2.2.1
theorem dX1_become_78 : decode cX1_become 78 = .ok (.aload_n 1, 1) := dcq_36.2.2.2.2.2.2.1
theorem dX1_become_79 : decode cX1_become 79 = .ok (.getfield 30, 3) := dcq_36.2.2.2.2.2.2.2.1
theorem dX1_become_82 : decode cX1_become 82 = .ok (.iconst 0, 1) := dcq_36.2.2.2.2.2.2.2.2.1
theorem dX1_become_83 : decode cX1_become 83 = .ok (.aload_n 0, 1) := dcq_36.2.2.2.2.2.2.2.2.2.1
theorem dX1_become_84 : decode cX1_become 84 = .ok (.getfield 30, 3) := dcq_36.2.2.2.2.2.2.2.2.2.2.1
theorem dX1_become_87 : decode cX1_become 87 = .ok (.iconst 0, 1) := dcq_36.2.2.2.2.2.2.2.2.2.2.2
set_option maxRecDepth 20000 in
theorem dcb_37 : fd_B cX1_become 88 [16, 8, 184, 0, 46, 43, 180, 0, 33, 3, 42, 180, 0, 33, 3, 16, 8, 184, 0, 46, 42, 43] := fd_o cX1_become 88 _ (by decide +kernel)
theorem dcq_37 : (decode cX1_become 88 = .ok (.bipush 8, 2)) ∧ (decode cX1_become 90 = .ok (.invokestatic 46, 3)) ∧ (decode cX1_become 93 = .ok (.aload_n 1, 1)) ∧ (decode cX1_become 94 = .ok (.getfield 33, 3)) ∧ (decode cX1_become 97 = .ok (.iconst 0, 1)) ∧ (decode cX1_become 98 = .ok (.aload_n 0, 1)) ∧ (decode cX1_become 99 = .ok (.getfield 33, 3)) ∧ (decode cX1_become 102 = .ok (.iconst 0, 1)) ∧ (decode cX1_become 103 = .ok (.bipush 8, 2)) ∧ (decode cX1_become 105 = .ok (.invokestatic 46, 3)) ∧ (decode cX1_become 108 = .ok (.aload_n 0, 1)) ∧ (decode cX1_become 109 = .ok (.aload_n 1, 1)) := have h := dcb_37; ⟨fd_16 h (by decide +kernel), have h := fd_t2 h; ⟨fd_184 h rfl, have h := fd_t3 h; ⟨fd_43 h, have h := fd_t1 h; ⟨fd_180 h rfl, have h := fd_t3 h; ⟨fd_3 h, have h := fd_t1 h; ⟨fd_42 h, have h := fd_t1 h; ⟨fd_180 h rfl, have h := fd_t3 h; ⟨fd_3 h, have h := fd_t1 h; ⟨fd_16 h (by decide +kernel), have h := fd_t2 h; ⟨fd_184 h rfl, have h := fd_t3 h; ⟨fd_42 h, have h := fd_t1 h; fd_43 h⟩⟩⟩⟩⟩⟩⟩⟩⟩⟩⟩
theorem dX1_become_88 : decode cX1_become 88 = .ok (.bipush 8, 2) := dcq_37.1
theorem dX1_become_90 : decode cX1_become 90 = .ok (.invokestatic 46, 3) := dcq_37.2.1
theorem dX1_become_93 : decode cX1_become 93 = .ok (.aload_n 1, 1) := dcq_37.2.2.1
theorem dX1_become_94 : decode cX1_become 94 = .ok (.getfield 33, 3) := dcq_37.2.2.2.1
theorem dX1_become_97 : decode cX1_become 97 = .ok (.iconst 0, 1) := dcq_37.2.2.2.2.1
theorem dX1_become_98 : decode cX1_become 98 = .ok (.aload_n 0, 1) := dcq_37.2.2.2.2.2.1
theorem dX1_become_99 : decode cX1_become 99 = .ok (.getfield 33, 3) := dcq_37.2.2.2.2.2.2.1
theorem dX1_become_102 : decode cX1_become 102 = .ok (.iconst 0, 1) := dcq_37.2.2.2.2.2.2.2.1
theorem dX1_become_103 : decode cX1_become 103 = .ok (.bipush 8, 2) := dcq_37.2.2.2.2.2.2.2.2.1
theorem dX1_become_105 : decode cX1_become 105 = .ok (.invokestatic 46, 3) := dcq_37.2.2.2.2.2.2.2.2.2.1
theorem dX1_become_108 : decode cX1_become 108 = .ok (.aload_n 0, 1) := dcq_37.2.2.2.2.2.2.2.2.2.2.1
theorem dX1_become_109 : decode cX1_become 109 = .ok (.aload_n 1, 1) := dcq_37.2.2.2.2.2.2.2.2.2.2.2
set_option maxRecDepth 20000 in
theorem dcb_38 : fd_B cX1_become 110 [180, 0, 52, 181, 0, 52, 42, 43, 180, 0, 55, 181, 0, 55, 42, 43, 180, 0, 58, 181, 0, 58, 42, 43] := fd_o cX1_become 110 _ (by decide +kernel)
theorem dcq_38 : (decode cX1_become 110 = .ok (.getfield 52, 3)) ∧ (decode cX1_become 113 = .ok (.putfield 52, 3)) ∧ (decode cX1_become 116 = .ok (.aload_n 0, 1)) ∧ (decode cX1_become 117 = .ok (.aload_n 1, 1)) ∧ (decode cX1_become 118 = .ok (.getfield 55, 3)) ∧ (decode cX1_become 121 = .ok (.putfield 55, 3)) ∧ (decode cX1_become 124 = .ok (.aload_n 0, 1)) ∧ (decode cX1_become 125 = .ok (.aload_n 1, 1)) ∧ (decode cX1_become 126 = .ok (.getfield 58, 3)) ∧ (decode cX1_become 129 = .ok (.putfield 58, 3)) ∧ (decode cX1_become 132 = .ok (.aload_n 0, 1)) ∧ (decode cX1_become 133 = .ok (.aload_n 1, 1)) := have h := dcb_38; ⟨fd_180 h rfl, have h := fd_t3 h; ⟨fd_181 h rfl, have h := fd_t3 h; ⟨fd_42 h, have h := fd_t1 h; ⟨fd_43 h, have h := fd_t1 h; ⟨fd_180 h rfl, have h := fd_t3 h; ⟨fd_181 h rfl, have h := fd_t3 h; ⟨fd_42 h, have h := fd_t1 h; ⟨fd_43 h, have h := fd_t1 h; ⟨fd_180 h rfl, have h := fd_t3 h; ⟨fd_181 h rfl, have h := fd_t3 h; ⟨fd_42 h, have h := fd_t1 h; fd_43 h⟩⟩⟩⟩⟩⟩⟩⟩⟩⟩⟩
theorem dX1_become_110 : decode cX1_become 110 = .ok (.getfield 52, 3) := dcq_38.1
theorem dX1_become_113 : decode cX1_become 113 = .ok (.putfield 52, 3) := dcq_38.2.1
theorem dX1_become_116 : decode cX1_become 116 = .ok (.aload_n 0, 1) := dcq_38.2.2.1
theorem dX1_become_117 : decode cX1_become 117 = .ok (.aload_n 1, 1) := dcq_38.2.2.2.1
theorem dX1_become_118 : decode cX1_become 118 = .ok (.getfield 55, 3) := dcq_38.2.2.2.2.1
theorem dX1_become_121 : decode cX1_become 121 = .ok (.putfield 55, 3) := dcq_38.2.2.2.2.2.1
theorem dX1_become_124 : decode cX1_become 124 = .ok (.aload_n 0, 1) := dcq_38.2.2.2.2.2.2.1
theorem dX1_become_125 : decode cX1_become 125 = .ok (.aload_n 1, 1) := dcq_38.2.2.2.2.2.2.2.1
theorem dX1_become_126 : decode cX1_become 126 = .ok (.getfield 58, 3) := dcq_38.2.2.2.2.2.2.2.2.1
theorem dX1_become_129 : decode cX1_become 129 = .ok (.putfield 58, 3) := dcq_38.2.2.2.2.2.2.2.2.2.1
theorem dX1_become_132 : decode cX1_become 132 = .ok (.aload_n 0, 1) := dcq_38.2.2.2.2.2.2.2.2.2.2.1
theorem dX1_become_133 : decode cX1_become 133 = .ok (.aload_n 1, 1) := dcq_38.2.2.2.2.2.2.2.2.2.2.2
set_option maxRecDepth 20000 in
theorem dcb_39 : fd_B cX1_become 134 [180, 0, 42, 181, 0, 42, 177] := fd_o cX1_become 134 _ (by decide +kernel)
theorem dcq_39 : (decode cX1_become 134 = .ok (.getfield 42, 3)) ∧ (decode cX1_become 137 = .ok (.putfield 42, 3)) ∧ (decode cX1_become 140 = .ok (.return_, 1)) := have h := dcb_39; ⟨fd_180 h rfl, have h := fd_t3 h; ⟨fd_181 h rfl, have h := fd_t3 h; fd_177 h⟩⟩
theorem dX1_become_134 : decode cX1_become 134 = .ok (.getfield 42, 3) := dcq_39.1
theorem dX1_become_137 : decode cX1_become 137 = .ok (.putfield 42, 3) := dcq_39.2.1
theorem dX1_become_140 : decode cX1_become 140 = .ok (.return_, 1) := dcq_39.2.2
set_option maxRecDepth 20000 in
theorem dcb_40 : fd_B cX1_add 0 [42, 180, 0, 18, 42, 180, 0, 52, 27, 79, 42, 180, 0, 21, 42, 180, 0, 52, 28, 79] := fd_o cX1_add 0 _ (by decide +kernel)
theorem dcq_40 : (decode cX1_add 0 = .ok (.aload_n 0, 1)) ∧ (decode cX1_add 1 = .ok (.getfield 18, 3)) ∧ (decode cX1_add 4 = .ok (.aload_n 0, 1)) ∧ (decode cX1_add 5 = .ok (.getfield 52, 3)) ∧ (decode cX1_add 8 = .ok (.iload_n 1, 1)) ∧ (decode cX1_add 9 = .ok (.iastore, 1)) ∧ (decode cX1_add 10 = .ok (.aload_n 0, 1)) ∧ (decode cX1_add 11 = .ok (.getfield 21, 3)) ∧ (decode cX1_add 14 = .ok (.aload_n 0, 1)) ∧ (decode cX1_add 15 = .ok (.getfield 52, 3)) ∧ (decode cX1_add 18 = .ok (.iload_n 2, 1)) ∧ (decode cX1_add 19 = .ok (.iastore, 1)) := have h := dcb_40; ⟨fd_42 h, have h := fd_t1 h; ⟨fd_180 h rfl, have h := fd_t3 h; ⟨fd_42 h, have h := fd_t1 h; ⟨fd_180 h rfl, have h := fd_t3 h; ⟨fd_27 h, have h := fd_t1 h; ⟨fd_79 h, have h := fd_t1 h; ⟨fd_42 h, have h := fd_t1 h; ⟨fd_180 h rfl, have h := fd_t3 h; ⟨fd_42 h, have h := fd_t1 h; ⟨fd_180 h rfl, have h := fd_t3 h; ⟨fd_28 h, have h := fd_t1 h; fd_79 h⟩⟩⟩⟩⟩⟩⟩⟩⟩⟩⟩
theorem dX1_add_0 : decode cX1_add 0 = .ok (.aload_n 0, 1) := dcq_40.1
theorem dX1_add_1 : decode cX1_add 1 = .ok (.getfield 18, 3) := dcq_40.2.1
theorem dX1_add_4 : decode cX1_add 4 = .ok (.aload_n 0, 1) := dcq_40.2.2.1
theorem dX1_add_5 : decode cX1_add 5 = .ok (.getfield 52, 3) := dcq_40.2.2.2.1
theorem dX1_add_8 : decode cX1_add 8 = .ok (.iload_n 1, 1) := dcq_40.2.2.2.2.1
theorem dX1_add_9 : decode cX1_add 9 = .ok (.iastore, 1) := dcq_40.2.2.2.2.2.1
theorem dX1_add_10 : decode cX1_add 10 = .ok (.aload_n 0, 1) := dcq_40.2.2.2.2.2.2.1
theorem dX1_add_11 : decode cX1_add 11 = .ok (.getfield 21, 3) := dcq_40.2.2.2.2.2.2.2.1
theorem dX1_add_14 : decode cX1_add 14 = .ok (.aload_n 0, 1) := dcq_40.2.2.2.2.2.2.2.2.1
theorem dX1_add_15 : decode cX1_add 15 = .ok (.getfield 52, 3) := dcq_40.2.2.2.2.2.2.2.2.2.1
theorem dX1_add_18 : decode cX1_add 18 = .ok (.iload_n 2, 1) := dcq_40.2.2.2.2.2.2.2.2.2.2.1
theorem dX1_add_19 : decode cX1_add 19 = .ok (.iastore, 1) := dcq_40.2.2.2.2.2.2.2.2.2.2.2
set_option maxRecDepth 20000 in
theorem dcb_41 : fd_B cX1_add 20 [42, 180, 0, 24, 42, 180, 0, 52, 29, 79, 42, 180, 0, 27, 42, 180, 0, 52, 21, 4, 79] := fd_o cX1_add 20 _ (by decide +kernel)
theorem dcq_41 : (decode cX1_add 20 = .ok (.aload_n 0, 1)) ∧ (decode cX1_add 21 = .ok (.getfield 24, 3)) ∧ (decode cX1_add 24 = .ok (.aload_n 0, 1)) ∧ (decode cX1_add 25 = .ok (.getfield 52, 3)) ∧ (decode cX1_add 28 = .ok (.iload_n 3, 1)) ∧ (decode cX1_add 29 = .ok (.iastore, 1)) ∧ (decode cX1_add 30 = .ok (.aload_n 0, 1)) ∧ (decode cX1_add 31 = .ok (.getfield 27, 3)) ∧ (decode cX1_add 34 = .ok (.aload_n 0, 1)) ∧ (decode cX1_add 35 = .ok (.getfield 52, 3)) ∧ (decode cX1_add 38 = .ok (.iload 4, 2)) ∧ (decode cX1_add 40 = .ok (.iastore, 1)) := have h := dcb_41; ⟨fd_42 h, have h := fd_t1 h; ⟨fd_180 h rfl, have h := fd_t3 h; ⟨fd_42 h, have h := fd_t1 h; ⟨fd_180 h rfl, have h := fd_t3 h; ⟨fd_29 h, have h := fd_t1 h; ⟨fd_79 h, have h := fd_t1 h; ⟨fd_42 h, have h := fd_t1 h; ⟨fd_180 h rfl, have h := fd_t3 h; ⟨fd_42 h, have h := fd_t1 h; ⟨fd_180 h rfl, have h := fd_t3 h; ⟨fd_21 h rfl, have h := fd_t2 h; fd_79 h⟩⟩⟩⟩⟩⟩⟩⟩⟩⟩⟩
theorem dX1_add_20 : decode cX1_add 20 = .ok (.aload_n 0, 1) := dcq_41.1
theorem dX1_add_21 : decode cX1_add 21 = .ok (.getfield 24, 3) := dcq_41.2.1
theorem dX1_add_24 : decode cX1_add 24 = .ok (.aload_n 0, 1) := dcq_41.2.2.1
theorem dX1_add_25 : decode cX1_add 25 = .ok (.getfield 52, 3) := dcq_41.2.2.2.1
theorem dX1_add_28 : decode cX1_add 28 = .ok (.iload_n 3, 1) := dcq_41.2.2.2.2.1
theorem dX1_add_29 : decode cX1_add 29 = .ok (.iastore, 1) := dcq_41.2.2.2.2.2.1
theorem dX1_add_30 : decode cX1_add 30 = .ok (.aload_n 0, 1) := dcq_41.2.2.2.2.2.2.1
theorem dX1_add_31 : decode cX1_add 31 = .ok (.getfield 27, 3) := dcq_41.2.2.2.2.2.2.2.1
theorem dX1_add_34 : decode cX1_add 34 = .ok (.aload_n 0, 1) := dcq_41.2.2.2.2.2.2.2.2.1
theorem dX1_add_35 : decode cX1_add 35 = .ok (.getfield 52, 3) := dcq_41.2.2.2.2.2.2.2.2.2.1
theorem dX1_add_38 : decode cX1_add 38 = .ok (.iload 4, 2) := dcq_41.2.2.2.2.2.2.2.2.2.2.1
theorem dX1_add_40 : decode cX1_add 40 = .ok (.iastore, 1) := dcq_41.2.2.2.2.2.2.2.2.2.2.2
set_option maxRecDepth 20000 in
theorem dcb_42 : fd_B cX1_add 41 [42, 180, 0, 30, 42, 180, 0, 52, 3, 79, 42, 180, 0, 33, 42, 180, 0, 52, 3, 79] := fd_o cX1_add 41 _ (by decide +kernel)
theorem dcq_42 : (decode cX1_add 41 = .ok (.aload_n 0, 1)) ∧ (decode cX1_add 42 = .ok (.getfield 30, 3)) ∧ (decode cX1_add 45 = .ok (.aload_n 0, 1)) ∧ (decode cX1_add 46 = .ok (.getfield 52, 3)) ∧ (decode cX1_add 49 = .ok (.iconst 0, 1)) ∧ (decode cX1_add 50 = .ok (.iastore, 1)) ∧ (decode cX1_add 51 = .ok (.aload_n 0, 1)) ∧ (decode cX1_add 52 = .ok (.getfield 33, 3)) ∧ (decode cX1_add 55 = .ok (.aload_n 0, 1)) ∧ (decode cX1_add 56 = .ok (.getfield 52, 3)) ∧ (decode cX1_add 59 = .ok (.iconst 0, 1)) ∧ (decode cX1_add 60 = .ok (.iastore, 1)) := have h := dcb_42; ⟨fd_42 h, have h := fd_t1 h; ⟨fd_180 h rfl, have h := fd_t3 h; ⟨fd_42 h, have h := fd_t1 h; ⟨fd_180 h rfl, have h := fd_t3 h; ⟨fd_3 h, have h := fd_t1 h; ⟨fd_79 h, have h := fd_t1 h; ⟨fd_42 h, have h := fd_t1 h; ⟨fd_180 h rfl, have h := fd_t3 h; ⟨fd_42 h, have h := fd_t1 h; ⟨fd_180 h rfl, have h := fd_t3 h; ⟨fd_3 h, have h := fd_t1 h; fd_79 h⟩⟩⟩⟩⟩⟩⟩⟩⟩⟩⟩
theorem dX1_add_41 : decode cX1_add 41 = .ok (.aload_n 0, 1) := dcq_42.1
theorem dX1_add_42 : decode cX1_add 42 = .ok (.getfield 30, 3) := dcq_42.2.1
theorem dX1_add_45 : decode cX1_add 45 = .ok (.aload_n 0, 1) := dcq_42.2.2.1
theorem dX1_add_46 : decode cX1_add 46 = .ok (.getfield 52, 3) := dcq_42.2.2.2.1
theorem dX1_add_49 : decode cX1_add 49 = .ok (.iconst 0, 1) := dcq_42.2.2.2.2.1
theorem dX1_add_50 : decode cX1_add 50 = .ok (.iastore, 1) := dcq_42.2.2.2.2.2.1
theorem dX1_add_51 : decode cX1_add 51 = .ok (.aload_n 0, 1) := dcq_42.2.2.2.2.2.2.1
theorem dX1_add_52 : decode cX1_add 52 = .ok (.getfield 33, 3) := dcq_42.2.2.2.2.2.2.2.1
theorem dX1_add_55 : decode cX1_add 55 = .ok (.aload_n 0, 1) := dcq_42.2.2.2.2.2.2.2.2.1
theorem dX1_add_56 : decode cX1_add 56 = .ok (.getfield 52, 3) := dcq_42.2.2.2.2.2.2.2.2.2.1
theorem dX1_add_59 : decode cX1_add 59 = .ok (.iconst 0, 1) := dcq_42.2.2.2.2.2.2.2.2.2.2.1
theorem dX1_add_60 : decode cX1_add 60 = .ok (.iastore, 1) := dcq_42.2.2.2.2.2.2.2.2.2.2.2
set_option maxRecDepth 20000 in
theorem dcb_43 : fd_B cX1_add 61 [42, 89, 180, 0, 52, 4, 96, 181, 0, 52, 177] := fd_o cX1_add 61 _ (by decide +kernel)
theorem dcq_43 : (decode cX1_add 61 = .ok (.aload_n 0, 1)) ∧ (decode cX1_add 62 = .ok (.dup, 1)) ∧ (decode cX1_add 63 = .ok (.getfield 52, 3)) ∧ (decode cX1_add 66 = .ok (.iconst 1, 1)) ∧ (decode cX1_add 67 = .ok (.iadd, 1)) ∧ (decode cX1_add 68 = .ok (.putfield 52, 3)) ∧ (decode cX1_add 71 = .ok (.return_, 1)) := have h := dcb_43; ⟨fd_42 h, have h := fd_t1 h; ⟨fd_89 h, have h := fd_t1 h; ⟨fd_180 h rfl, have h := fd_t3 h; ⟨fd_4 h, have h := fd_t1 h; ⟨fd_96 h, have h := fd_t1 h; ⟨fd_181 h rfl, have h := fd_t3 h; fd_177 h⟩⟩⟩⟩⟩⟩
theorem dX1_add_61 : decode cX1_add 61 = .ok (.aload_n 0, 1) := dcq_43.1
theorem dX1_add_62 : decode cX1_add 62 = .ok (.dup, 1) := dcq_43.2.1
theorem dX1_add_63 : decode cX1_add 63 = .ok (.getfield 52, 3) := dcq_43.2.2.1
theorem dX1_add_66 : decode cX1_add 66 = .ok (.iconst 1, 1) := dcq_43.2.2.2.1
theorem dX1_add_67 : decode cX1_add 67 = .ok (.iadd, 1) := dcq_43.2.2.2.2.1
theorem dX1_add_68 : decode cX1_add 68 = .ok (.putfield 52, 3) := dcq_43.2.2.2.2.2.1
theorem dX1_add_71 : decode cX1_add 71 = .ok (.return_, 1) := dcq_43.2.2.2.2.2.2
set_option maxRecDepth 20000 in
theorem dcb_44 : fd_B cX1_has 0 [27, 3, 42, 180, 0, 52, 4, 100, 184, 0, 61, 172] := fd_o cX1_has 0 _ (by decide +kernel)
theorem dcq_44 : (decode cX1_has 0 = .ok (.iload_n 1, 1)) ∧ (decode cX1_has 1 = .ok (.iconst 0, 1)) ∧ (decode cX1_has 2 = .ok (.aload_n 0, 1)) ∧ (decode cX1_has 3 = .ok (.getfield 52, 3)) ∧ (decode cX1_has 6 = .ok (.iconst 1, 1)) ∧ (decode cX1_has 7 = .ok (.isub, 1)) ∧ (decode cX1_has 8 = .ok (.invokestatic 61, 3)) ∧ (decode cX1_has 11 = .ok (.ireturn, 1)) := have h := dcb_44; ⟨fd_27 h, have h := fd_t1 h; ⟨fd_3 h, have h := fd_t1 h; ⟨fd_42 h, have h := fd_t1 h; ⟨fd_180 h rfl, have h := fd_t3 h; ⟨fd_4 h, have h := fd_t1 h; ⟨fd_100 h, have h := fd_t1 h; ⟨fd_184 h rfl, have h := fd_t3 h; fd_172 h⟩⟩⟩⟩⟩⟩⟩
theorem dX1_has_0 : decode cX1_has 0 = .ok (.iload_n 1, 1) := dcq_44.1
theorem dX1_has_1 : decode cX1_has 1 = .ok (.iconst 0, 1) := dcq_44.2.1
theorem dX1_has_2 : decode cX1_has 2 = .ok (.aload_n 0, 1) := dcq_44.2.2.1
theorem dX1_has_3 : decode cX1_has 3 = .ok (.getfield 52, 3) := dcq_44.2.2.2.1
theorem dX1_has_6 : decode cX1_has 6 = .ok (.iconst 1, 1) := dcq_44.2.2.2.2.1
theorem dX1_has_7 : decode cX1_has 7 = .ok (.isub, 1) := dcq_44.2.2.2.2.2.1
theorem dX1_has_8 : decode cX1_has 8 = .ok (.invokestatic 61, 3) := dcq_44.2.2.2.2.2.2.1
theorem dX1_has_11 : decode cX1_has 11 = .ok (.ireturn, 1) := dcq_44.2.2.2.2.2.2.2
set_option maxRecDepth 20000 in
theorem dcb_45 : fd_B cX1_sumOf 0 [3, 61, 3, 62, 29, 42, 180, 0, 52, 162, 0, 15, 28, 43, 29, 46] := fd_o cX1_sumOf 0 _ (by decide +kernel)
theorem dcq_45 : (decode cX1_sumOf 0 = .ok (.iconst 0, 1)) ∧ (decode cX1_sumOf 1 = .ok (.istore_n 2, 1)) ∧ (decode cX1_sumOf 2 = .ok (.iconst 0, 1)) ∧ (decode cX1_sumOf 3 = .ok (.istore_n 3, 1)) ∧ (decode cX1_sumOf 4 = .ok (.iload_n 3, 1)) ∧ (decode cX1_sumOf 5 = .ok (.aload_n 0, 1)) ∧ (decode cX1_sumOf 6 = .ok (.getfield 52, 3)) ∧ (decode cX1_sumOf 9 = .ok (.if_icmp .ge 15, 3)) ∧ (decode cX1_sumOf 12 = .ok (.iload_n 2, 1)) ∧ (decode cX1_sumOf 13 = .ok (.aload_n 1, 1)) ∧ (decode cX1_sumOf 14 = .ok (.iload_n 3, 1)) ∧ (decode cX1_sumOf 15 = .ok (.iaload, 1)) := have h := dcb_45; ⟨fd_3 h, have h := fd_t1 h; ⟨fd_61 h, have h := fd_t1 h; ⟨fd_3 h, have h := fd_t1 h; ⟨fd_62 h, have h := fd_t1 h; ⟨fd_29 h, have h := fd_t1 h; ⟨fd_42 h, have h := fd_t1 h; ⟨fd_180 h rfl, have h := fd_t3 h; ⟨fd_162 h (by decide +kernel), have h := fd_t3 h; ⟨fd_28 h, have h := fd_t1 h; ⟨fd_43 h, have h := fd_t1 h; ⟨fd_29 h, have h := fd_t1 h; fd_46 h⟩⟩⟩⟩⟩⟩⟩⟩⟩⟩⟩
theorem dX1_sumOf_0 : decode cX1_sumOf 0 = .ok (.iconst 0, 1) := dcq_45.1
theorem dX1_sumOf_1 : decode cX1_sumOf 1 = .ok (.istore_n 2, 1) := dcq_45.2.1
theorem dX1_sumOf_2 : decode cX1_sumOf 2 = .ok (.iconst 0, 1) := dcq_45.2.2.1
theorem dX1_sumOf_3 : decode cX1_sumOf 3 = .ok (.istore_n 3, 1) := dcq_45.2.2.2.1
theorem dX1_sumOf_4 : decode cX1_sumOf 4 = .ok (.iload_n 3, 1) := dcq_45.2.2.2.2.1
theorem dX1_sumOf_5 : decode cX1_sumOf 5 = .ok (.aload_n 0, 1) := dcq_45.2.2.2.2.2.1
theorem dX1_sumOf_6 : decode cX1_sumOf 6 = .ok (.getfield 52, 3) := dcq_45.2.2.2.2.2.2.1
theorem dX1_sumOf_9 : decode cX1_sumOf 9 = .ok (.if_icmp .ge 15, 3) := dcq_45.2.2.2.2.2.2.2.1
theorem dX1_sumOf_12 : decode cX1_sumOf 12 = .ok (.iload_n 2, 1) := dcq_45.2.2.2.2.2.2.2.2.1
theorem dX1_sumOf_13 : decode cX1_sumOf 13 = .ok (.aload_n 1, 1) := dcq_45.2.2.2.2.2.2.2.2.2.1
theorem dX1_sumOf_14 : decode cX1_sumOf 14 = .ok (.iload_n 3, 1) := dcq_45.2.2.2.2.2.2.2.2.2.2.1
theorem dX1_sumOf_15 : decode cX1_sumOf 15 = .ok (.iaload, 1) := dcq_45.2.2.2.2.2.2.2.2.2.2.2
set_option maxRecDepth 20000 in
theorem dcb_46 : fd_B cX1_sumOf 16 [96, 61, 132, 3, 1, 167, 255, 239, 28, 172] := fd_o cX1_sumOf 16 _ (by decide +kernel)
theorem dcq_46 : (decode cX1_sumOf 16 = .ok (.iadd, 1)) ∧ (decode cX1_sumOf 17 = .ok (.istore_n 2, 1)) ∧ (decode cX1_sumOf 18 = .ok (.iinc 3 1, 3)) ∧ (decode cX1_sumOf 21 = .ok (.goto (-17), 3)) ∧ (decode cX1_sumOf 24 = .ok (.iload_n 2, 1)) ∧ (decode cX1_sumOf 25 = .ok (.ireturn, 1)) := have h := dcb_46; ⟨fd_96 h, have h := fd_t1 h; ⟨fd_61 h, have h := fd_t1 h; ⟨fd_132 h rfl (by decide +kernel), have h := fd_t3 h; ⟨fd_167 h (by decide +kernel), have h := fd_t3 h; ⟨fd_28 h, have h := fd_t1 h; fd_172 h⟩⟩⟩⟩⟩
theorem dX1_sumOf_16 : decode cX1_sumOf 16 = .ok (.iadd, 1) := dcq_46.1
theorem dX1_sumOf_17 : decode cX1_sumOf 17 = .ok (.istore_n 2, 1) := dcq_46.2.1
theorem dX1_sumOf_18 : decode cX1_sumOf 18 = .ok (.iinc 3 1, 3) := dcq_46.2.2.1
theorem dX1_sumOf_21 : decode cX1_sumOf 21 = .ok (.goto (-17), 3) := dcq_46.2.2.2.1
theorem dX1_sumOf_24 : decode cX1_sumOf 24 = .ok (.iload_n 2, 1) := dcq_46.2.2.2.2.1
theorem dX1_sumOf_25 : decode cX1_sumOf 25 = .ok (.ireturn, 1) := dcq_46.2.2.2.2.2
set_option maxRecDepth 20000 in
theorem dcb_47 : fd_B cX1_countOf 0 [3, 61, 3, 62, 29, 42, 180, 0, 52, 162, 0, 18, 43, 29, 46, 158, 0, 6] := fd_o cX1_countOf 0 _ (by decide +kernel)
theorem dcq_47 : (decode cX1_countOf 0 = .ok (.iconst 0, 1)) ∧ (decode cX1_countOf 1 = .ok (.istore_n 2, 1)) ∧ (decode cX1_countOf 2 = .ok (.iconst 0, 1)) ∧ (decode cX1_countOf 3 = .ok (.istore_n 3, 1)) ∧ (decode cX1_countOf 4 = .ok (.iload_n 3, 1)) ∧ (decode cX1_countOf 5 = .ok (.aload_n 0, 1)) ∧ (decode cX1_countOf 6 = .ok (.getfield 52, 3)) ∧ (decode cX1_countOf 9 = .ok (.if_icmp .ge 18, 3)) ∧ (decode cX1_countOf 12 = .ok (.aload_n 1, 1)) ∧ (decode cX1_countOf 13 = .ok (.iload_n 3, 1)) ∧ (decode cX1_countOf 14 = .ok (.iaload, 1)) ∧ (decode cX1_countOf 15 = .ok (.ifCond .le 6, 3)) := have h := dcb_47; ⟨fd_3 h, have h := fd_t1 h; ⟨fd_61 h, have h := fd_t1 h; ⟨fd_3 h, have h := fd_t1 h; ⟨fd_62 h, have h := fd_t1 h; ⟨fd_29 h, have h := fd_t1 h; ⟨fd_42 h, have h := fd_t1 h; ⟨fd_180 h rfl, have h := fd_t3 h; ⟨fd_162 h (by decide +kernel), have h := fd_t3 h; ⟨fd_43 h, have h := fd_t1 h; ⟨fd_29 h, have h := fd_t1 h; ⟨fd_46 h, have h := fd_t1 h; fd_158 h (by decide +kernel)⟩⟩⟩⟩⟩⟩⟩⟩⟩⟩⟩
theorem dX1_countOf_0 : decode cX1_countOf 0 = .ok (.iconst 0, 1) := dcq_47.1
theorem dX1_countOf_1 : decode cX1_countOf 1 = .ok (.istore_n 2, 1) := dcq_47.2.1
theorem dX1_countOf_2 : decode cX1_countOf 2 = .ok (.iconst 0, 1) := dcq_47.2.2.1
theorem dX1_countOf_3 : decode cX1_countOf 3 = .ok (.istore_n 3, 1) := dcq_47.2.2.2.1
theorem dX1_countOf_4 : decode cX1_countOf 4 = .ok (.iload_n 3, 1) := dcq_47.2.2.2.2.1
theorem dX1_countOf_5 : decode cX1_countOf 5 = .ok (.aload_n 0, 1) := dcq_47.2.2.2.2.2.1
theorem dX1_countOf_6 : decode cX1_countOf 6 = .ok (.getfield 52, 3) := dcq_47.2.2.2.2.2.2.1
theorem dX1_countOf_9 : decode cX1_countOf 9 = .ok (.if_icmp .ge 18, 3) := dcq_47.2.2.2.2.2.2.2.1
theorem dX1_countOf_12 : decode cX1_countOf 12 = .ok (.aload_n 1, 1) := dcq_47.2.2.2.2.2.2.2.2.1
theorem dX1_countOf_13 : decode cX1_countOf 13 = .ok (.iload_n 3, 1) := dcq_47.2.2.2.2.2.2.2.2.2.1
theorem dX1_countOf_14 : decode cX1_countOf 14 = .ok (.iaload, 1) := dcq_47.2.2.2.2.2.2.2.2.2.2.1
theorem dX1_countOf_15 : decode cX1_countOf 15 = .ok (.ifCond .le 6, 3) := dcq_47.2.2.2.2.2.2.2.2.2.2.2
set_option maxRecDepth 20000 in
theorem dcb_48 : fd_B cX1_countOf 18 [132, 2, 1, 132, 3, 1, 167, 255, 236, 28, 172] := fd_o cX1_countOf 18 _ (by decide +kernel)
theorem dcq_48 : (decode cX1_countOf 18 = .ok (.iinc 2 1, 3)) ∧ (decode cX1_countOf 21 = .ok (.iinc 3 1, 3)) ∧ (decode cX1_countOf 24 = .ok (.goto (-20), 3)) ∧ (decode cX1_countOf 27 = .ok (.iload_n 2, 1)) ∧ (decode cX1_countOf 28 = .ok (.ireturn, 1)) := have h := dcb_48; ⟨fd_132 h rfl (by decide +kernel), have h := fd_t3 h; ⟨fd_132 h rfl (by decide +kernel), have h := fd_t3 h; ⟨fd_167 h (by decide +kernel), have h := fd_t3 h; ⟨fd_28 h, have h := fd_t1 h; fd_172 h⟩⟩⟩⟩
theorem dX1_countOf_18 : decode cX1_countOf 18 = .ok (.iinc 2 1, 3) := dcq_48.1
theorem dX1_countOf_21 : decode cX1_countOf 21 = .ok (.iinc 3 1, 3) := dcq_48.2.1
theorem dX1_countOf_24 : decode cX1_countOf 24 = .ok (.goto (-20), 3) := dcq_48.2.2.1
theorem dX1_countOf_27 : decode cX1_countOf 27 = .ok (.iload_n 2, 1) := dcq_48.2.2.2.1
theorem dX1_countOf_28 : decode cX1_countOf 28 = .ok (.ireturn, 1) := dcq_48.2.2.2.2
set_option maxRecDepth 20000 in
theorem dcb_49 : fd_B cX1_readySet 0 [3, 60, 3, 61, 28, 42, 180, 0, 52, 162, 0, 29, 42, 180, 0, 21, 28, 46] := fd_o cX1_readySet 0 _ (by decide +kernel)
theorem dcq_49 : (decode cX1_readySet 0 = .ok (.iconst 0, 1)) ∧ (decode cX1_readySet 1 = .ok (.istore_n 1, 1)) ∧ (decode cX1_readySet 2 = .ok (.iconst 0, 1)) ∧ (decode cX1_readySet 3 = .ok (.istore_n 2, 1)) ∧ (decode cX1_readySet 4 = .ok (.iload_n 2, 1)) ∧ (decode cX1_readySet 5 = .ok (.aload_n 0, 1)) ∧ (decode cX1_readySet 6 = .ok (.getfield 52, 3)) ∧ (decode cX1_readySet 9 = .ok (.if_icmp .ge 29, 3)) ∧ (decode cX1_readySet 12 = .ok (.aload_n 0, 1)) ∧ (decode cX1_readySet 13 = .ok (.getfield 21, 3)) ∧ (decode cX1_readySet 16 = .ok (.iload_n 2, 1)) ∧ (decode cX1_readySet 17 = .ok (.iaload, 1)) := have h := dcb_49; ⟨fd_3 h, have h := fd_t1 h; ⟨fd_60 h, have h := fd_t1 h; ⟨fd_3 h, have h := fd_t1 h; ⟨fd_61 h, have h := fd_t1 h; ⟨fd_28 h, have h := fd_t1 h; ⟨fd_42 h, have h := fd_t1 h; ⟨fd_180 h rfl, have h := fd_t3 h; ⟨fd_162 h (by decide +kernel), have h := fd_t3 h; ⟨fd_42 h, have h := fd_t1 h; ⟨fd_180 h rfl, have h := fd_t3 h; ⟨fd_28 h, have h := fd_t1 h; fd_46 h⟩⟩⟩⟩⟩⟩⟩⟩⟩⟩⟩
theorem dX1_readySet_0 : decode cX1_readySet 0 = .ok (.iconst 0, 1) := dcq_49.1
theorem dX1_readySet_1 : decode cX1_readySet 1 = .ok (.istore_n 1, 1) := dcq_49.2.1
theorem dX1_readySet_2 : decode cX1_readySet 2 = .ok (.iconst 0, 1) := dcq_49.2.2.1
theorem dX1_readySet_3 : decode cX1_readySet 3 = .ok (.istore_n 2, 1) := dcq_49.2.2.2.1
theorem dX1_readySet_4 : decode cX1_readySet 4 = .ok (.iload_n 2, 1) := dcq_49.2.2.2.2.1
theorem dX1_readySet_5 : decode cX1_readySet 5 = .ok (.aload_n 0, 1) := dcq_49.2.2.2.2.2.1
theorem dX1_readySet_6 : decode cX1_readySet 6 = .ok (.getfield 52, 3) := dcq_49.2.2.2.2.2.2.1
theorem dX1_readySet_9 : decode cX1_readySet 9 = .ok (.if_icmp .ge 29, 3) := dcq_49.2.2.2.2.2.2.2.1
theorem dX1_readySet_12 : decode cX1_readySet 12 = .ok (.aload_n 0, 1) := dcq_49.2.2.2.2.2.2.2.2.1
theorem dX1_readySet_13 : decode cX1_readySet 13 = .ok (.getfield 21, 3) := dcq_49.2.2.2.2.2.2.2.2.2.1
theorem dX1_readySet_16 : decode cX1_readySet 16 = .ok (.iload_n 2, 1) := dcq_49.2.2.2.2.2.2.2.2.2.2.1
theorem dX1_readySet_17 : decode cX1_readySet 17 = .ok (.iaload, 1) := dcq_49.2.2.2.2.2.2.2.2.2.2.2
set_option maxRecDepth 20000 in
theorem dcb_50 : fd_B cX1_readySet 18 [42, 28, 182, 0, 65, 161, 0, 9, 27, 4, 28, 120, 128, 60, 132, 2, 1, 167, 255, 225] := fd_o cX1_readySet 18 _ (by decide +kernel)
theorem dcq_50 : (decode cX1_readySet 18 = .ok (.aload_n 0, 1)) ∧ (decode cX1_readySet 19 = .ok (.iload_n 2, 1)) ∧ (decode cX1_readySet 20 = .ok (.invokevirtual 65, 3)) ∧ (decode cX1_readySet 23 = .ok (.if_icmp .lt 9, 3)) ∧ (decode cX1_readySet 26 = .ok (.iload_n 1, 1)) ∧ (decode cX1_readySet 27 = .ok (.iconst 1, 1)) ∧ (decode cX1_readySet 28 = .ok (.iload_n 2, 1)) ∧ (decode cX1_readySet 29 = .ok (.ishl, 1)) ∧ (decode cX1_readySet 30 = .ok (.ior, 1)) ∧ (decode cX1_readySet 31 = .ok (.istore_n 1, 1)) ∧ (decode cX1_readySet 32 = .ok (.iinc 2 1, 3)) ∧ (decode cX1_readySet 35 = .ok (.goto (-31), 3)) := have h := dcb_50; ⟨fd_42 h, have h := fd_t1 h; ⟨fd_28 h, have h := fd_t1 h; ⟨fd_182 h rfl, have h := fd_t3 h; ⟨fd_161 h (by decide +kernel), have h := fd_t3 h; ⟨fd_27 h, have h := fd_t1 h; ⟨fd_4 h, have h := fd_t1 h; ⟨fd_28 h, have h := fd_t1 h; ⟨fd_120 h, have h := fd_t1 h; ⟨fd_128 h, have h := fd_t1 h; ⟨fd_60 h, have h := fd_t1 h; ⟨fd_132 h rfl (by decide +kernel), have h := fd_t3 h; fd_167 h (by decide +kernel)⟩⟩⟩⟩⟩⟩⟩⟩⟩⟩⟩
theorem dX1_readySet_18 : decode cX1_readySet 18 = .ok (.aload_n 0, 1) := dcq_50.1
theorem dX1_readySet_19 : decode cX1_readySet 19 = .ok (.iload_n 2, 1) := dcq_50.2.1
theorem dX1_readySet_20 : decode cX1_readySet 20 = .ok (.invokevirtual 65, 3) := dcq_50.2.2.1
theorem dX1_readySet_23 : decode cX1_readySet 23 = .ok (.if_icmp .lt 9, 3) := dcq_50.2.2.2.1
theorem dX1_readySet_26 : decode cX1_readySet 26 = .ok (.iload_n 1, 1) := dcq_50.2.2.2.2.1
theorem dX1_readySet_27 : decode cX1_readySet 27 = .ok (.iconst 1, 1) := dcq_50.2.2.2.2.2.1
theorem dX1_readySet_28 : decode cX1_readySet 28 = .ok (.iload_n 2, 1) := dcq_50.2.2.2.2.2.2.1
theorem dX1_readySet_29 : decode cX1_readySet 29 = .ok (.ishl, 1) := dcq_50.2.2.2.2.2.2.2.1
theorem dX1_readySet_30 : decode cX1_readySet 30 = .ok (.ior, 1) := dcq_50.2.2.2.2.2.2.2.2.1
theorem dX1_readySet_31 : decode cX1_readySet 31 = .ok (.istore_n 1, 1) := dcq_50.2.2.2.2.2.2.2.2.2.1
theorem dX1_readySet_32 : decode cX1_readySet 32 = .ok (.iinc 2 1, 3) := dcq_50.2.2.2.2.2.2.2.2.2.2.1
theorem dX1_readySet_35 : decode cX1_readySet 35 = .ok (.goto (-31), 3) := dcq_50.2.2.2.2.2.2.2.2.2.2.2
set_option maxRecDepth 20000 in
theorem dcb_51 : fd_B cX1_readySet 38 [27, 172] := fd_o cX1_readySet 38 _ (by decide +kernel)
theorem dcq_51 : (decode cX1_readySet 38 = .ok (.iload_n 1, 1)) ∧ (decode cX1_readySet 39 = .ok (.ireturn, 1)) := have h := dcb_51; ⟨fd_27 h, have h := fd_t1 h; fd_172 h⟩
theorem dX1_readySet_38 : decode cX1_readySet 38 = .ok (.iload_n 1, 1) := dcq_51.1
theorem dX1_readySet_39 : decode cX1_readySet 39 = .ok (.ireturn, 1) := dcq_51.2
set_option maxRecDepth 20000 in
theorem dcb_52 : fd_B cX1_thinking 0 [42, 180, 0, 18, 27, 46, 61, 5, 62, 28, 4, 184, 0, 69, 153, 0, 6, 132, 3, 1] := fd_o cX1_thinking 0 _ (by decide +kernel)
theorem dcq_52 : (decode cX1_thinking 0 = .ok (.aload_n 0, 1)) ∧ (decode cX1_thinking 1 = .ok (.getfield 18, 3)) ∧ (decode cX1_thinking 4 = .ok (.iload_n 1, 1)) ∧ (decode cX1_thinking 5 = .ok (.iaload, 1)) ∧ (decode cX1_thinking 6 = .ok (.istore_n 2, 1)) ∧ (decode cX1_thinking 7 = .ok (.iconst 2, 1)) ∧ (decode cX1_thinking 8 = .ok (.istore_n 3, 1)) ∧ (decode cX1_thinking 9 = .ok (.iload_n 2, 1)) ∧ (decode cX1_thinking 10 = .ok (.iconst 1, 1)) ∧ (decode cX1_thinking 11 = .ok (.invokestatic 69, 3)) ∧ (decode cX1_thinking 14 = .ok (.ifCond .eq 6, 3)) ∧ (decode cX1_thinking 17 = .ok (.iinc 3 1, 3)) := have h := dcb_52; ⟨fd_42 h, have h := fd_t1 h; ⟨fd_180 h rfl, have h := fd_t3 h; ⟨fd_27 h, have h := fd_t1 h; ⟨fd_46 h, have h := fd_t1 h; ⟨fd_61 h, have h := fd_t1 h; ⟨fd_5 h, have h := fd_t1 h; ⟨fd_62 h, have h := fd_t1 h; ⟨fd_28 h, have h := fd_t1 h; ⟨fd_4 h, have h := fd_t1 h; ⟨fd_184 h rfl, have h := fd_t3 h; ⟨fd_153 h (by decide +kernel), have h := fd_t3 h; fd_132 h rfl (by decide +kernel)⟩⟩⟩⟩⟩⟩⟩⟩⟩⟩⟩
theorem dX1_thinking_0 : decode cX1_thinking 0 = .ok (.aload_n 0, 1) := dcq_52.1
theorem dX1_thinking_1 : decode cX1_thinking 1 = .ok (.getfield 18, 3) := dcq_52.2.1
theorem dX1_thinking_4 : decode cX1_thinking 4 = .ok (.iload_n 1, 1) := dcq_52.2.2.1
theorem dX1_thinking_5 : decode cX1_thinking 5 = .ok (.iaload, 1) := dcq_52.2.2.2.1
theorem dX1_thinking_6 : decode cX1_thinking 6 = .ok (.istore_n 2, 1) := dcq_52.2.2.2.2.1
theorem dX1_thinking_7 : decode cX1_thinking 7 = .ok (.iconst 2, 1) := dcq_52.2.2.2.2.2.1
theorem dX1_thinking_8 : decode cX1_thinking 8 = .ok (.istore_n 3, 1) := dcq_52.2.2.2.2.2.2.1
theorem dX1_thinking_9 : decode cX1_thinking 9 = .ok (.iload_n 2, 1) := dcq_52.2.2.2.2.2.2.2.1
theorem dX1_thinking_10 : decode cX1_thinking 10 = .ok (.iconst 1, 1) := dcq_52.2.2.2.2.2.2.2.2.1
theorem dX1_thinking_11 : decode cX1_thinking 11 = .ok (.invokestatic 69, 3) := dcq_52.2.2.2.2.2.2.2.2.2.1
theorem dX1_thinking_14 : decode cX1_thinking 14 = .ok (.ifCond .eq 6, 3) := dcq_52.2.2.2.2.2.2.2.2.2.2.1
theorem dX1_thinking_17 : decode cX1_thinking 17 = .ok (.iinc 3 1, 3) := dcq_52.2.2.2.2.2.2.2.2.2.2.2
set_option maxRecDepth 20000 in
theorem dcb_53 : fd_B cX1_thinking 20 [28, 6, 160, 0, 7, 29, 5, 104, 62, 28, 5, 184, 0, 69, 153, 0, 6, 132, 3, 255] := fd_o cX1_thinking 20 _ (by decide +kernel)
theorem dcq_53 : (decode cX1_thinking 20 = .ok (.iload_n 2, 1)) ∧ (decode cX1_thinking 21 = .ok (.iconst 3, 1)) ∧ (decode cX1_thinking 22 = .ok (.if_icmp .ne 7, 3)) ∧ (decode cX1_thinking 25 = .ok (.iload_n 3, 1)) ∧ (decode cX1_thinking 26 = .ok (.iconst 2, 1)) ∧ (decode cX1_thinking 27 = .ok (.imul, 1)) ∧ (decode cX1_thinking 28 = .ok (.istore_n 3, 1)) ∧ (decode cX1_thinking 29 = .ok (.iload_n 2, 1)) ∧ (decode cX1_thinking 30 = .ok (.iconst 2, 1)) ∧ (decode cX1_thinking 31 = .ok (.invokestatic 69, 3)) ∧ (decode cX1_thinking 34 = .ok (.ifCond .eq 6, 3)) ∧ (decode cX1_thinking 37 = .ok (.iinc 3 (-1), 3)) := have h := dcb_53; ⟨fd_28 h, have h := fd_t1 h; ⟨fd_6 h, have h := fd_t1 h; ⟨fd_160 h (by decide +kernel), have h := fd_t3 h; ⟨fd_29 h, have h := fd_t1 h; ⟨fd_5 h, have h := fd_t1 h; ⟨fd_104 h, have h := fd_t1 h; ⟨fd_62 h, have h := fd_t1 h; ⟨fd_28 h, have h := fd_t1 h; ⟨fd_5 h, have h := fd_t1 h; ⟨fd_184 h rfl, have h := fd_t3 h; ⟨fd_153 h (by decide +kernel), have h := fd_t3 h; fd_132 h rfl (by decide +kernel)⟩⟩⟩⟩⟩⟩⟩⟩⟩⟩⟩
theorem dX1_thinking_20 : decode cX1_thinking 20 = .ok (.iload_n 2, 1) := dcq_53.1
theorem dX1_thinking_21 : decode cX1_thinking 21 = .ok (.iconst 3, 1) := dcq_53.2.1
theorem dX1_thinking_22 : decode cX1_thinking 22 = .ok (.if_icmp .ne 7, 3) := dcq_53.2.2.1
theorem dX1_thinking_25 : decode cX1_thinking 25 = .ok (.iload_n 3, 1) := dcq_53.2.2.2.1
theorem dX1_thinking_26 : decode cX1_thinking 26 = .ok (.iconst 2, 1) := dcq_53.2.2.2.2.1
theorem dX1_thinking_27 : decode cX1_thinking 27 = .ok (.imul, 1) := dcq_53.2.2.2.2.2.1
theorem dX1_thinking_28 : decode cX1_thinking 28 = .ok (.istore_n 3, 1) := dcq_53.2.2.2.2.2.2.1
theorem dX1_thinking_29 : decode cX1_thinking 29 = .ok (.iload_n 2, 1) := dcq_53.2.2.2.2.2.2.2.1
theorem dX1_thinking_30 : decode cX1_thinking 30 = .ok (.iconst 2, 1) := dcq_53.2.2.2.2.2.2.2.2.1
theorem dX1_thinking_31 : decode cX1_thinking 31 = .ok (.invokestatic 69, 3) := dcq_53.2.2.2.2.2.2.2.2.2.1
theorem dX1_thinking_34 : decode cX1_thinking 34 = .ok (.ifCond .eq 6, 3) := dcq_53.2.2.2.2.2.2.2.2.2.2.1
theorem dX1_thinking_37 : decode cX1_thinking 37 = .ok (.iinc 3 (-1), 3) := dcq_53.2.2.2.2.2.2.2.2.2.2.2
set_option maxRecDepth 20000 in
theorem dcb_54 : fd_B cX1_thinking 40 [28, 7, 160, 0, 12, 29, 42, 180, 0, 13, 5, 46, 96, 62, 28, 8] := fd_o cX1_thinking 40 _ (by decide +kernel)
theorem dcq_54 : (decode cX1_thinking 40 = .ok (.iload_n 2, 1)) ∧ (decode cX1_thinking 41 = .ok (.iconst 4, 1)) ∧ (decode cX1_thinking 42 = .ok (.if_icmp .ne 12, 3)) ∧ (decode cX1_thinking 45 = .ok (.iload_n 3, 1)) ∧ (decode cX1_thinking 46 = .ok (.aload_n 0, 1)) ∧ (decode cX1_thinking 47 = .ok (.getfield 13, 3)) ∧ (decode cX1_thinking 50 = .ok (.iconst 2, 1)) ∧ (decode cX1_thinking 51 = .ok (.iaload, 1)) ∧ (decode cX1_thinking 52 = .ok (.iadd, 1)) ∧ (decode cX1_thinking 53 = .ok (.istore_n 3, 1)) ∧ (decode cX1_thinking 54 = .ok (.iload_n 2, 1)) ∧ (decode cX1_thinking 55 = .ok (.iconst 5, 1)) := have h := dcb_54; ⟨fd_28 h, have h := fd_t1 h; ⟨fd_7 h, have h := fd_t1 h; ⟨fd_160 h (by decide +kernel), have h := fd_t3 h; ⟨fd_29 h, have h := fd_t1 h; ⟨fd_42 h, have h := fd_t1 h; ⟨fd_180 h rfl, have h := fd_t3 h; ⟨fd_5 h, have h := fd_t1 h; ⟨fd_46 h, have h := fd_t1 h; ⟨fd_96 h, have h := fd_t1 h; ⟨fd_62 h, have h := fd_t1 h; ⟨fd_28 h, have h := fd_t1 h; fd_8 h⟩⟩⟩⟩⟩⟩⟩⟩⟩⟩⟩
theorem dX1_thinking_40 : decode cX1_thinking 40 = .ok (.iload_n 2, 1) := dcq_54.1
theorem dX1_thinking_41 : decode cX1_thinking 41 = .ok (.iconst 4, 1) := dcq_54.2.1
theorem dX1_thinking_42 : decode cX1_thinking 42 = .ok (.if_icmp .ne 12, 3) := dcq_54.2.2.1
theorem dX1_thinking_45 : decode cX1_thinking 45 = .ok (.iload_n 3, 1) := dcq_54.2.2.2.1
theorem dX1_thinking_46 : decode cX1_thinking 46 = .ok (.aload_n 0, 1) := dcq_54.2.2.2.2.1
theorem dX1_thinking_47 : decode cX1_thinking 47 = .ok (.getfield 13, 3) := dcq_54.2.2.2.2.2.1
theorem dX1_thinking_50 : decode cX1_thinking 50 = .ok (.iconst 2, 1) := dcq_54.2.2.2.2.2.2.1
theorem dX1_thinking_51 : decode cX1_thinking 51 = .ok (.iaload, 1) := dcq_54.2.2.2.2.2.2.2.1
theorem dX1_thinking_52 : decode cX1_thinking 52 = .ok (.iadd, 1) := dcq_54.2.2.2.2.2.2.2.2.1
theorem dX1_thinking_53 : decode cX1_thinking 53 = .ok (.istore_n 3, 1) := dcq_54.2.2.2.2.2.2.2.2.2.1
theorem dX1_thinking_54 : decode cX1_thinking 54 = .ok (.iload_n 2, 1) := dcq_54.2.2.2.2.2.2.2.2.2.2.1
theorem dX1_thinking_55 : decode cX1_thinking 55 = .ok (.iconst 5, 1) := dcq_54.2.2.2.2.2.2.2.2.2.2.2
set_option maxRecDepth 20000 in
theorem dcb_55 : fd_B cX1_thinking 56 [160, 0, 12, 29, 42, 180, 0, 24, 27, 46, 96, 62, 29, 172] := fd_o cX1_thinking 56 _ (by decide +kernel)
theorem dcq_55 : (decode cX1_thinking 56 = .ok (.if_icmp .ne 12, 3)) ∧ (decode cX1_thinking 59 = .ok (.iload_n 3, 1)) ∧ (decode cX1_thinking 60 = .ok (.aload_n 0, 1)) ∧ (decode cX1_thinking 61 = .ok (.getfield 24, 3)) ∧ (decode cX1_thinking 64 = .ok (.iload_n 1, 1)) ∧ (decode cX1_thinking 65 = .ok (.iaload, 1)) ∧ (decode cX1_thinking 66 = .ok (.iadd, 1)) ∧ (decode cX1_thinking 67 = .ok (.istore_n 3, 1)) ∧ (decode cX1_thinking 68 = .ok (.iload_n 3, 1)) ∧ (decode cX1_thinking 69 = .ok (.ireturn, 1)) := have h := dcb_55; ⟨fd_160 h (by decide +kernel), have h := fd_t3 h; ⟨fd_29 h, have h := fd_t1 h; ⟨fd_42 h, have h := fd_t1 h; ⟨fd_180 h rfl, have h := fd_t3 h; ⟨fd_27 h, have h := fd_t1 h; ⟨fd_46 h, have h := fd_t1 h; ⟨fd_96 h, have h := fd_t1 h; ⟨fd_62 h, have h := fd_t1 h; ⟨fd_29 h, have h := fd_t1 h; fd_172 h⟩⟩⟩⟩⟩⟩⟩⟩⟩
theorem dX1_thinking_56 : decode cX1_thinking 56 = .ok (.if_icmp .ne 12, 3) := dcq_55.1
theorem dX1_thinking_59 : decode cX1_thinking 59 = .ok (.iload_n 3, 1) := dcq_55.2.1
theorem dX1_thinking_60 : decode cX1_thinking 60 = .ok (.aload_n 0, 1) := dcq_55.2.2.1
theorem dX1_thinking_61 : decode cX1_thinking 61 = .ok (.getfield 24, 3) := dcq_55.2.2.2.1
theorem dX1_thinking_64 : decode cX1_thinking 64 = .ok (.iload_n 1, 1) := dcq_55.2.2.2.2.1
theorem dX1_thinking_65 : decode cX1_thinking 65 = .ok (.iaload, 1) := dcq_55.2.2.2.2.2.1
theorem dX1_thinking_66 : decode cX1_thinking 66 = .ok (.iadd, 1) := dcq_55.2.2.2.2.2.2.1
theorem dX1_thinking_67 : decode cX1_thinking 67 = .ok (.istore_n 3, 1) := dcq_55.2.2.2.2.2.2.2.1
theorem dX1_thinking_68 : decode cX1_thinking 68 = .ok (.iload_n 3, 1) := dcq_55.2.2.2.2.2.2.2.2.1
theorem dX1_thinking_69 : decode cX1_thinking 69 = .ok (.ireturn, 1) := dcq_55.2.2.2.2.2.2.2.2.2
set_option maxRecDepth 20000 in
theorem dcb_56 : fd_B cX1_needing 0 [42, 180, 0, 18, 27, 46, 61, 16, 10, 62, 28, 4, 184, 0, 69, 153, 0, 12, 29] := fd_o cX1_needing 0 _ (by decide +kernel)
theorem dcq_56 : (decode cX1_needing 0 = .ok (.aload_n 0, 1)) ∧ (decode cX1_needing 1 = .ok (.getfield 18, 3)) ∧ (decode cX1_needing 4 = .ok (.iload_n 1, 1)) ∧ (decode cX1_needing 5 = .ok (.iaload, 1)) ∧ (decode cX1_needing 6 = .ok (.istore_n 2, 1)) ∧ (decode cX1_needing 7 = .ok (.bipush 10, 2)) ∧ (decode cX1_needing 9 = .ok (.istore_n 3, 1)) ∧ (decode cX1_needing 10 = .ok (.iload_n 2, 1)) ∧ (decode cX1_needing 11 = .ok (.iconst 1, 1)) ∧ (decode cX1_needing 12 = .ok (.invokestatic 69, 3)) ∧ (decode cX1_needing 15 = .ok (.ifCond .eq 12, 3)) ∧ (decode cX1_needing 18 = .ok (.iload_n 3, 1)) := have h := dcb_56; ⟨fd_42 h, have h := fd_t1 h; ⟨fd_180 h rfl, have h := fd_t3 h; ⟨fd_27 h, have h := fd_t1 h; ⟨fd_46 h, have h := fd_t1 h; ⟨fd_61 h, have h := fd_t1 h; ⟨fd_16 h (by decide +kernel), have h := fd_t2 h; ⟨fd_62 h, have h := fd_t1 h; ⟨fd_28 h, have h := fd_t1 h; ⟨fd_4 h, have h := fd_t1 h; ⟨fd_184 h rfl, have h := fd_t3 h; ⟨fd_153 h (by decide +kernel), have h := fd_t3 h; fd_29 h⟩⟩⟩⟩⟩⟩⟩⟩⟩⟩⟩
theorem dX1_needing_0 : decode cX1_needing 0 = .ok (.aload_n 0, 1) := dcq_56.1
theorem dX1_needing_1 : decode cX1_needing 1 = .ok (.getfield 18, 3) := dcq_56.2.1
theorem dX1_needing_4 : decode cX1_needing 4 = .ok (.iload_n 1, 1) := dcq_56.2.2.1
theorem dX1_needing_5 : decode cX1_needing 5 = .ok (.iaload, 1) := dcq_56.2.2.2.1
theorem dX1_needing_6 : decode cX1_needing 6 = .ok (.istore_n 2, 1) := dcq_56.2.2.2.2.1
theorem dX1_needing_7 : decode cX1_needing 7 = .ok (.bipush 10, 2) := dcq_56.2.2.2.2.2.1
theorem dX1_needing_9 : decode cX1_needing 9 = .ok (.istore_n 3, 1) := dcq_56.2.2.2.2.2.2.1
theorem dX1_needing_10 : decode cX1_needing 10 = .ok (.iload_n 2, 1) := dcq_56.2.2.2.2.2.2.2.1
theorem dX1_needing_11 : decode cX1_needing 11 = .ok (.iconst 1, 1) := dcq_56.2.2.2.2.2.2.2.2.1
theorem dX1_needing_12 : decode cX1_needing 12 = .ok (.invokestatic 69, 3) := dcq_56.2.2.2.2.2.2.2.2.2.1
theorem dX1_needing_15 : decode cX1_needing 15 = .ok (.ifCond .eq 12, 3) := dcq_56.2.2.2.2.2.2.2.2.2.2.1
theorem dX1_needing_18 : decode cX1_needing 18 = .ok (.iload_n 3, 1) := dcq_56.2.2.2.2.2.2.2.2.2.2.2
set_option maxRecDepth 20000 in
theorem dcb_57 : fd_B cX1_needing 19 [42, 180, 0, 13, 4, 46, 96, 62, 28, 6, 160, 0, 12, 29, 42, 180, 0, 24] := fd_o cX1_needing 19 _ (by decide +kernel)
theorem dcq_57 : (decode cX1_needing 19 = .ok (.aload_n 0, 1)) ∧ (decode cX1_needing 20 = .ok (.getfield 13, 3)) ∧ (decode cX1_needing 23 = .ok (.iconst 1, 1)) ∧ (decode cX1_needing 24 = .ok (.iaload, 1)) ∧ (decode cX1_needing 25 = .ok (.iadd, 1)) ∧ (decode cX1_needing 26 = .ok (.istore_n 3, 1)) ∧ (decode cX1_needing 27 = .ok (.iload_n 2, 1)) ∧ (decode cX1_needing 28 = .ok (.iconst 3, 1)) ∧ (decode cX1_needing 29 = .ok (.if_icmp .ne 12, 3)) ∧ (decode cX1_needing 32 = .ok (.iload_n 3, 1)) ∧ (decode cX1_needing 33 = .ok (.aload_n 0, 1)) ∧ (decode cX1_needing 34 = .ok (.getfield 24, 3)) := have h := dcb_57; ⟨fd_42 h, have h := fd_t1 h; ⟨fd_180 h rfl, have h := fd_t3 h; ⟨fd_4 h, have h := fd_t1 h; ⟨fd_46 h, have h := fd_t1 h; ⟨fd_96 h, have h := fd_t1 h; ⟨fd_62 h, have h := fd_t1 h; ⟨fd_28 h, have h := fd_t1 h; ⟨fd_6 h, have h := fd_t1 h; ⟨fd_160 h (by decide +kernel), have h := fd_t3 h; ⟨fd_29 h, have h := fd_t1 h; ⟨fd_42 h, have h := fd_t1 h; fd_180 h rfl⟩⟩⟩⟩⟩⟩⟩⟩⟩⟩⟩
theorem dX1_needing_19 : decode cX1_needing 19 = .ok (.aload_n 0, 1) := dcq_57.1
theorem dX1_needing_20 : decode cX1_needing 20 = .ok (.getfield 13, 3) := dcq_57.2.1
theorem dX1_needing_23 : decode cX1_needing 23 = .ok (.iconst 1, 1) := dcq_57.2.2.1
theorem dX1_needing_24 : decode cX1_needing 24 = .ok (.iaload, 1) := dcq_57.2.2.2.1
theorem dX1_needing_25 : decode cX1_needing 25 = .ok (.iadd, 1) := dcq_57.2.2.2.2.1
theorem dX1_needing_26 : decode cX1_needing 26 = .ok (.istore_n 3, 1) := dcq_57.2.2.2.2.2.1
theorem dX1_needing_27 : decode cX1_needing 27 = .ok (.iload_n 2, 1) := dcq_57.2.2.2.2.2.2.1
theorem dX1_needing_28 : decode cX1_needing 28 = .ok (.iconst 3, 1) := dcq_57.2.2.2.2.2.2.2.1
theorem dX1_needing_29 : decode cX1_needing 29 = .ok (.if_icmp .ne 12, 3) := dcq_57.2.2.2.2.2.2.2.2.1
theorem dX1_needing_32 : decode cX1_needing 32 = .ok (.iload_n 3, 1) := dcq_57.2.2.2.2.2.2.2.2.2.1
theorem dX1_needing_33 : decode cX1_needing 33 = .ok (.aload_n 0, 1) := dcq_57.2.2.2.2.2.2.2.2.2.2.1
theorem dX1_needing_34 : decode cX1_needing 34 = .ok (.getfield 24, 3) := dcq_57.2.2.2.2.2.2.2.2.2.2.2
set_option maxRecDepth 20000 in
theorem dcb_58 : fd_B cX1_needing 37 [27, 46, 100, 62, 28, 5, 184, 0, 69, 153, 0, 7, 29, 5, 104, 62] := fd_o cX1_needing 37 _ (by decide +kernel)
theorem dcq_58 : (decode cX1_needing 37 = .ok (.iload_n 1, 1)) ∧ (decode cX1_needing 38 = .ok (.iaload, 1)) ∧ (decode cX1_needing 39 = .ok (.isub, 1)) ∧ (decode cX1_needing 40 = .ok (.istore_n 3, 1)) ∧ (decode cX1_needing 41 = .ok (.iload_n 2, 1)) ∧ (decode cX1_needing 42 = .ok (.iconst 2, 1)) ∧ (decode cX1_needing 43 = .ok (.invokestatic 69, 3)) ∧ (decode cX1_needing 46 = .ok (.ifCond .eq 7, 3)) ∧ (decode cX1_needing 49 = .ok (.iload_n 3, 1)) ∧ (decode cX1_needing 50 = .ok (.iconst 2, 1)) ∧ (decode cX1_needing 51 = .ok (.imul, 1)) ∧ (decode cX1_needing 52 = .ok (.istore_n 3, 1)) := have h := dcb_58; ⟨fd_27 h, have h := fd_t1 h; ⟨fd_46 h, have h := fd_t1 h; ⟨fd_100 h, have h := fd_t1 h; ⟨fd_62 h, have h := fd_t1 h; ⟨fd_28 h, have h := fd_t1 h; ⟨fd_5 h, have h := fd_t1 h; ⟨fd_184 h rfl, have h := fd_t3 h; ⟨fd_153 h (by decide +kernel), have h := fd_t3 h; ⟨fd_29 h, have h := fd_t1 h; ⟨fd_5 h, have h := fd_t1 h; ⟨fd_104 h, have h := fd_t1 h; fd_62 h⟩⟩⟩⟩⟩⟩⟩⟩⟩⟩⟩
theorem dX1_needing_37 : decode cX1_needing 37 = .ok (.iload_n 1, 1) := dcq_58.1
theorem dX1_needing_38 : decode cX1_needing 38 = .ok (.iaload, 1) := dcq_58.2.1
theorem dX1_needing_39 : decode cX1_needing 39 = .ok (.isub, 1) := dcq_58.2.2.1
theorem dX1_needing_40 : decode cX1_needing 40 = .ok (.istore_n 3, 1) := dcq_58.2.2.2.1
theorem dX1_needing_41 : decode cX1_needing 41 = .ok (.iload_n 2, 1) := dcq_58.2.2.2.2.1
theorem dX1_needing_42 : decode cX1_needing 42 = .ok (.iconst 2, 1) := dcq_58.2.2.2.2.2.1
theorem dX1_needing_43 : decode cX1_needing 43 = .ok (.invokestatic 69, 3) := dcq_58.2.2.2.2.2.2.1
theorem dX1_needing_46 : decode cX1_needing 46 = .ok (.ifCond .eq 7, 3) := dcq_58.2.2.2.2.2.2.2.1
theorem dX1_needing_49 : decode cX1_needing 49 = .ok (.iload_n 3, 1) := dcq_58.2.2.2.2.2.2.2.2.1
theorem dX1_needing_50 : decode cX1_needing 50 = .ok (.iconst 2, 1) := dcq_58.2.2.2.2.2.2.2.2.2.1
theorem dX1_needing_51 : decode cX1_needing 51 = .ok (.imul, 1) := dcq_58.2.2.2.2.2.2.2.2.2.2.1
theorem dX1_needing_52 : decode cX1_needing 52 = .ok (.istore_n 3, 1) := dcq_58.2.2.2.2.2.2.2.2.2.2.2
set_option maxRecDepth 20000 in
theorem dcb_59 : fd_B cX1_needing 53 [28, 7, 160, 0, 6, 132, 3, 251, 28, 8, 160, 0, 6, 132, 3, 249, 29, 172] := fd_o cX1_needing 53 _ (by decide +kernel)
theorem dcq_59 : (decode cX1_needing 53 = .ok (.iload_n 2, 1)) ∧ (decode cX1_needing 54 = .ok (.iconst 4, 1)) ∧ (decode cX1_needing 55 = .ok (.if_icmp .ne 6, 3)) ∧ (decode cX1_needing 58 = .ok (.iinc 3 (-5), 3)) ∧ (decode cX1_needing 61 = .ok (.iload_n 2, 1)) ∧ (decode cX1_needing 62 = .ok (.iconst 5, 1)) ∧ (decode cX1_needing 63 = .ok (.if_icmp .ne 6, 3)) ∧ (decode cX1_needing 66 = .ok (.iinc 3 (-7), 3)) ∧ (decode cX1_needing 69 = .ok (.iload_n 3, 1)) ∧ (decode cX1_needing 70 = .ok (.ireturn, 1)) := have h := dcb_59; ⟨fd_28 h, have h := fd_t1 h; ⟨fd_7 h, have h := fd_t1 h; ⟨fd_160 h (by decide +kernel), have h := fd_t3 h; ⟨fd_132 h rfl (by decide +kernel), have h := fd_t3 h; ⟨fd_28 h, have h := fd_t1 h; ⟨fd_8 h, have h := fd_t1 h; ⟨fd_160 h (by decide +kernel), have h := fd_t3 h; ⟨fd_132 h rfl (by decide +kernel), have h := fd_t3 h; ⟨fd_29 h, have h := fd_t1 h; fd_172 h⟩⟩⟩⟩⟩⟩⟩⟩⟩
theorem dX1_needing_53 : decode cX1_needing 53 = .ok (.iload_n 2, 1) := dcq_59.1
theorem dX1_needing_54 : decode cX1_needing 54 = .ok (.iconst 4, 1) := dcq_59.2.1
theorem dX1_needing_55 : decode cX1_needing 55 = .ok (.if_icmp .ne 6, 3) := dcq_59.2.2.1
theorem dX1_needing_58 : decode cX1_needing 58 = .ok (.iinc 3 (-5), 3) := dcq_59.2.2.2.1
theorem dX1_needing_61 : decode cX1_needing 61 = .ok (.iload_n 2, 1) := dcq_59.2.2.2.2.1
theorem dX1_needing_62 : decode cX1_needing 62 = .ok (.iconst 5, 1) := dcq_59.2.2.2.2.2.1
theorem dX1_needing_63 : decode cX1_needing 63 = .ok (.if_icmp .ne 6, 3) := dcq_59.2.2.2.2.2.2.1
theorem dX1_needing_66 : decode cX1_needing 66 = .ok (.iinc 3 (-7), 3) := dcq_59.2.2.2.2.2.2.2.1
theorem dX1_needing_69 : decode cX1_needing 69 = .ok (.iload_n 3, 1) := dcq_59.2.2.2.2.2.2.2.2.1
theorem dX1_needing_70 : decode cX1_needing 70 = .ok (.ireturn, 1) := dcq_59.2.2.2.2.2.2.2.2.2
set_option maxRecDepth 20000 in
theorem dcb_60 : fd_B cX1_saying 0 [42, 180, 0, 18, 27, 46, 61, 28, 8, 160, 0, 5, 3, 172, 4, 42] := fd_o cX1_saying 0 _ (by decide +kernel)
theorem dcq_60 : (decode cX1_saying 0 = .ok (.aload_n 0, 1)) ∧ (decode cX1_saying 1 = .ok (.getfield 18, 3)) ∧ (decode cX1_saying 4 = .ok (.iload_n 1, 1)) ∧ (decode cX1_saying 5 = .ok (.iaload, 1)) ∧ (decode cX1_saying 6 = .ok (.istore_n 2, 1)) ∧ (decode cX1_saying 7 = .ok (.iload_n 2, 1)) ∧ (decode cX1_saying 8 = .ok (.iconst 5, 1)) ∧ (decode cX1_saying 9 = .ok (.if_icmp .ne 5, 3)) ∧ (decode cX1_saying 12 = .ok (.iconst 0, 1)) ∧ (decode cX1_saying 13 = .ok (.ireturn, 1)) ∧ (decode cX1_saying 14 = .ok (.iconst 1, 1)) ∧ (decode cX1_saying 15 = .ok (.aload_n 0, 1)) := have h := dcb_60; ⟨fd_42 h, have h := fd_t1 h; ⟨fd_180 h rfl, have h := fd_t3 h; ⟨fd_27 h, have h := fd_t1 h; ⟨fd_46 h, have h := fd_t1 h; ⟨fd_61 h, have h := fd_t1 h; ⟨fd_28 h, have h := fd_t1 h; ⟨fd_8 h, have h := fd_t1 h; ⟨fd_160 h (by decide +kernel), have h := fd_t3 h; ⟨fd_3 h, have h := fd_t1 h; ⟨fd_172 h, have h := fd_t1 h; ⟨fd_4 h, have h := fd_t1 h; fd_42 h⟩⟩⟩⟩⟩⟩⟩⟩⟩⟩⟩
theorem dX1_saying_0 : decode cX1_saying 0 = .ok (.aload_n 0, 1) := dcq_60.1
theorem dX1_saying_1 : decode cX1_saying 1 = .ok (.getfield 18, 3) := dcq_60.2.1
theorem dX1_saying_4 : decode cX1_saying 4 = .ok (.iload_n 1, 1) := dcq_60.2.2.1
theorem dX1_saying_5 : decode cX1_saying 5 = .ok (.iaload, 1) := dcq_60.2.2.2.1
theorem dX1_saying_6 : decode cX1_saying 6 = .ok (.istore_n 2, 1) := dcq_60.2.2.2.2.1
theorem dX1_saying_7 : decode cX1_saying 7 = .ok (.iload_n 2, 1) := dcq_60.2.2.2.2.2.1
theorem dX1_saying_8 : decode cX1_saying 8 = .ok (.iconst 5, 1) := dcq_60.2.2.2.2.2.2.1
theorem dX1_saying_9 : decode cX1_saying 9 = .ok (.if_icmp .ne 5, 3) := dcq_60.2.2.2.2.2.2.2.1
theorem dX1_saying_12 : decode cX1_saying 12 = .ok (.iconst 0, 1) := dcq_60.2.2.2.2.2.2.2.2.1
theorem dX1_saying_13 : decode cX1_saying 13 = .ok (.ireturn, 1) := dcq_60.2.2.2.2.2.2.2.2.2.1
theorem dX1_saying_14 : decode cX1_saying 14 = .ok (.iconst 1, 1) := dcq_60.2.2.2.2.2.2.2.2.2.2.1
theorem dX1_saying_15 : decode cX1_saying 15 = .ok (.aload_n 0, 1) := dcq_60.2.2.2.2.2.2.2.2.2.2.2
set_option maxRecDepth 20000 in
theorem dcb_61 : fd_B cX1_saying 16 [180, 0, 24, 27, 46, 96, 62, 28, 4, 184, 0, 69, 153, 0, 7, 29, 5, 104] := fd_o cX1_saying 16 _ (by decide +kernel)
theorem dcq_61 : (decode cX1_saying 16 = .ok (.getfield 24, 3)) ∧ (decode cX1_saying 19 = .ok (.iload_n 1, 1)) ∧ (decode cX1_saying 20 = .ok (.iaload, 1)) ∧ (decode cX1_saying 21 = .ok (.iadd, 1)) ∧ (decode cX1_saying 22 = .ok (.istore_n 3, 1)) ∧ (decode cX1_saying 23 = .ok (.iload_n 2, 1)) ∧ (decode cX1_saying 24 = .ok (.iconst 1, 1)) ∧ (decode cX1_saying 25 = .ok (.invokestatic 69, 3)) ∧ (decode cX1_saying 28 = .ok (.ifCond .eq 7, 3)) ∧ (decode cX1_saying 31 = .ok (.iload_n 3, 1)) ∧ (decode cX1_saying 32 = .ok (.iconst 2, 1)) ∧ (decode cX1_saying 33 = .ok (.imul, 1)) := have h := dcb_61; ⟨fd_180 h rfl, have h := fd_t3 h; ⟨fd_27 h, have h := fd_t1 h; ⟨fd_46 h, have h := fd_t1 h; ⟨fd_96 h, have h := fd_t1 h; ⟨fd_62 h, have h := fd_t1 h; ⟨fd_28 h, have h := fd_t1 h; ⟨fd_4 h, have h := fd_t1 h; ⟨fd_184 h rfl, have h := fd_t3 h; ⟨fd_153 h (by decide +kernel), have h := fd_t3 h; ⟨fd_29 h, have h := fd_t1 h; ⟨fd_5 h, have h := fd_t1 h; fd_104 h⟩⟩⟩⟩⟩⟩⟩⟩⟩⟩⟩
theorem dX1_saying_16 : decode cX1_saying 16 = .ok (.getfield 24, 3) := dcq_61.1
theorem dX1_saying_19 : decode cX1_saying 19 = .ok (.iload_n 1, 1) := dcq_61.2.1
theorem dX1_saying_20 : decode cX1_saying 20 = .ok (.iaload, 1) := dcq_61.2.2.1
theorem dX1_saying_21 : decode cX1_saying 21 = .ok (.iadd, 1) := dcq_61.2.2.2.1
theorem dX1_saying_22 : decode cX1_saying 22 = .ok (.istore_n 3, 1) := dcq_61.2.2.2.2.1
theorem dX1_saying_23 : decode cX1_saying 23 = .ok (.iload_n 2, 1) := dcq_61.2.2.2.2.2.1
theorem dX1_saying_24 : decode cX1_saying 24 = .ok (.iconst 1, 1) := dcq_61.2.2.2.2.2.2.1
theorem dX1_saying_25 : decode cX1_saying 25 = .ok (.invokestatic 69, 3) := dcq_61.2.2.2.2.2.2.2.1
theorem dX1_saying_28 : decode cX1_saying 28 = .ok (.ifCond .eq 7, 3) := dcq_61.2.2.2.2.2.2.2.2.1
theorem dX1_saying_31 : decode cX1_saying 31 = .ok (.iload_n 3, 1) := dcq_61.2.2.2.2.2.2.2.2.2.1
theorem dX1_saying_32 : decode cX1_saying 32 = .ok (.iconst 2, 1) := dcq_61.2.2.2.2.2.2.2.2.2.2.1
theorem dX1_saying_33 : decode cX1_saying 33 = .ok (.imul, 1) := dcq_61.2.2.2.2.2.2.2.2.2.2.2
set_option maxRecDepth 20000 in
theorem dcb_62 : fd_B cX1_saying 34 [62, 28, 6, 160, 0, 6, 132, 3, 255, 28, 5, 184, 0, 69, 153, 0, 12, 29, 42, 180, 0, 13] := fd_o cX1_saying 34 _ (by decide +kernel)
theorem dcq_62 : (decode cX1_saying 34 = .ok (.istore_n 3, 1)) ∧ (decode cX1_saying 35 = .ok (.iload_n 2, 1)) ∧ (decode cX1_saying 36 = .ok (.iconst 3, 1)) ∧ (decode cX1_saying 37 = .ok (.if_icmp .ne 6, 3)) ∧ (decode cX1_saying 40 = .ok (.iinc 3 (-1), 3)) ∧ (decode cX1_saying 43 = .ok (.iload_n 2, 1)) ∧ (decode cX1_saying 44 = .ok (.iconst 2, 1)) ∧ (decode cX1_saying 45 = .ok (.invokestatic 69, 3)) ∧ (decode cX1_saying 48 = .ok (.ifCond .eq 12, 3)) ∧ (decode cX1_saying 51 = .ok (.iload_n 3, 1)) ∧ (decode cX1_saying 52 = .ok (.aload_n 0, 1)) ∧ (decode cX1_saying 53 = .ok (.getfield 13, 3)) := have h := dcb_62; ⟨fd_62 h, have h := fd_t1 h; ⟨fd_28 h, have h := fd_t1 h; ⟨fd_6 h, have h := fd_t1 h; ⟨fd_160 h (by decide +kernel), have h := fd_t3 h; ⟨fd_132 h rfl (by decide +kernel), have h := fd_t3 h; ⟨fd_28 h, have h := fd_t1 h; ⟨fd_5 h, have h := fd_t1 h; ⟨fd_184 h rfl, have h := fd_t3 h; ⟨fd_153 h (by decide +kernel), have h := fd_t3 h; ⟨fd_29 h, have h := fd_t1 h; ⟨fd_42 h, have h := fd_t1 h; fd_180 h rfl⟩⟩⟩⟩⟩⟩⟩⟩⟩⟩⟩
theorem dX1_saying_34 : decode cX1_saying 34 = .ok (.istore_n 3, 1) := dcq_62.1
theorem dX1_saying_35 : decode cX1_saying 35 = .ok (.iload_n 2, 1) := dcq_62.2.1
theorem dX1_saying_36 : decode cX1_saying 36 = .ok (.iconst 3, 1) := dcq_62.2.2.1
theorem dX1_saying_37 : decode cX1_saying 37 = .ok (.if_icmp .ne 6, 3) := dcq_62.2.2.2.1
theorem dX1_saying_40 : decode cX1_saying 40 = .ok (.iinc 3 (-1), 3) := dcq_62.2.2.2.2.1
theorem dX1_saying_43 : decode cX1_saying 43 = .ok (.iload_n 2, 1) := dcq_62.2.2.2.2.2.1
theorem dX1_saying_44 : decode cX1_saying 44 = .ok (.iconst 2, 1) := dcq_62.2.2.2.2.2.2.1
theorem dX1_saying_45 : decode cX1_saying 45 = .ok (.invokestatic 69, 3) := dcq_62.2.2.2.2.2.2.2.1
theorem dX1_saying_48 : decode cX1_saying 48 = .ok (.ifCond .eq 12, 3) := dcq_62.2.2.2.2.2.2.2.2.1
theorem dX1_saying_51 : decode cX1_saying 51 = .ok (.iload_n 3, 1) := dcq_62.2.2.2.2.2.2.2.2.2.1
theorem dX1_saying_52 : decode cX1_saying 52 = .ok (.aload_n 0, 1) := dcq_62.2.2.2.2.2.2.2.2.2.2.1
theorem dX1_saying_53 : decode cX1_saying 53 = .ok (.getfield 13, 3) := dcq_62.2.2.2.2.2.2.2.2.2.2.2
set_option maxRecDepth 20000 in
theorem dcb_63 : fd_B cX1_saying 56 [5, 46, 96, 62, 28, 7, 160, 0, 18, 29, 3, 42, 180, 0, 27, 27] := fd_o cX1_saying 56 _ (by decide +kernel)
theorem dcq_63 : (decode cX1_saying 56 = .ok (.iconst 2, 1)) ∧ (decode cX1_saying 57 = .ok (.iaload, 1)) ∧ (decode cX1_saying 58 = .ok (.iadd, 1)) ∧ (decode cX1_saying 59 = .ok (.istore_n 3, 1)) ∧ (decode cX1_saying 60 = .ok (.iload_n 2, 1)) ∧ (decode cX1_saying 61 = .ok (.iconst 4, 1)) ∧ (decode cX1_saying 62 = .ok (.if_icmp .ne 18, 3)) ∧ (decode cX1_saying 65 = .ok (.iload_n 3, 1)) ∧ (decode cX1_saying 66 = .ok (.iconst 0, 1)) ∧ (decode cX1_saying 67 = .ok (.aload_n 0, 1)) ∧ (decode cX1_saying 68 = .ok (.getfield 27, 3)) ∧ (decode cX1_saying 71 = .ok (.iload_n 1, 1)) := have h := dcb_63; ⟨fd_5 h, have h := fd_t1 h; ⟨fd_46 h, have h := fd_t1 h; ⟨fd_96 h, have h := fd_t1 h; ⟨fd_62 h, have h := fd_t1 h; ⟨fd_28 h, have h := fd_t1 h; ⟨fd_7 h, have h := fd_t1 h; ⟨fd_160 h (by decide +kernel), have h := fd_t3 h; ⟨fd_29 h, have h := fd_t1 h; ⟨fd_3 h, have h := fd_t1 h; ⟨fd_42 h, have h := fd_t1 h; ⟨fd_180 h rfl, have h := fd_t3 h; fd_27 h⟩⟩⟩⟩⟩⟩⟩⟩⟩⟩⟩
theorem dX1_saying_56 : decode cX1_saying 56 = .ok (.iconst 2, 1) := dcq_63.1
theorem dX1_saying_57 : decode cX1_saying 57 = .ok (.iaload, 1) := dcq_63.2.1
theorem dX1_saying_58 : decode cX1_saying 58 = .ok (.iadd, 1) := dcq_63.2.2.1
theorem dX1_saying_59 : decode cX1_saying 59 = .ok (.istore_n 3, 1) := dcq_63.2.2.2.1
theorem dX1_saying_60 : decode cX1_saying 60 = .ok (.iload_n 2, 1) := dcq_63.2.2.2.2.1
theorem dX1_saying_61 : decode cX1_saying 61 = .ok (.iconst 4, 1) := dcq_63.2.2.2.2.2.1
theorem dX1_saying_62 : decode cX1_saying 62 = .ok (.if_icmp .ne 18, 3) := dcq_63.2.2.2.2.2.2.1
theorem dX1_saying_65 : decode cX1_saying 65 = .ok (.iload_n 3, 1) := dcq_63.2.2.2.2.2.2.2.1
theorem dX1_saying_66 : decode cX1_saying 66 = .ok (.iconst 0, 1) := dcq_63.2.2.2.2.2.2.2.2.1
theorem dX1_saying_67 : decode cX1_saying 67 = .ok (.aload_n 0, 1) := dcq_63.2.2.2.2.2.2.2.2.2.1
theorem dX1_saying_68 : decode cX1_saying 68 = .ok (.getfield 27, 3) := dcq_63.2.2.2.2.2.2.2.2.2.2.1
theorem dX1_saying_71 : decode cX1_saying 71 = .ok (.iload_n 1, 1) := dcq_63.2.2.2.2.2.2.2.2.2.2.2
set_option maxRecDepth 20000 in
theorem dcb_64 : fd_B cX1_saying 72 [46, 4, 100, 184, 0, 73, 96, 62, 29, 172] := fd_o cX1_saying 72 _ (by decide +kernel)
theorem dcq_64 : (decode cX1_saying 72 = .ok (.iaload, 1)) ∧ (decode cX1_saying 73 = .ok (.iconst 1, 1)) ∧ (decode cX1_saying 74 = .ok (.isub, 1)) ∧ (decode cX1_saying 75 = .ok (.invokestatic 73, 3)) ∧ (decode cX1_saying 78 = .ok (.iadd, 1)) ∧ (decode cX1_saying 79 = .ok (.istore_n 3, 1)) ∧ (decode cX1_saying 80 = .ok (.iload_n 3, 1)) ∧ (decode cX1_saying 81 = .ok (.ireturn, 1)) := have h := dcb_64; ⟨fd_46 h, have h := fd_t1 h; ⟨fd_4 h, have h := fd_t1 h; ⟨fd_100 h, have h := fd_t1 h; ⟨fd_184 h rfl, have h := fd_t3 h; ⟨fd_96 h, have h := fd_t1 h; ⟨fd_62 h, have h := fd_t1 h; ⟨fd_29 h, have h := fd_t1 h; fd_172 h⟩⟩⟩⟩⟩⟩⟩
theorem dX1_saying_72 : decode cX1_saying 72 = .ok (.iaload, 1) := dcq_64.1
theorem dX1_saying_73 : decode cX1_saying 73 = .ok (.iconst 1, 1) := dcq_64.2.1
theorem dX1_saying_74 : decode cX1_saying 74 = .ok (.isub, 1) := dcq_64.2.2.1
theorem dX1_saying_75 : decode cX1_saying 75 = .ok (.invokestatic 73, 3) := dcq_64.2.2.2.1
theorem dX1_saying_78 : decode cX1_saying 78 = .ok (.iadd, 1) := dcq_64.2.2.2.2.1
theorem dX1_saying_79 : decode cX1_saying 79 = .ok (.istore_n 3, 1) := dcq_64.2.2.2.2.2.1
theorem dX1_saying_80 : decode cX1_saying 80 = .ok (.iload_n 3, 1) := dcq_64.2.2.2.2.2.2.1
theorem dX1_saying_81 : decode cX1_saying 81 = .ok (.ireturn, 1) := dcq_64.2.2.2.2.2.2.2
set_option maxRecDepth 20000 in
theorem dcb_65 : fd_B cX1_isUsing 0 [42, 180, 0, 18, 27, 46, 61, 28, 8, 160, 0, 5, 3, 172, 28, 7] := fd_o cX1_isUsing 0 _ (by decide +kernel)
theorem dcq_65 : (decode cX1_isUsing 0 = .ok (.aload_n 0, 1)) ∧ (decode cX1_isUsing 1 = .ok (.getfield 18, 3)) ∧ (decode cX1_isUsing 4 = .ok (.iload_n 1, 1)) ∧ (decode cX1_isUsing 5 = .ok (.iaload, 1)) ∧ (decode cX1_isUsing 6 = .ok (.istore_n 2, 1)) ∧ (decode cX1_isUsing 7 = .ok (.iload_n 2, 1)) ∧ (decode cX1_isUsing 8 = .ok (.iconst 5, 1)) ∧ (decode cX1_isUsing 9 = .ok (.if_icmp .ne 5, 3)) ∧ (decode cX1_isUsing 12 = .ok (.iconst 0, 1)) ∧ (decode cX1_isUsing 13 = .ok (.ireturn, 1)) ∧ (decode cX1_isUsing 14 = .ok (.iload_n 2, 1)) ∧ (decode cX1_isUsing 15 = .ok (.iconst 4, 1)) := have h := dcb_65; ⟨fd_42 h, have h := fd_t1 h; ⟨fd_180 h rfl, have h := fd_t3 h; ⟨fd_27 h, have h := fd_t1 h; ⟨fd_46 h, have h := fd_t1 h; ⟨fd_61 h, have h := fd_t1 h; ⟨fd_28 h, have h := fd_t1 h; ⟨fd_8 h, have h := fd_t1 h; ⟨fd_160 h (by decide +kernel), have h := fd_t3 h; ⟨fd_3 h, have h := fd_t1 h; ⟨fd_172 h, have h := fd_t1 h; ⟨fd_28 h, have h := fd_t1 h; fd_7 h⟩⟩⟩⟩⟩⟩⟩⟩⟩⟩⟩
theorem dX1_isUsing_0 : decode cX1_isUsing 0 = .ok (.aload_n 0, 1) := dcq_65.1
theorem dX1_isUsing_1 : decode cX1_isUsing 1 = .ok (.getfield 18, 3) := dcq_65.2.1
theorem dX1_isUsing_4 : decode cX1_isUsing 4 = .ok (.iload_n 1, 1) := dcq_65.2.2.1
theorem dX1_isUsing_5 : decode cX1_isUsing 5 = .ok (.iaload, 1) := dcq_65.2.2.2.1
theorem dX1_isUsing_6 : decode cX1_isUsing 6 = .ok (.istore_n 2, 1) := dcq_65.2.2.2.2.1
theorem dX1_isUsing_7 : decode cX1_isUsing 7 = .ok (.iload_n 2, 1) := dcq_65.2.2.2.2.2.1
theorem dX1_isUsing_8 : decode cX1_isUsing 8 = .ok (.iconst 5, 1) := dcq_65.2.2.2.2.2.2.1
theorem dX1_isUsing_9 : decode cX1_isUsing 9 = .ok (.if_icmp .ne 5, 3) := dcq_65.2.2.2.2.2.2.2.1
theorem dX1_isUsing_12 : decode cX1_isUsing 12 = .ok (.iconst 0, 1) := dcq_65.2.2.2.2.2.2.2.2.1
theorem dX1_isUsing_13 : decode cX1_isUsing 13 = .ok (.ireturn, 1) := dcq_65.2.2.2.2.2.2.2.2.2.1
theorem dX1_isUsing_14 : decode cX1_isUsing 14 = .ok (.iload_n 2, 1) := dcq_65.2.2.2.2.2.2.2.2.2.2.1
theorem dX1_isUsing_15 : decode cX1_isUsing 15 = .ok (.iconst 4, 1) := dcq_65.2.2.2.2.2.2.2.2.2.2.2
set_option maxRecDepth 20000 in
theorem dcb_66 : fd_B cX1_isUsing 16 [160, 0, 14, 42, 180, 0, 55, 6, 112, 153, 0, 5, 3, 172, 28, 5, 184, 0, 69, 153, 0, 12] := fd_o cX1_isUsing 16 _ (by decide +kernel)
theorem dcq_66 : (decode cX1_isUsing 16 = .ok (.if_icmp .ne 14, 3)) ∧ (decode cX1_isUsing 19 = .ok (.aload_n 0, 1)) ∧ (decode cX1_isUsing 20 = .ok (.getfield 55, 3)) ∧ (decode cX1_isUsing 23 = .ok (.iconst 3, 1)) ∧ (decode cX1_isUsing 24 = .ok (.irem, 1)) ∧ (decode cX1_isUsing 25 = .ok (.ifCond .eq 5, 3)) ∧ (decode cX1_isUsing 28 = .ok (.iconst 0, 1)) ∧ (decode cX1_isUsing 29 = .ok (.ireturn, 1)) ∧ (decode cX1_isUsing 30 = .ok (.iload_n 2, 1)) ∧ (decode cX1_isUsing 31 = .ok (.iconst 2, 1)) ∧ (decode cX1_isUsing 32 = .ok (.invokestatic 69, 3)) ∧ (decode cX1_isUsing 35 = .ok (.ifCond .eq 12, 3)) := have h := dcb_66; ⟨fd_160 h (by decide +kernel), have h := fd_t3 h; ⟨fd_42 h, have h := fd_t1 h; ⟨fd_180 h rfl, have h := fd_t3 h; ⟨fd_6 h, have h := fd_t1 h; ⟨fd_112 h, have h := fd_t1 h; ⟨fd_153 h (by decide +kernel), have h := fd_t3 h; ⟨fd_3 h, have h := fd_t1 h; ⟨fd_172 h, have h := fd_t1 h; ⟨fd_28 h, have h := fd_t1 h; ⟨fd_5 h, have h := fd_t1 h; ⟨fd_184 h rfl, have h := fd_t3 h; fd_153 h (by decide +kernel)⟩⟩⟩⟩⟩⟩⟩⟩⟩⟩⟩
theorem dX1_isUsing_16 : decode cX1_isUsing 16 = .ok (.if_icmp .ne 14, 3) := dcq_66.1
theorem dX1_isUsing_19 : decode cX1_isUsing 19 = .ok (.aload_n 0, 1) := dcq_66.2.1
theorem dX1_isUsing_20 : decode cX1_isUsing 20 = .ok (.getfield 55, 3) := dcq_66.2.2.1
theorem dX1_isUsing_23 : decode cX1_isUsing 23 = .ok (.iconst 3, 1) := dcq_66.2.2.2.1
theorem dX1_isUsing_24 : decode cX1_isUsing 24 = .ok (.irem, 1) := dcq_66.2.2.2.2.1
theorem dX1_isUsing_25 : decode cX1_isUsing 25 = .ok (.ifCond .eq 5, 3) := dcq_66.2.2.2.2.2.1
theorem dX1_isUsing_28 : decode cX1_isUsing 28 = .ok (.iconst 0, 1) := dcq_66.2.2.2.2.2.2.1
theorem dX1_isUsing_29 : decode cX1_isUsing 29 = .ok (.ireturn, 1) := dcq_66.2.2.2.2.2.2.2.1
theorem dX1_isUsing_30 : decode cX1_isUsing 30 = .ok (.iload_n 2, 1) := dcq_66.2.2.2.2.2.2.2.2.1
theorem dX1_isUsing_31 : decode cX1_isUsing 31 = .ok (.iconst 2, 1) := dcq_66.2.2.2.2.2.2.2.2.2.1
theorem dX1_isUsing_32 : decode cX1_isUsing 32 = .ok (.invokestatic 69, 3) := dcq_66.2.2.2.2.2.2.2.2.2.2.1
theorem dX1_isUsing_35 : decode cX1_isUsing 35 = .ok (.ifCond .eq 12, 3) := dcq_66.2.2.2.2.2.2.2.2.2.2.2
set_option maxRecDepth 20000 in
theorem dcb_67 : fd_B cX1_isUsing 38 [42, 180, 0, 55, 5, 112, 153, 0, 7, 4, 167, 0, 4, 3, 172] := fd_o cX1_isUsing 38 _ (by decide +kernel)
theorem dcq_67 : (decode cX1_isUsing 38 = .ok (.aload_n 0, 1)) ∧ (decode cX1_isUsing 39 = .ok (.getfield 55, 3)) ∧ (decode cX1_isUsing 42 = .ok (.iconst 2, 1)) ∧ (decode cX1_isUsing 43 = .ok (.irem, 1)) ∧ (decode cX1_isUsing 44 = .ok (.ifCond .eq 7, 3)) ∧ (decode cX1_isUsing 47 = .ok (.iconst 1, 1)) ∧ (decode cX1_isUsing 48 = .ok (.goto 4, 3)) ∧ (decode cX1_isUsing 51 = .ok (.iconst 0, 1)) ∧ (decode cX1_isUsing 52 = .ok (.ireturn, 1)) := have h := dcb_67; ⟨fd_42 h, have h := fd_t1 h; ⟨fd_180 h rfl, have h := fd_t3 h; ⟨fd_5 h, have h := fd_t1 h; ⟨fd_112 h, have h := fd_t1 h; ⟨fd_153 h (by decide +kernel), have h := fd_t3 h; ⟨fd_4 h, have h := fd_t1 h; ⟨fd_167 h (by decide +kernel), have h := fd_t3 h; ⟨fd_3 h, have h := fd_t1 h; fd_172 h⟩⟩⟩⟩⟩⟩⟩⟩
theorem dX1_isUsing_38 : decode cX1_isUsing 38 = .ok (.aload_n 0, 1) := dcq_67.1
theorem dX1_isUsing_39 : decode cX1_isUsing 39 = .ok (.getfield 55, 3) := dcq_67.2.1
theorem dX1_isUsing_42 : decode cX1_isUsing 42 = .ok (.iconst 2, 1) := dcq_67.2.2.1
theorem dX1_isUsing_43 : decode cX1_isUsing 43 = .ok (.irem, 1) := dcq_67.2.2.2.1
theorem dX1_isUsing_44 : decode cX1_isUsing 44 = .ok (.ifCond .eq 7, 3) := dcq_67.2.2.2.2.1
theorem dX1_isUsing_47 : decode cX1_isUsing 47 = .ok (.iconst 1, 1) := dcq_67.2.2.2.2.2.1
theorem dX1_isUsing_48 : decode cX1_isUsing 48 = .ok (.goto 4, 3) := dcq_67.2.2.2.2.2.2.1
theorem dX1_isUsing_51 : decode cX1_isUsing 51 = .ok (.iconst 0, 1) := dcq_67.2.2.2.2.2.2.2.1
theorem dX1_isUsing_52 : decode cX1_isUsing 52 = .ok (.ireturn, 1) := dcq_67.2.2.2.2.2.2.2.2
set_option maxRecDepth 20000 in
theorem dcb_68 : fd_B cX1_passWeek 0 [42, 182, 0, 79, 42, 27, 182, 0, 82, 42, 182, 0, 86, 61, 42, 89, 180, 0, 55, 4] := fd_o cX1_passWeek 0 _ (by decide +kernel)
theorem dcq_68 : (decode cX1_passWeek 0 = .ok (.aload_n 0, 1)) ∧ (decode cX1_passWeek 1 = .ok (.invokevirtual 79, 3)) ∧ (decode cX1_passWeek 4 = .ok (.aload_n 0, 1)) ∧ (decode cX1_passWeek 5 = .ok (.iload_n 1, 1)) ∧ (decode cX1_passWeek 6 = .ok (.invokevirtual 82, 3)) ∧ (decode cX1_passWeek 9 = .ok (.aload_n 0, 1)) ∧ (decode cX1_passWeek 10 = .ok (.invokevirtual 86, 3)) ∧ (decode cX1_passWeek 13 = .ok (.istore_n 2, 1)) ∧ (decode cX1_passWeek 14 = .ok (.aload_n 0, 1)) ∧ (decode cX1_passWeek 15 = .ok (.dup, 1)) ∧ (decode cX1_passWeek 16 = .ok (.getfield 55, 3)) ∧ (decode cX1_passWeek 19 = .ok (.iconst 1, 1)) := have h := dcb_68; ⟨fd_42 h, have h := fd_t1 h; ⟨fd_182 h rfl, have h := fd_t3 h; ⟨fd_42 h, have h := fd_t1 h; ⟨fd_27 h, have h := fd_t1 h; ⟨fd_182 h rfl, have h := fd_t3 h; ⟨fd_42 h, have h := fd_t1 h; ⟨fd_182 h rfl, have h := fd_t3 h; ⟨fd_61 h, have h := fd_t1 h; ⟨fd_42 h, have h := fd_t1 h; ⟨fd_89 h, have h := fd_t1 h; ⟨fd_180 h rfl, have h := fd_t3 h; fd_4 h⟩⟩⟩⟩⟩⟩⟩⟩⟩⟩⟩
theorem dX1_passWeek_0 : decode cX1_passWeek 0 = .ok (.aload_n 0, 1) := dcq_68.1
theorem dX1_passWeek_1 : decode cX1_passWeek 1 = .ok (.invokevirtual 79, 3) := dcq_68.2.1
theorem dX1_passWeek_4 : decode cX1_passWeek 4 = .ok (.aload_n 0, 1) := dcq_68.2.2.1
theorem dX1_passWeek_5 : decode cX1_passWeek 5 = .ok (.iload_n 1, 1) := dcq_68.2.2.2.1
theorem dX1_passWeek_6 : decode cX1_passWeek 6 = .ok (.invokevirtual 82, 3) := dcq_68.2.2.2.2.1
theorem dX1_passWeek_9 : decode cX1_passWeek 9 = .ok (.aload_n 0, 1) := dcq_68.2.2.2.2.2.1
theorem dX1_passWeek_10 : decode cX1_passWeek 10 = .ok (.invokevirtual 86, 3) := dcq_68.2.2.2.2.2.2.1
theorem dX1_passWeek_13 : decode cX1_passWeek 13 = .ok (.istore_n 2, 1) := dcq_68.2.2.2.2.2.2.2.1
theorem dX1_passWeek_14 : decode cX1_passWeek 14 = .ok (.aload_n 0, 1) := dcq_68.2.2.2.2.2.2.2.2.1
theorem dX1_passWeek_15 : decode cX1_passWeek 15 = .ok (.dup, 1) := dcq_68.2.2.2.2.2.2.2.2.2.1
theorem dX1_passWeek_16 : decode cX1_passWeek 16 = .ok (.getfield 55, 3) := dcq_68.2.2.2.2.2.2.2.2.2.2.1
theorem dX1_passWeek_19 : decode cX1_passWeek 19 = .ok (.iconst 1, 1) := dcq_68.2.2.2.2.2.2.2.2.2.2.2
set_option maxRecDepth 20000 in
theorem dcb_69 : fd_B cX1_passWeek 20 [96, 181, 0, 55, 28, 172] := fd_o cX1_passWeek 20 _ (by decide +kernel)
theorem dcq_69 : (decode cX1_passWeek 20 = .ok (.iadd, 1)) ∧ (decode cX1_passWeek 21 = .ok (.putfield 55, 3)) ∧ (decode cX1_passWeek 24 = .ok (.iload_n 2, 1)) ∧ (decode cX1_passWeek 25 = .ok (.ireturn, 1)) := have h := dcb_69; ⟨fd_96 h, have h := fd_t1 h; ⟨fd_181 h rfl, have h := fd_t3 h; ⟨fd_28 h, have h := fd_t1 h; fd_172 h⟩⟩⟩
theorem dX1_passWeek_20 : decode cX1_passWeek 20 = .ok (.iadd, 1) := dcq_69.1
theorem dX1_passWeek_21 : decode cX1_passWeek 21 = .ok (.putfield 55, 3) := dcq_69.2.1
theorem dX1_passWeek_24 : decode cX1_passWeek 24 = .ok (.iload_n 2, 1) := dcq_69.2.2.1
theorem dX1_passWeek_25 : decode cX1_passWeek 25 = .ok (.ireturn, 1) := dcq_69.2.2.2
set_option maxRecDepth 20000 in
theorem dcb_70 : fd_B cX1_passWeekByDraws 0 [42, 180, 0, 52, 158, 0, 39, 42, 182, 0, 90, 42, 180, 0, 52, 112, 60, 42, 182, 0, 90, 16, 100] := fd_o cX1_passWeekByDraws 0 _ (by decide +kernel)
theorem dcq_70 : (decode cX1_passWeekByDraws 0 = .ok (.aload_n 0, 1)) ∧ (decode cX1_passWeekByDraws 1 = .ok (.getfield 52, 3)) ∧ (decode cX1_passWeekByDraws 4 = .ok (.ifCond .le 39, 3)) ∧ (decode cX1_passWeekByDraws 7 = .ok (.aload_n 0, 1)) ∧ (decode cX1_passWeekByDraws 8 = .ok (.invokevirtual 90, 3)) ∧ (decode cX1_passWeekByDraws 11 = .ok (.aload_n 0, 1)) ∧ (decode cX1_passWeekByDraws 12 = .ok (.getfield 52, 3)) ∧ (decode cX1_passWeekByDraws 15 = .ok (.irem, 1)) ∧ (decode cX1_passWeekByDraws 16 = .ok (.istore_n 1, 1)) ∧ (decode cX1_passWeekByDraws 17 = .ok (.aload_n 0, 1)) ∧ (decode cX1_passWeekByDraws 18 = .ok (.invokevirtual 90, 3)) ∧ (decode cX1_passWeekByDraws 21 = .ok (.bipush 100, 2)) := have h := dcb_70; ⟨fd_42 h, have h := fd_t1 h; ⟨fd_180 h rfl, have h := fd_t3 h; ⟨fd_158 h (by decide +kernel), have h := fd_t3 h; ⟨fd_42 h, have h := fd_t1 h; ⟨fd_182 h rfl, have h := fd_t3 h; ⟨fd_42 h, have h := fd_t1 h; ⟨fd_180 h rfl, have h := fd_t3 h; ⟨fd_112 h, have h := fd_t1 h; ⟨fd_60 h, have h := fd_t1 h; ⟨fd_42 h, have h := fd_t1 h; ⟨fd_182 h rfl, have h := fd_t3 h; fd_16 h (by decide +kernel)⟩⟩⟩⟩⟩⟩⟩⟩⟩⟩⟩
theorem dX1_passWeekByDraws_0 : decode cX1_passWeekByDraws 0 = .ok (.aload_n 0, 1) := dcq_70.1
theorem dX1_passWeekByDraws_1 : decode cX1_passWeekByDraws 1 = .ok (.getfield 52, 3) := dcq_70.2.1
theorem dX1_passWeekByDraws_4 : decode cX1_passWeekByDraws 4 = .ok (.ifCond .le 39, 3) := dcq_70.2.2.1
theorem dX1_passWeekByDraws_7 : decode cX1_passWeekByDraws 7 = .ok (.aload_n 0, 1) := dcq_70.2.2.2.1
theorem dX1_passWeekByDraws_8 : decode cX1_passWeekByDraws 8 = .ok (.invokevirtual 90, 3) := dcq_70.2.2.2.2.1
theorem dX1_passWeekByDraws_11 : decode cX1_passWeekByDraws 11 = .ok (.aload_n 0, 1) := dcq_70.2.2.2.2.2.1
theorem dX1_passWeekByDraws_12 : decode cX1_passWeekByDraws 12 = .ok (.getfield 52, 3) := dcq_70.2.2.2.2.2.2.1
theorem dX1_passWeekByDraws_15 : decode cX1_passWeekByDraws 15 = .ok (.irem, 1) := dcq_70.2.2.2.2.2.2.2.1
theorem dX1_passWeekByDraws_16 : decode cX1_passWeekByDraws 16 = .ok (.istore_n 1, 1) := dcq_70.2.2.2.2.2.2.2.2.1
theorem dX1_passWeekByDraws_17 : decode cX1_passWeekByDraws 17 = .ok (.aload_n 0, 1) := dcq_70.2.2.2.2.2.2.2.2.2.1
theorem dX1_passWeekByDraws_18 : decode cX1_passWeekByDraws 18 = .ok (.invokevirtual 90, 3) := dcq_70.2.2.2.2.2.2.2.2.2.2.1
theorem dX1_passWeekByDraws_21 : decode cX1_passWeekByDraws 21 = .ok (.bipush 100, 2) := dcq_70.2.2.2.2.2.2.2.2.2.2.2
set_option maxRecDepth 20000 in
theorem dcb_71 : fd_B cX1_passWeekByDraws 23 [112, 42, 180, 0, 13, 6, 46, 162, 0, 13, 42, 180, 0, 21, 27, 92, 46, 5] := fd_o cX1_passWeekByDraws 23 _ (by decide +kernel)
theorem dcq_71 : (decode cX1_passWeekByDraws 23 = .ok (.irem, 1)) ∧ (decode cX1_passWeekByDraws 24 = .ok (.aload_n 0, 1)) ∧ (decode cX1_passWeekByDraws 25 = .ok (.getfield 13, 3)) ∧ (decode cX1_passWeekByDraws 28 = .ok (.iconst 3, 1)) ∧ (decode cX1_passWeekByDraws 29 = .ok (.iaload, 1)) ∧ (decode cX1_passWeekByDraws 30 = .ok (.if_icmp .ge 13, 3)) ∧ (decode cX1_passWeekByDraws 33 = .ok (.aload_n 0, 1)) ∧ (decode cX1_passWeekByDraws 34 = .ok (.getfield 21, 3)) ∧ (decode cX1_passWeekByDraws 37 = .ok (.iload_n 1, 1)) ∧ (decode cX1_passWeekByDraws 38 = .ok (.dup2, 1)) ∧ (decode cX1_passWeekByDraws 39 = .ok (.iaload, 1)) ∧ (decode cX1_passWeekByDraws 40 = .ok (.iconst 2, 1)) := have h := dcb_71; ⟨fd_112 h, have h := fd_t1 h; ⟨fd_42 h, have h := fd_t1 h; ⟨fd_180 h rfl, have h := fd_t3 h; ⟨fd_6 h, have h := fd_t1 h; ⟨fd_46 h, have h := fd_t1 h; ⟨fd_162 h (by decide +kernel), have h := fd_t3 h; ⟨fd_42 h, have h := fd_t1 h; ⟨fd_180 h rfl, have h := fd_t3 h; ⟨fd_27 h, have h := fd_t1 h; ⟨fd_92 h, have h := fd_t1 h; ⟨fd_46 h, have h := fd_t1 h; fd_5 h⟩⟩⟩⟩⟩⟩⟩⟩⟩⟩⟩
theorem dX1_passWeekByDraws_23 : decode cX1_passWeekByDraws 23 = .ok (.irem, 1) := dcq_71.1
theorem dX1_passWeekByDraws_24 : decode cX1_passWeekByDraws 24 = .ok (.aload_n 0, 1) := dcq_71.2.1
theorem dX1_passWeekByDraws_25 : decode cX1_passWeekByDraws 25 = .ok (.getfield 13, 3) := dcq_71.2.2.1
theorem dX1_passWeekByDraws_28 : decode cX1_passWeekByDraws 28 = .ok (.iconst 3, 1) := dcq_71.2.2.2.1
theorem dX1_passWeekByDraws_29 : decode cX1_passWeekByDraws 29 = .ok (.iaload, 1) := dcq_71.2.2.2.2.1
theorem dX1_passWeekByDraws_30 : decode cX1_passWeekByDraws 30 = .ok (.if_icmp .ge 13, 3) := dcq_71.2.2.2.2.2.1
theorem dX1_passWeekByDraws_33 : decode cX1_passWeekByDraws 33 = .ok (.aload_n 0, 1) := dcq_71.2.2.2.2.2.2.1
theorem dX1_passWeekByDraws_34 : decode cX1_passWeekByDraws 34 = .ok (.getfield 21, 3) := dcq_71.2.2.2.2.2.2.2.1
theorem dX1_passWeekByDraws_37 : decode cX1_passWeekByDraws 37 = .ok (.iload_n 1, 1) := dcq_71.2.2.2.2.2.2.2.2.1
theorem dX1_passWeekByDraws_38 : decode cX1_passWeekByDraws 38 = .ok (.dup2, 1) := dcq_71.2.2.2.2.2.2.2.2.2.1
theorem dX1_passWeekByDraws_39 : decode cX1_passWeekByDraws 39 = .ok (.iaload, 1) := dcq_71.2.2.2.2.2.2.2.2.2.2.1
theorem dX1_passWeekByDraws_40 : decode cX1_passWeekByDraws 40 = .ok (.iconst 2, 1) := dcq_71.2.2.2.2.2.2.2.2.2.2.2
set_option maxRecDepth 20000 in
theorem dcb_72 : fd_B cX1_passWeekByDraws 41 [108, 79, 42, 17, 0, 255, 182, 0, 93, 172] := fd_o cX1_passWeekByDraws 41 _ (by decide +kernel)
theorem dcq_72 : (decode cX1_passWeekByDraws 41 = .ok (.idiv, 1)) ∧ (decode cX1_passWeekByDraws 42 = .ok (.iastore, 1)) ∧ (decode cX1_passWeekByDraws 43 = .ok (.aload_n 0, 1)) ∧ (decode cX1_passWeekByDraws 44 = .ok (.sipush 255, 3)) ∧ (decode cX1_passWeekByDraws 47 = .ok (.invokevirtual 93, 3)) ∧ (decode cX1_passWeekByDraws 50 = .ok (.ireturn, 1)) := have h := dcb_72; ⟨fd_108 h, have h := fd_t1 h; ⟨fd_79 h, have h := fd_t1 h; ⟨fd_42 h, have h := fd_t1 h; ⟨fd_17 h (by decide +kernel), have h := fd_t3 h; ⟨fd_182 h rfl, have h := fd_t3 h; fd_172 h⟩⟩⟩⟩⟩
theorem dX1_passWeekByDraws_41 : decode cX1_passWeekByDraws 41 = .ok (.idiv, 1) := dcq_72.1
theorem dX1_passWeekByDraws_42 : decode cX1_passWeekByDraws 42 = .ok (.iastore, 1) := dcq_72.2.1
theorem dX1_passWeekByDraws_43 : decode cX1_passWeekByDraws 43 = .ok (.aload_n 0, 1) := dcq_72.2.2.1
theorem dX1_passWeekByDraws_44 : decode cX1_passWeekByDraws 44 = .ok (.sipush 255, 3) := dcq_72.2.2.2.1
theorem dX1_passWeekByDraws_47 : decode cX1_passWeekByDraws 47 = .ok (.invokevirtual 93, 3) := dcq_72.2.2.2.2.1
theorem dX1_passWeekByDraws_50 : decode cX1_passWeekByDraws 50 = .ok (.ireturn, 1) := dcq_72.2.2.2.2.2
set_option maxRecDepth 20000 in
theorem dcb_73 : fd_B cX1_draw 0 [42, 42, 180, 0, 42, 18, 96, 104, 17, 48, 57, 96, 181, 0, 42, 42, 180, 0, 42, 16, 16, 124] := fd_o cX1_draw 0 _ (by decide +kernel)
theorem dcq_73 : (decode cX1_draw 0 = .ok (.aload_n 0, 1)) ∧ (decode cX1_draw 1 = .ok (.aload_n 0, 1)) ∧ (decode cX1_draw 2 = .ok (.getfield 42, 3)) ∧ (decode cX1_draw 5 = .ok (.ldc 96, 2)) ∧ (decode cX1_draw 7 = .ok (.imul, 1)) ∧ (decode cX1_draw 8 = .ok (.sipush 12345, 3)) ∧ (decode cX1_draw 11 = .ok (.iadd, 1)) ∧ (decode cX1_draw 12 = .ok (.putfield 42, 3)) ∧ (decode cX1_draw 15 = .ok (.aload_n 0, 1)) ∧ (decode cX1_draw 16 = .ok (.getfield 42, 3)) ∧ (decode cX1_draw 19 = .ok (.bipush 16, 2)) ∧ (decode cX1_draw 21 = .ok (.iushr, 1)) := have h := dcb_73; ⟨fd_42 h, have h := fd_t1 h; ⟨fd_42 h, have h := fd_t1 h; ⟨fd_180 h rfl, have h := fd_t3 h; ⟨fd_18 h rfl, have h := fd_t2 h; ⟨fd_104 h, have h := fd_t1 h; ⟨fd_17 h (by decide +kernel), have h := fd_t3 h; ⟨fd_96 h, have h := fd_t1 h; ⟨fd_181 h rfl, have h := fd_t3 h; ⟨fd_42 h, have h := fd_t1 h; ⟨fd_180 h rfl, have h := fd_t3 h; ⟨fd_16 h (by decide +kernel), have h := fd_t2 h; fd_124 h⟩⟩⟩⟩⟩⟩⟩⟩⟩⟩⟩
theorem dX1_draw_0 : decode cX1_draw 0 = .ok (.aload_n 0, 1) := dcq_73.1
theorem dX1_draw_1 : decode cX1_draw 1 = .ok (.aload_n 0, 1) := dcq_73.2.1
theorem dX1_draw_2 : decode cX1_draw 2 = .ok (.getfield 42, 3) := dcq_73.2.2.1
theorem dX1_draw_5 : decode cX1_draw 5 = .ok (.ldc 96, 2) := dcq_73.2.2.2.1
theorem dX1_draw_7 : decode cX1_draw 7 = .ok (.imul, 1) := dcq_73.2.2.2.2.1
theorem dX1_draw_8 : decode cX1_draw 8 = .ok (.sipush 12345, 3) := dcq_73.2.2.2.2.2.1
theorem dX1_draw_11 : decode cX1_draw 11 = .ok (.iadd, 1) := dcq_73.2.2.2.2.2.2.1
theorem dX1_draw_12 : decode cX1_draw 12 = .ok (.putfield 42, 3) := dcq_73.2.2.2.2.2.2.2.1
theorem dX1_draw_15 : decode cX1_draw 15 = .ok (.aload_n 0, 1) := dcq_73.2.2.2.2.2.2.2.2.1
theorem dX1_draw_16 : decode cX1_draw 16 = .ok (.getfield 42, 3) := dcq_73.2.2.2.2.2.2.2.2.2.1
theorem dX1_draw_19 : decode cX1_draw 19 = .ok (.bipush 16, 2) := dcq_73.2.2.2.2.2.2.2.2.2.2.1
theorem dX1_draw_21 : decode cX1_draw 21 = .ok (.iushr, 1) := dcq_73.2.2.2.2.2.2.2.2.2.2.2
set_option maxRecDepth 20000 in
theorem dcb_74 : fd_B cX1_draw 22 [172] := fd_o cX1_draw 22 _ (by decide +kernel)
theorem dX1_draw_22 : decode cX1_draw 22 = .ok (.ireturn, 1) := fd_172 dcb_74
set_option maxRecDepth 20000 in
theorem dcb_75 : fd_B cX1_think 0 [3, 60, 27, 42, 180, 0, 52, 162, 0, 43, 42, 180, 0, 21, 27, 16, 99, 42, 180, 0, 21] := fd_o cX1_think 0 _ (by decide +kernel)
theorem dcq_75 : (decode cX1_think 0 = .ok (.iconst 0, 1)) ∧ (decode cX1_think 1 = .ok (.istore_n 1, 1)) ∧ (decode cX1_think 2 = .ok (.iload_n 1, 1)) ∧ (decode cX1_think 3 = .ok (.aload_n 0, 1)) ∧ (decode cX1_think 4 = .ok (.getfield 52, 3)) ∧ (decode cX1_think 7 = .ok (.if_icmp .ge 43, 3)) ∧ (decode cX1_think 10 = .ok (.aload_n 0, 1)) ∧ (decode cX1_think 11 = .ok (.getfield 21, 3)) ∧ (decode cX1_think 14 = .ok (.iload_n 1, 1)) ∧ (decode cX1_think 15 = .ok (.bipush 99, 2)) ∧ (decode cX1_think 17 = .ok (.aload_n 0, 1)) ∧ (decode cX1_think 18 = .ok (.getfield 21, 3)) := have h := dcb_75; ⟨fd_3 h, have h := fd_t1 h; ⟨fd_60 h, have h := fd_t1 h; ⟨fd_27 h, have h := fd_t1 h; ⟨fd_42 h, have h := fd_t1 h; ⟨fd_180 h rfl, have h := fd_t3 h; ⟨fd_162 h (by decide +kernel), have h := fd_t3 h; ⟨fd_42 h, have h := fd_t1 h; ⟨fd_180 h rfl, have h := fd_t3 h; ⟨fd_27 h, have h := fd_t1 h; ⟨fd_16 h (by decide +kernel), have h := fd_t2 h; ⟨fd_42 h, have h := fd_t1 h; fd_180 h rfl⟩⟩⟩⟩⟩⟩⟩⟩⟩⟩⟩
theorem dX1_think_0 : decode cX1_think 0 = .ok (.iconst 0, 1) := dcq_75.1
theorem dX1_think_1 : decode cX1_think 1 = .ok (.istore_n 1, 1) := dcq_75.2.1
theorem dX1_think_2 : decode cX1_think 2 = .ok (.iload_n 1, 1) := dcq_75.2.2.1
theorem dX1_think_3 : decode cX1_think 3 = .ok (.aload_n 0, 1) := dcq_75.2.2.2.1
theorem dX1_think_4 : decode cX1_think 4 = .ok (.getfield 52, 3) := dcq_75.2.2.2.2.1
theorem dX1_think_7 : decode cX1_think 7 = .ok (.if_icmp .ge 43, 3) := dcq_75.2.2.2.2.2.1
theorem dX1_think_10 : decode cX1_think 10 = .ok (.aload_n 0, 1) := dcq_75.2.2.2.2.2.2.1
theorem dX1_think_11 : decode cX1_think 11 = .ok (.getfield 21, 3) := dcq_75.2.2.2.2.2.2.2.1
theorem dX1_think_14 : decode cX1_think 14 = .ok (.iload_n 1, 1) := dcq_75.2.2.2.2.2.2.2.2.1
theorem dX1_think_15 : decode cX1_think 15 = .ok (.bipush 99, 2) := dcq_75.2.2.2.2.2.2.2.2.2.1
theorem dX1_think_17 : decode cX1_think 17 = .ok (.aload_n 0, 1) := dcq_75.2.2.2.2.2.2.2.2.2.2.1
theorem dX1_think_18 : decode cX1_think 18 = .ok (.getfield 21, 3) := dcq_75.2.2.2.2.2.2.2.2.2.2.2
set_option maxRecDepth 20000 in
theorem dcb_76 : fd_B cX1_think 21 [27, 46, 42, 27, 182, 0, 97, 96, 184, 0, 100, 79, 42, 180, 0, 36, 27, 42] := fd_o cX1_think 21 _ (by decide +kernel)
theorem dcq_76 : (decode cX1_think 21 = .ok (.iload_n 1, 1)) ∧ (decode cX1_think 22 = .ok (.iaload, 1)) ∧ (decode cX1_think 23 = .ok (.aload_n 0, 1)) ∧ (decode cX1_think 24 = .ok (.iload_n 1, 1)) ∧ (decode cX1_think 25 = .ok (.invokevirtual 97, 3)) ∧ (decode cX1_think 28 = .ok (.iadd, 1)) ∧ (decode cX1_think 29 = .ok (.invokestatic 100, 3)) ∧ (decode cX1_think 32 = .ok (.iastore, 1)) ∧ (decode cX1_think 33 = .ok (.aload_n 0, 1)) ∧ (decode cX1_think 34 = .ok (.getfield 36, 3)) ∧ (decode cX1_think 37 = .ok (.iload_n 1, 1)) ∧ (decode cX1_think 38 = .ok (.aload_n 0, 1)) := have h := dcb_76; ⟨fd_27 h, have h := fd_t1 h; ⟨fd_46 h, have h := fd_t1 h; ⟨fd_42 h, have h := fd_t1 h; ⟨fd_27 h, have h := fd_t1 h; ⟨fd_182 h rfl, have h := fd_t3 h; ⟨fd_96 h, have h := fd_t1 h; ⟨fd_184 h rfl, have h := fd_t3 h; ⟨fd_79 h, have h := fd_t1 h; ⟨fd_42 h, have h := fd_t1 h; ⟨fd_180 h rfl, have h := fd_t3 h; ⟨fd_27 h, have h := fd_t1 h; fd_42 h⟩⟩⟩⟩⟩⟩⟩⟩⟩⟩⟩
theorem dX1_think_21 : decode cX1_think 21 = .ok (.iload_n 1, 1) := dcq_76.1
theorem dX1_think_22 : decode cX1_think 22 = .ok (.iaload, 1) := dcq_76.2.1
theorem dX1_think_23 : decode cX1_think 23 = .ok (.aload_n 0, 1) := dcq_76.2.2.1
theorem dX1_think_24 : decode cX1_think 24 = .ok (.iload_n 1, 1) := dcq_76.2.2.2.1
theorem dX1_think_25 : decode cX1_think 25 = .ok (.invokevirtual 97, 3) := dcq_76.2.2.2.2.1
theorem dX1_think_28 : decode cX1_think 28 = .ok (.iadd, 1) := dcq_76.2.2.2.2.2.1
theorem dX1_think_29 : decode cX1_think 29 = .ok (.invokestatic 100, 3) := dcq_76.2.2.2.2.2.2.1
theorem dX1_think_32 : decode cX1_think 32 = .ok (.iastore, 1) := dcq_76.2.2.2.2.2.2.2.1
theorem dX1_think_33 : decode cX1_think 33 = .ok (.aload_n 0, 1) := dcq_76.2.2.2.2.2.2.2.2.1
theorem dX1_think_34 : decode cX1_think 34 = .ok (.getfield 36, 3) := dcq_76.2.2.2.2.2.2.2.2.2.1
theorem dX1_think_37 : decode cX1_think 37 = .ok (.iload_n 1, 1) := dcq_76.2.2.2.2.2.2.2.2.2.2.1
theorem dX1_think_38 : decode cX1_think 38 = .ok (.aload_n 0, 1) := dcq_76.2.2.2.2.2.2.2.2.2.2.2
set_option maxRecDepth 20000 in
theorem dcb_77 : fd_B cX1_think 39 [27, 182, 0, 65, 79, 132, 1, 1, 167, 255, 211, 177] := fd_o cX1_think 39 _ (by decide +kernel)
theorem dcq_77 : (decode cX1_think 39 = .ok (.iload_n 1, 1)) ∧ (decode cX1_think 40 = .ok (.invokevirtual 65, 3)) ∧ (decode cX1_think 43 = .ok (.iastore, 1)) ∧ (decode cX1_think 44 = .ok (.iinc 1 1, 3)) ∧ (decode cX1_think 47 = .ok (.goto (-45), 3)) ∧ (decode cX1_think 50 = .ok (.return_, 1)) := have h := dcb_77; ⟨fd_27 h, have h := fd_t1 h; ⟨fd_182 h rfl, have h := fd_t3 h; ⟨fd_79 h, have h := fd_t1 h; ⟨fd_132 h rfl (by decide +kernel), have h := fd_t3 h; ⟨fd_167 h (by decide +kernel), have h := fd_t3 h; fd_177 h⟩⟩⟩⟩⟩
theorem dX1_think_39 : decode cX1_think 39 = .ok (.iload_n 1, 1) := dcq_77.1
theorem dX1_think_40 : decode cX1_think 40 = .ok (.invokevirtual 65, 3) := dcq_77.2.1
theorem dX1_think_43 : decode cX1_think 43 = .ok (.iastore, 1) := dcq_77.2.2.1
theorem dX1_think_44 : decode cX1_think 44 = .ok (.iinc 1 1, 3) := dcq_77.2.2.2.1
theorem dX1_think_47 : decode cX1_think 47 = .ok (.goto (-45), 3) := dcq_77.2.2.2.2.1
theorem dX1_think_50 : decode cX1_think 50 = .ok (.return_, 1) := dcq_77.2.2.2.2.2
set_option maxRecDepth 20000 in
theorem dcb_78 : fd_B cX1_handOut 0 [42, 180, 0, 13, 3, 46, 61, 28, 158, 0, 81, 42, 27, 182, 0, 103, 62, 29] := fd_o cX1_handOut 0 _ (by decide +kernel)
theorem dcq_78 : (decode cX1_handOut 0 = .ok (.aload_n 0, 1)) ∧ (decode cX1_handOut 1 = .ok (.getfield 13, 3)) ∧ (decode cX1_handOut 4 = .ok (.iconst 0, 1)) ∧ (decode cX1_handOut 5 = .ok (.iaload, 1)) ∧ (decode cX1_handOut 6 = .ok (.istore_n 2, 1)) ∧ (decode cX1_handOut 7 = .ok (.iload_n 2, 1)) ∧ (decode cX1_handOut 8 = .ok (.ifCond .le 81, 3)) ∧ (decode cX1_handOut 11 = .ok (.aload_n 0, 1)) ∧ (decode cX1_handOut 12 = .ok (.iload_n 1, 1)) ∧ (decode cX1_handOut 13 = .ok (.invokevirtual 103, 3)) ∧ (decode cX1_handOut 16 = .ok (.istore_n 3, 1)) ∧ (decode cX1_handOut 17 = .ok (.iload_n 3, 1)) := have h := dcb_78; ⟨fd_42 h, have h := fd_t1 h; ⟨fd_180 h rfl, have h := fd_t3 h; ⟨fd_3 h, have h := fd_t1 h; ⟨fd_46 h, have h := fd_t1 h; ⟨fd_61 h, have h := fd_t1 h; ⟨fd_28 h, have h := fd_t1 h; ⟨fd_158 h (by decide +kernel), have h := fd_t3 h; ⟨fd_42 h, have h := fd_t1 h; ⟨fd_27 h, have h := fd_t1 h; ⟨fd_182 h rfl, have h := fd_t3 h; ⟨fd_62 h, have h := fd_t1 h; fd_29 h⟩⟩⟩⟩⟩⟩⟩⟩⟩⟩⟩
theorem dX1_handOut_0 : decode cX1_handOut 0 = .ok (.aload_n 0, 1) := dcq_78.1
theorem dX1_handOut_1 : decode cX1_handOut 1 = .ok (.getfield 13, 3) := dcq_78.2.1
theorem dX1_handOut_4 : decode cX1_handOut 4 = .ok (.iconst 0, 1) := dcq_78.2.2.1
theorem dX1_handOut_5 : decode cX1_handOut 5 = .ok (.iaload, 1) := dcq_78.2.2.2.1
theorem dX1_handOut_6 : decode cX1_handOut 6 = .ok (.istore_n 2, 1) := dcq_78.2.2.2.2.1
theorem dX1_handOut_7 : decode cX1_handOut 7 = .ok (.iload_n 2, 1) := dcq_78.2.2.2.2.2.1
theorem dX1_handOut_8 : decode cX1_handOut 8 = .ok (.ifCond .le 81, 3) := dcq_78.2.2.2.2.2.2.1
theorem dX1_handOut_11 : decode cX1_handOut 11 = .ok (.aload_n 0, 1) := dcq_78.2.2.2.2.2.2.2.1
theorem dX1_handOut_12 : decode cX1_handOut 12 = .ok (.iload_n 1, 1) := dcq_78.2.2.2.2.2.2.2.2.1
theorem dX1_handOut_13 : decode cX1_handOut 13 = .ok (.invokevirtual 103, 3) := dcq_78.2.2.2.2.2.2.2.2.2.1
theorem dX1_handOut_16 : decode cX1_handOut 16 = .ok (.istore_n 3, 1) := dcq_78.2.2.2.2.2.2.2.2.2.2.1
theorem dX1_handOut_17 : decode cX1_handOut 17 = .ok (.iload_n 3, 1) := dcq_78.2.2.2.2.2.2.2.2.2.2.2
set_option maxRecDepth 20000 in
theorem dcb_79 : fd_B cX1_handOut 18 [156, 0, 20, 42, 17, 39, 15, 42, 180, 0, 58, 28, 96, 184, 0, 100, 181, 0, 58, 177, 42, 180, 0, 27] := fd_o cX1_handOut 18 _ (by decide +kernel)
theorem dcq_79 : (decode cX1_handOut 18 = .ok (.ifCond .ge 20, 3)) ∧ (decode cX1_handOut 21 = .ok (.aload_n 0, 1)) ∧ (decode cX1_handOut 22 = .ok (.sipush 9999, 3)) ∧ (decode cX1_handOut 25 = .ok (.aload_n 0, 1)) ∧ (decode cX1_handOut 26 = .ok (.getfield 58, 3)) ∧ (decode cX1_handOut 29 = .ok (.iload_n 2, 1)) ∧ (decode cX1_handOut 30 = .ok (.iadd, 1)) ∧ (decode cX1_handOut 31 = .ok (.invokestatic 100, 3)) ∧ (decode cX1_handOut 34 = .ok (.putfield 58, 3)) ∧ (decode cX1_handOut 37 = .ok (.return_, 1)) ∧ (decode cX1_handOut 38 = .ok (.aload_n 0, 1)) ∧ (decode cX1_handOut 39 = .ok (.getfield 27, 3)) := have h := dcb_79; ⟨fd_156 h (by decide +kernel), have h := fd_t3 h; ⟨fd_42 h, have h := fd_t1 h; ⟨fd_17 h (by decide +kernel), have h := fd_t3 h; ⟨fd_42 h, have h := fd_t1 h; ⟨fd_180 h rfl, have h := fd_t3 h; ⟨fd_28 h, have h := fd_t1 h; ⟨fd_96 h, have h := fd_t1 h; ⟨fd_184 h rfl, have h := fd_t3 h; ⟨fd_181 h rfl, have h := fd_t3 h; ⟨fd_177 h, have h := fd_t1 h; ⟨fd_42 h, have h := fd_t1 h; fd_180 h rfl⟩⟩⟩⟩⟩⟩⟩⟩⟩⟩⟩
theorem dX1_handOut_18 : decode cX1_handOut 18 = .ok (.ifCond .ge 20, 3) := dcq_79.1
theorem dX1_handOut_21 : decode cX1_handOut 21 = .ok (.aload_n 0, 1) := dcq_79.2.1
theorem dX1_handOut_22 : decode cX1_handOut 22 = .ok (.sipush 9999, 3) := dcq_79.2.2.1
theorem dX1_handOut_25 : decode cX1_handOut 25 = .ok (.aload_n 0, 1) := dcq_79.2.2.2.1
theorem dX1_handOut_26 : decode cX1_handOut 26 = .ok (.getfield 58, 3) := dcq_79.2.2.2.2.1
theorem dX1_handOut_29 : decode cX1_handOut 29 = .ok (.iload_n 2, 1) := dcq_79.2.2.2.2.2.1
theorem dX1_handOut_30 : decode cX1_handOut 30 = .ok (.iadd, 1) := dcq_79.2.2.2.2.2.2.1
theorem dX1_handOut_31 : decode cX1_handOut 31 = .ok (.invokestatic 100, 3) := dcq_79.2.2.2.2.2.2.2.1
theorem dX1_handOut_34 : decode cX1_handOut 34 = .ok (.putfield 58, 3) := dcq_79.2.2.2.2.2.2.2.2.1
theorem dX1_handOut_37 : decode cX1_handOut 37 = .ok (.return_, 1) := dcq_79.2.2.2.2.2.2.2.2.2.1
theorem dX1_handOut_38 : decode cX1_handOut 38 = .ok (.aload_n 0, 1) := dcq_79.2.2.2.2.2.2.2.2.2.2.1
theorem dX1_handOut_39 : decode cX1_handOut 39 = .ok (.getfield 27, 3) := dcq_79.2.2.2.2.2.2.2.2.2.2.2
set_option maxRecDepth 20000 in
theorem dcb_80 : fd_B cX1_handOut 42 [29, 92, 46, 4, 96, 79, 42, 180, 0, 30, 29, 17, 39, 15, 42, 180, 0, 30] := fd_o cX1_handOut 42 _ (by decide +kernel)
theorem dcq_80 : (decode cX1_handOut 42 = .ok (.iload_n 3, 1)) ∧ (decode cX1_handOut 43 = .ok (.dup2, 1)) ∧ (decode cX1_handOut 44 = .ok (.iaload, 1)) ∧ (decode cX1_handOut 45 = .ok (.iconst 1, 1)) ∧ (decode cX1_handOut 46 = .ok (.iadd, 1)) ∧ (decode cX1_handOut 47 = .ok (.iastore, 1)) ∧ (decode cX1_handOut 48 = .ok (.aload_n 0, 1)) ∧ (decode cX1_handOut 49 = .ok (.getfield 30, 3)) ∧ (decode cX1_handOut 52 = .ok (.iload_n 3, 1)) ∧ (decode cX1_handOut 53 = .ok (.sipush 9999, 3)) ∧ (decode cX1_handOut 56 = .ok (.aload_n 0, 1)) ∧ (decode cX1_handOut 57 = .ok (.getfield 30, 3)) := have h := dcb_80; ⟨fd_29 h, have h := fd_t1 h; ⟨fd_92 h, have h := fd_t1 h; ⟨fd_46 h, have h := fd_t1 h; ⟨fd_4 h, have h := fd_t1 h; ⟨fd_96 h, have h := fd_t1 h; ⟨fd_79 h, have h := fd_t1 h; ⟨fd_42 h, have h := fd_t1 h; ⟨fd_180 h rfl, have h := fd_t3 h; ⟨fd_29 h, have h := fd_t1 h; ⟨fd_17 h (by decide +kernel), have h := fd_t3 h; ⟨fd_42 h, have h := fd_t1 h; fd_180 h rfl⟩⟩⟩⟩⟩⟩⟩⟩⟩⟩⟩
theorem dX1_handOut_42 : decode cX1_handOut 42 = .ok (.iload_n 3, 1) := dcq_80.1
theorem dX1_handOut_43 : decode cX1_handOut 43 = .ok (.dup2, 1) := dcq_80.2.1
theorem dX1_handOut_44 : decode cX1_handOut 44 = .ok (.iaload, 1) := dcq_80.2.2.1
theorem dX1_handOut_45 : decode cX1_handOut 45 = .ok (.iconst 1, 1) := dcq_80.2.2.2.1
theorem dX1_handOut_46 : decode cX1_handOut 46 = .ok (.iadd, 1) := dcq_80.2.2.2.2.1
theorem dX1_handOut_47 : decode cX1_handOut 47 = .ok (.iastore, 1) := dcq_80.2.2.2.2.2.1
theorem dX1_handOut_48 : decode cX1_handOut 48 = .ok (.aload_n 0, 1) := dcq_80.2.2.2.2.2.2.1
theorem dX1_handOut_49 : decode cX1_handOut 49 = .ok (.getfield 30, 3) := dcq_80.2.2.2.2.2.2.2.1
theorem dX1_handOut_52 : decode cX1_handOut 52 = .ok (.iload_n 3, 1) := dcq_80.2.2.2.2.2.2.2.2.1
theorem dX1_handOut_53 : decode cX1_handOut 53 = .ok (.sipush 9999, 3) := dcq_80.2.2.2.2.2.2.2.2.2.1
theorem dX1_handOut_56 : decode cX1_handOut 56 = .ok (.aload_n 0, 1) := dcq_80.2.2.2.2.2.2.2.2.2.2.1
theorem dX1_handOut_57 : decode cX1_handOut 57 = .ok (.getfield 30, 3) := dcq_80.2.2.2.2.2.2.2.2.2.2.2
set_option maxRecDepth 20000 in
theorem dcb_81 : fd_B cX1_handOut 60 [29, 46, 4, 96, 184, 0, 100, 79, 42, 180, 0, 21, 29, 92, 46, 42] := fd_o cX1_handOut 60 _ (by decide +kernel)
theorem dcq_81 : (decode cX1_handOut 60 = .ok (.iload_n 3, 1)) ∧ (decode cX1_handOut 61 = .ok (.iaload, 1)) ∧ (decode cX1_handOut 62 = .ok (.iconst 1, 1)) ∧ (decode cX1_handOut 63 = .ok (.iadd, 1)) ∧ (decode cX1_handOut 64 = .ok (.invokestatic 100, 3)) ∧ (decode cX1_handOut 67 = .ok (.iastore, 1)) ∧ (decode cX1_handOut 68 = .ok (.aload_n 0, 1)) ∧ (decode cX1_handOut 69 = .ok (.getfield 21, 3)) ∧ (decode cX1_handOut 72 = .ok (.iload_n 3, 1)) ∧ (decode cX1_handOut 73 = .ok (.dup2, 1)) ∧ (decode cX1_handOut 74 = .ok (.iaload, 1)) ∧ (decode cX1_handOut 75 = .ok (.aload_n 0, 1)) := have h := dcb_81; ⟨fd_29 h, have h := fd_t1 h; ⟨fd_46 h, have h := fd_t1 h; ⟨fd_4 h, have h := fd_t1 h; ⟨fd_96 h, have h := fd_t1 h; ⟨fd_184 h rfl, have h := fd_t3 h; ⟨fd_79 h, have h := fd_t1 h; ⟨fd_42 h, have h := fd_t1 h; ⟨fd_180 h rfl, have h := fd_t3 h; ⟨fd_29 h, have h := fd_t1 h; ⟨fd_92 h, have h := fd_t1 h; ⟨fd_46 h, have h := fd_t1 h; fd_42 h⟩⟩⟩⟩⟩⟩⟩⟩⟩⟩⟩
theorem dX1_handOut_60 : decode cX1_handOut 60 = .ok (.iload_n 3, 1) := dcq_81.1
theorem dX1_handOut_61 : decode cX1_handOut 61 = .ok (.iaload, 1) := dcq_81.2.1
theorem dX1_handOut_62 : decode cX1_handOut 62 = .ok (.iconst 1, 1) := dcq_81.2.2.1
theorem dX1_handOut_63 : decode cX1_handOut 63 = .ok (.iadd, 1) := dcq_81.2.2.2.1
theorem dX1_handOut_64 : decode cX1_handOut 64 = .ok (.invokestatic 100, 3) := dcq_81.2.2.2.2.1
theorem dX1_handOut_67 : decode cX1_handOut 67 = .ok (.iastore, 1) := dcq_81.2.2.2.2.2.1
theorem dX1_handOut_68 : decode cX1_handOut 68 = .ok (.aload_n 0, 1) := dcq_81.2.2.2.2.2.2.1
theorem dX1_handOut_69 : decode cX1_handOut 69 = .ok (.getfield 21, 3) := dcq_81.2.2.2.2.2.2.2.1
theorem dX1_handOut_72 : decode cX1_handOut 72 = .ok (.iload_n 3, 1) := dcq_81.2.2.2.2.2.2.2.2.1
theorem dX1_handOut_73 : decode cX1_handOut 73 = .ok (.dup2, 1) := dcq_81.2.2.2.2.2.2.2.2.2.1
theorem dX1_handOut_74 : decode cX1_handOut 74 = .ok (.iaload, 1) := dcq_81.2.2.2.2.2.2.2.2.2.2.1
theorem dX1_handOut_75 : decode cX1_handOut 75 = .ok (.aload_n 0, 1) := dcq_81.2.2.2.2.2.2.2.2.2.2.2
set_option maxRecDepth 20000 in
theorem dcb_82 : fd_B cX1_handOut 76 [180, 0, 36, 29, 46, 100, 79, 132, 2, 255, 167, 255, 177, 177] := fd_o cX1_handOut 76 _ (by decide +kernel)
theorem dcq_82 : (decode cX1_handOut 76 = .ok (.getfield 36, 3)) ∧ (decode cX1_handOut 79 = .ok (.iload_n 3, 1)) ∧ (decode cX1_handOut 80 = .ok (.iaload, 1)) ∧ (decode cX1_handOut 81 = .ok (.isub, 1)) ∧ (decode cX1_handOut 82 = .ok (.iastore, 1)) ∧ (decode cX1_handOut 83 = .ok (.iinc 2 (-1), 3)) ∧ (decode cX1_handOut 86 = .ok (.goto (-79), 3)) ∧ (decode cX1_handOut 89 = .ok (.return_, 1)) := have h := dcb_82; ⟨fd_180 h rfl, have h := fd_t3 h; ⟨fd_29 h, have h := fd_t1 h; ⟨fd_46 h, have h := fd_t1 h; ⟨fd_100 h, have h := fd_t1 h; ⟨fd_79 h, have h := fd_t1 h; ⟨fd_132 h rfl (by decide +kernel), have h := fd_t3 h; ⟨fd_167 h (by decide +kernel), have h := fd_t3 h; fd_177 h⟩⟩⟩⟩⟩⟩⟩
theorem dX1_handOut_76 : decode cX1_handOut 76 = .ok (.getfield 36, 3) := dcq_82.1
theorem dX1_handOut_79 : decode cX1_handOut 79 = .ok (.iload_n 3, 1) := dcq_82.2.1
theorem dX1_handOut_80 : decode cX1_handOut 80 = .ok (.iaload, 1) := dcq_82.2.2.1
theorem dX1_handOut_81 : decode cX1_handOut 81 = .ok (.isub, 1) := dcq_82.2.2.2.1
theorem dX1_handOut_82 : decode cX1_handOut 82 = .ok (.iastore, 1) := dcq_82.2.2.2.2.1
theorem dX1_handOut_83 : decode cX1_handOut 83 = .ok (.iinc 2 (-1), 3) := dcq_82.2.2.2.2.2.1
theorem dX1_handOut_86 : decode cX1_handOut 86 = .ok (.goto (-79), 3) := dcq_82.2.2.2.2.2.2.1
theorem dX1_handOut_89 : decode cX1_handOut 89 = .ok (.return_, 1) := dcq_82.2.2.2.2.2.2.2
set_option maxRecDepth 20000 in
theorem dcb_83 : fd_B cX1_keenest 0 [16, 253, 61, 2, 62, 3, 54, 4, 21, 4, 42, 180, 0, 52, 162, 0, 59, 42, 180, 0, 21] := fd_o cX1_keenest 0 _ (by decide +kernel)
theorem dcq_83 : (decode cX1_keenest 0 = .ok (.bipush (-3), 2)) ∧ (decode cX1_keenest 2 = .ok (.istore_n 2, 1)) ∧ (decode cX1_keenest 3 = .ok (.iconst (-1), 1)) ∧ (decode cX1_keenest 4 = .ok (.istore_n 3, 1)) ∧ (decode cX1_keenest 5 = .ok (.iconst 0, 1)) ∧ (decode cX1_keenest 6 = .ok (.istore 4, 2)) ∧ (decode cX1_keenest 8 = .ok (.iload 4, 2)) ∧ (decode cX1_keenest 10 = .ok (.aload_n 0, 1)) ∧ (decode cX1_keenest 11 = .ok (.getfield 52, 3)) ∧ (decode cX1_keenest 14 = .ok (.if_icmp .ge 59, 3)) ∧ (decode cX1_keenest 17 = .ok (.aload_n 0, 1)) ∧ (decode cX1_keenest 18 = .ok (.getfield 21, 3)) := have h := dcb_83; ⟨fd_16 h (by decide +kernel), have h := fd_t2 h; ⟨fd_61 h, have h := fd_t1 h; ⟨fd_2 h, have h := fd_t1 h; ⟨fd_62 h, have h := fd_t1 h; ⟨fd_3 h, have h := fd_t1 h; ⟨fd_54 h rfl, have h := fd_t2 h; ⟨fd_21 h rfl, have h := fd_t2 h; ⟨fd_42 h, have h := fd_t1 h; ⟨fd_180 h rfl, have h := fd_t3 h; ⟨fd_162 h (by decide +kernel), have h := fd_t3 h; ⟨fd_42 h, have h := fd_t1 h; fd_180 h rfl⟩⟩⟩⟩⟩⟩⟩⟩⟩⟩⟩
theorem dX1_keenest_0 : decode cX1_keenest 0 = .ok (.bipush (-3), 2) := dcq_83.1
theorem dX1_keenest_2 : decode cX1_keenest 2 = .ok (.istore_n 2, 1) := dcq_83.2.1
theorem dX1_keenest_3 : decode cX1_keenest 3 = .ok (.iconst (-1), 1) := dcq_83.2.2.1
theorem dX1_keenest_4 : decode cX1_keenest 4 = .ok (.istore_n 3, 1) := dcq_83.2.2.2.1
theorem dX1_keenest_5 : decode cX1_keenest 5 = .ok (.iconst 0, 1) := dcq_83.2.2.2.2.1
theorem dX1_keenest_6 : decode cX1_keenest 6 = .ok (.istore 4, 2) := dcq_83.2.2.2.2.2.1
theorem dX1_keenest_8 : decode cX1_keenest 8 = .ok (.iload 4, 2) := dcq_83.2.2.2.2.2.2.1
theorem dX1_keenest_10 : decode cX1_keenest 10 = .ok (.aload_n 0, 1) := dcq_83.2.2.2.2.2.2.2.1
theorem dX1_keenest_11 : decode cX1_keenest 11 = .ok (.getfield 52, 3) := dcq_83.2.2.2.2.2.2.2.2.1
theorem dX1_keenest_14 : decode cX1_keenest 14 = .ok (.if_icmp .ge 59, 3) := dcq_83.2.2.2.2.2.2.2.2.2.1
theorem dX1_keenest_17 : decode cX1_keenest 17 = .ok (.aload_n 0, 1) := dcq_83.2.2.2.2.2.2.2.2.2.2.1
theorem dX1_keenest_18 : decode cX1_keenest 18 = .ok (.getfield 21, 3) := dcq_83.2.2.2.2.2.2.2.2.2.2.2
set_option maxRecDepth 20000 in
theorem dcb_84 : fd_B cX1_keenest 21 [21, 4, 46, 42, 180, 0, 36, 21, 4, 46, 100, 54, 5, 21, 5, 29, 164, 0, 30, 42] := fd_o cX1_keenest 21 _ (by decide +kernel)
theorem dcq_84 : (decode cX1_keenest 21 = .ok (.iload 4, 2)) ∧ (decode cX1_keenest 23 = .ok (.iaload, 1)) ∧ (decode cX1_keenest 24 = .ok (.aload_n 0, 1)) ∧ (decode cX1_keenest 25 = .ok (.getfield 36, 3)) ∧ (decode cX1_keenest 28 = .ok (.iload 4, 2)) ∧ (decode cX1_keenest 30 = .ok (.iaload, 1)) ∧ (decode cX1_keenest 31 = .ok (.isub, 1)) ∧ (decode cX1_keenest 32 = .ok (.istore 5, 2)) ∧ (decode cX1_keenest 34 = .ok (.iload 5, 2)) ∧ (decode cX1_keenest 36 = .ok (.iload_n 3, 1)) ∧ (decode cX1_keenest 37 = .ok (.if_icmp .le 30, 3)) ∧ (decode cX1_keenest 40 = .ok (.aload_n 0, 1)) := have h := dcb_84; ⟨fd_21 h rfl, have h := fd_t2 h; ⟨fd_46 h, have h := fd_t1 h; ⟨fd_42 h, have h := fd_t1 h; ⟨fd_180 h rfl, have h := fd_t3 h; ⟨fd_21 h rfl, have h := fd_t2 h; ⟨fd_46 h, have h := fd_t1 h; ⟨fd_100 h, have h := fd_t1 h; ⟨fd_54 h rfl, have h := fd_t2 h; ⟨fd_21 h rfl, have h := fd_t2 h; ⟨fd_29 h, have h := fd_t1 h; ⟨fd_164 h (by decide +kernel), have h := fd_t3 h; fd_42 h⟩⟩⟩⟩⟩⟩⟩⟩⟩⟩⟩
theorem dX1_keenest_21 : decode cX1_keenest 21 = .ok (.iload 4, 2) := dcq_84.1
theorem dX1_keenest_23 : decode cX1_keenest 23 = .ok (.iaload, 1) := dcq_84.2.1
theorem dX1_keenest_24 : decode cX1_keenest 24 = .ok (.aload_n 0, 1) := dcq_84.2.2.1
theorem dX1_keenest_25 : decode cX1_keenest 25 = .ok (.getfield 36, 3) := dcq_84.2.2.2.1
theorem dX1_keenest_28 : decode cX1_keenest 28 = .ok (.iload 4, 2) := dcq_84.2.2.2.2.1
theorem dX1_keenest_30 : decode cX1_keenest 30 = .ok (.iaload, 1) := dcq_84.2.2.2.2.2.1
theorem dX1_keenest_31 : decode cX1_keenest 31 = .ok (.isub, 1) := dcq_84.2.2.2.2.2.2.1
theorem dX1_keenest_32 : decode cX1_keenest 32 = .ok (.istore 5, 2) := dcq_84.2.2.2.2.2.2.2.1
theorem dX1_keenest_34 : decode cX1_keenest 34 = .ok (.iload 5, 2) := dcq_84.2.2.2.2.2.2.2.2.1
theorem dX1_keenest_36 : decode cX1_keenest 36 = .ok (.iload_n 3, 1) := dcq_84.2.2.2.2.2.2.2.2.2.1
theorem dX1_keenest_37 : decode cX1_keenest 37 = .ok (.if_icmp .le 30, 3) := dcq_84.2.2.2.2.2.2.2.2.2.2.1
theorem dX1_keenest_40 : decode cX1_keenest 40 = .ok (.aload_n 0, 1) := dcq_84.2.2.2.2.2.2.2.2.2.2.2
set_option maxRecDepth 20000 in
theorem dcb_85 : fd_B cX1_keenest 41 [180, 0, 27, 21, 4, 46, 16, 99, 162, 0, 18, 27, 21, 4, 122, 4, 126, 153, 0, 9, 21, 5] := fd_o cX1_keenest 41 _ (by decide +kernel)
theorem dcq_85 : (decode cX1_keenest 41 = .ok (.getfield 27, 3)) ∧ (decode cX1_keenest 44 = .ok (.iload 4, 2)) ∧ (decode cX1_keenest 46 = .ok (.iaload, 1)) ∧ (decode cX1_keenest 47 = .ok (.bipush 99, 2)) ∧ (decode cX1_keenest 49 = .ok (.if_icmp .ge 18, 3)) ∧ (decode cX1_keenest 52 = .ok (.iload_n 1, 1)) ∧ (decode cX1_keenest 53 = .ok (.iload 4, 2)) ∧ (decode cX1_keenest 55 = .ok (.ishr, 1)) ∧ (decode cX1_keenest 56 = .ok (.iconst 1, 1)) ∧ (decode cX1_keenest 57 = .ok (.iand, 1)) ∧ (decode cX1_keenest 58 = .ok (.ifCond .eq 9, 3)) ∧ (decode cX1_keenest 61 = .ok (.iload 5, 2)) := have h := dcb_85; ⟨fd_180 h rfl, have h := fd_t3 h; ⟨fd_21 h rfl, have h := fd_t2 h; ⟨fd_46 h, have h := fd_t1 h; ⟨fd_16 h (by decide +kernel), have h := fd_t2 h; ⟨fd_162 h (by decide +kernel), have h := fd_t3 h; ⟨fd_27 h, have h := fd_t1 h; ⟨fd_21 h rfl, have h := fd_t2 h; ⟨fd_122 h, have h := fd_t1 h; ⟨fd_4 h, have h := fd_t1 h; ⟨fd_126 h, have h := fd_t1 h; ⟨fd_153 h (by decide +kernel), have h := fd_t3 h; fd_21 h rfl⟩⟩⟩⟩⟩⟩⟩⟩⟩⟩⟩
theorem dX1_keenest_41 : decode cX1_keenest 41 = .ok (.getfield 27, 3) := dcq_85.1
theorem dX1_keenest_44 : decode cX1_keenest 44 = .ok (.iload 4, 2) := dcq_85.2.1
theorem dX1_keenest_46 : decode cX1_keenest 46 = .ok (.iaload, 1) := dcq_85.2.2.1
theorem dX1_keenest_47 : decode cX1_keenest 47 = .ok (.bipush 99, 2) := dcq_85.2.2.2.1
theorem dX1_keenest_49 : decode cX1_keenest 49 = .ok (.if_icmp .ge 18, 3) := dcq_85.2.2.2.2.1
theorem dX1_keenest_52 : decode cX1_keenest 52 = .ok (.iload_n 1, 1) := dcq_85.2.2.2.2.2.1
theorem dX1_keenest_53 : decode cX1_keenest 53 = .ok (.iload 4, 2) := dcq_85.2.2.2.2.2.2.1
theorem dX1_keenest_55 : decode cX1_keenest 55 = .ok (.ishr, 1) := dcq_85.2.2.2.2.2.2.2.1
theorem dX1_keenest_56 : decode cX1_keenest 56 = .ok (.iconst 1, 1) := dcq_85.2.2.2.2.2.2.2.2.1
theorem dX1_keenest_57 : decode cX1_keenest 57 = .ok (.iand, 1) := dcq_85.2.2.2.2.2.2.2.2.2.1
theorem dX1_keenest_58 : decode cX1_keenest 58 = .ok (.ifCond .eq 9, 3) := dcq_85.2.2.2.2.2.2.2.2.2.2.1
theorem dX1_keenest_61 : decode cX1_keenest 61 = .ok (.iload 5, 2) := dcq_85.2.2.2.2.2.2.2.2.2.2.2
set_option maxRecDepth 20000 in
theorem dcb_86 : fd_B cX1_keenest 63 [62, 21, 4, 61, 132, 4, 1, 167, 255, 194, 28, 172] := fd_o cX1_keenest 63 _ (by decide +kernel)
theorem dcq_86 : (decode cX1_keenest 63 = .ok (.istore_n 3, 1)) ∧ (decode cX1_keenest 64 = .ok (.iload 4, 2)) ∧ (decode cX1_keenest 66 = .ok (.istore_n 2, 1)) ∧ (decode cX1_keenest 67 = .ok (.iinc 4 1, 3)) ∧ (decode cX1_keenest 70 = .ok (.goto (-62), 3)) ∧ (decode cX1_keenest 73 = .ok (.iload_n 2, 1)) ∧ (decode cX1_keenest 74 = .ok (.ireturn, 1)) := have h := dcb_86; ⟨fd_62 h, have h := fd_t1 h; ⟨fd_21 h rfl, have h := fd_t2 h; ⟨fd_61 h, have h := fd_t1 h; ⟨fd_132 h rfl (by decide +kernel), have h := fd_t3 h; ⟨fd_167 h (by decide +kernel), have h := fd_t3 h; ⟨fd_28 h, have h := fd_t1 h; fd_172 h⟩⟩⟩⟩⟩⟩
theorem dX1_keenest_63 : decode cX1_keenest 63 = .ok (.istore_n 3, 1) := dcq_86.1
theorem dX1_keenest_64 : decode cX1_keenest 64 = .ok (.iload 4, 2) := dcq_86.2.1
theorem dX1_keenest_66 : decode cX1_keenest 66 = .ok (.istore_n 2, 1) := dcq_86.2.2.1
theorem dX1_keenest_67 : decode cX1_keenest 67 = .ok (.iinc 4 1, 3) := dcq_86.2.2.2.1
theorem dX1_keenest_70 : decode cX1_keenest 70 = .ok (.goto (-62), 3) := dcq_86.2.2.2.2.1
theorem dX1_keenest_73 : decode cX1_keenest 73 = .ok (.iload_n 2, 1) := dcq_86.2.2.2.2.2.1
theorem dX1_keenest_74 : decode cX1_keenest 74 = .ok (.ireturn, 1) := dcq_86.2.2.2.2.2.2
set_option maxRecDepth 20000 in
theorem dcb_87 : fd_B cX1_speak 0 [3, 60, 3, 61, 28, 42, 180, 0, 52, 162, 0, 68, 42, 180, 0, 27, 28, 46] := fd_o cX1_speak 0 _ (by decide +kernel)
theorem dcq_87 : (decode cX1_speak 0 = .ok (.iconst 0, 1)) ∧ (decode cX1_speak 1 = .ok (.istore_n 1, 1)) ∧ (decode cX1_speak 2 = .ok (.iconst 0, 1)) ∧ (decode cX1_speak 3 = .ok (.istore_n 2, 1)) ∧ (decode cX1_speak 4 = .ok (.iload_n 2, 1)) ∧ (decode cX1_speak 5 = .ok (.aload_n 0, 1)) ∧ (decode cX1_speak 6 = .ok (.getfield 52, 3)) ∧ (decode cX1_speak 9 = .ok (.if_icmp .ge 68, 3)) ∧ (decode cX1_speak 12 = .ok (.aload_n 0, 1)) ∧ (decode cX1_speak 13 = .ok (.getfield 27, 3)) ∧ (decode cX1_speak 16 = .ok (.iload_n 2, 1)) ∧ (decode cX1_speak 17 = .ok (.iaload, 1)) := have h := dcb_87; ⟨fd_3 h, have h := fd_t1 h; ⟨fd_60 h, have h := fd_t1 h; ⟨fd_3 h, have h := fd_t1 h; ⟨fd_61 h, have h := fd_t1 h; ⟨fd_28 h, have h := fd_t1 h; ⟨fd_42 h, have h := fd_t1 h; ⟨fd_180 h rfl, have h := fd_t3 h; ⟨fd_162 h (by decide +kernel), have h := fd_t3 h; ⟨fd_42 h, have h := fd_t1 h; ⟨fd_180 h rfl, have h := fd_t3 h; ⟨fd_28 h, have h := fd_t1 h; fd_46 h⟩⟩⟩⟩⟩⟩⟩⟩⟩⟩⟩
theorem dX1_speak_0 : decode cX1_speak 0 = .ok (.iconst 0, 1) := dcq_87.1
theorem dX1_speak_1 : decode cX1_speak 1 = .ok (.istore_n 1, 1) := dcq_87.2.1
theorem dX1_speak_2 : decode cX1_speak 2 = .ok (.iconst 0, 1) := dcq_87.2.2.1
theorem dX1_speak_3 : decode cX1_speak 3 = .ok (.istore_n 2, 1) := dcq_87.2.2.2.1
theorem dX1_speak_4 : decode cX1_speak 4 = .ok (.iload_n 2, 1) := dcq_87.2.2.2.2.1
theorem dX1_speak_5 : decode cX1_speak 5 = .ok (.aload_n 0, 1) := dcq_87.2.2.2.2.2.1
theorem dX1_speak_6 : decode cX1_speak 6 = .ok (.getfield 52, 3) := dcq_87.2.2.2.2.2.2.1
theorem dX1_speak_9 : decode cX1_speak 9 = .ok (.if_icmp .ge 68, 3) := dcq_87.2.2.2.2.2.2.2.1
theorem dX1_speak_12 : decode cX1_speak 12 = .ok (.aload_n 0, 1) := dcq_87.2.2.2.2.2.2.2.2.1
theorem dX1_speak_13 : decode cX1_speak 13 = .ok (.getfield 27, 3) := dcq_87.2.2.2.2.2.2.2.2.2.1
theorem dX1_speak_16 : decode cX1_speak 16 = .ok (.iload_n 2, 1) := dcq_87.2.2.2.2.2.2.2.2.2.2.1
theorem dX1_speak_17 : decode cX1_speak 17 = .ok (.iaload, 1) := dcq_87.2.2.2.2.2.2.2.2.2.2.2
set_option maxRecDepth 20000 in
theorem dcb_88 : fd_B cX1_speak 18 [154, 0, 6, 167, 0, 50, 42, 28, 182, 0, 106, 62, 27, 29, 96, 60, 42, 180, 0, 33] := fd_o cX1_speak 18 _ (by decide +kernel)
theorem dcq_88 : (decode cX1_speak 18 = .ok (.ifCond .ne 6, 3)) ∧ (decode cX1_speak 21 = .ok (.goto 50, 3)) ∧ (decode cX1_speak 24 = .ok (.aload_n 0, 1)) ∧ (decode cX1_speak 25 = .ok (.iload_n 2, 1)) ∧ (decode cX1_speak 26 = .ok (.invokevirtual 106, 3)) ∧ (decode cX1_speak 29 = .ok (.istore_n 3, 1)) ∧ (decode cX1_speak 30 = .ok (.iload_n 1, 1)) ∧ (decode cX1_speak 31 = .ok (.iload_n 3, 1)) ∧ (decode cX1_speak 32 = .ok (.iadd, 1)) ∧ (decode cX1_speak 33 = .ok (.istore_n 1, 1)) ∧ (decode cX1_speak 34 = .ok (.aload_n 0, 1)) ∧ (decode cX1_speak 35 = .ok (.getfield 33, 3)) := have h := dcb_88; ⟨fd_154 h (by decide +kernel), have h := fd_t3 h; ⟨fd_167 h (by decide +kernel), have h := fd_t3 h; ⟨fd_42 h, have h := fd_t1 h; ⟨fd_28 h, have h := fd_t1 h; ⟨fd_182 h rfl, have h := fd_t3 h; ⟨fd_62 h, have h := fd_t1 h; ⟨fd_27 h, have h := fd_t1 h; ⟨fd_29 h, have h := fd_t1 h; ⟨fd_96 h, have h := fd_t1 h; ⟨fd_60 h, have h := fd_t1 h; ⟨fd_42 h, have h := fd_t1 h; fd_180 h rfl⟩⟩⟩⟩⟩⟩⟩⟩⟩⟩⟩
theorem dX1_speak_18 : decode cX1_speak 18 = .ok (.ifCond .ne 6, 3) := dcq_88.1
theorem dX1_speak_21 : decode cX1_speak 21 = .ok (.goto 50, 3) := dcq_88.2.1
theorem dX1_speak_24 : decode cX1_speak 24 = .ok (.aload_n 0, 1) := dcq_88.2.2.1
theorem dX1_speak_25 : decode cX1_speak 25 = .ok (.iload_n 2, 1) := dcq_88.2.2.2.1
theorem dX1_speak_26 : decode cX1_speak 26 = .ok (.invokevirtual 106, 3) := dcq_88.2.2.2.2.1
theorem dX1_speak_29 : decode cX1_speak 29 = .ok (.istore_n 3, 1) := dcq_88.2.2.2.2.2.1
theorem dX1_speak_30 : decode cX1_speak 30 = .ok (.iload_n 1, 1) := dcq_88.2.2.2.2.2.2.1
theorem dX1_speak_31 : decode cX1_speak 31 = .ok (.iload_n 3, 1) := dcq_88.2.2.2.2.2.2.2.1
theorem dX1_speak_32 : decode cX1_speak 32 = .ok (.iadd, 1) := dcq_88.2.2.2.2.2.2.2.2.1
theorem dX1_speak_33 : decode cX1_speak 33 = .ok (.istore_n 1, 1) := dcq_88.2.2.2.2.2.2.2.2.2.1
theorem dX1_speak_34 : decode cX1_speak 34 = .ok (.aload_n 0, 1) := dcq_88.2.2.2.2.2.2.2.2.2.2.1
theorem dX1_speak_35 : decode cX1_speak 35 = .ok (.getfield 33, 3) := dcq_88.2.2.2.2.2.2.2.2.2.2.2
set_option maxRecDepth 20000 in
theorem dcb_89 : fd_B cX1_speak 38 [28, 18, 109, 42, 180, 0, 33, 28, 46, 29, 96, 184, 0, 100, 79, 42, 28] := fd_o cX1_speak 38 _ (by decide +kernel)
theorem dcq_89 : (decode cX1_speak 38 = .ok (.iload_n 2, 1)) ∧ (decode cX1_speak 39 = .ok (.ldc 109, 2)) ∧ (decode cX1_speak 41 = .ok (.aload_n 0, 1)) ∧ (decode cX1_speak 42 = .ok (.getfield 33, 3)) ∧ (decode cX1_speak 45 = .ok (.iload_n 2, 1)) ∧ (decode cX1_speak 46 = .ok (.iaload, 1)) ∧ (decode cX1_speak 47 = .ok (.iload_n 3, 1)) ∧ (decode cX1_speak 48 = .ok (.iadd, 1)) ∧ (decode cX1_speak 49 = .ok (.invokestatic 100, 3)) ∧ (decode cX1_speak 52 = .ok (.iastore, 1)) ∧ (decode cX1_speak 53 = .ok (.aload_n 0, 1)) ∧ (decode cX1_speak 54 = .ok (.iload_n 2, 1)) := have h := dcb_89; ⟨fd_28 h, have h := fd_t1 h; ⟨fd_18 h rfl, have h := fd_t2 h; ⟨fd_42 h, have h := fd_t1 h; ⟨fd_180 h rfl, have h := fd_t3 h; ⟨fd_28 h, have h := fd_t1 h; ⟨fd_46 h, have h := fd_t1 h; ⟨fd_29 h, have h := fd_t1 h; ⟨fd_96 h, have h := fd_t1 h; ⟨fd_184 h rfl, have h := fd_t3 h; ⟨fd_79 h, have h := fd_t1 h; ⟨fd_42 h, have h := fd_t1 h; fd_28 h⟩⟩⟩⟩⟩⟩⟩⟩⟩⟩⟩
theorem dX1_speak_38 : decode cX1_speak 38 = .ok (.iload_n 2, 1) := dcq_89.1
theorem dX1_speak_39 : decode cX1_speak 39 = .ok (.ldc 109, 2) := dcq_89.2.1
theorem dX1_speak_41 : decode cX1_speak 41 = .ok (.aload_n 0, 1) := dcq_89.2.2.1
theorem dX1_speak_42 : decode cX1_speak 42 = .ok (.getfield 33, 3) := dcq_89.2.2.2.1
theorem dX1_speak_45 : decode cX1_speak 45 = .ok (.iload_n 2, 1) := dcq_89.2.2.2.2.1
theorem dX1_speak_46 : decode cX1_speak 46 = .ok (.iaload, 1) := dcq_89.2.2.2.2.2.1
theorem dX1_speak_47 : decode cX1_speak 47 = .ok (.iload_n 3, 1) := dcq_89.2.2.2.2.2.2.1
theorem dX1_speak_48 : decode cX1_speak 48 = .ok (.iadd, 1) := dcq_89.2.2.2.2.2.2.2.1
theorem dX1_speak_49 : decode cX1_speak 49 = .ok (.invokestatic 100, 3) := dcq_89.2.2.2.2.2.2.2.2.1
theorem dX1_speak_52 : decode cX1_speak 52 = .ok (.iastore, 1) := dcq_89.2.2.2.2.2.2.2.2.2.1
theorem dX1_speak_53 : decode cX1_speak 53 = .ok (.aload_n 0, 1) := dcq_89.2.2.2.2.2.2.2.2.2.2.1
theorem dX1_speak_54 : decode cX1_speak 54 = .ok (.iload_n 2, 1) := dcq_89.2.2.2.2.2.2.2.2.2.2.2
set_option maxRecDepth 20000 in
theorem dcb_90 : fd_B cX1_speak 55 [182, 0, 110, 153, 0, 13, 42, 180, 0, 27, 28, 92, 46, 4, 100, 79, 132, 2, 1, 167, 255, 186] := fd_o cX1_speak 55 _ (by decide +kernel)
theorem dcq_90 : (decode cX1_speak 55 = .ok (.invokevirtual 110, 3)) ∧ (decode cX1_speak 58 = .ok (.ifCond .eq 13, 3)) ∧ (decode cX1_speak 61 = .ok (.aload_n 0, 1)) ∧ (decode cX1_speak 62 = .ok (.getfield 27, 3)) ∧ (decode cX1_speak 65 = .ok (.iload_n 2, 1)) ∧ (decode cX1_speak 66 = .ok (.dup2, 1)) ∧ (decode cX1_speak 67 = .ok (.iaload, 1)) ∧ (decode cX1_speak 68 = .ok (.iconst 1, 1)) ∧ (decode cX1_speak 69 = .ok (.isub, 1)) ∧ (decode cX1_speak 70 = .ok (.iastore, 1)) ∧ (decode cX1_speak 71 = .ok (.iinc 2 1, 3)) ∧ (decode cX1_speak 74 = .ok (.goto (-70), 3)) := have h := dcb_90; ⟨fd_182 h rfl, have h := fd_t3 h; ⟨fd_153 h (by decide +kernel), have h := fd_t3 h; ⟨fd_42 h, have h := fd_t1 h; ⟨fd_180 h rfl, have h := fd_t3 h; ⟨fd_28 h, have h := fd_t1 h; ⟨fd_92 h, have h := fd_t1 h; ⟨fd_46 h, have h := fd_t1 h; ⟨fd_4 h, have h := fd_t1 h; ⟨fd_100 h, have h := fd_t1 h; ⟨fd_79 h, have h := fd_t1 h; ⟨fd_132 h rfl (by decide +kernel), have h := fd_t3 h; fd_167 h (by decide +kernel)⟩⟩⟩⟩⟩⟩⟩⟩⟩⟩⟩
theorem dX1_speak_55 : decode cX1_speak 55 = .ok (.invokevirtual 110, 3) := dcq_90.1
theorem dX1_speak_58 : decode cX1_speak 58 = .ok (.ifCond .eq 13, 3) := dcq_90.2.1
theorem dX1_speak_61 : decode cX1_speak 61 = .ok (.aload_n 0, 1) := dcq_90.2.2.1
theorem dX1_speak_62 : decode cX1_speak 62 = .ok (.getfield 27, 3) := dcq_90.2.2.2.1
theorem dX1_speak_65 : decode cX1_speak 65 = .ok (.iload_n 2, 1) := dcq_90.2.2.2.2.1
theorem dX1_speak_66 : decode cX1_speak 66 = .ok (.dup2, 1) := dcq_90.2.2.2.2.2.1
theorem dX1_speak_67 : decode cX1_speak 67 = .ok (.iaload, 1) := dcq_90.2.2.2.2.2.2.1
theorem dX1_speak_68 : decode cX1_speak 68 = .ok (.iconst 1, 1) := dcq_90.2.2.2.2.2.2.2.1
theorem dX1_speak_69 : decode cX1_speak 69 = .ok (.isub, 1) := dcq_90.2.2.2.2.2.2.2.2.1
theorem dX1_speak_70 : decode cX1_speak 70 = .ok (.iastore, 1) := dcq_90.2.2.2.2.2.2.2.2.2.1
theorem dX1_speak_71 : decode cX1_speak 71 = .ok (.iinc 2 1, 3) := dcq_90.2.2.2.2.2.2.2.2.2.2.1
theorem dX1_speak_74 : decode cX1_speak 74 = .ok (.goto (-70), 3) := dcq_90.2.2.2.2.2.2.2.2.2.2.2
set_option maxRecDepth 20000 in
theorem dcb_91 : fd_B cX1_speak 77 [27, 172] := fd_o cX1_speak 77 _ (by decide +kernel)
theorem dcq_91 : (decode cX1_speak 77 = .ok (.iload_n 1, 1)) ∧ (decode cX1_speak 78 = .ok (.ireturn, 1)) := have h := dcb_91; ⟨fd_27 h, have h := fd_t1 h; fd_172 h⟩
theorem dX1_speak_77 : decode cX1_speak 77 = .ok (.iload_n 1, 1) := dcq_91.1
theorem dX1_speak_78 : decode cX1_speak 78 = .ok (.ireturn, 1) := dcq_91.2
set_option maxRecDepth 20000 in
theorem dcb_92 : fd_B cX2_init 0 [42, 183, 0, 3, 42, 16, 40, 188, 11, 181, 0, 9, 42, 2, 181, 0, 15, 177] := fd_o cX2_init 0 _ (by decide +kernel)
theorem dcq_92 : (decode cX2_init 0 = .ok (.aload_n 0, 1)) ∧ (decode cX2_init 1 = .ok (.invokespecial 3, 3)) ∧ (decode cX2_init 4 = .ok (.aload_n 0, 1)) ∧ (decode cX2_init 5 = .ok (.bipush 40, 2)) ∧ (decode cX2_init 7 = .ok (.newarray .long, 2)) ∧ (decode cX2_init 9 = .ok (.putfield 9, 3)) ∧ (decode cX2_init 12 = .ok (.aload_n 0, 1)) ∧ (decode cX2_init 13 = .ok (.iconst (-1), 1)) ∧ (decode cX2_init 14 = .ok (.putfield 15, 3)) ∧ (decode cX2_init 17 = .ok (.return_, 1)) := have h := dcb_92; ⟨fd_42 h, have h := fd_t1 h; ⟨fd_183 h rfl, have h := fd_t3 h; ⟨fd_42 h, have h := fd_t1 h; ⟨fd_16 h (by decide +kernel), have h := fd_t2 h; ⟨fd_188_11 h, have h := fd_t2 h; ⟨fd_181 h rfl, have h := fd_t3 h; ⟨fd_42 h, have h := fd_t1 h; ⟨fd_2 h, have h := fd_t1 h; ⟨fd_181 h rfl, have h := fd_t3 h; fd_177 h⟩⟩⟩⟩⟩⟩⟩⟩⟩
theorem dX2_init_0 : decode cX2_init 0 = .ok (.aload_n 0, 1) := dcq_92.1
theorem dX2_init_1 : decode cX2_init 1 = .ok (.invokespecial 3, 3) := dcq_92.2.1
theorem dX2_init_4 : decode cX2_init 4 = .ok (.aload_n 0, 1) := dcq_92.2.2.1
theorem dX2_init_5 : decode cX2_init 5 = .ok (.bipush 40, 2) := dcq_92.2.2.2.1
theorem dX2_init_7 : decode cX2_init 7 = .ok (.newarray .long, 2) := dcq_92.2.2.2.2.1
theorem dX2_init_9 : decode cX2_init 9 = .ok (.putfield 9, 3) := dcq_92.2.2.2.2.2.1
theorem dX2_init_12 : decode cX2_init 12 = .ok (.aload_n 0, 1) := dcq_92.2.2.2.2.2.2.1
theorem dX2_init_13 : decode cX2_init 13 = .ok (.iconst (-1), 1) := dcq_92.2.2.2.2.2.2.2.1
theorem dX2_init_14 : decode cX2_init 14 = .ok (.putfield 15, 3) := dcq_92.2.2.2.2.2.2.2.2.1
theorem dX2_init_17 : decode cX2_init 17 = .ok (.return_, 1) := dcq_92.2.2.2.2.2.2.2.2.2
set_option maxRecDepth 20000 in
theorem dcb_93 : fd_B cX2_begin 0 [42, 27, 181, 0, 15, 42, 28, 181, 0, 19, 3, 62, 29, 42, 180, 0, 9, 190] := fd_o cX2_begin 0 _ (by decide +kernel)
theorem dcq_93 : (decode cX2_begin 0 = .ok (.aload_n 0, 1)) ∧ (decode cX2_begin 1 = .ok (.iload_n 1, 1)) ∧ (decode cX2_begin 2 = .ok (.putfield 15, 3)) ∧ (decode cX2_begin 5 = .ok (.aload_n 0, 1)) ∧ (decode cX2_begin 6 = .ok (.iload_n 2, 1)) ∧ (decode cX2_begin 7 = .ok (.putfield 19, 3)) ∧ (decode cX2_begin 10 = .ok (.iconst 0, 1)) ∧ (decode cX2_begin 11 = .ok (.istore_n 3, 1)) ∧ (decode cX2_begin 12 = .ok (.iload_n 3, 1)) ∧ (decode cX2_begin 13 = .ok (.aload_n 0, 1)) ∧ (decode cX2_begin 14 = .ok (.getfield 9, 3)) ∧ (decode cX2_begin 17 = .ok (.arraylength, 1)) := have h := dcb_93; ⟨fd_42 h, have h := fd_t1 h; ⟨fd_27 h, have h := fd_t1 h; ⟨fd_181 h rfl, have h := fd_t3 h; ⟨fd_42 h, have h := fd_t1 h; ⟨fd_28 h, have h := fd_t1 h; ⟨fd_181 h rfl, have h := fd_t3 h; ⟨fd_3 h, have h := fd_t1 h; ⟨fd_62 h, have h := fd_t1 h; ⟨fd_29 h, have h := fd_t1 h; ⟨fd_42 h, have h := fd_t1 h; ⟨fd_180 h rfl, have h := fd_t3 h; fd_190 h⟩⟩⟩⟩⟩⟩⟩⟩⟩⟩⟩
theorem dX2_begin_0 : decode cX2_begin 0 = .ok (.aload_n 0, 1) := dcq_93.1
theorem dX2_begin_1 : decode cX2_begin 1 = .ok (.iload_n 1, 1) := dcq_93.2.1
theorem dX2_begin_2 : decode cX2_begin 2 = .ok (.putfield 15, 3) := dcq_93.2.2.1
theorem dX2_begin_5 : decode cX2_begin 5 = .ok (.aload_n 0, 1) := dcq_93.2.2.2.1
theorem dX2_begin_6 : decode cX2_begin 6 = .ok (.iload_n 2, 1) := dcq_93.2.2.2.2.1
theorem dX2_begin_7 : decode cX2_begin 7 = .ok (.putfield 19, 3) := dcq_93.2.2.2.2.2.1
theorem dX2_begin_10 : decode cX2_begin 10 = .ok (.iconst 0, 1) := dcq_93.2.2.2.2.2.2.1
theorem dX2_begin_11 : decode cX2_begin 11 = .ok (.istore_n 3, 1) := dcq_93.2.2.2.2.2.2.2.1
theorem dX2_begin_12 : decode cX2_begin 12 = .ok (.iload_n 3, 1) := dcq_93.2.2.2.2.2.2.2.2.1
theorem dX2_begin_13 : decode cX2_begin 13 = .ok (.aload_n 0, 1) := dcq_93.2.2.2.2.2.2.2.2.2.1
theorem dX2_begin_14 : decode cX2_begin 14 = .ok (.getfield 9, 3) := dcq_93.2.2.2.2.2.2.2.2.2.2.1
theorem dX2_begin_17 : decode cX2_begin 17 = .ok (.arraylength, 1) := dcq_93.2.2.2.2.2.2.2.2.2.2.2
set_option maxRecDepth 20000 in
theorem dcb_94 : fd_B cX2_begin 18 [162, 0, 16, 42, 180, 0, 9, 29, 9, 80, 132, 3, 1, 167, 255, 237, 177] := fd_o cX2_begin 18 _ (by decide +kernel)
theorem dcq_94 : (decode cX2_begin 18 = .ok (.if_icmp .ge 16, 3)) ∧ (decode cX2_begin 21 = .ok (.aload_n 0, 1)) ∧ (decode cX2_begin 22 = .ok (.getfield 9, 3)) ∧ (decode cX2_begin 25 = .ok (.iload_n 3, 1)) ∧ (decode cX2_begin 26 = .ok (.lconst 0, 1)) ∧ (decode cX2_begin 27 = .ok (.lastore, 1)) ∧ (decode cX2_begin 28 = .ok (.iinc 3 1, 3)) ∧ (decode cX2_begin 31 = .ok (.goto (-19), 3)) ∧ (decode cX2_begin 34 = .ok (.return_, 1)) := have h := dcb_94; ⟨fd_162 h (by decide +kernel), have h := fd_t3 h; ⟨fd_42 h, have h := fd_t1 h; ⟨fd_180 h rfl, have h := fd_t3 h; ⟨fd_29 h, have h := fd_t1 h; ⟨fd_9 h, have h := fd_t1 h; ⟨fd_80 h, have h := fd_t1 h; ⟨fd_132 h rfl (by decide +kernel), have h := fd_t3 h; ⟨fd_167 h (by decide +kernel), have h := fd_t3 h; fd_177 h⟩⟩⟩⟩⟩⟩⟩⟩
theorem dX2_begin_18 : decode cX2_begin 18 = .ok (.if_icmp .ge 16, 3) := dcq_94.1
theorem dX2_begin_21 : decode cX2_begin 21 = .ok (.aload_n 0, 1) := dcq_94.2.1
theorem dX2_begin_22 : decode cX2_begin 22 = .ok (.getfield 9, 3) := dcq_94.2.2.1
theorem dX2_begin_25 : decode cX2_begin 25 = .ok (.iload_n 3, 1) := dcq_94.2.2.2.1
theorem dX2_begin_26 : decode cX2_begin 26 = .ok (.lconst 0, 1) := dcq_94.2.2.2.2.1
theorem dX2_begin_27 : decode cX2_begin 27 = .ok (.lastore, 1) := dcq_94.2.2.2.2.2.1
theorem dX2_begin_28 : decode cX2_begin 28 = .ok (.iinc 3 1, 3) := dcq_94.2.2.2.2.2.2.1
theorem dX2_begin_31 : decode cX2_begin 31 = .ok (.goto (-19), 3) := dcq_94.2.2.2.2.2.2.2.1
theorem dX2_begin_34 : decode cX2_begin 34 = .ok (.return_, 1) := dcq_94.2.2.2.2.2.2.2.2
set_option maxRecDepth 20000 in
theorem dcb_95 : fd_B cX3_init 0 [42, 183, 0, 3, 42, 5, 181, 0, 9, 177] := fd_o cX3_init 0 _ (by decide +kernel)
theorem dcq_95 : (decode cX3_init 0 = .ok (.aload_n 0, 1)) ∧ (decode cX3_init 1 = .ok (.invokespecial 3, 3)) ∧ (decode cX3_init 4 = .ok (.aload_n 0, 1)) ∧ (decode cX3_init 5 = .ok (.iconst 2, 1)) ∧ (decode cX3_init 6 = .ok (.putfield 9, 3)) ∧ (decode cX3_init 9 = .ok (.return_, 1)) := have h := dcb_95; ⟨fd_42 h, have h := fd_t1 h; ⟨fd_183 h rfl, have h := fd_t3 h; ⟨fd_42 h, have h := fd_t1 h; ⟨fd_5 h, have h := fd_t1 h; ⟨fd_181 h rfl, have h := fd_t3 h; fd_177 h⟩⟩⟩⟩⟩
theorem dX3_init_0 : decode cX3_init 0 = .ok (.aload_n 0, 1) := dcq_95.1
theorem dX3_init_1 : decode cX3_init 1 = .ok (.invokespecial 3, 3) := dcq_95.2.1
theorem dX3_init_4 : decode cX3_init 4 = .ok (.aload_n 0, 1) := dcq_95.2.2.1
theorem dX3_init_5 : decode cX3_init 5 = .ok (.iconst 2, 1) := dcq_95.2.2.2.1
theorem dX3_init_6 : decode cX3_init 6 = .ok (.putfield 9, 3) := dcq_95.2.2.2.2.1
theorem dX3_init_9 : decode cX3_init 9 = .ok (.return_, 1) := dcq_95.2.2.2.2.2
set_option maxRecDepth 20000 in
theorem dcb_96 : fd_B cX3_holdPerson 0 [42, 3, 181, 0, 9, 42, 27, 181, 0, 15, 177] := fd_o cX3_holdPerson 0 _ (by decide +kernel)
theorem dcq_96 : (decode cX3_holdPerson 0 = .ok (.aload_n 0, 1)) ∧ (decode cX3_holdPerson 1 = .ok (.iconst 0, 1)) ∧ (decode cX3_holdPerson 2 = .ok (.putfield 9, 3)) ∧ (decode cX3_holdPerson 5 = .ok (.aload_n 0, 1)) ∧ (decode cX3_holdPerson 6 = .ok (.iload_n 1, 1)) ∧ (decode cX3_holdPerson 7 = .ok (.putfield 15, 3)) ∧ (decode cX3_holdPerson 10 = .ok (.return_, 1)) := have h := dcb_96; ⟨fd_42 h, have h := fd_t1 h; ⟨fd_3 h, have h := fd_t1 h; ⟨fd_181 h rfl, have h := fd_t3 h; ⟨fd_42 h, have h := fd_t1 h; ⟨fd_27 h, have h := fd_t1 h; ⟨fd_181 h rfl, have h := fd_t3 h; fd_177 h⟩⟩⟩⟩⟩⟩
theorem dX3_holdPerson_0 : decode cX3_holdPerson 0 = .ok (.aload_n 0, 1) := dcq_96.1
theorem dX3_holdPerson_1 : decode cX3_holdPerson 1 = .ok (.iconst 0, 1) := dcq_96.2.1
theorem dX3_holdPerson_2 : decode cX3_holdPerson 2 = .ok (.putfield 9, 3) := dcq_96.2.2.1
theorem dX3_holdPerson_5 : decode cX3_holdPerson 5 = .ok (.aload_n 0, 1) := dcq_96.2.2.2.1
theorem dX3_holdPerson_6 : decode cX3_holdPerson 6 = .ok (.iload_n 1, 1) := dcq_96.2.2.2.2.1
theorem dX3_holdPerson_7 : decode cX3_holdPerson 7 = .ok (.putfield 15, 3) := dcq_96.2.2.2.2.2.1
theorem dX3_holdPerson_10 : decode cX3_holdPerson 10 = .ok (.return_, 1) := dcq_96.2.2.2.2.2.2
set_option maxRecDepth 20000 in
theorem dcb_97 : fd_B cX3_holdRow 0 [42, 43, 180, 0, 18, 2, 160, 0, 7, 5, 167, 0, 4, 4, 181, 0, 9, 42, 43, 180, 0, 18] := fd_o cX3_holdRow 0 _ (by decide +kernel)
theorem dcq_97 : (decode cX3_holdRow 0 = .ok (.aload_n 0, 1)) ∧ (decode cX3_holdRow 1 = .ok (.aload_n 1, 1)) ∧ (decode cX3_holdRow 2 = .ok (.getfield 18, 3)) ∧ (decode cX3_holdRow 5 = .ok (.iconst (-1), 1)) ∧ (decode cX3_holdRow 6 = .ok (.if_icmp .ne 7, 3)) ∧ (decode cX3_holdRow 9 = .ok (.iconst 2, 1)) ∧ (decode cX3_holdRow 10 = .ok (.goto 4, 3)) ∧ (decode cX3_holdRow 13 = .ok (.iconst 1, 1)) ∧ (decode cX3_holdRow 14 = .ok (.putfield 9, 3)) ∧ (decode cX3_holdRow 17 = .ok (.aload_n 0, 1)) ∧ (decode cX3_holdRow 18 = .ok (.aload_n 1, 1)) ∧ (decode cX3_holdRow 19 = .ok (.getfield 18, 3)) := have h := dcb_97; ⟨fd_42 h, have h := fd_t1 h; ⟨fd_43 h, have h := fd_t1 h; ⟨fd_180 h rfl, have h := fd_t3 h; ⟨fd_2 h, have h := fd_t1 h; ⟨fd_160 h (by decide +kernel), have h := fd_t3 h; ⟨fd_5 h, have h := fd_t1 h; ⟨fd_167 h (by decide +kernel), have h := fd_t3 h; ⟨fd_4 h, have h := fd_t1 h; ⟨fd_181 h rfl, have h := fd_t3 h; ⟨fd_42 h, have h := fd_t1 h; ⟨fd_43 h, have h := fd_t1 h; fd_180 h rfl⟩⟩⟩⟩⟩⟩⟩⟩⟩⟩⟩
theorem dX3_holdRow_0 : decode cX3_holdRow 0 = .ok (.aload_n 0, 1) := dcq_97.1
theorem dX3_holdRow_1 : decode cX3_holdRow 1 = .ok (.aload_n 1, 1) := dcq_97.2.1
theorem dX3_holdRow_2 : decode cX3_holdRow 2 = .ok (.getfield 18, 3) := dcq_97.2.2.1
theorem dX3_holdRow_5 : decode cX3_holdRow 5 = .ok (.iconst (-1), 1) := dcq_97.2.2.2.1
theorem dX3_holdRow_6 : decode cX3_holdRow 6 = .ok (.if_icmp .ne 7, 3) := dcq_97.2.2.2.2.1
theorem dX3_holdRow_9 : decode cX3_holdRow 9 = .ok (.iconst 2, 1) := dcq_97.2.2.2.2.2.1
theorem dX3_holdRow_10 : decode cX3_holdRow 10 = .ok (.goto 4, 3) := dcq_97.2.2.2.2.2.2.1
theorem dX3_holdRow_13 : decode cX3_holdRow 13 = .ok (.iconst 1, 1) := dcq_97.2.2.2.2.2.2.2.1
theorem dX3_holdRow_14 : decode cX3_holdRow 14 = .ok (.putfield 9, 3) := dcq_97.2.2.2.2.2.2.2.2.1
theorem dX3_holdRow_17 : decode cX3_holdRow 17 = .ok (.aload_n 0, 1) := dcq_97.2.2.2.2.2.2.2.2.2.1
theorem dX3_holdRow_18 : decode cX3_holdRow 18 = .ok (.aload_n 1, 1) := dcq_97.2.2.2.2.2.2.2.2.2.2.1
theorem dX3_holdRow_19 : decode cX3_holdRow 19 = .ok (.getfield 18, 3) := dcq_97.2.2.2.2.2.2.2.2.2.2.2
set_option maxRecDepth 20000 in
theorem dcb_98 : fd_B cX3_holdRow 22 [181, 0, 23, 42, 43, 180, 0, 24, 181, 0, 27, 177] := fd_o cX3_holdRow 22 _ (by decide +kernel)
theorem dcq_98 : (decode cX3_holdRow 22 = .ok (.putfield 23, 3)) ∧ (decode cX3_holdRow 25 = .ok (.aload_n 0, 1)) ∧ (decode cX3_holdRow 26 = .ok (.aload_n 1, 1)) ∧ (decode cX3_holdRow 27 = .ok (.getfield 24, 3)) ∧ (decode cX3_holdRow 30 = .ok (.putfield 27, 3)) ∧ (decode cX3_holdRow 33 = .ok (.return_, 1)) := have h := dcb_98; ⟨fd_181 h rfl, have h := fd_t3 h; ⟨fd_42 h, have h := fd_t1 h; ⟨fd_43 h, have h := fd_t1 h; ⟨fd_180 h rfl, have h := fd_t3 h; ⟨fd_181 h rfl, have h := fd_t3 h; fd_177 h⟩⟩⟩⟩⟩
theorem dX3_holdRow_22 : decode cX3_holdRow 22 = .ok (.putfield 23, 3) := dcq_98.1
theorem dX3_holdRow_25 : decode cX3_holdRow 25 = .ok (.aload_n 0, 1) := dcq_98.2.1
theorem dX3_holdRow_26 : decode cX3_holdRow 26 = .ok (.aload_n 1, 1) := dcq_98.2.2.1
