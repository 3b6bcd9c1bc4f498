-- decode rows: a program laid them
theorem dX6_wantNumber_1 : decode cX6_wantNumber 1 = .ok (.getfield 93, 3) := dcq_396.2.1
theorem dX6_wantNumber_4 : decode cX6_wantNumber 4 = .ok (.istore_n 3, 1) := dcq_396.2.2.1
theorem dX6_wantNumber_5 : decode cX6_wantNumber 5 = .ok (.aload_n 0, 1) := dcq_396.2.2.2.1
theorem dX6_wantNumber_6 : decode cX6_wantNumber 6 = .ok (.aload_n 0, 1) := dcq_396.2.2.2.2.1
theorem dX6_wantNumber_7 : decode cX6_wantNumber 7 = .ok (.getfield 126, 3) := dcq_396.2.2.2.2.2.1
theorem dX6_wantNumber_10 : decode cX6_wantNumber 10 = .ok (.ifCond .eq 24, 3) := dcq_396.2.2.2.2.2.2.1
theorem dX6_wantNumber_13 : decode cX6_wantNumber 13 = .ok (.aload_n 0, 1) := dcq_396.2.2.2.2.2.2.2.1
theorem dX6_wantNumber_14 : decode cX6_wantNumber 14 = .ok (.getfield 86, 3) := dcq_396.2.2.2.2.2.2.2.2.1
theorem dX6_wantNumber_17 : decode cX6_wantNumber 17 = .ok (.iconst 2, 1) := dcq_396.2.2.2.2.2.2.2.2.2.1
theorem dX6_wantNumber_18 : decode cX6_wantNumber 18 = .ok (.if_icmp .ne 16, 3) := dcq_396.2.2.2.2.2.2.2.2.2.2.1
theorem dX6_wantNumber_21 : decode cX6_wantNumber 21 = .ok (.iload_n 3, 1) := dcq_396.2.2.2.2.2.2.2.2.2.2.2
set_option maxRecDepth 20000 in
theorem dcb_397 : fd_B cX6_wantNumber 22 [27, 28, 184, 0, 60, 153, 0, 7, 4, 167, 0, 4, 3, 181, 0, 126, 42, 180, 0, 126, 153, 0, 7, 42] := fd_o cX6_wantNumber 22 _ (by decide +kernel)
theorem dcq_397 : (decode cX6_wantNumber 22 = .ok (.iload_n 1, 1)) ∧ (decode cX6_wantNumber 23 = .ok (.iload_n 2, 1)) ∧ (decode cX6_wantNumber 24 = .ok (.invokestatic 60, 3)) ∧ (decode cX6_wantNumber 27 = .ok (.ifCond .eq 7, 3)) ∧ (decode cX6_wantNumber 30 = .ok (.iconst 1, 1)) ∧ (decode cX6_wantNumber 31 = .ok (.goto 4, 3)) ∧ (decode cX6_wantNumber 34 = .ok (.iconst 0, 1)) ∧ (decode cX6_wantNumber 35 = .ok (.putfield 126, 3)) ∧ (decode cX6_wantNumber 38 = .ok (.aload_n 0, 1)) ∧ (decode cX6_wantNumber 39 = .ok (.getfield 126, 3)) ∧ (decode cX6_wantNumber 42 = .ok (.ifCond .eq 7, 3)) ∧ (decode cX6_wantNumber 45 = .ok (.aload_n 0, 1)) := have h := dcb_397; ⟨fd_27 h, have h := fd_t1 h; ⟨fd_28 h, have h := fd_t1 h; ⟨fd_184 h rfl, have h := fd_t3 h; ⟨fd_153 h (by decide +kernel), have h := fd_t3 h; ⟨fd_4 h, have h := fd_t1 h; ⟨fd_167 h (by decide +kernel), have h := fd_t3 h; ⟨fd_3 h, have h := fd_t1 h; ⟨fd_181 h rfl, have h := fd_t3 h; ⟨fd_42 h, have h := fd_t1 h; ⟨fd_180 h rfl, have h := fd_t3 h; ⟨fd_153 h (by decide +kernel), have h := fd_t3 h; fd_42 h⟩⟩⟩⟩⟩⟩⟩⟩⟩⟩⟩
theorem dX6_wantNumber_22 : decode cX6_wantNumber 22 = .ok (.iload_n 1, 1) := dcq_397.1
theorem dX6_wantNumber_23 : decode cX6_wantNumber 23 = .ok (.iload_n 2, 1) := dcq_397.2.1
theorem dX6_wantNumber_24 : decode cX6_wantNumber 24 = .ok (.invokestatic 60, 3) := dcq_397.2.2.1
theorem dX6_wantNumber_27 : decode cX6_wantNumber 27 = .ok (.ifCond .eq 7, 3) := dcq_397.2.2.2.1
theorem dX6_wantNumber_30 : decode cX6_wantNumber 30 = .ok (.iconst 1, 1) := dcq_397.2.2.2.2.1
theorem dX6_wantNumber_31 : decode cX6_wantNumber 31 = .ok (.goto 4, 3) := dcq_397.2.2.2.2.2.1
theorem dX6_wantNumber_34 : decode cX6_wantNumber 34 = .ok (.iconst 0, 1) := dcq_397.2.2.2.2.2.2.1
theorem dX6_wantNumber_35 : decode cX6_wantNumber 35 = .ok (.putfield 126, 3) := dcq_397.2.2.2.2.2.2.2.1
theorem dX6_wantNumber_38 : decode cX6_wantNumber 38 = .ok (.aload_n 0, 1) := dcq_397.2.2.2.2.2.2.2.2.1
theorem dX6_wantNumber_39 : decode cX6_wantNumber 39 = .ok (.getfield 126, 3) := dcq_397.2.2.2.2.2.2.2.2.2.1
theorem dX6_wantNumber_42 : decode cX6_wantNumber 42 = .ok (.ifCond .eq 7, 3) := dcq_397.2.2.2.2.2.2.2.2.2.2.1
theorem dX6_wantNumber_45 : decode cX6_wantNumber 45 = .ok (.aload_n 0, 1) := dcq_397.2.2.2.2.2.2.2.2.2.2.2
set_option maxRecDepth 20000 in
theorem dcb_398 : fd_B cX6_wantNumber 46 [182, 0, 130, 29, 172] := fd_o cX6_wantNumber 46 _ (by decide +kernel)
theorem dcq_398 : (decode cX6_wantNumber 46 = .ok (.invokevirtual 130, 3)) ∧ (decode cX6_wantNumber 49 = .ok (.iload_n 3, 1)) ∧ (decode cX6_wantNumber 50 = .ok (.ireturn, 1)) := have h := dcb_398; ⟨fd_182 h rfl, have h := fd_t3 h; ⟨fd_29 h, have h := fd_t1 h; fd_172 h⟩⟩
theorem dX6_wantNumber_46 : decode cX6_wantNumber 46 = .ok (.invokevirtual 130, 3) := dcq_398.1
theorem dX6_wantNumber_49 : decode cX6_wantNumber 49 = .ok (.iload_n 3, 1) := dcq_398.2.1
theorem dX6_wantNumber_50 : decode cX6_wantNumber 50 = .ok (.ireturn, 1) := dcq_398.2.2
set_option maxRecDepth 20000 in
theorem dcb_399 : fd_B cX6_wantEnd 0 [42, 42, 180, 0, 126, 153, 0, 16, 42, 16, 59, 182, 0, 133, 153, 0, 7, 4, 167, 0, 4, 3, 181, 0, 126] := fd_o cX6_wantEnd 0 _ (by decide +kernel)
theorem dcq_399 : (decode cX6_wantEnd 0 = .ok (.aload_n 0, 1)) ∧ (decode cX6_wantEnd 1 = .ok (.aload_n 0, 1)) ∧ (decode cX6_wantEnd 2 = .ok (.getfield 126, 3)) ∧ (decode cX6_wantEnd 5 = .ok (.ifCond .eq 16, 3)) ∧ (decode cX6_wantEnd 8 = .ok (.aload_n 0, 1)) ∧ (decode cX6_wantEnd 9 = .ok (.bipush 59, 2)) ∧ (decode cX6_wantEnd 11 = .ok (.invokevirtual 133, 3)) ∧ (decode cX6_wantEnd 14 = .ok (.ifCond .eq 7, 3)) ∧ (decode cX6_wantEnd 17 = .ok (.iconst 1, 1)) ∧ (decode cX6_wantEnd 18 = .ok (.goto 4, 3)) ∧ (decode cX6_wantEnd 21 = .ok (.iconst 0, 1)) ∧ (decode cX6_wantEnd 22 = .ok (.putfield 126, 3)) := have h := dcb_399; ⟨fd_42 h, have h := fd_t1 h; ⟨fd_42 h, have h := fd_t1 h; ⟨fd_180 h rfl, have h := fd_t3 h; ⟨fd_153 h (by decide +kernel), have h := fd_t3 h; ⟨fd_42 h, have h := fd_t1 h; ⟨fd_16 h (by decide +kernel), have h := fd_t2 h; ⟨fd_182 h rfl, have h := fd_t3 h; ⟨fd_153 h (by decide +kernel), have h := fd_t3 h; ⟨fd_4 h, have h := fd_t1 h; ⟨fd_167 h (by decide +kernel), have h := fd_t3 h; ⟨fd_3 h, have h := fd_t1 h; fd_181 h rfl⟩⟩⟩⟩⟩⟩⟩⟩⟩⟩⟩
theorem dX6_wantEnd_0 : decode cX6_wantEnd 0 = .ok (.aload_n 0, 1) := dcq_399.1
theorem dX6_wantEnd_1 : decode cX6_wantEnd 1 = .ok (.aload_n 0, 1) := dcq_399.2.1
theorem dX6_wantEnd_2 : decode cX6_wantEnd 2 = .ok (.getfield 126, 3) := dcq_399.2.2.1
theorem dX6_wantEnd_5 : decode cX6_wantEnd 5 = .ok (.ifCond .eq 16, 3) := dcq_399.2.2.2.1
theorem dX6_wantEnd_8 : decode cX6_wantEnd 8 = .ok (.aload_n 0, 1) := dcq_399.2.2.2.2.1
theorem dX6_wantEnd_9 : decode cX6_wantEnd 9 = .ok (.bipush 59, 2) := dcq_399.2.2.2.2.2.1
theorem dX6_wantEnd_11 : decode cX6_wantEnd 11 = .ok (.invokevirtual 133, 3) := dcq_399.2.2.2.2.2.2.1
theorem dX6_wantEnd_14 : decode cX6_wantEnd 14 = .ok (.ifCond .eq 7, 3) := dcq_399.2.2.2.2.2.2.2.1
theorem dX6_wantEnd_17 : decode cX6_wantEnd 17 = .ok (.iconst 1, 1) := dcq_399.2.2.2.2.2.2.2.2.1
theorem dX6_wantEnd_18 : decode cX6_wantEnd 18 = .ok (.goto 4, 3) := dcq_399.2.2.2.2.2.2.2.2.2.1
theorem dX6_wantEnd_21 : decode cX6_wantEnd 21 = .ok (.iconst 0, 1) := dcq_399.2.2.2.2.2.2.2.2.2.2.1
theorem dX6_wantEnd_22 : decode cX6_wantEnd 22 = .ok (.putfield 126, 3) := dcq_399.2.2.2.2.2.2.2.2.2.2.2
set_option maxRecDepth 20000 in
theorem dcb_400 : fd_B cX6_wantEnd 25 [42, 180, 0, 126, 153, 0, 7, 42, 182, 0, 130, 177] := fd_o cX6_wantEnd 25 _ (by decide +kernel)
theorem dcq_400 : (decode cX6_wantEnd 25 = .ok (.aload_n 0, 1)) ∧ (decode cX6_wantEnd 26 = .ok (.getfield 126, 3)) ∧ (decode cX6_wantEnd 29 = .ok (.ifCond .eq 7, 3)) ∧ (decode cX6_wantEnd 32 = .ok (.aload_n 0, 1)) ∧ (decode cX6_wantEnd 33 = .ok (.invokevirtual 130, 3)) ∧ (decode cX6_wantEnd 36 = .ok (.return_, 1)) := have h := dcb_400; ⟨fd_42 h, have h := fd_t1 h; ⟨fd_180 h rfl, have h := fd_t3 h; ⟨fd_153 h (by decide +kernel), have h := fd_t3 h; ⟨fd_42 h, have h := fd_t1 h; ⟨fd_182 h rfl, have h := fd_t3 h; fd_177 h⟩⟩⟩⟩⟩
theorem dX6_wantEnd_25 : decode cX6_wantEnd 25 = .ok (.aload_n 0, 1) := dcq_400.1
theorem dX6_wantEnd_26 : decode cX6_wantEnd 26 = .ok (.getfield 126, 3) := dcq_400.2.1
theorem dX6_wantEnd_29 : decode cX6_wantEnd 29 = .ok (.ifCond .eq 7, 3) := dcq_400.2.2.1
theorem dX6_wantEnd_32 : decode cX6_wantEnd 32 = .ok (.aload_n 0, 1) := dcq_400.2.2.2.1
theorem dX6_wantEnd_33 : decode cX6_wantEnd 33 = .ok (.invokevirtual 130, 3) := dcq_400.2.2.2.2.1
theorem dX6_wantEnd_36 : decode cX6_wantEnd 36 = .ok (.return_, 1) := dcq_400.2.2.2.2.2
set_option maxRecDepth 20000 in
theorem dcb_401 : fd_B cX6_mayWant 0 [42, 180, 0, 126, 153, 0, 11, 42, 31, 182, 0, 104, 154, 0, 5, 3, 172, 42, 182, 0, 130, 42] := fd_o cX6_mayWant 0 _ (by decide +kernel)
theorem dcq_401 : (decode cX6_mayWant 0 = .ok (.aload_n 0, 1)) ∧ (decode cX6_mayWant 1 = .ok (.getfield 126, 3)) ∧ (decode cX6_mayWant 4 = .ok (.ifCond .eq 11, 3)) ∧ (decode cX6_mayWant 7 = .ok (.aload_n 0, 1)) ∧ (decode cX6_mayWant 8 = .ok (.lload_n 1, 1)) ∧ (decode cX6_mayWant 9 = .ok (.invokevirtual 104, 3)) ∧ (decode cX6_mayWant 12 = .ok (.ifCond .ne 5, 3)) ∧ (decode cX6_mayWant 15 = .ok (.iconst 0, 1)) ∧ (decode cX6_mayWant 16 = .ok (.ireturn, 1)) ∧ (decode cX6_mayWant 17 = .ok (.aload_n 0, 1)) ∧ (decode cX6_mayWant 18 = .ok (.invokevirtual 130, 3)) ∧ (decode cX6_mayWant 21 = .ok (.aload_n 0, 1)) := have h := dcb_401; ⟨fd_42 h, have h := fd_t1 h; ⟨fd_180 h rfl, have h := fd_t3 h; ⟨fd_153 h (by decide +kernel), have h := fd_t3 h; ⟨fd_42 h, have h := fd_t1 h; ⟨fd_31 h, have h := fd_t1 h; ⟨fd_182 h rfl, have h := fd_t3 h; ⟨fd_154 h (by decide +kernel), have h := fd_t3 h; ⟨fd_3 h, have h := fd_t1 h; ⟨fd_172 h, have h := fd_t1 h; ⟨fd_42 h, have h := fd_t1 h; ⟨fd_182 h rfl, have h := fd_t3 h; fd_42 h⟩⟩⟩⟩⟩⟩⟩⟩⟩⟩⟩
theorem dX6_mayWant_0 : decode cX6_mayWant 0 = .ok (.aload_n 0, 1) := dcq_401.1
theorem dX6_mayWant_1 : decode cX6_mayWant 1 = .ok (.getfield 126, 3) := dcq_401.2.1
theorem dX6_mayWant_4 : decode cX6_mayWant 4 = .ok (.ifCond .eq 11, 3) := dcq_401.2.2.1
theorem dX6_mayWant_7 : decode cX6_mayWant 7 = .ok (.aload_n 0, 1) := dcq_401.2.2.2.1
theorem dX6_mayWant_8 : decode cX6_mayWant 8 = .ok (.lload_n 1, 1) := dcq_401.2.2.2.2.1
theorem dX6_mayWant_9 : decode cX6_mayWant 9 = .ok (.invokevirtual 104, 3) := dcq_401.2.2.2.2.2.1
theorem dX6_mayWant_12 : decode cX6_mayWant 12 = .ok (.ifCond .ne 5, 3) := dcq_401.2.2.2.2.2.2.1
theorem dX6_mayWant_15 : decode cX6_mayWant 15 = .ok (.iconst 0, 1) := dcq_401.2.2.2.2.2.2.2.1
theorem dX6_mayWant_16 : decode cX6_mayWant 16 = .ok (.ireturn, 1) := dcq_401.2.2.2.2.2.2.2.2.1
theorem dX6_mayWant_17 : decode cX6_mayWant 17 = .ok (.aload_n 0, 1) := dcq_401.2.2.2.2.2.2.2.2.2.1
theorem dX6_mayWant_18 : decode cX6_mayWant 18 = .ok (.invokevirtual 130, 3) := dcq_401.2.2.2.2.2.2.2.2.2.2.1
theorem dX6_mayWant_21 : decode cX6_mayWant 21 = .ok (.aload_n 0, 1) := dcq_401.2.2.2.2.2.2.2.2.2.2.2
set_option maxRecDepth 20000 in
theorem dcb_402 : fd_B cX6_mayWant 22 [3, 29, 182, 0, 136, 172] := fd_o cX6_mayWant 22 _ (by decide +kernel)
theorem dcq_402 : (decode cX6_mayWant 22 = .ok (.iconst 0, 1)) ∧ (decode cX6_mayWant 23 = .ok (.iload_n 3, 1)) ∧ (decode cX6_mayWant 24 = .ok (.invokevirtual 136, 3)) ∧ (decode cX6_mayWant 27 = .ok (.ireturn, 1)) := have h := dcb_402; ⟨fd_3 h, have h := fd_t1 h; ⟨fd_29 h, have h := fd_t1 h; ⟨fd_182 h rfl, have h := fd_t3 h; fd_172 h⟩⟩⟩
theorem dX6_mayWant_22 : decode cX6_mayWant 22 = .ok (.iconst 0, 1) := dcq_402.1
theorem dX6_mayWant_23 : decode cX6_mayWant 23 = .ok (.iload_n 3, 1) := dcq_402.2.1
theorem dX6_mayWant_24 : decode cX6_mayWant 24 = .ok (.invokevirtual 136, 3) := dcq_402.2.2.1
theorem dX6_mayWant_27 : decode cX6_mayWant 27 = .ok (.ireturn, 1) := dcq_402.2.2.2
set_option maxRecDepth 20000 in
theorem dcb_403 : fd_B cX6_wantOne 0 [42, 42, 180, 0, 13, 16, 6, 46, 16, 8, 162, 0, 7, 4, 167, 0, 4, 3, 181, 0, 126, 42] := fd_o cX6_wantOne 0 _ (by decide +kernel)
theorem dcq_403 : (decode cX6_wantOne 0 = .ok (.aload_n 0, 1)) ∧ (decode cX6_wantOne 1 = .ok (.aload_n 0, 1)) ∧ (decode cX6_wantOne 2 = .ok (.getfield 13, 3)) ∧ (decode cX6_wantOne 5 = .ok (.bipush 6, 2)) ∧ (decode cX6_wantOne 7 = .ok (.iaload, 1)) ∧ (decode cX6_wantOne 8 = .ok (.bipush 8, 2)) ∧ (decode cX6_wantOne 10 = .ok (.if_icmp .ge 7, 3)) ∧ (decode cX6_wantOne 13 = .ok (.iconst 1, 1)) ∧ (decode cX6_wantOne 14 = .ok (.goto 4, 3)) ∧ (decode cX6_wantOne 17 = .ok (.iconst 0, 1)) ∧ (decode cX6_wantOne 18 = .ok (.putfield 126, 3)) ∧ (decode cX6_wantOne 21 = .ok (.aload_n 0, 1)) := have h := dcb_403; ⟨fd_42 h, have h := fd_t1 h; ⟨fd_42 h, have h := fd_t1 h; ⟨fd_180 h rfl, have h := fd_t3 h; ⟨fd_16 h (by decide +kernel), have h := fd_t2 h; ⟨fd_46 h, have h := fd_t1 h; ⟨fd_16 h (by decide +kernel), have h := fd_t2 h; ⟨fd_162 h (by decide +kernel), have h := fd_t3 h; ⟨fd_4 h, have h := fd_t1 h; ⟨fd_167 h (by decide +kernel), have h := fd_t3 h; ⟨fd_3 h, have h := fd_t1 h; ⟨fd_181 h rfl, have h := fd_t3 h; fd_42 h⟩⟩⟩⟩⟩⟩⟩⟩⟩⟩⟩
theorem dX6_wantOne_0 : decode cX6_wantOne 0 = .ok (.aload_n 0, 1) := dcq_403.1
theorem dX6_wantOne_1 : decode cX6_wantOne 1 = .ok (.aload_n 0, 1) := dcq_403.2.1
theorem dX6_wantOne_2 : decode cX6_wantOne 2 = .ok (.getfield 13, 3) := dcq_403.2.2.1
theorem dX6_wantOne_5 : decode cX6_wantOne 5 = .ok (.bipush 6, 2) := dcq_403.2.2.2.1
theorem dX6_wantOne_7 : decode cX6_wantOne 7 = .ok (.iaload, 1) := dcq_403.2.2.2.2.1
theorem dX6_wantOne_8 : decode cX6_wantOne 8 = .ok (.bipush 8, 2) := dcq_403.2.2.2.2.2.1
theorem dX6_wantOne_10 : decode cX6_wantOne 10 = .ok (.if_icmp .ge 7, 3) := dcq_403.2.2.2.2.2.2.1
theorem dX6_wantOne_13 : decode cX6_wantOne 13 = .ok (.iconst 1, 1) := dcq_403.2.2.2.2.2.2.2.1
theorem dX6_wantOne_14 : decode cX6_wantOne 14 = .ok (.goto 4, 3) := dcq_403.2.2.2.2.2.2.2.2.1
theorem dX6_wantOne_17 : decode cX6_wantOne 17 = .ok (.iconst 0, 1) := dcq_403.2.2.2.2.2.2.2.2.2.1
theorem dX6_wantOne_18 : decode cX6_wantOne 18 = .ok (.putfield 126, 3) := dcq_403.2.2.2.2.2.2.2.2.2.2.1
theorem dX6_wantOne_21 : decode cX6_wantOne 21 = .ok (.aload_n 0, 1) := dcq_403.2.2.2.2.2.2.2.2.2.2.2
set_option maxRecDepth 20000 in
theorem dcb_404 : fd_B cX6_wantOne 22 [180, 0, 126, 153, 0, 7, 42, 182, 0, 130, 42, 20, 0, 140, 16, 99, 182, 0, 142, 61, 42, 20, 0, 146, 16, 9] := fd_o cX6_wantOne 22 _ (by decide +kernel)
theorem dcq_404 : (decode cX6_wantOne 22 = .ok (.getfield 126, 3)) ∧ (decode cX6_wantOne 25 = .ok (.ifCond .eq 7, 3)) ∧ (decode cX6_wantOne 28 = .ok (.aload_n 0, 1)) ∧ (decode cX6_wantOne 29 = .ok (.invokevirtual 130, 3)) ∧ (decode cX6_wantOne 32 = .ok (.aload_n 0, 1)) ∧ (decode cX6_wantOne 33 = .ok (.ldc2_w 140, 3)) ∧ (decode cX6_wantOne 36 = .ok (.bipush 99, 2)) ∧ (decode cX6_wantOne 38 = .ok (.invokevirtual 142, 3)) ∧ (decode cX6_wantOne 41 = .ok (.istore_n 2, 1)) ∧ (decode cX6_wantOne 42 = .ok (.aload_n 0, 1)) ∧ (decode cX6_wantOne 43 = .ok (.ldc2_w 146, 3)) ∧ (decode cX6_wantOne 46 = .ok (.bipush 9, 2)) := have h := dcb_404; ⟨fd_180 h rfl, have h := fd_t3 h; ⟨fd_153 h (by decide +kernel), have h := fd_t3 h; ⟨fd_42 h, have h := fd_t1 h; ⟨fd_182 h rfl, have h := fd_t3 h; ⟨fd_42 h, have h := fd_t1 h; ⟨fd_20 h rfl, have h := fd_t3 h; ⟨fd_16 h (by decide +kernel), have h := fd_t2 h; ⟨fd_182 h rfl, have h := fd_t3 h; ⟨fd_61 h, have h := fd_t1 h; ⟨fd_42 h, have h := fd_t1 h; ⟨fd_20 h rfl, have h := fd_t3 h; fd_16 h (by decide +kernel)⟩⟩⟩⟩⟩⟩⟩⟩⟩⟩⟩
theorem dX6_wantOne_22 : decode cX6_wantOne 22 = .ok (.getfield 126, 3) := dcq_404.1
theorem dX6_wantOne_25 : decode cX6_wantOne 25 = .ok (.ifCond .eq 7, 3) := dcq_404.2.1
theorem dX6_wantOne_28 : decode cX6_wantOne 28 = .ok (.aload_n 0, 1) := dcq_404.2.2.1
theorem dX6_wantOne_29 : decode cX6_wantOne 29 = .ok (.invokevirtual 130, 3) := dcq_404.2.2.2.1
theorem dX6_wantOne_32 : decode cX6_wantOne 32 = .ok (.aload_n 0, 1) := dcq_404.2.2.2.2.1
theorem dX6_wantOne_33 : decode cX6_wantOne 33 = .ok (.ldc2_w 140, 3) := dcq_404.2.2.2.2.2.1
theorem dX6_wantOne_36 : decode cX6_wantOne 36 = .ok (.bipush 99, 2) := dcq_404.2.2.2.2.2.2.1
theorem dX6_wantOne_38 : decode cX6_wantOne 38 = .ok (.invokevirtual 142, 3) := dcq_404.2.2.2.2.2.2.2.1
theorem dX6_wantOne_41 : decode cX6_wantOne 41 = .ok (.istore_n 2, 1) := dcq_404.2.2.2.2.2.2.2.2.1
theorem dX6_wantOne_42 : decode cX6_wantOne 42 = .ok (.aload_n 0, 1) := dcq_404.2.2.2.2.2.2.2.2.2.1
theorem dX6_wantOne_43 : decode cX6_wantOne 43 = .ok (.ldc2_w 146, 3) := dcq_404.2.2.2.2.2.2.2.2.2.2.1
theorem dX6_wantOne_46 : decode cX6_wantOne 46 = .ok (.bipush 9, 2) := dcq_404.2.2.2.2.2.2.2.2.2.2.2
set_option maxRecDepth 20000 in
theorem dcb_405 : fd_B cX6_wantOne 48 [182, 0, 142, 62, 42, 20, 0, 148, 16, 99, 182, 0, 142, 54, 4, 42, 182, 0, 150, 42, 180, 0, 126, 153, 0, 68] := fd_o cX6_wantOne 48 _ (by decide +kernel)
theorem dcq_405 : (decode cX6_wantOne 48 = .ok (.invokevirtual 142, 3)) ∧ (decode cX6_wantOne 51 = .ok (.istore_n 3, 1)) ∧ (decode cX6_wantOne 52 = .ok (.aload_n 0, 1)) ∧ (decode cX6_wantOne 53 = .ok (.ldc2_w 148, 3)) ∧ (decode cX6_wantOne 56 = .ok (.bipush 99, 2)) ∧ (decode cX6_wantOne 58 = .ok (.invokevirtual 142, 3)) ∧ (decode cX6_wantOne 61 = .ok (.istore 4, 2)) ∧ (decode cX6_wantOne 63 = .ok (.aload_n 0, 1)) ∧ (decode cX6_wantOne 64 = .ok (.invokevirtual 150, 3)) ∧ (decode cX6_wantOne 67 = .ok (.aload_n 0, 1)) ∧ (decode cX6_wantOne 68 = .ok (.getfield 126, 3)) ∧ (decode cX6_wantOne 71 = .ok (.ifCond .eq 68, 3)) := have h := dcb_405; ⟨fd_182 h rfl, have h := fd_t3 h; ⟨fd_62 h, have h := fd_t1 h; ⟨fd_42 h, have h := fd_t1 h; ⟨fd_20 h rfl, have h := fd_t3 h; ⟨fd_16 h (by decide +kernel), have h := fd_t2 h; ⟨fd_182 h rfl, have h := fd_t3 h; ⟨fd_54 h rfl, have h := fd_t2 h; ⟨fd_42 h, have h := fd_t1 h; ⟨fd_182 h rfl, have h := fd_t3 h; ⟨fd_42 h, have h := fd_t1 h; ⟨fd_180 h rfl, have h := fd_t3 h; fd_153 h (by decide +kernel)⟩⟩⟩⟩⟩⟩⟩⟩⟩⟩⟩
theorem dX6_wantOne_48 : decode cX6_wantOne 48 = .ok (.invokevirtual 142, 3) := dcq_405.1
theorem dX6_wantOne_51 : decode cX6_wantOne 51 = .ok (.istore_n 3, 1) := dcq_405.2.1
theorem dX6_wantOne_52 : decode cX6_wantOne 52 = .ok (.aload_n 0, 1) := dcq_405.2.2.1
theorem dX6_wantOne_53 : decode cX6_wantOne 53 = .ok (.ldc2_w 148, 3) := dcq_405.2.2.2.1
theorem dX6_wantOne_56 : decode cX6_wantOne 56 = .ok (.bipush 99, 2) := dcq_405.2.2.2.2.1
theorem dX6_wantOne_58 : decode cX6_wantOne 58 = .ok (.invokevirtual 142, 3) := dcq_405.2.2.2.2.2.1
theorem dX6_wantOne_61 : decode cX6_wantOne 61 = .ok (.istore 4, 2) := dcq_405.2.2.2.2.2.2.1
theorem dX6_wantOne_63 : decode cX6_wantOne 63 = .ok (.aload_n 0, 1) := dcq_405.2.2.2.2.2.2.2.1
theorem dX6_wantOne_64 : decode cX6_wantOne 64 = .ok (.invokevirtual 150, 3) := dcq_405.2.2.2.2.2.2.2.2.1
theorem dX6_wantOne_67 : decode cX6_wantOne 67 = .ok (.aload_n 0, 1) := dcq_405.2.2.2.2.2.2.2.2.2.1
theorem dX6_wantOne_68 : decode cX6_wantOne 68 = .ok (.getfield 126, 3) := dcq_405.2.2.2.2.2.2.2.2.2.2.1
theorem dX6_wantOne_71 : decode cX6_wantOne 71 = .ok (.ifCond .eq 68, 3) := dcq_405.2.2.2.2.2.2.2.2.2.2.2
set_option maxRecDepth 20000 in
theorem dcb_406 : fd_B cX6_wantOne 74 [16, 8, 16, 6, 42, 180, 0, 13, 16, 6, 46, 104, 96, 54, 5, 42, 180, 0, 13, 21, 5] := fd_o cX6_wantOne 74 _ (by decide +kernel)
theorem dcq_406 : (decode cX6_wantOne 74 = .ok (.bipush 8, 2)) ∧ (decode cX6_wantOne 76 = .ok (.bipush 6, 2)) ∧ (decode cX6_wantOne 78 = .ok (.aload_n 0, 1)) ∧ (decode cX6_wantOne 79 = .ok (.getfield 13, 3)) ∧ (decode cX6_wantOne 82 = .ok (.bipush 6, 2)) ∧ (decode cX6_wantOne 84 = .ok (.iaload, 1)) ∧ (decode cX6_wantOne 85 = .ok (.imul, 1)) ∧ (decode cX6_wantOne 86 = .ok (.iadd, 1)) ∧ (decode cX6_wantOne 87 = .ok (.istore 5, 2)) ∧ (decode cX6_wantOne 89 = .ok (.aload_n 0, 1)) ∧ (decode cX6_wantOne 90 = .ok (.getfield 13, 3)) ∧ (decode cX6_wantOne 93 = .ok (.iload 5, 2)) := have h := dcb_406; ⟨fd_16 h (by decide +kernel), have h := fd_t2 h; ⟨fd_16 h (by decide +kernel), have h := fd_t2 h; ⟨fd_42 h, have h := fd_t1 h; ⟨fd_180 h rfl, have h := fd_t3 h; ⟨fd_16 h (by decide +kernel), have h := fd_t2 h; ⟨fd_46 h, have h := fd_t1 h; ⟨fd_104 h, have h := fd_t1 h; ⟨fd_96 h, have h := fd_t1 h; ⟨fd_54 h rfl, have h := fd_t2 h; ⟨fd_42 h, have h := fd_t1 h; ⟨fd_180 h rfl, have h := fd_t3 h; fd_21 h rfl⟩⟩⟩⟩⟩⟩⟩⟩⟩⟩⟩
theorem dX6_wantOne_74 : decode cX6_wantOne 74 = .ok (.bipush 8, 2) := dcq_406.1
theorem dX6_wantOne_76 : decode cX6_wantOne 76 = .ok (.bipush 6, 2) := dcq_406.2.1
theorem dX6_wantOne_78 : decode cX6_wantOne 78 = .ok (.aload_n 0, 1) := dcq_406.2.2.1
theorem dX6_wantOne_79 : decode cX6_wantOne 79 = .ok (.getfield 13, 3) := dcq_406.2.2.2.1
theorem dX6_wantOne_82 : decode cX6_wantOne 82 = .ok (.bipush 6, 2) := dcq_406.2.2.2.2.1
theorem dX6_wantOne_84 : decode cX6_wantOne 84 = .ok (.iaload, 1) := dcq_406.2.2.2.2.2.1
theorem dX6_wantOne_85 : decode cX6_wantOne 85 = .ok (.imul, 1) := dcq_406.2.2.2.2.2.2.1
theorem dX6_wantOne_86 : decode cX6_wantOne 86 = .ok (.iadd, 1) := dcq_406.2.2.2.2.2.2.2.1
theorem dX6_wantOne_87 : decode cX6_wantOne 87 = .ok (.istore 5, 2) := dcq_406.2.2.2.2.2.2.2.2.1
theorem dX6_wantOne_89 : decode cX6_wantOne 89 = .ok (.aload_n 0, 1) := dcq_406.2.2.2.2.2.2.2.2.2.1
theorem dX6_wantOne_90 : decode cX6_wantOne 90 = .ok (.getfield 13, 3) := dcq_406.2.2.2.2.2.2.2.2.2.2.1
theorem dX6_wantOne_93 : decode cX6_wantOne 93 = .ok (.iload 5, 2) := dcq_406.2.2.2.2.2.2.2.2.2.2.2
set_option maxRecDepth 20000 in
theorem dcb_407 : fd_B cX6_wantOne 95 [27, 79, 42, 180, 0, 13, 21, 5, 4, 96, 28, 79, 42, 180, 0, 13, 21, 5] := fd_o cX6_wantOne 95 _ (by decide +kernel)
theorem dcq_407 : (decode cX6_wantOne 95 = .ok (.iload_n 1, 1)) ∧ (decode cX6_wantOne 96 = .ok (.iastore, 1)) ∧ (decode cX6_wantOne 97 = .ok (.aload_n 0, 1)) ∧ (decode cX6_wantOne 98 = .ok (.getfield 13, 3)) ∧ (decode cX6_wantOne 101 = .ok (.iload 5, 2)) ∧ (decode cX6_wantOne 103 = .ok (.iconst 1, 1)) ∧ (decode cX6_wantOne 104 = .ok (.iadd, 1)) ∧ (decode cX6_wantOne 105 = .ok (.iload_n 2, 1)) ∧ (decode cX6_wantOne 106 = .ok (.iastore, 1)) ∧ (decode cX6_wantOne 107 = .ok (.aload_n 0, 1)) ∧ (decode cX6_wantOne 108 = .ok (.getfield 13, 3)) ∧ (decode cX6_wantOne 111 = .ok (.iload 5, 2)) := have h := dcb_407; ⟨fd_27 h, have h := fd_t1 h; ⟨fd_79 h, have h := fd_t1 h; ⟨fd_42 h, have h := fd_t1 h; ⟨fd_180 h rfl, have h := fd_t3 h; ⟨fd_21 h rfl, have h := fd_t2 h; ⟨fd_4 h, have h := fd_t1 h; ⟨fd_96 h, have h := fd_t1 h; ⟨fd_28 h, have h := fd_t1 h; ⟨fd_79 h, have h := fd_t1 h; ⟨fd_42 h, have h := fd_t1 h; ⟨fd_180 h rfl, have h := fd_t3 h; fd_21 h rfl⟩⟩⟩⟩⟩⟩⟩⟩⟩⟩⟩
theorem dX6_wantOne_95 : decode cX6_wantOne 95 = .ok (.iload_n 1, 1) := dcq_407.1
theorem dX6_wantOne_96 : decode cX6_wantOne 96 = .ok (.iastore, 1) := dcq_407.2.1
theorem dX6_wantOne_97 : decode cX6_wantOne 97 = .ok (.aload_n 0, 1) := dcq_407.2.2.1
theorem dX6_wantOne_98 : decode cX6_wantOne 98 = .ok (.getfield 13, 3) := dcq_407.2.2.2.1
theorem dX6_wantOne_101 : decode cX6_wantOne 101 = .ok (.iload 5, 2) := dcq_407.2.2.2.2.1
theorem dX6_wantOne_103 : decode cX6_wantOne 103 = .ok (.iconst 1, 1) := dcq_407.2.2.2.2.2.1
theorem dX6_wantOne_104 : decode cX6_wantOne 104 = .ok (.iadd, 1) := dcq_407.2.2.2.2.2.2.1
theorem dX6_wantOne_105 : decode cX6_wantOne 105 = .ok (.iload_n 2, 1) := dcq_407.2.2.2.2.2.2.2.1
theorem dX6_wantOne_106 : decode cX6_wantOne 106 = .ok (.iastore, 1) := dcq_407.2.2.2.2.2.2.2.2.1
theorem dX6_wantOne_107 : decode cX6_wantOne 107 = .ok (.aload_n 0, 1) := dcq_407.2.2.2.2.2.2.2.2.2.1
theorem dX6_wantOne_108 : decode cX6_wantOne 108 = .ok (.getfield 13, 3) := dcq_407.2.2.2.2.2.2.2.2.2.2.1
theorem dX6_wantOne_111 : decode cX6_wantOne 111 = .ok (.iload 5, 2) := dcq_407.2.2.2.2.2.2.2.2.2.2.2
set_option maxRecDepth 20000 in
theorem dcb_408 : fd_B cX6_wantOne 113 [5, 96, 29, 79, 42, 180, 0, 13, 21, 5, 6, 96, 21, 4, 79, 42] := fd_o cX6_wantOne 113 _ (by decide +kernel)
theorem dcq_408 : (decode cX6_wantOne 113 = .ok (.iconst 2, 1)) ∧ (decode cX6_wantOne 114 = .ok (.iadd, 1)) ∧ (decode cX6_wantOne 115 = .ok (.iload_n 3, 1)) ∧ (decode cX6_wantOne 116 = .ok (.iastore, 1)) ∧ (decode cX6_wantOne 117 = .ok (.aload_n 0, 1)) ∧ (decode cX6_wantOne 118 = .ok (.getfield 13, 3)) ∧ (decode cX6_wantOne 121 = .ok (.iload 5, 2)) ∧ (decode cX6_wantOne 123 = .ok (.iconst 3, 1)) ∧ (decode cX6_wantOne 124 = .ok (.iadd, 1)) ∧ (decode cX6_wantOne 125 = .ok (.iload 4, 2)) ∧ (decode cX6_wantOne 127 = .ok (.iastore, 1)) ∧ (decode cX6_wantOne 128 = .ok (.aload_n 0, 1)) := have h := dcb_408; ⟨fd_5 h, have h := fd_t1 h; ⟨fd_96 h, have h := fd_t1 h; ⟨fd_29 h, have h := fd_t1 h; ⟨fd_79 h, have h := fd_t1 h; ⟨fd_42 h, have h := fd_t1 h; ⟨fd_180 h rfl, have h := fd_t3 h; ⟨fd_21 h rfl, have h := fd_t2 h; ⟨fd_6 h, have h := fd_t1 h; ⟨fd_96 h, have h := fd_t1 h; ⟨fd_21 h rfl, have h := fd_t2 h; ⟨fd_79 h, have h := fd_t1 h; fd_42 h⟩⟩⟩⟩⟩⟩⟩⟩⟩⟩⟩
theorem dX6_wantOne_113 : decode cX6_wantOne 113 = .ok (.iconst 2, 1) := dcq_408.1
theorem dX6_wantOne_114 : decode cX6_wantOne 114 = .ok (.iadd, 1) := dcq_408.2.1
theorem dX6_wantOne_115 : decode cX6_wantOne 115 = .ok (.iload_n 3, 1) := dcq_408.2.2.1
theorem dX6_wantOne_116 : decode cX6_wantOne 116 = .ok (.iastore, 1) := dcq_408.2.2.2.1
theorem dX6_wantOne_117 : decode cX6_wantOne 117 = .ok (.aload_n 0, 1) := dcq_408.2.2.2.2.1
theorem dX6_wantOne_118 : decode cX6_wantOne 118 = .ok (.getfield 13, 3) := dcq_408.2.2.2.2.2.1
theorem dX6_wantOne_121 : decode cX6_wantOne 121 = .ok (.iload 5, 2) := dcq_408.2.2.2.2.2.2.1
theorem dX6_wantOne_123 : decode cX6_wantOne 123 = .ok (.iconst 3, 1) := dcq_408.2.2.2.2.2.2.2.1
theorem dX6_wantOne_124 : decode cX6_wantOne 124 = .ok (.iadd, 1) := dcq_408.2.2.2.2.2.2.2.2.1
theorem dX6_wantOne_125 : decode cX6_wantOne 125 = .ok (.iload 4, 2) := dcq_408.2.2.2.2.2.2.2.2.2.1
theorem dX6_wantOne_127 : decode cX6_wantOne 127 = .ok (.iastore, 1) := dcq_408.2.2.2.2.2.2.2.2.2.2.1
theorem dX6_wantOne_128 : decode cX6_wantOne 128 = .ok (.aload_n 0, 1) := dcq_408.2.2.2.2.2.2.2.2.2.2.2
set_option maxRecDepth 20000 in
theorem dcb_409 : fd_B cX6_wantOne 129 [180, 0, 13, 16, 6, 92, 46, 4, 96, 79, 177] := fd_o cX6_wantOne 129 _ (by decide +kernel)
theorem dcq_409 : (decode cX6_wantOne 129 = .ok (.getfield 13, 3)) ∧ (decode cX6_wantOne 132 = .ok (.bipush 6, 2)) ∧ (decode cX6_wantOne 134 = .ok (.dup2, 1)) ∧ (decode cX6_wantOne 135 = .ok (.iaload, 1)) ∧ (decode cX6_wantOne 136 = .ok (.iconst 1, 1)) ∧ (decode cX6_wantOne 137 = .ok (.iadd, 1)) ∧ (decode cX6_wantOne 138 = .ok (.iastore, 1)) ∧ (decode cX6_wantOne 139 = .ok (.return_, 1)) := have h := dcb_409; ⟨fd_180 h rfl, have h := fd_t3 h; ⟨fd_16 h (by decide +kernel), have h := fd_t2 h; ⟨fd_92 h, have h := fd_t1 h; ⟨fd_46 h, have h := fd_t1 h; ⟨fd_4 h, have h := fd_t1 h; ⟨fd_96 h, have h := fd_t1 h; ⟨fd_79 h, have h := fd_t1 h; fd_177 h⟩⟩⟩⟩⟩⟩⟩
theorem dX6_wantOne_129 : decode cX6_wantOne 129 = .ok (.getfield 13, 3) := dcq_409.1
theorem dX6_wantOne_132 : decode cX6_wantOne 132 = .ok (.bipush 6, 2) := dcq_409.2.1
theorem dX6_wantOne_134 : decode cX6_wantOne 134 = .ok (.dup2, 1) := dcq_409.2.2.1
theorem dX6_wantOne_135 : decode cX6_wantOne 135 = .ok (.iaload, 1) := dcq_409.2.2.2.1
theorem dX6_wantOne_136 : decode cX6_wantOne 136 = .ok (.iconst 1, 1) := dcq_409.2.2.2.2.1
theorem dX6_wantOne_137 : decode cX6_wantOne 137 = .ok (.iadd, 1) := dcq_409.2.2.2.2.2.1
theorem dX6_wantOne_138 : decode cX6_wantOne 138 = .ok (.iastore, 1) := dcq_409.2.2.2.2.2.2.1
theorem dX6_wantOne_139 : decode cX6_wantOne 139 = .ok (.return_, 1) := dcq_409.2.2.2.2.2.2.2
set_option maxRecDepth 20000 in
theorem dcb_410 : fd_B cX6_wantClause 0 [42, 182, 0, 153, 60, 42, 182, 0, 157, 155, 0, 14, 42, 42, 182, 0, 157, 182, 0, 160, 167, 0, 38, 27] := fd_o cX6_wantClause 0 _ (by decide +kernel)
theorem dcq_410 : (decode cX6_wantClause 0 = .ok (.aload_n 0, 1)) ∧ (decode cX6_wantClause 1 = .ok (.invokevirtual 153, 3)) ∧ (decode cX6_wantClause 4 = .ok (.istore_n 1, 1)) ∧ (decode cX6_wantClause 5 = .ok (.aload_n 0, 1)) ∧ (decode cX6_wantClause 6 = .ok (.invokevirtual 157, 3)) ∧ (decode cX6_wantClause 9 = .ok (.ifCond .lt 14, 3)) ∧ (decode cX6_wantClause 12 = .ok (.aload_n 0, 1)) ∧ (decode cX6_wantClause 13 = .ok (.aload_n 0, 1)) ∧ (decode cX6_wantClause 14 = .ok (.invokevirtual 157, 3)) ∧ (decode cX6_wantClause 17 = .ok (.invokevirtual 160, 3)) ∧ (decode cX6_wantClause 20 = .ok (.goto 38, 3)) ∧ (decode cX6_wantClause 23 = .ok (.iload_n 1, 1)) := have h := dcb_410; ⟨fd_42 h, have h := fd_t1 h; ⟨fd_182 h rfl, have h := fd_t3 h; ⟨fd_60 h, have h := fd_t1 h; ⟨fd_42 h, have h := fd_t1 h; ⟨fd_182 h rfl, have h := fd_t3 h; ⟨fd_155 h (by decide +kernel), have h := fd_t3 h; ⟨fd_42 h, have h := fd_t1 h; ⟨fd_42 h, have h := fd_t1 h; ⟨fd_182 h rfl, have h := fd_t3 h; ⟨fd_182 h rfl, have h := fd_t3 h; ⟨fd_167 h (by decide +kernel), have h := fd_t3 h; fd_27 h⟩⟩⟩⟩⟩⟩⟩⟩⟩⟩⟩
theorem dX6_wantClause_0 : decode cX6_wantClause 0 = .ok (.aload_n 0, 1) := dcq_410.1
theorem dX6_wantClause_1 : decode cX6_wantClause 1 = .ok (.invokevirtual 153, 3) := dcq_410.2.1
theorem dX6_wantClause_4 : decode cX6_wantClause 4 = .ok (.istore_n 1, 1) := dcq_410.2.2.1
theorem dX6_wantClause_5 : decode cX6_wantClause 5 = .ok (.aload_n 0, 1) := dcq_410.2.2.2.1
theorem dX6_wantClause_6 : decode cX6_wantClause 6 = .ok (.invokevirtual 157, 3) := dcq_410.2.2.2.2.1
theorem dX6_wantClause_9 : decode cX6_wantClause 9 = .ok (.ifCond .lt 14, 3) := dcq_410.2.2.2.2.2.1
theorem dX6_wantClause_12 : decode cX6_wantClause 12 = .ok (.aload_n 0, 1) := dcq_410.2.2.2.2.2.2.1
theorem dX6_wantClause_13 : decode cX6_wantClause 13 = .ok (.aload_n 0, 1) := dcq_410.2.2.2.2.2.2.2.1
theorem dX6_wantClause_14 : decode cX6_wantClause 14 = .ok (.invokevirtual 157, 3) := dcq_410.2.2.2.2.2.2.2.2.1
theorem dX6_wantClause_17 : decode cX6_wantClause 17 = .ok (.invokevirtual 160, 3) := dcq_410.2.2.2.2.2.2.2.2.2.1
theorem dX6_wantClause_20 : decode cX6_wantClause 20 = .ok (.goto 38, 3) := dcq_410.2.2.2.2.2.2.2.2.2.2.1
theorem dX6_wantClause_23 : decode cX6_wantClause 23 = .ok (.iload_n 1, 1) := dcq_410.2.2.2.2.2.2.2.2.2.2.2
set_option maxRecDepth 20000 in
theorem dcb_411 : fd_B cX6_wantClause 24 [155, 0, 29, 42, 182, 0, 130, 42, 180, 0, 13, 27, 42, 3, 27, 184, 0, 164, 182, 0, 136, 79] := fd_o cX6_wantClause 24 _ (by decide +kernel)
theorem dcq_411 : (decode cX6_wantClause 24 = .ok (.ifCond .lt 29, 3)) ∧ (decode cX6_wantClause 27 = .ok (.aload_n 0, 1)) ∧ (decode cX6_wantClause 28 = .ok (.invokevirtual 130, 3)) ∧ (decode cX6_wantClause 31 = .ok (.aload_n 0, 1)) ∧ (decode cX6_wantClause 32 = .ok (.getfield 13, 3)) ∧ (decode cX6_wantClause 35 = .ok (.iload_n 1, 1)) ∧ (decode cX6_wantClause 36 = .ok (.aload_n 0, 1)) ∧ (decode cX6_wantClause 37 = .ok (.iconst 0, 1)) ∧ (decode cX6_wantClause 38 = .ok (.iload_n 1, 1)) ∧ (decode cX6_wantClause 39 = .ok (.invokestatic 164, 3)) ∧ (decode cX6_wantClause 42 = .ok (.invokevirtual 136, 3)) ∧ (decode cX6_wantClause 45 = .ok (.iastore, 1)) := have h := dcb_411; ⟨fd_155 h (by decide +kernel), have h := fd_t3 h; ⟨fd_42 h, have h := fd_t1 h; ⟨fd_182 h rfl, have h := fd_t3 h; ⟨fd_42 h, have h := fd_t1 h; ⟨fd_180 h rfl, have h := fd_t3 h; ⟨fd_27 h, have h := fd_t1 h; ⟨fd_42 h, have h := fd_t1 h; ⟨fd_3 h, have h := fd_t1 h; ⟨fd_27 h, have h := fd_t1 h; ⟨fd_184 h rfl, have h := fd_t3 h; ⟨fd_182 h rfl, have h := fd_t3 h; fd_79 h⟩⟩⟩⟩⟩⟩⟩⟩⟩⟩⟩
theorem dX6_wantClause_24 : decode cX6_wantClause 24 = .ok (.ifCond .lt 29, 3) := dcq_411.1
theorem dX6_wantClause_27 : decode cX6_wantClause 27 = .ok (.aload_n 0, 1) := dcq_411.2.1
theorem dX6_wantClause_28 : decode cX6_wantClause 28 = .ok (.invokevirtual 130, 3) := dcq_411.2.2.1
theorem dX6_wantClause_31 : decode cX6_wantClause 31 = .ok (.aload_n 0, 1) := dcq_411.2.2.2.1
theorem dX6_wantClause_32 : decode cX6_wantClause 32 = .ok (.getfield 13, 3) := dcq_411.2.2.2.2.1
theorem dX6_wantClause_35 : decode cX6_wantClause 35 = .ok (.iload_n 1, 1) := dcq_411.2.2.2.2.2.1
theorem dX6_wantClause_36 : decode cX6_wantClause 36 = .ok (.aload_n 0, 1) := dcq_411.2.2.2.2.2.2.1
theorem dX6_wantClause_37 : decode cX6_wantClause 37 = .ok (.iconst 0, 1) := dcq_411.2.2.2.2.2.2.2.1
theorem dX6_wantClause_38 : decode cX6_wantClause 38 = .ok (.iload_n 1, 1) := dcq_411.2.2.2.2.2.2.2.2.1
theorem dX6_wantClause_39 : decode cX6_wantClause 39 = .ok (.invokestatic 164, 3) := dcq_411.2.2.2.2.2.2.2.2.2.1
theorem dX6_wantClause_42 : decode cX6_wantClause 42 = .ok (.invokevirtual 136, 3) := dcq_411.2.2.2.2.2.2.2.2.2.2.1
theorem dX6_wantClause_45 : decode cX6_wantClause 45 = .ok (.iastore, 1) := dcq_411.2.2.2.2.2.2.2.2.2.2.2
set_option maxRecDepth 20000 in
theorem dcb_412 : fd_B cX6_wantClause 46 [42, 182, 0, 150, 167, 0, 8, 42, 3, 181, 0, 126, 177] := fd_o cX6_wantClause 46 _ (by decide +kernel)
theorem dcq_412 : (decode cX6_wantClause 46 = .ok (.aload_n 0, 1)) ∧ (decode cX6_wantClause 47 = .ok (.invokevirtual 150, 3)) ∧ (decode cX6_wantClause 50 = .ok (.goto 8, 3)) ∧ (decode cX6_wantClause 53 = .ok (.aload_n 0, 1)) ∧ (decode cX6_wantClause 54 = .ok (.iconst 0, 1)) ∧ (decode cX6_wantClause 55 = .ok (.putfield 126, 3)) ∧ (decode cX6_wantClause 58 = .ok (.return_, 1)) := have h := dcb_412; ⟨fd_42 h, have h := fd_t1 h; ⟨fd_182 h rfl, have h := fd_t3 h; ⟨fd_167 h (by decide +kernel), have h := fd_t3 h; ⟨fd_42 h, have h := fd_t1 h; ⟨fd_3 h, have h := fd_t1 h; ⟨fd_181 h rfl, have h := fd_t3 h; fd_177 h⟩⟩⟩⟩⟩⟩
theorem dX6_wantClause_46 : decode cX6_wantClause 46 = .ok (.aload_n 0, 1) := dcq_412.1
theorem dX6_wantClause_47 : decode cX6_wantClause 47 = .ok (.invokevirtual 150, 3) := dcq_412.2.1
theorem dX6_wantClause_50 : decode cX6_wantClause 50 = .ok (.goto 8, 3) := dcq_412.2.2.1
theorem dX6_wantClause_53 : decode cX6_wantClause 53 = .ok (.aload_n 0, 1) := dcq_412.2.2.2.1
theorem dX6_wantClause_54 : decode cX6_wantClause 54 = .ok (.iconst 0, 1) := dcq_412.2.2.2.2.1
theorem dX6_wantClause_55 : decode cX6_wantClause 55 = .ok (.putfield 126, 3) := dcq_412.2.2.2.2.2.1
theorem dX6_wantClause_58 : decode cX6_wantClause 58 = .ok (.return_, 1) := dcq_412.2.2.2.2.2.2
set_option maxRecDepth 20000 in
theorem dcb_413 : fd_B cX6_post 0 [42, 3, 181, 0, 70, 42, 4, 181, 0, 126, 42, 180, 0, 13, 184, 0, 56, 42, 182, 0, 130, 42] := fd_o cX6_post 0 _ (by decide +kernel)
theorem dcq_413 : (decode cX6_post 0 = .ok (.aload_n 0, 1)) ∧ (decode cX6_post 1 = .ok (.iconst 0, 1)) ∧ (decode cX6_post 2 = .ok (.putfield 70, 3)) ∧ (decode cX6_post 5 = .ok (.aload_n 0, 1)) ∧ (decode cX6_post 6 = .ok (.iconst 1, 1)) ∧ (decode cX6_post 7 = .ok (.putfield 126, 3)) ∧ (decode cX6_post 10 = .ok (.aload_n 0, 1)) ∧ (decode cX6_post 11 = .ok (.getfield 13, 3)) ∧ (decode cX6_post 14 = .ok (.invokestatic 56, 3)) ∧ (decode cX6_post 17 = .ok (.aload_n 0, 1)) ∧ (decode cX6_post 18 = .ok (.invokevirtual 130, 3)) ∧ (decode cX6_post 21 = .ok (.aload_n 0, 1)) := have h := dcb_413; ⟨fd_42 h, have h := fd_t1 h; ⟨fd_3 h, have h := fd_t1 h; ⟨fd_181 h rfl, have h := fd_t3 h; ⟨fd_42 h, have h := fd_t1 h; ⟨fd_4 h, have h := fd_t1 h; ⟨fd_181 h rfl, have h := fd_t3 h; ⟨fd_42 h, have h := fd_t1 h; ⟨fd_180 h rfl, have h := fd_t3 h; ⟨fd_184 h rfl, have h := fd_t3 h; ⟨fd_42 h, have h := fd_t1 h; ⟨fd_182 h rfl, have h := fd_t3 h; fd_42 h⟩⟩⟩⟩⟩⟩⟩⟩⟩⟩⟩
theorem dX6_post_0 : decode cX6_post 0 = .ok (.aload_n 0, 1) := dcq_413.1
theorem dX6_post_1 : decode cX6_post 1 = .ok (.iconst 0, 1) := dcq_413.2.1
theorem dX6_post_2 : decode cX6_post 2 = .ok (.putfield 70, 3) := dcq_413.2.2.1
theorem dX6_post_5 : decode cX6_post 5 = .ok (.aload_n 0, 1) := dcq_413.2.2.2.1
theorem dX6_post_6 : decode cX6_post 6 = .ok (.iconst 1, 1) := dcq_413.2.2.2.2.1
theorem dX6_post_7 : decode cX6_post 7 = .ok (.putfield 126, 3) := dcq_413.2.2.2.2.2.1
theorem dX6_post_10 : decode cX6_post 10 = .ok (.aload_n 0, 1) := dcq_413.2.2.2.2.2.2.1
theorem dX6_post_11 : decode cX6_post 11 = .ok (.getfield 13, 3) := dcq_413.2.2.2.2.2.2.2.1
theorem dX6_post_14 : decode cX6_post 14 = .ok (.invokestatic 56, 3) := dcq_413.2.2.2.2.2.2.2.2.1
theorem dX6_post_17 : decode cX6_post 17 = .ok (.aload_n 0, 1) := dcq_413.2.2.2.2.2.2.2.2.2.1
theorem dX6_post_18 : decode cX6_post 18 = .ok (.invokevirtual 130, 3) := dcq_413.2.2.2.2.2.2.2.2.2.2.1
theorem dX6_post_21 : decode cX6_post 21 = .ok (.aload_n 0, 1) := dcq_413.2.2.2.2.2.2.2.2.2.2.2
set_option maxRecDepth 20000 in
theorem dcb_414 : fd_B cX6_post 22 [180, 0, 126, 153, 0, 17, 42, 180, 0, 86, 153, 0, 10, 42, 182, 0, 167, 167, 255, 238, 42, 3, 181, 0, 64, 42] := fd_o cX6_post 22 _ (by decide +kernel)
theorem dcq_414 : (decode cX6_post 22 = .ok (.getfield 126, 3)) ∧ (decode cX6_post 25 = .ok (.ifCond .eq 17, 3)) ∧ (decode cX6_post 28 = .ok (.aload_n 0, 1)) ∧ (decode cX6_post 29 = .ok (.getfield 86, 3)) ∧ (decode cX6_post 32 = .ok (.ifCond .eq 10, 3)) ∧ (decode cX6_post 35 = .ok (.aload_n 0, 1)) ∧ (decode cX6_post 36 = .ok (.invokevirtual 167, 3)) ∧ (decode cX6_post 39 = .ok (.goto (-18), 3)) ∧ (decode cX6_post 42 = .ok (.aload_n 0, 1)) ∧ (decode cX6_post 43 = .ok (.iconst 0, 1)) ∧ (decode cX6_post 44 = .ok (.putfield 64, 3)) ∧ (decode cX6_post 47 = .ok (.aload_n 0, 1)) := have h := dcb_414; ⟨fd_180 h rfl, have h := fd_t3 h; ⟨fd_153 h (by decide +kernel), have h := fd_t3 h; ⟨fd_42 h, have h := fd_t1 h; ⟨fd_180 h rfl, have h := fd_t3 h; ⟨fd_153 h (by decide +kernel), have h := fd_t3 h; ⟨fd_42 h, have h := fd_t1 h; ⟨fd_182 h rfl, have h := fd_t3 h; ⟨fd_167 h (by decide +kernel), have h := fd_t3 h; ⟨fd_42 h, have h := fd_t1 h; ⟨fd_3 h, have h := fd_t1 h; ⟨fd_181 h rfl, have h := fd_t3 h; fd_42 h⟩⟩⟩⟩⟩⟩⟩⟩⟩⟩⟩
theorem dX6_post_22 : decode cX6_post 22 = .ok (.getfield 126, 3) := dcq_414.1
theorem dX6_post_25 : decode cX6_post 25 = .ok (.ifCond .eq 17, 3) := dcq_414.2.1
theorem dX6_post_28 : decode cX6_post 28 = .ok (.aload_n 0, 1) := dcq_414.2.2.1
theorem dX6_post_29 : decode cX6_post 29 = .ok (.getfield 86, 3) := dcq_414.2.2.2.1
theorem dX6_post_32 : decode cX6_post 32 = .ok (.ifCond .eq 10, 3) := dcq_414.2.2.2.2.1
theorem dX6_post_35 : decode cX6_post 35 = .ok (.aload_n 0, 1) := dcq_414.2.2.2.2.2.1
theorem dX6_post_36 : decode cX6_post 36 = .ok (.invokevirtual 167, 3) := dcq_414.2.2.2.2.2.2.1
theorem dX6_post_39 : decode cX6_post 39 = .ok (.goto (-18), 3) := dcq_414.2.2.2.2.2.2.2.1
theorem dX6_post_42 : decode cX6_post 42 = .ok (.aload_n 0, 1) := dcq_414.2.2.2.2.2.2.2.2.1
theorem dX6_post_43 : decode cX6_post 43 = .ok (.iconst 0, 1) := dcq_414.2.2.2.2.2.2.2.2.2.1
theorem dX6_post_44 : decode cX6_post 44 = .ok (.putfield 64, 3) := dcq_414.2.2.2.2.2.2.2.2.2.2.1
theorem dX6_post_47 : decode cX6_post 47 = .ok (.aload_n 0, 1) := dcq_414.2.2.2.2.2.2.2.2.2.2.2
set_option maxRecDepth 20000 in
theorem dcb_415 : fd_B cX6_post 48 [180, 0, 126, 154, 0, 11, 16, 156, 42, 180, 0, 73, 100, 172, 42, 180, 0, 13, 16, 7, 42, 180, 0, 7] := fd_o cX6_post 48 _ (by decide +kernel)
theorem dcq_415 : (decode cX6_post 48 = .ok (.getfield 126, 3)) ∧ (decode cX6_post 51 = .ok (.ifCond .ne 11, 3)) ∧ (decode cX6_post 54 = .ok (.bipush (-100), 2)) ∧ (decode cX6_post 56 = .ok (.aload_n 0, 1)) ∧ (decode cX6_post 57 = .ok (.getfield 73, 3)) ∧ (decode cX6_post 60 = .ok (.isub, 1)) ∧ (decode cX6_post 61 = .ok (.ireturn, 1)) ∧ (decode cX6_post 62 = .ok (.aload_n 0, 1)) ∧ (decode cX6_post 63 = .ok (.getfield 13, 3)) ∧ (decode cX6_post 66 = .ok (.bipush 7, 2)) ∧ (decode cX6_post 68 = .ok (.aload_n 0, 1)) ∧ (decode cX6_post 69 = .ok (.getfield 7, 3)) := have h := dcb_415; ⟨fd_180 h rfl, have h := fd_t3 h; ⟨fd_154 h (by decide +kernel), have h := fd_t3 h; ⟨fd_16 h (by decide +kernel), have h := fd_t2 h; ⟨fd_42 h, have h := fd_t1 h; ⟨fd_180 h rfl, have h := fd_t3 h; ⟨fd_100 h, have h := fd_t1 h; ⟨fd_172 h, have h := fd_t1 h; ⟨fd_42 h, have h := fd_t1 h; ⟨fd_180 h rfl, have h := fd_t3 h; ⟨fd_16 h (by decide +kernel), have h := fd_t2 h; ⟨fd_42 h, have h := fd_t1 h; fd_180 h rfl⟩⟩⟩⟩⟩⟩⟩⟩⟩⟩⟩
theorem dX6_post_48 : decode cX6_post 48 = .ok (.getfield 126, 3) := dcq_415.1
theorem dX6_post_51 : decode cX6_post 51 = .ok (.ifCond .ne 11, 3) := dcq_415.2.1
theorem dX6_post_54 : decode cX6_post 54 = .ok (.bipush (-100), 2) := dcq_415.2.2.1
theorem dX6_post_56 : decode cX6_post 56 = .ok (.aload_n 0, 1) := dcq_415.2.2.2.1
theorem dX6_post_57 : decode cX6_post 57 = .ok (.getfield 73, 3) := dcq_415.2.2.2.2.1
theorem dX6_post_60 : decode cX6_post 60 = .ok (.isub, 1) := dcq_415.2.2.2.2.2.1
theorem dX6_post_61 : decode cX6_post 61 = .ok (.ireturn, 1) := dcq_415.2.2.2.2.2.2.1
theorem dX6_post_62 : decode cX6_post 62 = .ok (.aload_n 0, 1) := dcq_415.2.2.2.2.2.2.2.1
theorem dX6_post_63 : decode cX6_post 63 = .ok (.getfield 13, 3) := dcq_415.2.2.2.2.2.2.2.2.1
theorem dX6_post_66 : decode cX6_post 66 = .ok (.bipush 7, 2) := dcq_415.2.2.2.2.2.2.2.2.2.1
theorem dX6_post_68 : decode cX6_post 68 = .ok (.aload_n 0, 1) := dcq_415.2.2.2.2.2.2.2.2.2.2.1
theorem dX6_post_69 : decode cX6_post 69 = .ok (.getfield 7, 3) := dcq_415.2.2.2.2.2.2.2.2.2.2.2
set_option maxRecDepth 20000 in
theorem dcb_416 : fd_B cX6_post 72 [16, 7, 46, 79, 42, 180, 0, 13, 42, 180, 0, 7, 184, 0, 170, 42, 3, 181, 0, 174, 42] := fd_o cX6_post 72 _ (by decide +kernel)
theorem dcq_416 : (decode cX6_post 72 = .ok (.bipush 7, 2)) ∧ (decode cX6_post 74 = .ok (.iaload, 1)) ∧ (decode cX6_post 75 = .ok (.iastore, 1)) ∧ (decode cX6_post 76 = .ok (.aload_n 0, 1)) ∧ (decode cX6_post 77 = .ok (.getfield 13, 3)) ∧ (decode cX6_post 80 = .ok (.aload_n 0, 1)) ∧ (decode cX6_post 81 = .ok (.getfield 7, 3)) ∧ (decode cX6_post 84 = .ok (.invokestatic 170, 3)) ∧ (decode cX6_post 87 = .ok (.aload_n 0, 1)) ∧ (decode cX6_post 88 = .ok (.iconst 0, 1)) ∧ (decode cX6_post 89 = .ok (.putfield 174, 3)) ∧ (decode cX6_post 92 = .ok (.aload_n 0, 1)) := have h := dcb_416; ⟨fd_16 h (by decide +kernel), have h := fd_t2 h; ⟨fd_46 h, have h := fd_t1 h; ⟨fd_79 h, have h := fd_t1 h; ⟨fd_42 h, have h := fd_t1 h; ⟨fd_180 h rfl, have h := fd_t3 h; ⟨fd_42 h, have h := fd_t1 h; ⟨fd_180 h rfl, have h := fd_t3 h; ⟨fd_184 h rfl, have h := fd_t3 h; ⟨fd_42 h, have h := fd_t1 h; ⟨fd_3 h, have h := fd_t1 h; ⟨fd_181 h rfl, have h := fd_t3 h; fd_42 h⟩⟩⟩⟩⟩⟩⟩⟩⟩⟩⟩
theorem dX6_post_72 : decode cX6_post 72 = .ok (.bipush 7, 2) := dcq_416.1
theorem dX6_post_74 : decode cX6_post 74 = .ok (.iaload, 1) := dcq_416.2.1
theorem dX6_post_75 : decode cX6_post 75 = .ok (.iastore, 1) := dcq_416.2.2.1
theorem dX6_post_76 : decode cX6_post 76 = .ok (.aload_n 0, 1) := dcq_416.2.2.2.1
theorem dX6_post_77 : decode cX6_post 77 = .ok (.getfield 13, 3) := dcq_416.2.2.2.2.1
theorem dX6_post_80 : decode cX6_post 80 = .ok (.aload_n 0, 1) := dcq_416.2.2.2.2.2.1
theorem dX6_post_81 : decode cX6_post 81 = .ok (.getfield 7, 3) := dcq_416.2.2.2.2.2.2.1
theorem dX6_post_84 : decode cX6_post 84 = .ok (.invokestatic 170, 3) := dcq_416.2.2.2.2.2.2.2.1
theorem dX6_post_87 : decode cX6_post 87 = .ok (.aload_n 0, 1) := dcq_416.2.2.2.2.2.2.2.2.1
theorem dX6_post_88 : decode cX6_post 88 = .ok (.iconst 0, 1) := dcq_416.2.2.2.2.2.2.2.2.2.1
theorem dX6_post_89 : decode cX6_post 89 = .ok (.putfield 174, 3) := dcq_416.2.2.2.2.2.2.2.2.2.2.1
theorem dX6_post_92 : decode cX6_post 92 = .ok (.aload_n 0, 1) := dcq_416.2.2.2.2.2.2.2.2.2.2.2
set_option maxRecDepth 20000 in
theorem dcb_417 : fd_B cX6_post 93 [180, 0, 7, 16, 6, 46, 172] := fd_o cX6_post 93 _ (by decide +kernel)
theorem dcq_417 : (decode cX6_post 93 = .ok (.getfield 7, 3)) ∧ (decode cX6_post 96 = .ok (.bipush 6, 2)) ∧ (decode cX6_post 98 = .ok (.iaload, 1)) ∧ (decode cX6_post 99 = .ok (.ireturn, 1)) := have h := dcb_417; ⟨fd_180 h rfl, have h := fd_t3 h; ⟨fd_16 h (by decide +kernel), have h := fd_t2 h; ⟨fd_46 h, have h := fd_t1 h; fd_172 h⟩⟩⟩
theorem dX6_post_93 : decode cX6_post 93 = .ok (.getfield 7, 3) := dcq_417.1
theorem dX6_post_96 : decode cX6_post 96 = .ok (.bipush 6, 2) := dcq_417.2.1
theorem dX6_post_98 : decode cX6_post 98 = .ok (.iaload, 1) := dcq_417.2.2.1
theorem dX6_post_99 : decode cX6_post 99 = .ok (.ireturn, 1) := dcq_417.2.2.2
set_option maxRecDepth 20000 in
theorem dcb_418 : fd_B cX6_mostOf 0 [26, 6, 160, 0, 8, 16, 99, 167, 0, 5, 16, 9, 172] := fd_o cX6_mostOf 0 _ (by decide +kernel)
theorem dcq_418 : (decode cX6_mostOf 0 = .ok (.iload_n 0, 1)) ∧ (decode cX6_mostOf 1 = .ok (.iconst 3, 1)) ∧ (decode cX6_mostOf 2 = .ok (.if_icmp .ne 8, 3)) ∧ (decode cX6_mostOf 5 = .ok (.bipush 99, 2)) ∧ (decode cX6_mostOf 7 = .ok (.goto 5, 3)) ∧ (decode cX6_mostOf 10 = .ok (.bipush 9, 2)) ∧ (decode cX6_mostOf 12 = .ok (.ireturn, 1)) := have h := dcb_418; ⟨fd_26 h, have h := fd_t1 h; ⟨fd_6 h, have h := fd_t1 h; ⟨fd_160 h (by decide +kernel), have h := fd_t3 h; ⟨fd_16 h (by decide +kernel), have h := fd_t2 h; ⟨fd_167 h (by decide +kernel), have h := fd_t3 h; ⟨fd_16 h (by decide +kernel), have h := fd_t2 h; fd_172 h⟩⟩⟩⟩⟩⟩
theorem dX6_mostOf_0 : decode cX6_mostOf 0 = .ok (.iload_n 0, 1) := dcq_418.1
theorem dX6_mostOf_1 : decode cX6_mostOf 1 = .ok (.iconst 3, 1) := dcq_418.2.1
theorem dX6_mostOf_2 : decode cX6_mostOf 2 = .ok (.if_icmp .ne 8, 3) := dcq_418.2.2.1
theorem dX6_mostOf_5 : decode cX6_mostOf 5 = .ok (.bipush 99, 2) := dcq_418.2.2.2.1
theorem dX6_mostOf_7 : decode cX6_mostOf 7 = .ok (.goto 5, 3) := dcq_418.2.2.2.2.1
theorem dX6_mostOf_10 : decode cX6_mostOf 10 = .ok (.bipush 9, 2) := dcq_418.2.2.2.2.2.1
theorem dX6_mostOf_12 : decode cX6_mostOf 12 = .ok (.ireturn, 1) := dcq_418.2.2.2.2.2.2
set_option maxRecDepth 20000 in
theorem dcb_419 : fd_B cX6_set 0 [27, 3, 6, 184, 0, 60, 153, 0, 24, 28, 3, 27, 184, 0, 164, 184, 0, 60, 153, 0, 12, 42] := fd_o cX6_set 0 _ (by decide +kernel)
theorem dcq_419 : (decode cX6_set 0 = .ok (.iload_n 1, 1)) ∧ (decode cX6_set 1 = .ok (.iconst 0, 1)) ∧ (decode cX6_set 2 = .ok (.iconst 3, 1)) ∧ (decode cX6_set 3 = .ok (.invokestatic 60, 3)) ∧ (decode cX6_set 6 = .ok (.ifCond .eq 24, 3)) ∧ (decode cX6_set 9 = .ok (.iload_n 2, 1)) ∧ (decode cX6_set 10 = .ok (.iconst 0, 1)) ∧ (decode cX6_set 11 = .ok (.iload_n 1, 1)) ∧ (decode cX6_set 12 = .ok (.invokestatic 164, 3)) ∧ (decode cX6_set 15 = .ok (.invokestatic 60, 3)) ∧ (decode cX6_set 18 = .ok (.ifCond .eq 12, 3)) ∧ (decode cX6_set 21 = .ok (.aload_n 0, 1)) := have h := dcb_419; ⟨fd_27 h, have h := fd_t1 h; ⟨fd_3 h, have h := fd_t1 h; ⟨fd_6 h, have h := fd_t1 h; ⟨fd_184 h rfl, have h := fd_t3 h; ⟨fd_153 h (by decide +kernel), have h := fd_t3 h; ⟨fd_28 h, have h := fd_t1 h; ⟨fd_3 h, have h := fd_t1 h; ⟨fd_27 h, have h := fd_t1 h; ⟨fd_184 h rfl, have h := fd_t3 h; ⟨fd_184 h rfl, have h := fd_t3 h; ⟨fd_153 h (by decide +kernel), have h := fd_t3 h; fd_42 h⟩⟩⟩⟩⟩⟩⟩⟩⟩⟩⟩
theorem dX6_set_0 : decode cX6_set 0 = .ok (.iload_n 1, 1) := dcq_419.1
theorem dX6_set_1 : decode cX6_set 1 = .ok (.iconst 0, 1) := dcq_419.2.1
theorem dX6_set_2 : decode cX6_set 2 = .ok (.iconst 3, 1) := dcq_419.2.2.1
theorem dX6_set_3 : decode cX6_set 3 = .ok (.invokestatic 60, 3) := dcq_419.2.2.2.1
theorem dX6_set_6 : decode cX6_set 6 = .ok (.ifCond .eq 24, 3) := dcq_419.2.2.2.2.1
theorem dX6_set_9 : decode cX6_set 9 = .ok (.iload_n 2, 1) := dcq_419.2.2.2.2.2.1
theorem dX6_set_10 : decode cX6_set 10 = .ok (.iconst 0, 1) := dcq_419.2.2.2.2.2.2.1
theorem dX6_set_11 : decode cX6_set 11 = .ok (.iload_n 1, 1) := dcq_419.2.2.2.2.2.2.2.1
theorem dX6_set_12 : decode cX6_set 12 = .ok (.invokestatic 164, 3) := dcq_419.2.2.2.2.2.2.2.2.1
theorem dX6_set_15 : decode cX6_set 15 = .ok (.invokestatic 60, 3) := dcq_419.2.2.2.2.2.2.2.2.2.1
theorem dX6_set_18 : decode cX6_set 18 = .ok (.ifCond .eq 12, 3) := dcq_419.2.2.2.2.2.2.2.2.2.2.1
theorem dX6_set_21 : decode cX6_set 21 = .ok (.aload_n 0, 1) := dcq_419.2.2.2.2.2.2.2.2.2.2.2
set_option maxRecDepth 20000 in
theorem dcb_420 : fd_B cX6_set 22 [27, 28, 182, 0, 177, 167, 0, 4, 2, 172] := fd_o cX6_set 22 _ (by decide +kernel)
theorem dcq_420 : (decode cX6_set 22 = .ok (.iload_n 1, 1)) ∧ (decode cX6_set 23 = .ok (.iload_n 2, 1)) ∧ (decode cX6_set 24 = .ok (.invokevirtual 177, 3)) ∧ (decode cX6_set 27 = .ok (.goto 4, 3)) ∧ (decode cX6_set 30 = .ok (.iconst (-1), 1)) ∧ (decode cX6_set 31 = .ok (.ireturn, 1)) := have h := dcb_420; ⟨fd_27 h, have h := fd_t1 h; ⟨fd_28 h, have h := fd_t1 h; ⟨fd_182 h rfl, have h := fd_t3 h; ⟨fd_167 h (by decide +kernel), have h := fd_t3 h; ⟨fd_2 h, have h := fd_t1 h; fd_172 h⟩⟩⟩⟩⟩
theorem dX6_set_22 : decode cX6_set 22 = .ok (.iload_n 1, 1) := dcq_420.1
theorem dX6_set_23 : decode cX6_set 23 = .ok (.iload_n 2, 1) := dcq_420.2.1
theorem dX6_set_24 : decode cX6_set 24 = .ok (.invokevirtual 177, 3) := dcq_420.2.2.1
theorem dX6_set_27 : decode cX6_set 27 = .ok (.goto 4, 3) := dcq_420.2.2.2.1
theorem dX6_set_30 : decode cX6_set 30 = .ok (.iconst (-1), 1) := dcq_420.2.2.2.2.1
theorem dX6_set_31 : decode cX6_set 31 = .ok (.ireturn, 1) := dcq_420.2.2.2.2.2
set_option maxRecDepth 20000 in
theorem dcb_421 : fd_B cX6_lawOf 0 [27, 3, 6, 184, 0, 60, 153, 0, 12, 42, 180, 0, 7, 27, 46, 167, 0, 4, 2, 172] := fd_o cX6_lawOf 0 _ (by decide +kernel)
theorem dcq_421 : (decode cX6_lawOf 0 = .ok (.iload_n 1, 1)) ∧ (decode cX6_lawOf 1 = .ok (.iconst 0, 1)) ∧ (decode cX6_lawOf 2 = .ok (.iconst 3, 1)) ∧ (decode cX6_lawOf 3 = .ok (.invokestatic 60, 3)) ∧ (decode cX6_lawOf 6 = .ok (.ifCond .eq 12, 3)) ∧ (decode cX6_lawOf 9 = .ok (.aload_n 0, 1)) ∧ (decode cX6_lawOf 10 = .ok (.getfield 7, 3)) ∧ (decode cX6_lawOf 13 = .ok (.iload_n 1, 1)) ∧ (decode cX6_lawOf 14 = .ok (.iaload, 1)) ∧ (decode cX6_lawOf 15 = .ok (.goto 4, 3)) ∧ (decode cX6_lawOf 18 = .ok (.iconst (-1), 1)) ∧ (decode cX6_lawOf 19 = .ok (.ireturn, 1)) := have h := dcb_421; ⟨fd_27 h, have h := fd_t1 h; ⟨fd_3 h, have h := fd_t1 h; ⟨fd_6 h, have h := fd_t1 h; ⟨fd_184 h rfl, have h := fd_t3 h; ⟨fd_153 h (by decide +kernel), have h := fd_t3 h; ⟨fd_42 h, have h := fd_t1 h; ⟨fd_180 h rfl, have h := fd_t3 h; ⟨fd_27 h, have h := fd_t1 h; ⟨fd_46 h, have h := fd_t1 h; ⟨fd_167 h (by decide +kernel), have h := fd_t3 h; ⟨fd_2 h, have h := fd_t1 h; fd_172 h⟩⟩⟩⟩⟩⟩⟩⟩⟩⟩⟩
theorem dX6_lawOf_0 : decode cX6_lawOf 0 = .ok (.iload_n 1, 1) := dcq_421.1
theorem dX6_lawOf_1 : decode cX6_lawOf 1 = .ok (.iconst 0, 1) := dcq_421.2.1
theorem dX6_lawOf_2 : decode cX6_lawOf 2 = .ok (.iconst 3, 1) := dcq_421.2.2.1
theorem dX6_lawOf_3 : decode cX6_lawOf 3 = .ok (.invokestatic 60, 3) := dcq_421.2.2.2.1
theorem dX6_lawOf_6 : decode cX6_lawOf 6 = .ok (.ifCond .eq 12, 3) := dcq_421.2.2.2.2.1
theorem dX6_lawOf_9 : decode cX6_lawOf 9 = .ok (.aload_n 0, 1) := dcq_421.2.2.2.2.2.1
theorem dX6_lawOf_10 : decode cX6_lawOf 10 = .ok (.getfield 7, 3) := dcq_421.2.2.2.2.2.2.1
theorem dX6_lawOf_13 : decode cX6_lawOf 13 = .ok (.iload_n 1, 1) := dcq_421.2.2.2.2.2.2.2.1
theorem dX6_lawOf_14 : decode cX6_lawOf 14 = .ok (.iaload, 1) := dcq_421.2.2.2.2.2.2.2.2.1
theorem dX6_lawOf_15 : decode cX6_lawOf 15 = .ok (.goto 4, 3) := dcq_421.2.2.2.2.2.2.2.2.2.1
theorem dX6_lawOf_18 : decode cX6_lawOf 18 = .ok (.iconst (-1), 1) := dcq_421.2.2.2.2.2.2.2.2.2.2.1
theorem dX6_lawOf_19 : decode cX6_lawOf 19 = .ok (.ireturn, 1) := dcq_421.2.2.2.2.2.2.2.2.2.2.2
set_option maxRecDepth 20000 in
theorem dcb_422 : fd_B cX6_isKind 0 [26, 3, 8, 184, 0, 60, 153, 0, 17, 27, 3, 16, 9, 184, 0, 60, 153, 0, 7, 4, 167, 0, 4] := fd_o cX6_isKind 0 _ (by decide +kernel)
theorem dcq_422 : (decode cX6_isKind 0 = .ok (.iload_n 0, 1)) ∧ (decode cX6_isKind 1 = .ok (.iconst 0, 1)) ∧ (decode cX6_isKind 2 = .ok (.iconst 5, 1)) ∧ (decode cX6_isKind 3 = .ok (.invokestatic 60, 3)) ∧ (decode cX6_isKind 6 = .ok (.ifCond .eq 17, 3)) ∧ (decode cX6_isKind 9 = .ok (.iload_n 1, 1)) ∧ (decode cX6_isKind 10 = .ok (.iconst 0, 1)) ∧ (decode cX6_isKind 11 = .ok (.bipush 9, 2)) ∧ (decode cX6_isKind 13 = .ok (.invokestatic 60, 3)) ∧ (decode cX6_isKind 16 = .ok (.ifCond .eq 7, 3)) ∧ (decode cX6_isKind 19 = .ok (.iconst 1, 1)) ∧ (decode cX6_isKind 20 = .ok (.goto 4, 3)) := have h := dcb_422; ⟨fd_26 h, have h := fd_t1 h; ⟨fd_3 h, have h := fd_t1 h; ⟨fd_8 h, have h := fd_t1 h; ⟨fd_184 h rfl, have h := fd_t3 h; ⟨fd_153 h (by decide +kernel), have h := fd_t3 h; ⟨fd_27 h, have h := fd_t1 h; ⟨fd_3 h, have h := fd_t1 h; ⟨fd_16 h (by decide +kernel), have h := fd_t2 h; ⟨fd_184 h rfl, have h := fd_t3 h; ⟨fd_153 h (by decide +kernel), have h := fd_t3 h; ⟨fd_4 h, have h := fd_t1 h; fd_167 h (by decide +kernel)⟩⟩⟩⟩⟩⟩⟩⟩⟩⟩⟩
theorem dX6_isKind_0 : decode cX6_isKind 0 = .ok (.iload_n 0, 1) := dcq_422.1
theorem dX6_isKind_1 : decode cX6_isKind 1 = .ok (.iconst 0, 1) := dcq_422.2.1
theorem dX6_isKind_2 : decode cX6_isKind 2 = .ok (.iconst 5, 1) := dcq_422.2.2.1
theorem dX6_isKind_3 : decode cX6_isKind 3 = .ok (.invokestatic 60, 3) := dcq_422.2.2.2.1
theorem dX6_isKind_6 : decode cX6_isKind 6 = .ok (.ifCond .eq 17, 3) := dcq_422.2.2.2.2.1
theorem dX6_isKind_9 : decode cX6_isKind 9 = .ok (.iload_n 1, 1) := dcq_422.2.2.2.2.2.1
theorem dX6_isKind_10 : decode cX6_isKind 10 = .ok (.iconst 0, 1) := dcq_422.2.2.2.2.2.2.1
theorem dX6_isKind_11 : decode cX6_isKind 11 = .ok (.bipush 9, 2) := dcq_422.2.2.2.2.2.2.2.1
theorem dX6_isKind_13 : decode cX6_isKind 13 = .ok (.invokestatic 60, 3) := dcq_422.2.2.2.2.2.2.2.2.1
theorem dX6_isKind_16 : decode cX6_isKind 16 = .ok (.ifCond .eq 7, 3) := dcq_422.2.2.2.2.2.2.2.2.2.1
theorem dX6_isKind_19 : decode cX6_isKind 19 = .ok (.iconst 1, 1) := dcq_422.2.2.2.2.2.2.2.2.2.2.1
theorem dX6_isKind_20 : decode cX6_isKind 20 = .ok (.goto 4, 3) := dcq_422.2.2.2.2.2.2.2.2.2.2.2
set_option maxRecDepth 20000 in
theorem dcb_423 : fd_B cX6_isKind 23 [3, 172] := fd_o cX6_isKind 23 _ (by decide +kernel)
theorem dcq_423 : (decode cX6_isKind 23 = .ok (.iconst 0, 1)) ∧ (decode cX6_isKind 24 = .ok (.ireturn, 1)) := have h := dcb_423; ⟨fd_3 h, have h := fd_t1 h; fd_172 h⟩
theorem dX6_isKind_23 : decode cX6_isKind 23 = .ok (.iconst 0, 1) := dcq_423.1
theorem dX6_isKind_24 : decode cX6_isKind 24 = .ok (.ireturn, 1) := dcq_423.2
set_option maxRecDepth 20000 in
theorem dcb_424 : fd_B cX6_person 0 [27, 29, 184, 0, 180, 153, 0, 24, 28, 3, 16, 99, 184, 0, 60, 153, 0, 14, 21, 4, 3, 16, 99] := fd_o cX6_person 0 _ (by decide +kernel)
theorem dcq_424 : (decode cX6_person 0 = .ok (.iload_n 1, 1)) ∧ (decode cX6_person 1 = .ok (.iload_n 3, 1)) ∧ (decode cX6_person 2 = .ok (.invokestatic 180, 3)) ∧ (decode cX6_person 5 = .ok (.ifCond .eq 24, 3)) ∧ (decode cX6_person 8 = .ok (.iload_n 2, 1)) ∧ (decode cX6_person 9 = .ok (.iconst 0, 1)) ∧ (decode cX6_person 10 = .ok (.bipush 99, 2)) ∧ (decode cX6_person 12 = .ok (.invokestatic 60, 3)) ∧ (decode cX6_person 15 = .ok (.ifCond .eq 14, 3)) ∧ (decode cX6_person 18 = .ok (.iload 4, 2)) ∧ (decode cX6_person 20 = .ok (.iconst 0, 1)) ∧ (decode cX6_person 21 = .ok (.bipush 99, 2)) := have h := dcb_424; ⟨fd_27 h, have h := fd_t1 h; ⟨fd_29 h, have h := fd_t1 h; ⟨fd_184 h rfl, have h := fd_t3 h; ⟨fd_153 h (by decide +kernel), have h := fd_t3 h; ⟨fd_28 h, have h := fd_t1 h; ⟨fd_3 h, have h := fd_t1 h; ⟨fd_16 h (by decide +kernel), have h := fd_t2 h; ⟨fd_184 h rfl, have h := fd_t3 h; ⟨fd_153 h (by decide +kernel), have h := fd_t3 h; ⟨fd_21 h rfl, have h := fd_t2 h; ⟨fd_3 h, have h := fd_t1 h; fd_16 h (by decide +kernel)⟩⟩⟩⟩⟩⟩⟩⟩⟩⟩⟩
theorem dX6_person_0 : decode cX6_person 0 = .ok (.iload_n 1, 1) := dcq_424.1
theorem dX6_person_1 : decode cX6_person 1 = .ok (.iload_n 3, 1) := dcq_424.2.1
theorem dX6_person_2 : decode cX6_person 2 = .ok (.invokestatic 180, 3) := dcq_424.2.2.1
theorem dX6_person_5 : decode cX6_person 5 = .ok (.ifCond .eq 24, 3) := dcq_424.2.2.2.1
theorem dX6_person_8 : decode cX6_person 8 = .ok (.iload_n 2, 1) := dcq_424.2.2.2.2.1
theorem dX6_person_9 : decode cX6_person 9 = .ok (.iconst 0, 1) := dcq_424.2.2.2.2.2.1
theorem dX6_person_10 : decode cX6_person 10 = .ok (.bipush 99, 2) := dcq_424.2.2.2.2.2.2.1
theorem dX6_person_12 : decode cX6_person 12 = .ok (.invokestatic 60, 3) := dcq_424.2.2.2.2.2.2.2.1
theorem dX6_person_15 : decode cX6_person 15 = .ok (.ifCond .eq 14, 3) := dcq_424.2.2.2.2.2.2.2.2.1
theorem dX6_person_18 : decode cX6_person 18 = .ok (.iload 4, 2) := dcq_424.2.2.2.2.2.2.2.2.2.1
theorem dX6_person_20 : decode cX6_person 20 = .ok (.iconst 0, 1) := dcq_424.2.2.2.2.2.2.2.2.2.2.1
theorem dX6_person_21 : decode cX6_person 21 = .ok (.bipush 99, 2) := dcq_424.2.2.2.2.2.2.2.2.2.2.2
set_option maxRecDepth 20000 in
theorem dcb_425 : fd_B cX6_person 23 [184, 0, 60, 154, 0, 5, 2, 172, 42, 180, 0, 7, 16, 6, 46, 16, 8, 160, 0, 6, 16, 254, 172] := fd_o cX6_person 23 _ (by decide +kernel)
theorem dcq_425 : (decode cX6_person 23 = .ok (.invokestatic 60, 3)) ∧ (decode cX6_person 26 = .ok (.ifCond .ne 5, 3)) ∧ (decode cX6_person 29 = .ok (.iconst (-1), 1)) ∧ (decode cX6_person 30 = .ok (.ireturn, 1)) ∧ (decode cX6_person 31 = .ok (.aload_n 0, 1)) ∧ (decode cX6_person 32 = .ok (.getfield 7, 3)) ∧ (decode cX6_person 35 = .ok (.bipush 6, 2)) ∧ (decode cX6_person 37 = .ok (.iaload, 1)) ∧ (decode cX6_person 38 = .ok (.bipush 8, 2)) ∧ (decode cX6_person 40 = .ok (.if_icmp .ne 6, 3)) ∧ (decode cX6_person 43 = .ok (.bipush (-2), 2)) ∧ (decode cX6_person 45 = .ok (.ireturn, 1)) := have h := dcb_425; ⟨fd_184 h rfl, have h := fd_t3 h; ⟨fd_154 h (by decide +kernel), have h := fd_t3 h; ⟨fd_2 h, have h := fd_t1 h; ⟨fd_172 h, have h := fd_t1 h; ⟨fd_42 h, have h := fd_t1 h; ⟨fd_180 h rfl, have h := fd_t3 h; ⟨fd_16 h (by decide +kernel), have h := fd_t2 h; ⟨fd_46 h, have h := fd_t1 h; ⟨fd_16 h (by decide +kernel), have h := fd_t2 h; ⟨fd_160 h (by decide +kernel), have h := fd_t3 h; ⟨fd_16 h (by decide +kernel), have h := fd_t2 h; fd_172 h⟩⟩⟩⟩⟩⟩⟩⟩⟩⟩⟩
theorem dX6_person_23 : decode cX6_person 23 = .ok (.invokestatic 60, 3) := dcq_425.1
theorem dX6_person_26 : decode cX6_person 26 = .ok (.ifCond .ne 5, 3) := dcq_425.2.1
theorem dX6_person_29 : decode cX6_person 29 = .ok (.iconst (-1), 1) := dcq_425.2.2.1
theorem dX6_person_30 : decode cX6_person 30 = .ok (.ireturn, 1) := dcq_425.2.2.2.1
theorem dX6_person_31 : decode cX6_person 31 = .ok (.aload_n 0, 1) := dcq_425.2.2.2.2.1
theorem dX6_person_32 : decode cX6_person 32 = .ok (.getfield 7, 3) := dcq_425.2.2.2.2.2.1
theorem dX6_person_35 : decode cX6_person 35 = .ok (.bipush 6, 2) := dcq_425.2.2.2.2.2.2.1
theorem dX6_person_37 : decode cX6_person 37 = .ok (.iaload, 1) := dcq_425.2.2.2.2.2.2.2.1
theorem dX6_person_38 : decode cX6_person 38 = .ok (.bipush 8, 2) := dcq_425.2.2.2.2.2.2.2.2.1
theorem dX6_person_40 : decode cX6_person 40 = .ok (.if_icmp .ne 6, 3) := dcq_425.2.2.2.2.2.2.2.2.2.1
theorem dX6_person_43 : decode cX6_person 43 = .ok (.bipush (-2), 2) := dcq_425.2.2.2.2.2.2.2.2.2.2.1
theorem dX6_person_45 : decode cX6_person 45 = .ok (.ireturn, 1) := dcq_425.2.2.2.2.2.2.2.2.2.2.2
set_option maxRecDepth 20000 in
theorem dcb_426 : fd_B cX6_person 46 [42, 180, 0, 7, 16, 6, 46, 54, 5, 42, 21, 5, 3, 27, 182, 0, 184, 42, 21, 5] := fd_o cX6_person 46 _ (by decide +kernel)
theorem dcq_426 : (decode cX6_person 46 = .ok (.aload_n 0, 1)) ∧ (decode cX6_person 47 = .ok (.getfield 7, 3)) ∧ (decode cX6_person 50 = .ok (.bipush 6, 2)) ∧ (decode cX6_person 52 = .ok (.iaload, 1)) ∧ (decode cX6_person 53 = .ok (.istore 5, 2)) ∧ (decode cX6_person 55 = .ok (.aload_n 0, 1)) ∧ (decode cX6_person 56 = .ok (.iload 5, 2)) ∧ (decode cX6_person 58 = .ok (.iconst 0, 1)) ∧ (decode cX6_person 59 = .ok (.iload_n 1, 1)) ∧ (decode cX6_person 60 = .ok (.invokevirtual 184, 3)) ∧ (decode cX6_person 63 = .ok (.aload_n 0, 1)) ∧ (decode cX6_person 64 = .ok (.iload 5, 2)) := have h := dcb_426; ⟨fd_42 h, have h := fd_t1 h; ⟨fd_180 h rfl, have h := fd_t3 h; ⟨fd_16 h (by decide +kernel), have h := fd_t2 h; ⟨fd_46 h, have h := fd_t1 h; ⟨fd_54 h rfl, have h := fd_t2 h; ⟨fd_42 h, have h := fd_t1 h; ⟨fd_21 h rfl, have h := fd_t2 h; ⟨fd_3 h, have h := fd_t1 h; ⟨fd_27 h, have h := fd_t1 h; ⟨fd_182 h rfl, have h := fd_t3 h; ⟨fd_42 h, have h := fd_t1 h; fd_21 h rfl⟩⟩⟩⟩⟩⟩⟩⟩⟩⟩⟩
theorem dX6_person_46 : decode cX6_person 46 = .ok (.aload_n 0, 1) := dcq_426.1
theorem dX6_person_47 : decode cX6_person 47 = .ok (.getfield 7, 3) := dcq_426.2.1
theorem dX6_person_50 : decode cX6_person 50 = .ok (.bipush 6, 2) := dcq_426.2.2.1
theorem dX6_person_52 : decode cX6_person 52 = .ok (.iaload, 1) := dcq_426.2.2.2.1
theorem dX6_person_53 : decode cX6_person 53 = .ok (.istore 5, 2) := dcq_426.2.2.2.2.1
theorem dX6_person_55 : decode cX6_person 55 = .ok (.aload_n 0, 1) := dcq_426.2.2.2.2.2.1
theorem dX6_person_56 : decode cX6_person 56 = .ok (.iload 5, 2) := dcq_426.2.2.2.2.2.2.1
theorem dX6_person_58 : decode cX6_person 58 = .ok (.iconst 0, 1) := dcq_426.2.2.2.2.2.2.2.1
theorem dX6_person_59 : decode cX6_person 59 = .ok (.iload_n 1, 1) := dcq_426.2.2.2.2.2.2.2.2.1
theorem dX6_person_60 : decode cX6_person 60 = .ok (.invokevirtual 184, 3) := dcq_426.2.2.2.2.2.2.2.2.2.1
theorem dX6_person_63 : decode cX6_person 63 = .ok (.aload_n 0, 1) := dcq_426.2.2.2.2.2.2.2.2.2.2.1
theorem dX6_person_64 : decode cX6_person 64 = .ok (.iload 5, 2) := dcq_426.2.2.2.2.2.2.2.2.2.2.2
set_option maxRecDepth 20000 in
theorem dcb_427 : fd_B cX6_person 66 [4, 28, 182, 0, 184, 42, 21, 5, 5, 29, 182, 0, 184, 42, 21, 5, 6, 21, 4] := fd_o cX6_person 66 _ (by decide +kernel)
theorem dcq_427 : (decode cX6_person 66 = .ok (.iconst 1, 1)) ∧ (decode cX6_person 67 = .ok (.iload_n 2, 1)) ∧ (decode cX6_person 68 = .ok (.invokevirtual 184, 3)) ∧ (decode cX6_person 71 = .ok (.aload_n 0, 1)) ∧ (decode cX6_person 72 = .ok (.iload 5, 2)) ∧ (decode cX6_person 74 = .ok (.iconst 2, 1)) ∧ (decode cX6_person 75 = .ok (.iload_n 3, 1)) ∧ (decode cX6_person 76 = .ok (.invokevirtual 184, 3)) ∧ (decode cX6_person 79 = .ok (.aload_n 0, 1)) ∧ (decode cX6_person 80 = .ok (.iload 5, 2)) ∧ (decode cX6_person 82 = .ok (.iconst 3, 1)) ∧ (decode cX6_person 83 = .ok (.iload 4, 2)) := have h := dcb_427; ⟨fd_4 h, have h := fd_t1 h; ⟨fd_28 h, have h := fd_t1 h; ⟨fd_182 h rfl, have h := fd_t3 h; ⟨fd_42 h, have h := fd_t1 h; ⟨fd_21 h rfl, have h := fd_t2 h; ⟨fd_5 h, have h := fd_t1 h; ⟨fd_29 h, have h := fd_t1 h; ⟨fd_182 h rfl, have h := fd_t3 h; ⟨fd_42 h, have h := fd_t1 h; ⟨fd_21 h rfl, have h := fd_t2 h; ⟨fd_6 h, have h := fd_t1 h; fd_21 h rfl⟩⟩⟩⟩⟩⟩⟩⟩⟩⟩⟩
theorem dX6_person_66 : decode cX6_person 66 = .ok (.iconst 1, 1) := dcq_427.1
theorem dX6_person_67 : decode cX6_person 67 = .ok (.iload_n 2, 1) := dcq_427.2.1
theorem dX6_person_68 : decode cX6_person 68 = .ok (.invokevirtual 184, 3) := dcq_427.2.2.1
theorem dX6_person_71 : decode cX6_person 71 = .ok (.aload_n 0, 1) := dcq_427.2.2.2.1
theorem dX6_person_72 : decode cX6_person 72 = .ok (.iload 5, 2) := dcq_427.2.2.2.2.1
theorem dX6_person_74 : decode cX6_person 74 = .ok (.iconst 2, 1) := dcq_427.2.2.2.2.2.1
theorem dX6_person_75 : decode cX6_person 75 = .ok (.iload_n 3, 1) := dcq_427.2.2.2.2.2.2.1
theorem dX6_person_76 : decode cX6_person 76 = .ok (.invokevirtual 184, 3) := dcq_427.2.2.2.2.2.2.2.1
theorem dX6_person_79 : decode cX6_person 79 = .ok (.aload_n 0, 1) := dcq_427.2.2.2.2.2.2.2.2.1
theorem dX6_person_80 : decode cX6_person 80 = .ok (.iload 5, 2) := dcq_427.2.2.2.2.2.2.2.2.2.1
theorem dX6_person_82 : decode cX6_person 82 = .ok (.iconst 3, 1) := dcq_427.2.2.2.2.2.2.2.2.2.2.1
theorem dX6_person_83 : decode cX6_person 83 = .ok (.iload 4, 2) := dcq_427.2.2.2.2.2.2.2.2.2.2.2
set_option maxRecDepth 20000 in
theorem dcb_428 : fd_B cX6_person 85 [182, 0, 184, 42, 21, 5, 7, 3, 182, 0, 184, 42, 21, 5, 8, 3, 182, 0, 184, 42] := fd_o cX6_person 85 _ (by decide +kernel)
theorem dcq_428 : (decode cX6_person 85 = .ok (.invokevirtual 184, 3)) ∧ (decode cX6_person 88 = .ok (.aload_n 0, 1)) ∧ (decode cX6_person 89 = .ok (.iload 5, 2)) ∧ (decode cX6_person 91 = .ok (.iconst 4, 1)) ∧ (decode cX6_person 92 = .ok (.iconst 0, 1)) ∧ (decode cX6_person 93 = .ok (.invokevirtual 184, 3)) ∧ (decode cX6_person 96 = .ok (.aload_n 0, 1)) ∧ (decode cX6_person 97 = .ok (.iload 5, 2)) ∧ (decode cX6_person 99 = .ok (.iconst 5, 1)) ∧ (decode cX6_person 100 = .ok (.iconst 0, 1)) ∧ (decode cX6_person 101 = .ok (.invokevirtual 184, 3)) ∧ (decode cX6_person 104 = .ok (.aload_n 0, 1)) := have h := dcb_428; ⟨fd_182 h rfl, have h := fd_t3 h; ⟨fd_42 h, have h := fd_t1 h; ⟨fd_21 h rfl, have h := fd_t2 h; ⟨fd_7 h, have h := fd_t1 h; ⟨fd_3 h, have h := fd_t1 h; ⟨fd_182 h rfl, have h := fd_t3 h; ⟨fd_42 h, have h := fd_t1 h; ⟨fd_21 h rfl, have h := fd_t2 h; ⟨fd_8 h, have h := fd_t1 h; ⟨fd_3 h, have h := fd_t1 h; ⟨fd_182 h rfl, have h := fd_t3 h; fd_42 h⟩⟩⟩⟩⟩⟩⟩⟩⟩⟩⟩
theorem dX6_person_85 : decode cX6_person 85 = .ok (.invokevirtual 184, 3) := dcq_428.1
theorem dX6_person_88 : decode cX6_person 88 = .ok (.aload_n 0, 1) := dcq_428.2.1
theorem dX6_person_89 : decode cX6_person 89 = .ok (.iload 5, 2) := dcq_428.2.2.1
theorem dX6_person_91 : decode cX6_person 91 = .ok (.iconst 4, 1) := dcq_428.2.2.2.1
theorem dX6_person_92 : decode cX6_person 92 = .ok (.iconst 0, 1) := dcq_428.2.2.2.2.1
theorem dX6_person_93 : decode cX6_person 93 = .ok (.invokevirtual 184, 3) := dcq_428.2.2.2.2.2.1
theorem dX6_person_96 : decode cX6_person 96 = .ok (.aload_n 0, 1) := dcq_428.2.2.2.2.2.2.1
theorem dX6_person_97 : decode cX6_person 97 = .ok (.iload 5, 2) := dcq_428.2.2.2.2.2.2.2.1
theorem dX6_person_99 : decode cX6_person 99 = .ok (.iconst 5, 1) := dcq_428.2.2.2.2.2.2.2.2.1
theorem dX6_person_100 : decode cX6_person 100 = .ok (.iconst 0, 1) := dcq_428.2.2.2.2.2.2.2.2.2.1
theorem dX6_person_101 : decode cX6_person 101 = .ok (.invokevirtual 184, 3) := dcq_428.2.2.2.2.2.2.2.2.2.2.1
theorem dX6_person_104 : decode cX6_person 104 = .ok (.aload_n 0, 1) := dcq_428.2.2.2.2.2.2.2.2.2.2.2
set_option maxRecDepth 20000 in
theorem dcb_429 : fd_B cX6_person 105 [180, 0, 7, 16, 6, 92, 46, 4, 96, 79, 21, 5, 172] := fd_o cX6_person 105 _ (by decide +kernel)
theorem dcq_429 : (decode cX6_person 105 = .ok (.getfield 7, 3)) ∧ (decode cX6_person 108 = .ok (.bipush 6, 2)) ∧ (decode cX6_person 110 = .ok (.dup2, 1)) ∧ (decode cX6_person 111 = .ok (.iaload, 1)) ∧ (decode cX6_person 112 = .ok (.iconst 1, 1)) ∧ (decode cX6_person 113 = .ok (.iadd, 1)) ∧ (decode cX6_person 114 = .ok (.iastore, 1)) ∧ (decode cX6_person 115 = .ok (.iload 5, 2)) ∧ (decode cX6_person 117 = .ok (.ireturn, 1)) := have h := dcb_429; ⟨fd_180 h rfl, have h := fd_t3 h; ⟨fd_16 h (by decide +kernel), have h := fd_t2 h; ⟨fd_92 h, have h := fd_t1 h; ⟨fd_46 h, have h := fd_t1 h; ⟨fd_4 h, have h := fd_t1 h; ⟨fd_96 h, have h := fd_t1 h; ⟨fd_79 h, have h := fd_t1 h; ⟨fd_21 h rfl, have h := fd_t2 h; fd_172 h⟩⟩⟩⟩⟩⟩⟩⟩
theorem dX6_person_105 : decode cX6_person 105 = .ok (.getfield 7, 3) := dcq_429.1
theorem dX6_person_108 : decode cX6_person 108 = .ok (.bipush 6, 2) := dcq_429.2.1
theorem dX6_person_110 : decode cX6_person 110 = .ok (.dup2, 1) := dcq_429.2.2.1
theorem dX6_person_111 : decode cX6_person 111 = .ok (.iaload, 1) := dcq_429.2.2.2.1
theorem dX6_person_112 : decode cX6_person 112 = .ok (.iconst 1, 1) := dcq_429.2.2.2.2.1
theorem dX6_person_113 : decode cX6_person 113 = .ok (.iadd, 1) := dcq_429.2.2.2.2.2.1
theorem dX6_person_114 : decode cX6_person 114 = .ok (.iastore, 1) := dcq_429.2.2.2.2.2.2.1
theorem dX6_person_115 : decode cX6_person 115 = .ok (.iload 5, 2) := dcq_429.2.2.2.2.2.2.2.1
theorem dX6_person_117 : decode cX6_person 117 = .ok (.ireturn, 1) := dcq_429.2.2.2.2.2.2.2.2
set_option maxRecDepth 20000 in
theorem dcb_430 : fd_B cX6_of 0 [42, 27, 182, 0, 188, 153, 0, 21, 28, 3, 8, 184, 0, 60, 153, 0, 12, 42, 27, 28] := fd_o cX6_of 0 _ (by decide +kernel)
theorem dcq_430 : (decode cX6_of 0 = .ok (.aload_n 0, 1)) ∧ (decode cX6_of 1 = .ok (.iload_n 1, 1)) ∧ (decode cX6_of 2 = .ok (.invokevirtual 188, 3)) ∧ (decode cX6_of 5 = .ok (.ifCond .eq 21, 3)) ∧ (decode cX6_of 8 = .ok (.iload_n 2, 1)) ∧ (decode cX6_of 9 = .ok (.iconst 0, 1)) ∧ (decode cX6_of 10 = .ok (.iconst 5, 1)) ∧ (decode cX6_of 11 = .ok (.invokestatic 60, 3)) ∧ (decode cX6_of 14 = .ok (.ifCond .eq 12, 3)) ∧ (decode cX6_of 17 = .ok (.aload_n 0, 1)) ∧ (decode cX6_of 18 = .ok (.iload_n 1, 1)) ∧ (decode cX6_of 19 = .ok (.iload_n 2, 1)) := have h := dcb_430; ⟨fd_42 h, have h := fd_t1 h; ⟨fd_27 h, have h := fd_t1 h; ⟨fd_182 h rfl, have h := fd_t3 h; ⟨fd_153 h (by decide +kernel), have h := fd_t3 h; ⟨fd_28 h, have h := fd_t1 h; ⟨fd_3 h, have h := fd_t1 h; ⟨fd_8 h, have h := fd_t1 h; ⟨fd_184 h rfl, have h := fd_t3 h; ⟨fd_153 h (by decide +kernel), have h := fd_t3 h; ⟨fd_42 h, have h := fd_t1 h; ⟨fd_27 h, have h := fd_t1 h; fd_28 h⟩⟩⟩⟩⟩⟩⟩⟩⟩⟩⟩
theorem dX6_of_0 : decode cX6_of 0 = .ok (.aload_n 0, 1) := dcq_430.1
theorem dX6_of_1 : decode cX6_of 1 = .ok (.iload_n 1, 1) := dcq_430.2.1
theorem dX6_of_2 : decode cX6_of 2 = .ok (.invokevirtual 188, 3) := dcq_430.2.2.1
theorem dX6_of_5 : decode cX6_of 5 = .ok (.ifCond .eq 21, 3) := dcq_430.2.2.2.1
theorem dX6_of_8 : decode cX6_of 8 = .ok (.iload_n 2, 1) := dcq_430.2.2.2.2.1
theorem dX6_of_9 : decode cX6_of 9 = .ok (.iconst 0, 1) := dcq_430.2.2.2.2.2.1
theorem dX6_of_10 : decode cX6_of 10 = .ok (.iconst 5, 1) := dcq_430.2.2.2.2.2.2.1
theorem dX6_of_11 : decode cX6_of 11 = .ok (.invokestatic 60, 3) := dcq_430.2.2.2.2.2.2.2.1
theorem dX6_of_14 : decode cX6_of 14 = .ok (.ifCond .eq 12, 3) := dcq_430.2.2.2.2.2.2.2.2.1
theorem dX6_of_17 : decode cX6_of 17 = .ok (.aload_n 0, 1) := dcq_430.2.2.2.2.2.2.2.2.2.1
theorem dX6_of_18 : decode cX6_of 18 = .ok (.iload_n 1, 1) := dcq_430.2.2.2.2.2.2.2.2.2.2.1
theorem dX6_of_19 : decode cX6_of 19 = .ok (.iload_n 2, 1) := dcq_430.2.2.2.2.2.2.2.2.2.2.2
set_option maxRecDepth 20000 in
theorem dcb_431 : fd_B cX6_of 20 [182, 0, 191, 167, 0, 4, 2, 172] := fd_o cX6_of 20 _ (by decide +kernel)
theorem dcq_431 : (decode cX6_of 20 = .ok (.invokevirtual 191, 3)) ∧ (decode cX6_of 23 = .ok (.goto 4, 3)) ∧ (decode cX6_of 26 = .ok (.iconst (-1), 1)) ∧ (decode cX6_of 27 = .ok (.ireturn, 1)) := have h := dcb_431; ⟨fd_182 h rfl, have h := fd_t3 h; ⟨fd_167 h (by decide +kernel), have h := fd_t3 h; ⟨fd_2 h, have h := fd_t1 h; fd_172 h⟩⟩⟩
theorem dX6_of_20 : decode cX6_of 20 = .ok (.invokevirtual 191, 3) := dcq_431.1
theorem dX6_of_23 : decode cX6_of 23 = .ok (.goto 4, 3) := dcq_431.2.1
theorem dX6_of_26 : decode cX6_of 26 = .ok (.iconst (-1), 1) := dcq_431.2.2.1
theorem dX6_of_27 : decode cX6_of 27 = .ok (.ireturn, 1) := dcq_431.2.2.2
set_option maxRecDepth 20000 in
theorem dcb_432 : fd_B cX6_thinksOf 0 [42, 27, 3, 182, 0, 191] := fd_o cX6_thinksOf 0 _ (by decide +kernel)
theorem dcq_432 : (decode cX6_thinksOf 0 = .ok (.aload_n 0, 1)) ∧ (decode cX6_thinksOf 1 = .ok (.iload_n 1, 1)) ∧ (decode cX6_thinksOf 2 = .ok (.iconst 0, 1)) ∧ (decode cX6_thinksOf 3 = .ok (.invokevirtual 191, 3)) := have h := dcb_432; ⟨fd_42 h, have h := fd_t1 h; ⟨fd_27 h, have h := fd_t1 h; ⟨fd_3 h, have h := fd_t1 h; fd_182 h rfl⟩⟩⟩
theorem dX6_thinksOf_0 : decode cX6_thinksOf 0 = .ok (.aload_n 0, 1) := dcq_432.1
theorem dX6_thinksOf_1 : decode cX6_thinksOf 1 = .ok (.iload_n 1, 1) := dcq_432.2.1
theorem dX6_thinksOf_2 : decode cX6_thinksOf 2 = .ok (.iconst 0, 1) := dcq_432.2.2.1
theorem dX6_thinksOf_3 : decode cX6_thinksOf 3 = .ok (.invokevirtual 191, 3) := dcq_432.2.2.2
set_option maxRecDepth 20000 in
theorem dX6_thinksOf_6 : decode cX6_thinksOf 6 = .ok (.tableswitch 59 1 5 #[34, 39, 36, 41, 50], 34) := by decide +kernel
set_option maxRecDepth 20000 in
theorem dcb_433 : fd_B cX6_thinksOf 40 [6, 172, 16, 6, 172, 4, 172, 4, 42, 180, 0, 7, 5, 46, 96] := fd_o cX6_thinksOf 40 _ (by decide +kernel)
theorem dcq_433 : (decode cX6_thinksOf 40 = .ok (.iconst 3, 1)) ∧ (decode cX6_thinksOf 41 = .ok (.ireturn, 1)) ∧ (decode cX6_thinksOf 42 = .ok (.bipush 6, 2)) ∧ (decode cX6_thinksOf 44 = .ok (.ireturn, 1)) ∧ (decode cX6_thinksOf 45 = .ok (.iconst 1, 1)) ∧ (decode cX6_thinksOf 46 = .ok (.ireturn, 1)) ∧ (decode cX6_thinksOf 47 = .ok (.iconst 1, 1)) ∧ (decode cX6_thinksOf 48 = .ok (.aload_n 0, 1)) ∧ (decode cX6_thinksOf 49 = .ok (.getfield 7, 3)) ∧ (decode cX6_thinksOf 52 = .ok (.iconst 2, 1)) ∧ (decode cX6_thinksOf 53 = .ok (.iaload, 1)) ∧ (decode cX6_thinksOf 54 = .ok (.iadd, 1)) := have h := dcb_433; ⟨fd_6 h, have h := fd_t1 h; ⟨fd_172 h, have h := fd_t1 h; ⟨fd_16 h (by decide +kernel), have h := fd_t2 h; ⟨fd_172 h, have h := fd_t1 h; ⟨fd_4 h, have h := fd_t1 h; ⟨fd_172 h, have h := fd_t1 h; ⟨fd_4 h, have h := fd_t1 h; ⟨fd_42 h, have h := fd_t1 h; ⟨fd_180 h rfl, have h := fd_t3 h; ⟨fd_5 h, have h := fd_t1 h; ⟨fd_46 h, have h := fd_t1 h; fd_96 h⟩⟩⟩⟩⟩⟩⟩⟩⟩⟩⟩
theorem dX6_thinksOf_40 : decode cX6_thinksOf 40 = .ok (.iconst 3, 1) := dcq_433.1
theorem dX6_thinksOf_41 : decode cX6_thinksOf 41 = .ok (.ireturn, 1) := dcq_433.2.1
theorem dX6_thinksOf_42 : decode cX6_thinksOf 42 = .ok (.bipush 6, 2) := dcq_433.2.2.1
theorem dX6_thinksOf_44 : decode cX6_thinksOf 44 = .ok (.ireturn, 1) := dcq_433.2.2.2.1
theorem dX6_thinksOf_45 : decode cX6_thinksOf 45 = .ok (.iconst 1, 1) := dcq_433.2.2.2.2.1
theorem dX6_thinksOf_46 : decode cX6_thinksOf 46 = .ok (.ireturn, 1) := dcq_433.2.2.2.2.2.1
theorem dX6_thinksOf_47 : decode cX6_thinksOf 47 = .ok (.iconst 1, 1) := dcq_433.2.2.2.2.2.2.1
theorem dX6_thinksOf_48 : decode cX6_thinksOf 48 = .ok (.aload_n 0, 1) := dcq_433.2.2.2.2.2.2.2.1
theorem dX6_thinksOf_49 : decode cX6_thinksOf 49 = .ok (.getfield 7, 3) := dcq_433.2.2.2.2.2.2.2.2.1
theorem dX6_thinksOf_52 : decode cX6_thinksOf 52 = .ok (.iconst 2, 1) := dcq_433.2.2.2.2.2.2.2.2.2.1
theorem dX6_thinksOf_53 : decode cX6_thinksOf 53 = .ok (.iaload, 1) := dcq_433.2.2.2.2.2.2.2.2.2.2.1
theorem dX6_thinksOf_54 : decode cX6_thinksOf 54 = .ok (.iadd, 1) := dcq_433.2.2.2.2.2.2.2.2.2.2.2
set_option maxRecDepth 20000 in
theorem dcb_434 : fd_B cX6_thinksOf 55 [172, 5, 42, 27, 5, 182, 0, 191, 96, 172, 5, 172] := fd_o cX6_thinksOf 55 _ (by decide +kernel)
theorem dcq_434 : (decode cX6_thinksOf 55 = .ok (.ireturn, 1)) ∧ (decode cX6_thinksOf 56 = .ok (.iconst 2, 1)) ∧ (decode cX6_thinksOf 57 = .ok (.aload_n 0, 1)) ∧ (decode cX6_thinksOf 58 = .ok (.iload_n 1, 1)) ∧ (decode cX6_thinksOf 59 = .ok (.iconst 2, 1)) ∧ (decode cX6_thinksOf 60 = .ok (.invokevirtual 191, 3)) ∧ (decode cX6_thinksOf 63 = .ok (.iadd, 1)) ∧ (decode cX6_thinksOf 64 = .ok (.ireturn, 1)) ∧ (decode cX6_thinksOf 65 = .ok (.iconst 2, 1)) ∧ (decode cX6_thinksOf 66 = .ok (.ireturn, 1)) := have h := dcb_434; ⟨fd_172 h, have h := fd_t1 h; ⟨fd_5 h, have h := fd_t1 h; ⟨fd_42 h, have h := fd_t1 h; ⟨fd_27 h, have h := fd_t1 h; ⟨fd_5 h, have h := fd_t1 h; ⟨fd_182 h rfl, have h := fd_t3 h; ⟨fd_96 h, have h := fd_t1 h; ⟨fd_172 h, have h := fd_t1 h; ⟨fd_5 h, have h := fd_t1 h; fd_172 h⟩⟩⟩⟩⟩⟩⟩⟩⟩
theorem dX6_thinksOf_55 : decode cX6_thinksOf 55 = .ok (.ireturn, 1) := dcq_434.1
theorem dX6_thinksOf_56 : decode cX6_thinksOf 56 = .ok (.iconst 2, 1) := dcq_434.2.1
theorem dX6_thinksOf_57 : decode cX6_thinksOf 57 = .ok (.aload_n 0, 1) := dcq_434.2.2.1
theorem dX6_thinksOf_58 : decode cX6_thinksOf 58 = .ok (.iload_n 1, 1) := dcq_434.2.2.2.1
theorem dX6_thinksOf_59 : decode cX6_thinksOf 59 = .ok (.iconst 2, 1) := dcq_434.2.2.2.2.1
theorem dX6_thinksOf_60 : decode cX6_thinksOf 60 = .ok (.invokevirtual 191, 3) := dcq_434.2.2.2.2.2.1
theorem dX6_thinksOf_63 : decode cX6_thinksOf 63 = .ok (.iadd, 1) := dcq_434.2.2.2.2.2.2.1
theorem dX6_thinksOf_64 : decode cX6_thinksOf 64 = .ok (.ireturn, 1) := dcq_434.2.2.2.2.2.2.2.1
theorem dX6_thinksOf_65 : decode cX6_thinksOf 65 = .ok (.iconst 2, 1) := dcq_434.2.2.2.2.2.2.2.2.1
theorem dX6_thinksOf_66 : decode cX6_thinksOf 66 = .ok (.ireturn, 1) := dcq_434.2.2.2.2.2.2.2.2.2
set_option maxRecDepth 20000 in
theorem dcb_435 : fd_B cX6_needs 0 [42, 27, 3, 182, 0, 191] := fd_o cX6_needs 0 _ (by decide +kernel)
theorem dcq_435 : (decode cX6_needs 0 = .ok (.aload_n 0, 1)) ∧ (decode cX6_needs 1 = .ok (.iload_n 1, 1)) ∧ (decode cX6_needs 2 = .ok (.iconst 0, 1)) ∧ (decode cX6_needs 3 = .ok (.invokevirtual 191, 3)) := have h := dcb_435; ⟨fd_42 h, have h := fd_t1 h; ⟨fd_27 h, have h := fd_t1 h; ⟨fd_3 h, have h := fd_t1 h; fd_182 h rfl⟩⟩⟩
theorem dX6_needs_0 : decode cX6_needs 0 = .ok (.aload_n 0, 1) := dcq_435.1
theorem dX6_needs_1 : decode cX6_needs 1 = .ok (.iload_n 1, 1) := dcq_435.2.1
theorem dX6_needs_2 : decode cX6_needs 2 = .ok (.iconst 0, 1) := dcq_435.2.2.1
theorem dX6_needs_3 : decode cX6_needs 3 = .ok (.invokevirtual 191, 3) := dcq_435.2.2.2
set_option maxRecDepth 20000 in
theorem dX6_needs_6 : decode cX6_needs 6 = .ok (.tableswitch 69 1 5 #[34, 61, 44, 64, 67], 34) := by decide +kernel
set_option maxRecDepth 20000 in
theorem dcb_436 : fd_B cX6_needs 40 [16, 10, 42, 180, 0, 7, 4, 46, 96, 172, 16, 10, 42, 180, 0, 7, 4, 46] := fd_o cX6_needs 40 _ (by decide +kernel)
theorem dcq_436 : (decode cX6_needs 40 = .ok (.bipush 10, 2)) ∧ (decode cX6_needs 42 = .ok (.aload_n 0, 1)) ∧ (decode cX6_needs 43 = .ok (.getfield 7, 3)) ∧ (decode cX6_needs 46 = .ok (.iconst 1, 1)) ∧ (decode cX6_needs 47 = .ok (.iaload, 1)) ∧ (decode cX6_needs 48 = .ok (.iadd, 1)) ∧ (decode cX6_needs 49 = .ok (.ireturn, 1)) ∧ (decode cX6_needs 50 = .ok (.bipush 10, 2)) ∧ (decode cX6_needs 52 = .ok (.aload_n 0, 1)) ∧ (decode cX6_needs 53 = .ok (.getfield 7, 3)) ∧ (decode cX6_needs 56 = .ok (.iconst 1, 1)) ∧ (decode cX6_needs 57 = .ok (.iaload, 1)) := have h := dcb_436; ⟨fd_16 h (by decide +kernel), have h := fd_t2 h; ⟨fd_42 h, have h := fd_t1 h; ⟨fd_180 h rfl, have h := fd_t3 h; ⟨fd_4 h, have h := fd_t1 h; ⟨fd_46 h, have h := fd_t1 h; ⟨fd_96 h, have h := fd_t1 h; ⟨fd_172 h, have h := fd_t1 h; ⟨fd_16 h (by decide +kernel), have h := fd_t2 h; ⟨fd_42 h, have h := fd_t1 h; ⟨fd_180 h rfl, have h := fd_t3 h; ⟨fd_4 h, have h := fd_t1 h; fd_46 h⟩⟩⟩⟩⟩⟩⟩⟩⟩⟩⟩
theorem dX6_needs_40 : decode cX6_needs 40 = .ok (.bipush 10, 2) := dcq_436.1
theorem dX6_needs_42 : decode cX6_needs 42 = .ok (.aload_n 0, 1) := dcq_436.2.1
theorem dX6_needs_43 : decode cX6_needs 43 = .ok (.getfield 7, 3) := dcq_436.2.2.1
theorem dX6_needs_46 : decode cX6_needs 46 = .ok (.iconst 1, 1) := dcq_436.2.2.2.1
theorem dX6_needs_47 : decode cX6_needs 47 = .ok (.iaload, 1) := dcq_436.2.2.2.2.1
theorem dX6_needs_48 : decode cX6_needs 48 = .ok (.iadd, 1) := dcq_436.2.2.2.2.2.1
theorem dX6_needs_49 : decode cX6_needs 49 = .ok (.ireturn, 1) := dcq_436.2.2.2.2.2.2.1
theorem dX6_needs_50 : decode cX6_needs 50 = .ok (.bipush 10, 2) := dcq_436.2.2.2.2.2.2.2.1
theorem dX6_needs_52 : decode cX6_needs 52 = .ok (.aload_n 0, 1) := dcq_436.2.2.2.2.2.2.2.2.1
theorem dX6_needs_53 : decode cX6_needs 53 = .ok (.getfield 7, 3) := dcq_436.2.2.2.2.2.2.2.2.2.1
theorem dX6_needs_56 : decode cX6_needs 56 = .ok (.iconst 1, 1) := dcq_436.2.2.2.2.2.2.2.2.2.2.1
theorem dX6_needs_57 : decode cX6_needs 57 = .ok (.iaload, 1) := dcq_436.2.2.2.2.2.2.2.2.2.2.2
set_option maxRecDepth 20000 in
theorem dcb_437 : fd_B cX6_needs 58 [96, 42, 27, 5, 182, 0, 191, 100, 172, 16, 20, 172, 16, 15, 172, 6] := fd_o cX6_needs 58 _ (by decide +kernel)
theorem dcq_437 : (decode cX6_needs 58 = .ok (.iadd, 1)) ∧ (decode cX6_needs 59 = .ok (.aload_n 0, 1)) ∧ (decode cX6_needs 60 = .ok (.iload_n 1, 1)) ∧ (decode cX6_needs 61 = .ok (.iconst 2, 1)) ∧ (decode cX6_needs 62 = .ok (.invokevirtual 191, 3)) ∧ (decode cX6_needs 65 = .ok (.isub, 1)) ∧ (decode cX6_needs 66 = .ok (.ireturn, 1)) ∧ (decode cX6_needs 67 = .ok (.bipush 20, 2)) ∧ (decode cX6_needs 69 = .ok (.ireturn, 1)) ∧ (decode cX6_needs 70 = .ok (.bipush 15, 2)) ∧ (decode cX6_needs 72 = .ok (.ireturn, 1)) ∧ (decode cX6_needs 73 = .ok (.iconst 3, 1)) := have h := dcb_437; ⟨fd_96 h, have h := fd_t1 h; ⟨fd_42 h, have h := fd_t1 h; ⟨fd_27 h, have h := fd_t1 h; ⟨fd_5 h, have h := fd_t1 h; ⟨fd_182 h rfl, have h := fd_t3 h; ⟨fd_100 h, have h := fd_t1 h; ⟨fd_172 h, have h := fd_t1 h; ⟨fd_16 h (by decide +kernel), have h := fd_t2 h; ⟨fd_172 h, have h := fd_t1 h; ⟨fd_16 h (by decide +kernel), have h := fd_t2 h; ⟨fd_172 h, have h := fd_t1 h; fd_6 h⟩⟩⟩⟩⟩⟩⟩⟩⟩⟩⟩
theorem dX6_needs_58 : decode cX6_needs 58 = .ok (.iadd, 1) := dcq_437.1
theorem dX6_needs_59 : decode cX6_needs 59 = .ok (.aload_n 0, 1) := dcq_437.2.1
theorem dX6_needs_60 : decode cX6_needs 60 = .ok (.iload_n 1, 1) := dcq_437.2.2.1
theorem dX6_needs_61 : decode cX6_needs 61 = .ok (.iconst 2, 1) := dcq_437.2.2.2.1
theorem dX6_needs_62 : decode cX6_needs 62 = .ok (.invokevirtual 191, 3) := dcq_437.2.2.2.2.1
theorem dX6_needs_65 : decode cX6_needs 65 = .ok (.isub, 1) := dcq_437.2.2.2.2.2.1
theorem dX6_needs_66 : decode cX6_needs 66 = .ok (.ireturn, 1) := dcq_437.2.2.2.2.2.2.1
theorem dX6_needs_67 : decode cX6_needs 67 = .ok (.bipush 20, 2) := dcq_437.2.2.2.2.2.2.2.1
theorem dX6_needs_69 : decode cX6_needs 69 = .ok (.ireturn, 1) := dcq_437.2.2.2.2.2.2.2.2.1
theorem dX6_needs_70 : decode cX6_needs 70 = .ok (.bipush 15, 2) := dcq_437.2.2.2.2.2.2.2.2.2.1
theorem dX6_needs_72 : decode cX6_needs 72 = .ok (.ireturn, 1) := dcq_437.2.2.2.2.2.2.2.2.2.2.1
theorem dX6_needs_73 : decode cX6_needs 73 = .ok (.iconst 3, 1) := dcq_437.2.2.2.2.2.2.2.2.2.2.2
set_option maxRecDepth 20000 in
theorem dcb_438 : fd_B cX6_needs 74 [172, 16, 10, 172] := fd_o cX6_needs 74 _ (by decide +kernel)
theorem dcq_438 : (decode cX6_needs 74 = .ok (.ireturn, 1)) ∧ (decode cX6_needs 75 = .ok (.bipush 10, 2)) ∧ (decode cX6_needs 77 = .ok (.ireturn, 1)) := have h := dcb_438; ⟨fd_172 h, have h := fd_t1 h; ⟨fd_16 h (by decide +kernel), have h := fd_t2 h; fd_172 h⟩⟩
theorem dX6_needs_74 : decode cX6_needs 74 = .ok (.ireturn, 1) := dcq_438.1
theorem dX6_needs_75 : decode cX6_needs 75 = .ok (.bipush 10, 2) := dcq_438.2.1
theorem dX6_needs_77 : decode cX6_needs 77 = .ok (.ireturn, 1) := dcq_438.2.2
set_option maxRecDepth 20000 in
theorem dcb_439 : fd_B cX6_says 0 [4, 42, 27, 5, 182, 0, 191, 96, 61, 42, 27, 3, 182, 0, 191] := fd_o cX6_says 0 _ (by decide +kernel)
theorem dcq_439 : (decode cX6_says 0 = .ok (.iconst 1, 1)) ∧ (decode cX6_says 1 = .ok (.aload_n 0, 1)) ∧ (decode cX6_says 2 = .ok (.iload_n 1, 1)) ∧ (decode cX6_says 3 = .ok (.iconst 2, 1)) ∧ (decode cX6_says 4 = .ok (.invokevirtual 191, 3)) ∧ (decode cX6_says 7 = .ok (.iadd, 1)) ∧ (decode cX6_says 8 = .ok (.istore_n 2, 1)) ∧ (decode cX6_says 9 = .ok (.aload_n 0, 1)) ∧ (decode cX6_says 10 = .ok (.iload_n 1, 1)) ∧ (decode cX6_says 11 = .ok (.iconst 0, 1)) ∧ (decode cX6_says 12 = .ok (.invokevirtual 191, 3)) := have h := dcb_439; ⟨fd_4 h, have h := fd_t1 h; ⟨fd_42 h, have h := fd_t1 h; ⟨fd_27 h, have h := fd_t1 h; ⟨fd_5 h, have h := fd_t1 h; ⟨fd_182 h rfl, have h := fd_t3 h; ⟨fd_96 h, have h := fd_t1 h; ⟨fd_61 h, have h := fd_t1 h; ⟨fd_42 h, have h := fd_t1 h; ⟨fd_27 h, have h := fd_t1 h; ⟨fd_3 h, have h := fd_t1 h; fd_182 h rfl⟩⟩⟩⟩⟩⟩⟩⟩⟩⟩
theorem dX6_says_0 : decode cX6_says 0 = .ok (.iconst 1, 1) := dcq_439.1
theorem dX6_says_1 : decode cX6_says 1 = .ok (.aload_n 0, 1) := dcq_439.2.1
theorem dX6_says_2 : decode cX6_says 2 = .ok (.iload_n 1, 1) := dcq_439.2.2.1
theorem dX6_says_3 : decode cX6_says 3 = .ok (.iconst 2, 1) := dcq_439.2.2.2.1
theorem dX6_says_4 : decode cX6_says 4 = .ok (.invokevirtual 191, 3) := dcq_439.2.2.2.2.1
theorem dX6_says_7 : decode cX6_says 7 = .ok (.iadd, 1) := dcq_439.2.2.2.2.2.1
theorem dX6_says_8 : decode cX6_says 8 = .ok (.istore_n 2, 1) := dcq_439.2.2.2.2.2.2.1
theorem dX6_says_9 : decode cX6_says 9 = .ok (.aload_n 0, 1) := dcq_439.2.2.2.2.2.2.2.1
theorem dX6_says_10 : decode cX6_says 10 = .ok (.iload_n 1, 1) := dcq_439.2.2.2.2.2.2.2.2.1
theorem dX6_says_11 : decode cX6_says 11 = .ok (.iconst 0, 1) := dcq_439.2.2.2.2.2.2.2.2.2.1
theorem dX6_says_12 : decode cX6_says 12 = .ok (.invokevirtual 191, 3) := dcq_439.2.2.2.2.2.2.2.2.2.2
set_option maxRecDepth 20000 in
theorem dX6_says_15 : decode cX6_says 15 = .ok (.tableswitch 78 1 5 #[33, 43, 37, 52, 76], 33) := by decide +kernel
set_option maxRecDepth 20000 in
theorem dcb_440 : fd_B cX6_says 48 [5, 28, 104, 172, 5, 28, 104, 4, 100, 172, 28, 42] := fd_o cX6_says 48 _ (by decide +kernel)
theorem dcq_440 : (decode cX6_says 48 = .ok (.iconst 2, 1)) ∧ (decode cX6_says 49 = .ok (.iload_n 2, 1)) ∧ (decode cX6_says 50 = .ok (.imul, 1)) ∧ (decode cX6_says 51 = .ok (.ireturn, 1)) ∧ (decode cX6_says 52 = .ok (.iconst 2, 1)) ∧ (decode cX6_says 53 = .ok (.iload_n 2, 1)) ∧ (decode cX6_says 54 = .ok (.imul, 1)) ∧ (decode cX6_says 55 = .ok (.iconst 1, 1)) ∧ (decode cX6_says 56 = .ok (.isub, 1)) ∧ (decode cX6_says 57 = .ok (.ireturn, 1)) ∧ (decode cX6_says 58 = .ok (.iload_n 2, 1)) ∧ (decode cX6_says 59 = .ok (.aload_n 0, 1)) := have h := dcb_440; ⟨fd_5 h, have h := fd_t1 h; ⟨fd_28 h, have h := fd_t1 h; ⟨fd_104 h, have h := fd_t1 h; ⟨fd_172 h, have h := fd_t1 h; ⟨fd_5 h, have h := fd_t1 h; ⟨fd_28 h, have h := fd_t1 h; ⟨fd_104 h, have h := fd_t1 h; ⟨fd_4 h, have h := fd_t1 h; ⟨fd_100 h, have h := fd_t1 h; ⟨fd_172 h, have h := fd_t1 h; ⟨fd_28 h, have h := fd_t1 h; fd_42 h⟩⟩⟩⟩⟩⟩⟩⟩⟩⟩⟩
theorem dX6_says_48 : decode cX6_says 48 = .ok (.iconst 2, 1) := dcq_440.1
theorem dX6_says_49 : decode cX6_says 49 = .ok (.iload_n 2, 1) := dcq_440.2.1
theorem dX6_says_50 : decode cX6_says 50 = .ok (.imul, 1) := dcq_440.2.2.1
theorem dX6_says_51 : decode cX6_says 51 = .ok (.ireturn, 1) := dcq_440.2.2.2.1
theorem dX6_says_52 : decode cX6_says 52 = .ok (.iconst 2, 1) := dcq_440.2.2.2.2.1
theorem dX6_says_53 : decode cX6_says 53 = .ok (.iload_n 2, 1) := dcq_440.2.2.2.2.2.1
theorem dX6_says_54 : decode cX6_says 54 = .ok (.imul, 1) := dcq_440.2.2.2.2.2.2.1
theorem dX6_says_55 : decode cX6_says 55 = .ok (.iconst 1, 1) := dcq_440.2.2.2.2.2.2.2.1
theorem dX6_says_56 : decode cX6_says 56 = .ok (.isub, 1) := dcq_440.2.2.2.2.2.2.2.2.1
theorem dX6_says_57 : decode cX6_says 57 = .ok (.ireturn, 1) := dcq_440.2.2.2.2.2.2.2.2.2.1
theorem dX6_says_58 : decode cX6_says 58 = .ok (.iload_n 2, 1) := dcq_440.2.2.2.2.2.2.2.2.2.2.1
theorem dX6_says_59 : decode cX6_says 59 = .ok (.aload_n 0, 1) := dcq_440.2.2.2.2.2.2.2.2.2.2.2
set_option maxRecDepth 20000 in
theorem dcb_441 : fd_B cX6_says 60 [180, 0, 7, 5, 46, 96, 172, 28, 42, 180, 0, 7, 5, 46, 96, 42] := fd_o cX6_says 60 _ (by decide +kernel)
theorem dcq_441 : (decode cX6_says 60 = .ok (.getfield 7, 3)) ∧ (decode cX6_says 63 = .ok (.iconst 2, 1)) ∧ (decode cX6_says 64 = .ok (.iaload, 1)) ∧ (decode cX6_says 65 = .ok (.iadd, 1)) ∧ (decode cX6_says 66 = .ok (.ireturn, 1)) ∧ (decode cX6_says 67 = .ok (.iload_n 2, 1)) ∧ (decode cX6_says 68 = .ok (.aload_n 0, 1)) ∧ (decode cX6_says 69 = .ok (.getfield 7, 3)) ∧ (decode cX6_says 72 = .ok (.iconst 2, 1)) ∧ (decode cX6_says 73 = .ok (.iaload, 1)) ∧ (decode cX6_says 74 = .ok (.iadd, 1)) ∧ (decode cX6_says 75 = .ok (.aload_n 0, 1)) := have h := dcb_441; ⟨fd_180 h rfl, have h := fd_t3 h; ⟨fd_5 h, have h := fd_t1 h; ⟨fd_46 h, have h := fd_t1 h; ⟨fd_96 h, have h := fd_t1 h; ⟨fd_172 h, have h := fd_t1 h; ⟨fd_28 h, have h := fd_t1 h; ⟨fd_42 h, have h := fd_t1 h; ⟨fd_180 h rfl, have h := fd_t3 h; ⟨fd_5 h, have h := fd_t1 h; ⟨fd_46 h, have h := fd_t1 h; ⟨fd_96 h, have h := fd_t1 h; fd_42 h⟩⟩⟩⟩⟩⟩⟩⟩⟩⟩⟩
theorem dX6_says_60 : decode cX6_says 60 = .ok (.getfield 7, 3) := dcq_441.1
theorem dX6_says_63 : decode cX6_says 63 = .ok (.iconst 2, 1) := dcq_441.2.1
theorem dX6_says_64 : decode cX6_says 64 = .ok (.iaload, 1) := dcq_441.2.2.1
theorem dX6_says_65 : decode cX6_says 65 = .ok (.iadd, 1) := dcq_441.2.2.2.1
theorem dX6_says_66 : decode cX6_says 66 = .ok (.ireturn, 1) := dcq_441.2.2.2.2.1
theorem dX6_says_67 : decode cX6_says 67 = .ok (.iload_n 2, 1) := dcq_441.2.2.2.2.2.1
theorem dX6_says_68 : decode cX6_says 68 = .ok (.aload_n 0, 1) := dcq_441.2.2.2.2.2.2.1
theorem dX6_says_69 : decode cX6_says 69 = .ok (.getfield 7, 3) := dcq_441.2.2.2.2.2.2.2.1
theorem dX6_says_72 : decode cX6_says 72 = .ok (.iconst 2, 1) := dcq_441.2.2.2.2.2.2.2.2.1
theorem dX6_says_73 : decode cX6_says 73 = .ok (.iaload, 1) := dcq_441.2.2.2.2.2.2.2.2.2.1
theorem dX6_says_74 : decode cX6_says 74 = .ok (.iadd, 1) := dcq_441.2.2.2.2.2.2.2.2.2.2.1
theorem dX6_says_75 : decode cX6_says 75 = .ok (.aload_n 0, 1) := dcq_441.2.2.2.2.2.2.2.2.2.2.2
set_option maxRecDepth 20000 in
theorem dcb_442 : fd_B cX6_says 76 [27, 6, 182, 0, 191, 4, 100, 3, 16, 99, 184, 0, 194, 96, 172, 3, 172] := fd_o cX6_says 76 _ (by decide +kernel)
theorem dcq_442 : (decode cX6_says 76 = .ok (.iload_n 1, 1)) ∧ (decode cX6_says 77 = .ok (.iconst 3, 1)) ∧ (decode cX6_says 78 = .ok (.invokevirtual 191, 3)) ∧ (decode cX6_says 81 = .ok (.iconst 1, 1)) ∧ (decode cX6_says 82 = .ok (.isub, 1)) ∧ (decode cX6_says 83 = .ok (.iconst 0, 1)) ∧ (decode cX6_says 84 = .ok (.bipush 99, 2)) ∧ (decode cX6_says 86 = .ok (.invokestatic 194, 3)) ∧ (decode cX6_says 89 = .ok (.iadd, 1)) ∧ (decode cX6_says 90 = .ok (.ireturn, 1)) ∧ (decode cX6_says 91 = .ok (.iconst 0, 1)) ∧ (decode cX6_says 92 = .ok (.ireturn, 1)) := have h := dcb_442; ⟨fd_27 h, have h := fd_t1 h; ⟨fd_6 h, have h := fd_t1 h; ⟨fd_182 h rfl, have h := fd_t3 h; ⟨fd_4 h, have h := fd_t1 h; ⟨fd_100 h, have h := fd_t1 h; ⟨fd_3 h, have h := fd_t1 h; ⟨fd_16 h (by decide +kernel), have h := fd_t2 h; ⟨fd_184 h rfl, have h := fd_t3 h; ⟨fd_96 h, have h := fd_t1 h; ⟨fd_172 h, have h := fd_t1 h; ⟨fd_3 h, have h := fd_t1 h; fd_172 h⟩⟩⟩⟩⟩⟩⟩⟩⟩⟩⟩
theorem dX6_says_76 : decode cX6_says 76 = .ok (.iload_n 1, 1) := dcq_442.1
theorem dX6_says_77 : decode cX6_says 77 = .ok (.iconst 3, 1) := dcq_442.2.1
theorem dX6_says_78 : decode cX6_says 78 = .ok (.invokevirtual 191, 3) := dcq_442.2.2.1
theorem dX6_says_81 : decode cX6_says 81 = .ok (.iconst 1, 1) := dcq_442.2.2.2.1
theorem dX6_says_82 : decode cX6_says 82 = .ok (.isub, 1) := dcq_442.2.2.2.2.1
theorem dX6_says_83 : decode cX6_says 83 = .ok (.iconst 0, 1) := dcq_442.2.2.2.2.2.1
theorem dX6_says_84 : decode cX6_says 84 = .ok (.bipush 99, 2) := dcq_442.2.2.2.2.2.2.1
theorem dX6_says_86 : decode cX6_says 86 = .ok (.invokestatic 194, 3) := dcq_442.2.2.2.2.2.2.2.1
theorem dX6_says_89 : decode cX6_says 89 = .ok (.iadd, 1) := dcq_442.2.2.2.2.2.2.2.2.1
theorem dX6_says_90 : decode cX6_says 90 = .ok (.ireturn, 1) := dcq_442.2.2.2.2.2.2.2.2.2.1
theorem dX6_says_91 : decode cX6_says 91 = .ok (.iconst 0, 1) := dcq_442.2.2.2.2.2.2.2.2.2.2.1
theorem dX6_says_92 : decode cX6_says 92 = .ok (.ireturn, 1) := dcq_442.2.2.2.2.2.2.2.2.2.2.2
set_option maxRecDepth 20000 in
theorem dcb_443 : fd_B cX6_says 93 [28, 172] := fd_o cX6_says 93 _ (by decide +kernel)
theorem dcq_443 : (decode cX6_says 93 = .ok (.iload_n 2, 1)) ∧ (decode cX6_says 94 = .ok (.ireturn, 1)) := have h := dcb_443; ⟨fd_28 h, have h := fd_t1 h; fd_172 h⟩
theorem dX6_says_93 : decode cX6_says 93 = .ok (.iload_n 2, 1) := dcq_443.1
theorem dX6_says_94 : decode cX6_says 94 = .ok (.ireturn, 1) := dcq_443.2
set_option maxRecDepth 20000 in
theorem dcb_444 : fd_B cX6_isUsed 0 [42, 180, 0, 7, 7, 46, 5, 112, 4, 160, 0, 7, 4, 167, 0, 4, 3, 61] := fd_o cX6_isUsed 0 _ (by decide +kernel)
theorem dcq_444 : (decode cX6_isUsed 0 = .ok (.aload_n 0, 1)) ∧ (decode cX6_isUsed 1 = .ok (.getfield 7, 3)) ∧ (decode cX6_isUsed 4 = .ok (.iconst 4, 1)) ∧ (decode cX6_isUsed 5 = .ok (.iaload, 1)) ∧ (decode cX6_isUsed 6 = .ok (.iconst 2, 1)) ∧ (decode cX6_isUsed 7 = .ok (.irem, 1)) ∧ (decode cX6_isUsed 8 = .ok (.iconst 1, 1)) ∧ (decode cX6_isUsed 9 = .ok (.if_icmp .ne 7, 3)) ∧ (decode cX6_isUsed 12 = .ok (.iconst 1, 1)) ∧ (decode cX6_isUsed 13 = .ok (.goto 4, 3)) ∧ (decode cX6_isUsed 16 = .ok (.iconst 0, 1)) ∧ (decode cX6_isUsed 17 = .ok (.istore_n 2, 1)) := have h := dcb_444; ⟨fd_42 h, have h := fd_t1 h; ⟨fd_180 h rfl, have h := fd_t3 h; ⟨fd_7 h, have h := fd_t1 h; ⟨fd_46 h, have h := fd_t1 h; ⟨fd_5 h, have h := fd_t1 h; ⟨fd_112 h, have h := fd_t1 h; ⟨fd_4 h, have h := fd_t1 h; ⟨fd_160 h (by decide +kernel), have h := fd_t3 h; ⟨fd_4 h, have h := fd_t1 h; ⟨fd_167 h (by decide +kernel), have h := fd_t3 h; ⟨fd_3 h, have h := fd_t1 h; fd_61 h⟩⟩⟩⟩⟩⟩⟩⟩⟩⟩⟩
theorem dX6_isUsed_0 : decode cX6_isUsed 0 = .ok (.aload_n 0, 1) := dcq_444.1
theorem dX6_isUsed_1 : decode cX6_isUsed 1 = .ok (.getfield 7, 3) := dcq_444.2.1
theorem dX6_isUsed_4 : decode cX6_isUsed 4 = .ok (.iconst 4, 1) := dcq_444.2.2.1
theorem dX6_isUsed_5 : decode cX6_isUsed 5 = .ok (.iaload, 1) := dcq_444.2.2.2.1
theorem dX6_isUsed_6 : decode cX6_isUsed 6 = .ok (.iconst 2, 1) := dcq_444.2.2.2.2.1
theorem dX6_isUsed_7 : decode cX6_isUsed 7 = .ok (.irem, 1) := dcq_444.2.2.2.2.2.1
theorem dX6_isUsed_8 : decode cX6_isUsed 8 = .ok (.iconst 1, 1) := dcq_444.2.2.2.2.2.2.1
theorem dX6_isUsed_9 : decode cX6_isUsed 9 = .ok (.if_icmp .ne 7, 3) := dcq_444.2.2.2.2.2.2.2.1
theorem dX6_isUsed_12 : decode cX6_isUsed 12 = .ok (.iconst 1, 1) := dcq_444.2.2.2.2.2.2.2.2.1
theorem dX6_isUsed_13 : decode cX6_isUsed 13 = .ok (.goto 4, 3) := dcq_444.2.2.2.2.2.2.2.2.2.1
theorem dX6_isUsed_16 : decode cX6_isUsed 16 = .ok (.iconst 0, 1) := dcq_444.2.2.2.2.2.2.2.2.2.2.1
theorem dX6_isUsed_17 : decode cX6_isUsed 17 = .ok (.istore_n 2, 1) := dcq_444.2.2.2.2.2.2.2.2.2.2.2
set_option maxRecDepth 20000 in
theorem dcb_445 : fd_B cX6_isUsed 18 [42, 27, 3, 182, 0, 191] := fd_o cX6_isUsed 18 _ (by decide +kernel)
theorem dcq_445 : (decode cX6_isUsed 18 = .ok (.aload_n 0, 1)) ∧ (decode cX6_isUsed 19 = .ok (.iload_n 1, 1)) ∧ (decode cX6_isUsed 20 = .ok (.iconst 0, 1)) ∧ (decode cX6_isUsed 21 = .ok (.invokevirtual 191, 3)) := have h := dcb_445; ⟨fd_42 h, have h := fd_t1 h; ⟨fd_27 h, have h := fd_t1 h; ⟨fd_3 h, have h := fd_t1 h; fd_182 h rfl⟩⟩⟩
theorem dX6_isUsed_18 : decode cX6_isUsed 18 = .ok (.aload_n 0, 1) := dcq_445.1
theorem dX6_isUsed_19 : decode cX6_isUsed 19 = .ok (.iload_n 1, 1) := dcq_445.2.1
theorem dX6_isUsed_20 : decode cX6_isUsed 20 = .ok (.iconst 0, 1) := dcq_445.2.2.1
theorem dX6_isUsed_21 : decode cX6_isUsed 21 = .ok (.invokevirtual 191, 3) := dcq_445.2.2.2
set_option maxRecDepth 20000 in
theorem dX6_isUsed_24 : decode cX6_isUsed 24 = .ok (.tableswitch 57 2 5 #[32, 57, 34, 55], 32) := by decide +kernel
set_option maxRecDepth 20000 in
theorem dcb_446 : fd_B cX6_isUsed 56 [28, 172, 28, 153, 0, 18, 42, 180, 0, 7, 7, 46, 6, 112, 154, 0, 7, 4] := fd_o cX6_isUsed 56 _ (by decide +kernel)
theorem dcq_446 : (decode cX6_isUsed 56 = .ok (.iload_n 2, 1)) ∧ (decode cX6_isUsed 57 = .ok (.ireturn, 1)) ∧ (decode cX6_isUsed 58 = .ok (.iload_n 2, 1)) ∧ (decode cX6_isUsed 59 = .ok (.ifCond .eq 18, 3)) ∧ (decode cX6_isUsed 62 = .ok (.aload_n 0, 1)) ∧ (decode cX6_isUsed 63 = .ok (.getfield 7, 3)) ∧ (decode cX6_isUsed 66 = .ok (.iconst 4, 1)) ∧ (decode cX6_isUsed 67 = .ok (.iaload, 1)) ∧ (decode cX6_isUsed 68 = .ok (.iconst 3, 1)) ∧ (decode cX6_isUsed 69 = .ok (.irem, 1)) ∧ (decode cX6_isUsed 70 = .ok (.ifCond .ne 7, 3)) ∧ (decode cX6_isUsed 73 = .ok (.iconst 1, 1)) := have h := dcb_446; ⟨fd_28 h, have h := fd_t1 h; ⟨fd_172 h, have h := fd_t1 h; ⟨fd_28 h, have h := fd_t1 h; ⟨fd_153 h (by decide +kernel), have h := fd_t3 h; ⟨fd_42 h, have h := fd_t1 h; ⟨fd_180 h rfl, have h := fd_t3 h; ⟨fd_7 h, have h := fd_t1 h; ⟨fd_46 h, have h := fd_t1 h; ⟨fd_6 h, have h := fd_t1 h; ⟨fd_112 h, have h := fd_t1 h; ⟨fd_154 h (by decide +kernel), have h := fd_t3 h; fd_4 h⟩⟩⟩⟩⟩⟩⟩⟩⟩⟩⟩
theorem dX6_isUsed_56 : decode cX6_isUsed 56 = .ok (.iload_n 2, 1) := dcq_446.1
theorem dX6_isUsed_57 : decode cX6_isUsed 57 = .ok (.ireturn, 1) := dcq_446.2.1
theorem dX6_isUsed_58 : decode cX6_isUsed 58 = .ok (.iload_n 2, 1) := dcq_446.2.2.1
theorem dX6_isUsed_59 : decode cX6_isUsed 59 = .ok (.ifCond .eq 18, 3) := dcq_446.2.2.2.1
theorem dX6_isUsed_62 : decode cX6_isUsed 62 = .ok (.aload_n 0, 1) := dcq_446.2.2.2.2.1
theorem dX6_isUsed_63 : decode cX6_isUsed 63 = .ok (.getfield 7, 3) := dcq_446.2.2.2.2.2.1
theorem dX6_isUsed_66 : decode cX6_isUsed 66 = .ok (.iconst 4, 1) := dcq_446.2.2.2.2.2.2.1
theorem dX6_isUsed_67 : decode cX6_isUsed 67 = .ok (.iaload, 1) := dcq_446.2.2.2.2.2.2.2.1
theorem dX6_isUsed_68 : decode cX6_isUsed 68 = .ok (.iconst 3, 1) := dcq_446.2.2.2.2.2.2.2.2.1
theorem dX6_isUsed_69 : decode cX6_isUsed 69 = .ok (.irem, 1) := dcq_446.2.2.2.2.2.2.2.2.2.1
theorem dX6_isUsed_70 : decode cX6_isUsed 70 = .ok (.ifCond .ne 7, 3) := dcq_446.2.2.2.2.2.2.2.2.2.2.1
theorem dX6_isUsed_73 : decode cX6_isUsed 73 = .ok (.iconst 1, 1) := dcq_446.2.2.2.2.2.2.2.2.2.2.2
set_option maxRecDepth 20000 in
theorem dcb_447 : fd_B cX6_isUsed 74 [167, 0, 4, 3, 172, 3, 172, 4, 172] := fd_o cX6_isUsed 74 _ (by decide +kernel)
theorem dcq_447 : (decode cX6_isUsed 74 = .ok (.goto 4, 3)) ∧ (decode cX6_isUsed 77 = .ok (.iconst 0, 1)) ∧ (decode cX6_isUsed 78 = .ok (.ireturn, 1)) ∧ (decode cX6_isUsed 79 = .ok (.iconst 0, 1)) ∧ (decode cX6_isUsed 80 = .ok (.ireturn, 1)) ∧ (decode cX6_isUsed 81 = .ok (.iconst 1, 1)) ∧ (decode cX6_isUsed 82 = .ok (.ireturn, 1)) := have h := dcb_447; ⟨fd_167 h (by decide +kernel), have h := fd_t3 h; ⟨fd_3 h, have h := fd_t1 h; ⟨fd_172 h, have h := fd_t1 h; ⟨fd_3 h, have h := fd_t1 h; ⟨fd_172 h, have h := fd_t1 h; ⟨fd_4 h, have h := fd_t1 h; fd_172 h⟩⟩⟩⟩⟩⟩
theorem dX6_isUsed_74 : decode cX6_isUsed 74 = .ok (.goto 4, 3) := dcq_447.1
theorem dX6_isUsed_77 : decode cX6_isUsed 77 = .ok (.iconst 0, 1) := dcq_447.2.1
theorem dX6_isUsed_78 : decode cX6_isUsed 78 = .ok (.ireturn, 1) := dcq_447.2.2.1
theorem dX6_isUsed_79 : decode cX6_isUsed 79 = .ok (.iconst 0, 1) := dcq_447.2.2.2.1
theorem dX6_isUsed_80 : decode cX6_isUsed 80 = .ok (.ireturn, 1) := dcq_447.2.2.2.2.1
theorem dX6_isUsed_81 : decode cX6_isUsed 81 = .ok (.iconst 1, 1) := dcq_447.2.2.2.2.2.1
theorem dX6_isUsed_82 : decode cX6_isUsed 82 = .ok (.ireturn, 1) := dcq_447.2.2.2.2.2.2
set_option maxRecDepth 20000 in
theorem dcb_448 : fd_B cX6_does 0 [42, 27, 182, 0, 188, 154, 0, 5, 2, 172, 28] := fd_o cX6_does 0 _ (by decide +kernel)
theorem dcq_448 : (decode cX6_does 0 = .ok (.aload_n 0, 1)) ∧ (decode cX6_does 1 = .ok (.iload_n 1, 1)) ∧ (decode cX6_does 2 = .ok (.invokevirtual 188, 3)) ∧ (decode cX6_does 5 = .ok (.ifCond .ne 5, 3)) ∧ (decode cX6_does 8 = .ok (.iconst (-1), 1)) ∧ (decode cX6_does 9 = .ok (.ireturn, 1)) ∧ (decode cX6_does 10 = .ok (.iload_n 2, 1)) := have h := dcb_448; ⟨fd_42 h, have h := fd_t1 h; ⟨fd_27 h, have h := fd_t1 h; ⟨fd_182 h rfl, have h := fd_t3 h; ⟨fd_154 h (by decide +kernel), have h := fd_t3 h; ⟨fd_2 h, have h := fd_t1 h; ⟨fd_172 h, have h := fd_t1 h; fd_28 h⟩⟩⟩⟩⟩⟩
theorem dX6_does_0 : decode cX6_does 0 = .ok (.aload_n 0, 1) := dcq_448.1
theorem dX6_does_1 : decode cX6_does 1 = .ok (.iload_n 1, 1) := dcq_448.2.1
theorem dX6_does_2 : decode cX6_does 2 = .ok (.invokevirtual 188, 3) := dcq_448.2.2.1
theorem dX6_does_5 : decode cX6_does 5 = .ok (.ifCond .ne 5, 3) := dcq_448.2.2.2.1
theorem dX6_does_8 : decode cX6_does 8 = .ok (.iconst (-1), 1) := dcq_448.2.2.2.2.1
theorem dX6_does_9 : decode cX6_does 9 = .ok (.ireturn, 1) := dcq_448.2.2.2.2.2.1
theorem dX6_does_10 : decode cX6_does 10 = .ok (.iload_n 2, 1) := dcq_448.2.2.2.2.2.2
set_option maxRecDepth 20000 in
theorem dX6_does_11 : decode cX6_does 11 = .ok (.tableswitch 77 0 3 #[29, 39, 49, 59], 29) := by decide +kernel
set_option maxRecDepth 20000 in
theorem dcb_449 : fd_B cX6_does 40 [17, 3, 232, 42, 27, 182, 0, 198, 96, 172, 17, 3, 232, 42, 27, 182, 0, 201, 96, 172] := fd_o cX6_does 40 _ (by decide +kernel)
theorem dcq_449 : (decode cX6_does 40 = .ok (.sipush 1000, 3)) ∧ (decode cX6_does 43 = .ok (.aload_n 0, 1)) ∧ (decode cX6_does 44 = .ok (.iload_n 1, 1)) ∧ (decode cX6_does 45 = .ok (.invokevirtual 198, 3)) ∧ (decode cX6_does 48 = .ok (.iadd, 1)) ∧ (decode cX6_does 49 = .ok (.ireturn, 1)) ∧ (decode cX6_does 50 = .ok (.sipush 1000, 3)) ∧ (decode cX6_does 53 = .ok (.aload_n 0, 1)) ∧ (decode cX6_does 54 = .ok (.iload_n 1, 1)) ∧ (decode cX6_does 55 = .ok (.invokevirtual 201, 3)) ∧ (decode cX6_does 58 = .ok (.iadd, 1)) ∧ (decode cX6_does 59 = .ok (.ireturn, 1)) := have h := dcb_449; ⟨fd_17 h (by decide +kernel), have h := fd_t3 h; ⟨fd_42 h, have h := fd_t1 h; ⟨fd_27 h, have h := fd_t1 h; ⟨fd_182 h rfl, have h := fd_t3 h; ⟨fd_96 h, have h := fd_t1 h; ⟨fd_172 h, have h := fd_t1 h; ⟨fd_17 h (by decide +kernel), have h := fd_t3 h; ⟨fd_42 h, have h := fd_t1 h; ⟨fd_27 h, have h := fd_t1 h; ⟨fd_182 h rfl, have h := fd_t3 h; ⟨fd_96 h, have h := fd_t1 h; fd_172 h⟩⟩⟩⟩⟩⟩⟩⟩⟩⟩⟩
theorem dX6_does_40 : decode cX6_does 40 = .ok (.sipush 1000, 3) := dcq_449.1
theorem dX6_does_43 : decode cX6_does 43 = .ok (.aload_n 0, 1) := dcq_449.2.1
theorem dX6_does_44 : decode cX6_does 44 = .ok (.iload_n 1, 1) := dcq_449.2.2.1
theorem dX6_does_45 : decode cX6_does 45 = .ok (.invokevirtual 198, 3) := dcq_449.2.2.2.1
theorem dX6_does_48 : decode cX6_does 48 = .ok (.iadd, 1) := dcq_449.2.2.2.2.1
theorem dX6_does_49 : decode cX6_does 49 = .ok (.ireturn, 1) := dcq_449.2.2.2.2.2.1
theorem dX6_does_50 : decode cX6_does 50 = .ok (.sipush 1000, 3) := dcq_449.2.2.2.2.2.2.1
theorem dX6_does_53 : decode cX6_does 53 = .ok (.aload_n 0, 1) := dcq_449.2.2.2.2.2.2.2.1
theorem dX6_does_54 : decode cX6_does 54 = .ok (.iload_n 1, 1) := dcq_449.2.2.2.2.2.2.2.2.1
theorem dX6_does_55 : decode cX6_does 55 = .ok (.invokevirtual 201, 3) := dcq_449.2.2.2.2.2.2.2.2.2.1
theorem dX6_does_58 : decode cX6_does 58 = .ok (.iadd, 1) := dcq_449.2.2.2.2.2.2.2.2.2.2.1
theorem dX6_does_59 : decode cX6_does 59 = .ok (.ireturn, 1) := dcq_449.2.2.2.2.2.2.2.2.2.2.2
set_option maxRecDepth 20000 in
theorem dcb_450 : fd_B cX6_does 60 [17, 3, 232, 42, 27, 182, 0, 204, 96, 172, 42, 27, 182, 0, 207, 153, 0, 9, 17, 3, 233, 167, 0, 6] := fd_o cX6_does 60 _ (by decide +kernel)
theorem dcq_450 : (decode cX6_does 60 = .ok (.sipush 1000, 3)) ∧ (decode cX6_does 63 = .ok (.aload_n 0, 1)) ∧ (decode cX6_does 64 = .ok (.iload_n 1, 1)) ∧ (decode cX6_does 65 = .ok (.invokevirtual 204, 3)) ∧ (decode cX6_does 68 = .ok (.iadd, 1)) ∧ (decode cX6_does 69 = .ok (.ireturn, 1)) ∧ (decode cX6_does 70 = .ok (.aload_n 0, 1)) ∧ (decode cX6_does 71 = .ok (.iload_n 1, 1)) ∧ (decode cX6_does 72 = .ok (.invokevirtual 207, 3)) ∧ (decode cX6_does 75 = .ok (.ifCond .eq 9, 3)) ∧ (decode cX6_does 78 = .ok (.sipush 1001, 3)) ∧ (decode cX6_does 81 = .ok (.goto 6, 3)) := have h := dcb_450; ⟨fd_17 h (by decide +kernel), have h := fd_t3 h; ⟨fd_42 h, have h := fd_t1 h; ⟨fd_27 h, have h := fd_t1 h; ⟨fd_182 h rfl, have h := fd_t3 h; ⟨fd_96 h, have h := fd_t1 h; ⟨fd_172 h, have h := fd_t1 h; ⟨fd_42 h, have h := fd_t1 h; ⟨fd_27 h, have h := fd_t1 h; ⟨fd_182 h rfl, have h := fd_t3 h; ⟨fd_153 h (by decide +kernel), have h := fd_t3 h; ⟨fd_17 h (by decide +kernel), have h := fd_t3 h; fd_167 h (by decide +kernel)⟩⟩⟩⟩⟩⟩⟩⟩⟩⟩⟩
theorem dX6_does_60 : decode cX6_does 60 = .ok (.sipush 1000, 3) := dcq_450.1
theorem dX6_does_63 : decode cX6_does 63 = .ok (.aload_n 0, 1) := dcq_450.2.1
theorem dX6_does_64 : decode cX6_does 64 = .ok (.iload_n 1, 1) := dcq_450.2.2.1
theorem dX6_does_65 : decode cX6_does 65 = .ok (.invokevirtual 204, 3) := dcq_450.2.2.2.1
theorem dX6_does_68 : decode cX6_does 68 = .ok (.iadd, 1) := dcq_450.2.2.2.2.1
theorem dX6_does_69 : decode cX6_does 69 = .ok (.ireturn, 1) := dcq_450.2.2.2.2.2.1
theorem dX6_does_70 : decode cX6_does 70 = .ok (.aload_n 0, 1) := dcq_450.2.2.2.2.2.2.1
theorem dX6_does_71 : decode cX6_does 71 = .ok (.iload_n 1, 1) := dcq_450.2.2.2.2.2.2.2.1
theorem dX6_does_72 : decode cX6_does 72 = .ok (.invokevirtual 207, 3) := dcq_450.2.2.2.2.2.2.2.2.1
theorem dX6_does_75 : decode cX6_does 75 = .ok (.ifCond .eq 9, 3) := dcq_450.2.2.2.2.2.2.2.2.2.1
theorem dX6_does_78 : decode cX6_does 78 = .ok (.sipush 1001, 3) := dcq_450.2.2.2.2.2.2.2.2.2.2.1
theorem dX6_does_81 : decode cX6_does 81 = .ok (.goto 6, 3) := dcq_450.2.2.2.2.2.2.2.2.2.2.2
set_option maxRecDepth 20000 in
theorem dcb_451 : fd_B cX6_does 84 [17, 3, 232, 172, 2, 172] := fd_o cX6_does 84 _ (by decide +kernel)
theorem dcq_451 : (decode cX6_does 84 = .ok (.sipush 1000, 3)) ∧ (decode cX6_does 87 = .ok (.ireturn, 1)) ∧ (decode cX6_does 88 = .ok (.iconst (-1), 1)) ∧ (decode cX6_does 89 = .ok (.ireturn, 1)) := have h := dcb_451; ⟨fd_17 h (by decide +kernel), have h := fd_t3 h; ⟨fd_172 h, have h := fd_t1 h; ⟨fd_2 h, have h := fd_t1 h; fd_172 h⟩⟩⟩
theorem dX6_does_84 : decode cX6_does 84 = .ok (.sipush 1000, 3) := dcq_451.1
theorem dX6_does_87 : decode cX6_does 87 = .ok (.ireturn, 1) := dcq_451.2.1
theorem dX6_does_88 : decode cX6_does 88 = .ok (.iconst (-1), 1) := dcq_451.2.2.1
theorem dX6_does_89 : decode cX6_does 89 = .ok (.ireturn, 1) := dcq_451.2.2.2
set_option maxRecDepth 20000 in
theorem dcb_452 : fd_B cX6_mind 0 [42, 27, 182, 0, 188, 153, 0, 11, 28, 29, 184, 0, 180, 154, 0, 5, 2, 172, 42, 27] := fd_o cX6_mind 0 _ (by decide +kernel)
theorem dcq_452 : (decode cX6_mind 0 = .ok (.aload_n 0, 1)) ∧ (decode cX6_mind 1 = .ok (.iload_n 1, 1)) ∧ (decode cX6_mind 2 = .ok (.invokevirtual 188, 3)) ∧ (decode cX6_mind 5 = .ok (.ifCond .eq 11, 3)) ∧ (decode cX6_mind 8 = .ok (.iload_n 2, 1)) ∧ (decode cX6_mind 9 = .ok (.iload_n 3, 1)) ∧ (decode cX6_mind 10 = .ok (.invokestatic 180, 3)) ∧ (decode cX6_mind 13 = .ok (.ifCond .ne 5, 3)) ∧ (decode cX6_mind 16 = .ok (.iconst (-1), 1)) ∧ (decode cX6_mind 17 = .ok (.ireturn, 1)) ∧ (decode cX6_mind 18 = .ok (.aload_n 0, 1)) ∧ (decode cX6_mind 19 = .ok (.iload_n 1, 1)) := have h := dcb_452; ⟨fd_42 h, have h := fd_t1 h; ⟨fd_27 h, have h := fd_t1 h; ⟨fd_182 h rfl, have h := fd_t3 h; ⟨fd_153 h (by decide +kernel), have h := fd_t3 h; ⟨fd_28 h, have h := fd_t1 h; ⟨fd_29 h, have h := fd_t1 h; ⟨fd_184 h rfl, have h := fd_t3 h; ⟨fd_154 h (by decide +kernel), have h := fd_t3 h; ⟨fd_2 h, have h := fd_t1 h; ⟨fd_172 h, have h := fd_t1 h; ⟨fd_42 h, have h := fd_t1 h; fd_27 h⟩⟩⟩⟩⟩⟩⟩⟩⟩⟩⟩
theorem dX6_mind_0 : decode cX6_mind 0 = .ok (.aload_n 0, 1) := dcq_452.1
theorem dX6_mind_1 : decode cX6_mind 1 = .ok (.iload_n 1, 1) := dcq_452.2.1
theorem dX6_mind_2 : decode cX6_mind 2 = .ok (.invokevirtual 188, 3) := dcq_452.2.2.1
theorem dX6_mind_5 : decode cX6_mind 5 = .ok (.ifCond .eq 11, 3) := dcq_452.2.2.2.1
theorem dX6_mind_8 : decode cX6_mind 8 = .ok (.iload_n 2, 1) := dcq_452.2.2.2.2.1
theorem dX6_mind_9 : decode cX6_mind 9 = .ok (.iload_n 3, 1) := dcq_452.2.2.2.2.2.1
theorem dX6_mind_10 : decode cX6_mind 10 = .ok (.invokestatic 180, 3) := dcq_452.2.2.2.2.2.2.1
theorem dX6_mind_13 : decode cX6_mind 13 = .ok (.ifCond .ne 5, 3) := dcq_452.2.2.2.2.2.2.2.1
theorem dX6_mind_16 : decode cX6_mind 16 = .ok (.iconst (-1), 1) := dcq_452.2.2.2.2.2.2.2.2.1
theorem dX6_mind_17 : decode cX6_mind 17 = .ok (.ireturn, 1) := dcq_452.2.2.2.2.2.2.2.2.2.1
theorem dX6_mind_18 : decode cX6_mind 18 = .ok (.aload_n 0, 1) := dcq_452.2.2.2.2.2.2.2.2.2.2.1
theorem dX6_mind_19 : decode cX6_mind 19 = .ok (.iload_n 1, 1) := dcq_452.2.2.2.2.2.2.2.2.2.2.2
set_option maxRecDepth 20000 in
theorem dcb_453 : fd_B cX6_mind 20 [5, 29, 182, 0, 184, 42, 16, 8, 16, 6, 27, 104, 96, 28, 182, 0, 177, 172] := fd_o cX6_mind 20 _ (by decide +kernel)
theorem dcq_453 : (decode cX6_mind 20 = .ok (.iconst 2, 1)) ∧ (decode cX6_mind 21 = .ok (.iload_n 3, 1)) ∧ (decode cX6_mind 22 = .ok (.invokevirtual 184, 3)) ∧ (decode cX6_mind 25 = .ok (.aload_n 0, 1)) ∧ (decode cX6_mind 26 = .ok (.bipush 8, 2)) ∧ (decode cX6_mind 28 = .ok (.bipush 6, 2)) ∧ (decode cX6_mind 30 = .ok (.iload_n 1, 1)) ∧ (decode cX6_mind 31 = .ok (.imul, 1)) ∧ (decode cX6_mind 32 = .ok (.iadd, 1)) ∧ (decode cX6_mind 33 = .ok (.iload_n 2, 1)) ∧ (decode cX6_mind 34 = .ok (.invokevirtual 177, 3)) ∧ (decode cX6_mind 37 = .ok (.ireturn, 1)) := have h := dcb_453; ⟨fd_5 h, have h := fd_t1 h; ⟨fd_29 h, have h := fd_t1 h; ⟨fd_182 h rfl, have h := fd_t3 h; ⟨fd_42 h, have h := fd_t1 h; ⟨fd_16 h (by decide +kernel), have h := fd_t2 h; ⟨fd_16 h (by decide +kernel), have h := fd_t2 h; ⟨fd_27 h, have h := fd_t1 h; ⟨fd_104 h, have h := fd_t1 h; ⟨fd_96 h, have h := fd_t1 h; ⟨fd_28 h, have h := fd_t1 h; ⟨fd_182 h rfl, have h := fd_t3 h; fd_172 h⟩⟩⟩⟩⟩⟩⟩⟩⟩⟩⟩
theorem dX6_mind_20 : decode cX6_mind 20 = .ok (.iconst 2, 1) := dcq_453.1
theorem dX6_mind_21 : decode cX6_mind 21 = .ok (.iload_n 3, 1) := dcq_453.2.1
theorem dX6_mind_22 : decode cX6_mind 22 = .ok (.invokevirtual 184, 3) := dcq_453.2.2.1
theorem dX6_mind_25 : decode cX6_mind 25 = .ok (.aload_n 0, 1) := dcq_453.2.2.2.1
theorem dX6_mind_26 : decode cX6_mind 26 = .ok (.bipush 8, 2) := dcq_453.2.2.2.2.1
theorem dX6_mind_28 : decode cX6_mind 28 = .ok (.bipush 6, 2) := dcq_453.2.2.2.2.2.1
theorem dX6_mind_30 : decode cX6_mind 30 = .ok (.iload_n 1, 1) := dcq_453.2.2.2.2.2.2.1
theorem dX6_mind_31 : decode cX6_mind 31 = .ok (.imul, 1) := dcq_453.2.2.2.2.2.2.2.1
theorem dX6_mind_32 : decode cX6_mind 32 = .ok (.iadd, 1) := dcq_453.2.2.2.2.2.2.2.2.1
theorem dX6_mind_33 : decode cX6_mind 33 = .ok (.iload_n 2, 1) := dcq_453.2.2.2.2.2.2.2.2.2.1
theorem dX6_mind_34 : decode cX6_mind 34 = .ok (.invokevirtual 177, 3) := dcq_453.2.2.2.2.2.2.2.2.2.2.1
theorem dX6_mind_37 : decode cX6_mind 37 = .ok (.ireturn, 1) := dcq_453.2.2.2.2.2.2.2.2.2.2.2
set_option maxRecDepth 20000 in
theorem dcb_454 : fd_B cX6_thought 0 [42, 27, 182, 0, 188, 153, 0, 30, 28, 3, 16, 99, 184, 0, 60, 153, 0, 20, 42, 16, 8, 16, 6] := fd_o cX6_thought 0 _ (by decide +kernel)
theorem dcq_454 : (decode cX6_thought 0 = .ok (.aload_n 0, 1)) ∧ (decode cX6_thought 1 = .ok (.iload_n 1, 1)) ∧ (decode cX6_thought 2 = .ok (.invokevirtual 188, 3)) ∧ (decode cX6_thought 5 = .ok (.ifCond .eq 30, 3)) ∧ (decode cX6_thought 8 = .ok (.iload_n 2, 1)) ∧ (decode cX6_thought 9 = .ok (.iconst 0, 1)) ∧ (decode cX6_thought 10 = .ok (.bipush 99, 2)) ∧ (decode cX6_thought 12 = .ok (.invokestatic 60, 3)) ∧ (decode cX6_thought 15 = .ok (.ifCond .eq 20, 3)) ∧ (decode cX6_thought 18 = .ok (.aload_n 0, 1)) ∧ (decode cX6_thought 19 = .ok (.bipush 8, 2)) ∧ (decode cX6_thought 21 = .ok (.bipush 6, 2)) := have h := dcb_454; ⟨fd_42 h, have h := fd_t1 h; ⟨fd_27 h, have h := fd_t1 h; ⟨fd_182 h rfl, have h := fd_t3 h; ⟨fd_153 h (by decide +kernel), have h := fd_t3 h; ⟨fd_28 h, have h := fd_t1 h; ⟨fd_3 h, have h := fd_t1 h; ⟨fd_16 h (by decide +kernel), have h := fd_t2 h; ⟨fd_184 h rfl, have h := fd_t3 h; ⟨fd_153 h (by decide +kernel), have h := fd_t3 h; ⟨fd_42 h, have h := fd_t1 h; ⟨fd_16 h (by decide +kernel), have h := fd_t2 h; fd_16 h (by decide +kernel)⟩⟩⟩⟩⟩⟩⟩⟩⟩⟩⟩
theorem dX6_thought_0 : decode cX6_thought 0 = .ok (.aload_n 0, 1) := dcq_454.1
theorem dX6_thought_1 : decode cX6_thought 1 = .ok (.iload_n 1, 1) := dcq_454.2.1
theorem dX6_thought_2 : decode cX6_thought 2 = .ok (.invokevirtual 188, 3) := dcq_454.2.2.1
theorem dX6_thought_5 : decode cX6_thought 5 = .ok (.ifCond .eq 30, 3) := dcq_454.2.2.2.1
theorem dX6_thought_8 : decode cX6_thought 8 = .ok (.iload_n 2, 1) := dcq_454.2.2.2.2.1
theorem dX6_thought_9 : decode cX6_thought 9 = .ok (.iconst 0, 1) := dcq_454.2.2.2.2.2.1
theorem dX6_thought_10 : decode cX6_thought 10 = .ok (.bipush 99, 2) := dcq_454.2.2.2.2.2.2.1
theorem dX6_thought_12 : decode cX6_thought 12 = .ok (.invokestatic 60, 3) := dcq_454.2.2.2.2.2.2.2.1
theorem dX6_thought_15 : decode cX6_thought 15 = .ok (.ifCond .eq 20, 3) := dcq_454.2.2.2.2.2.2.2.2.1
theorem dX6_thought_18 : decode cX6_thought 18 = .ok (.aload_n 0, 1) := dcq_454.2.2.2.2.2.2.2.2.2.1
theorem dX6_thought_19 : decode cX6_thought 19 = .ok (.bipush 8, 2) := dcq_454.2.2.2.2.2.2.2.2.2.2.1
theorem dX6_thought_21 : decode cX6_thought 21 = .ok (.bipush 6, 2) := dcq_454.2.2.2.2.2.2.2.2.2.2.2
set_option maxRecDepth 20000 in
theorem dcb_455 : fd_B cX6_thought 23 [27, 104, 96, 4, 96, 28, 182, 0, 177, 167, 0, 4, 2, 172] := fd_o cX6_thought 23 _ (by decide +kernel)
theorem dcq_455 : (decode cX6_thought 23 = .ok (.iload_n 1, 1)) ∧ (decode cX6_thought 24 = .ok (.imul, 1)) ∧ (decode cX6_thought 25 = .ok (.iadd, 1)) ∧ (decode cX6_thought 26 = .ok (.iconst 1, 1)) ∧ (decode cX6_thought 27 = .ok (.iadd, 1)) ∧ (decode cX6_thought 28 = .ok (.iload_n 2, 1)) ∧ (decode cX6_thought 29 = .ok (.invokevirtual 177, 3)) ∧ (decode cX6_thought 32 = .ok (.goto 4, 3)) ∧ (decode cX6_thought 35 = .ok (.iconst (-1), 1)) ∧ (decode cX6_thought 36 = .ok (.ireturn, 1)) := have h := dcb_455; ⟨fd_27 h, have h := fd_t1 h; ⟨fd_104 h, have h := fd_t1 h; ⟨fd_96 h, have h := fd_t1 h; ⟨fd_4 h, have h := fd_t1 h; ⟨fd_96 h, have h := fd_t1 h; ⟨fd_28 h, have h := fd_t1 h; ⟨fd_182 h rfl, have h := fd_t3 h; ⟨fd_167 h (by decide +kernel), have h := fd_t3 h; ⟨fd_2 h, have h := fd_t1 h; fd_172 h⟩⟩⟩⟩⟩⟩⟩⟩⟩
theorem dX6_thought_23 : decode cX6_thought 23 = .ok (.iload_n 1, 1) := dcq_455.1
theorem dX6_thought_24 : decode cX6_thought 24 = .ok (.imul, 1) := dcq_455.2.1
theorem dX6_thought_25 : decode cX6_thought 25 = .ok (.iadd, 1) := dcq_455.2.2.1
theorem dX6_thought_26 : decode cX6_thought 26 = .ok (.iconst 1, 1) := dcq_455.2.2.2.1
theorem dX6_thought_27 : decode cX6_thought 27 = .ok (.iadd, 1) := dcq_455.2.2.2.2.1
theorem dX6_thought_28 : decode cX6_thought 28 = .ok (.iload_n 2, 1) := dcq_455.2.2.2.2.2.1
theorem dX6_thought_29 : decode cX6_thought 29 = .ok (.invokevirtual 177, 3) := dcq_455.2.2.2.2.2.2.1
theorem dX6_thought_32 : decode cX6_thought 32 = .ok (.goto 4, 3) := dcq_455.2.2.2.2.2.2.2.1
theorem dX6_thought_35 : decode cX6_thought 35 = .ok (.iconst (-1), 1) := dcq_455.2.2.2.2.2.2.2.2.1
theorem dX6_thought_36 : decode cX6_thought 36 = .ok (.ireturn, 1) := dcq_455.2.2.2.2.2.2.2.2.2
set_option maxRecDepth 20000 in
theorem dcb_456 : fd_B cX6_own 0 [42, 27, 182, 0, 188, 153, 0, 30, 28, 3, 16, 99, 184, 0, 60, 153, 0, 20, 42, 16, 8, 16, 6] := fd_o cX6_own 0 _ (by decide +kernel)
theorem dcq_456 : (decode cX6_own 0 = .ok (.aload_n 0, 1)) ∧ (decode cX6_own 1 = .ok (.iload_n 1, 1)) ∧ (decode cX6_own 2 = .ok (.invokevirtual 188, 3)) ∧ (decode cX6_own 5 = .ok (.ifCond .eq 30, 3)) ∧ (decode cX6_own 8 = .ok (.iload_n 2, 1)) ∧ (decode cX6_own 9 = .ok (.iconst 0, 1)) ∧ (decode cX6_own 10 = .ok (.bipush 99, 2)) ∧ (decode cX6_own 12 = .ok (.invokestatic 60, 3)) ∧ (decode cX6_own 15 = .ok (.ifCond .eq 20, 3)) ∧ (decode cX6_own 18 = .ok (.aload_n 0, 1)) ∧ (decode cX6_own 19 = .ok (.bipush 8, 2)) ∧ (decode cX6_own 21 = .ok (.bipush 6, 2)) := have h := dcb_456; ⟨fd_42 h, have h := fd_t1 h; ⟨fd_27 h, have h := fd_t1 h; ⟨fd_182 h rfl, have h := fd_t3 h; ⟨fd_153 h (by decide +kernel), have h := fd_t3 h; ⟨fd_28 h, have h := fd_t1 h; ⟨fd_3 h, have h := fd_t1 h; ⟨fd_16 h (by decide +kernel), have h := fd_t2 h; ⟨fd_184 h rfl, have h := fd_t3 h; ⟨fd_153 h (by decide +kernel), have h := fd_t3 h; ⟨fd_42 h, have h := fd_t1 h; ⟨fd_16 h (by decide +kernel), have h := fd_t2 h; fd_16 h (by decide +kernel)⟩⟩⟩⟩⟩⟩⟩⟩⟩⟩⟩
theorem dX6_own_0 : decode cX6_own 0 = .ok (.aload_n 0, 1) := dcq_456.1
theorem dX6_own_1 : decode cX6_own 1 = .ok (.iload_n 1, 1) := dcq_456.2.1
theorem dX6_own_2 : decode cX6_own 2 = .ok (.invokevirtual 188, 3) := dcq_456.2.2.1
theorem dX6_own_5 : decode cX6_own 5 = .ok (.ifCond .eq 30, 3) := dcq_456.2.2.2.1
theorem dX6_own_8 : decode cX6_own 8 = .ok (.iload_n 2, 1) := dcq_456.2.2.2.2.1
theorem dX6_own_9 : decode cX6_own 9 = .ok (.iconst 0, 1) := dcq_456.2.2.2.2.2.1
theorem dX6_own_10 : decode cX6_own 10 = .ok (.bipush 99, 2) := dcq_456.2.2.2.2.2.2.1
theorem dX6_own_12 : decode cX6_own 12 = .ok (.invokestatic 60, 3) := dcq_456.2.2.2.2.2.2.2.1
theorem dX6_own_15 : decode cX6_own 15 = .ok (.ifCond .eq 20, 3) := dcq_456.2.2.2.2.2.2.2.2.1
theorem dX6_own_18 : decode cX6_own 18 = .ok (.aload_n 0, 1) := dcq_456.2.2.2.2.2.2.2.2.2.1
theorem dX6_own_19 : decode cX6_own 19 = .ok (.bipush 8, 2) := dcq_456.2.2.2.2.2.2.2.2.2.2.1
theorem dX6_own_21 : decode cX6_own 21 = .ok (.bipush 6, 2) := dcq_456.2.2.2.2.2.2.2.2.2.2.2
set_option maxRecDepth 20000 in
theorem dcb_457 : fd_B cX6_own 23 [27, 104, 96, 6, 96, 28, 182, 0, 177, 167, 0, 4, 2, 172] := fd_o cX6_own 23 _ (by decide +kernel)
theorem dcq_457 : (decode cX6_own 23 = .ok (.iload_n 1, 1)) ∧ (decode cX6_own 24 = .ok (.imul, 1)) ∧ (decode cX6_own 25 = .ok (.iadd, 1)) ∧ (decode cX6_own 26 = .ok (.iconst 3, 1)) ∧ (decode cX6_own 27 = .ok (.iadd, 1)) ∧ (decode cX6_own 28 = .ok (.iload_n 2, 1)) ∧ (decode cX6_own 29 = .ok (.invokevirtual 177, 3)) ∧ (decode cX6_own 32 = .ok (.goto 4, 3)) ∧ (decode cX6_own 35 = .ok (.iconst (-1), 1)) ∧ (decode cX6_own 36 = .ok (.ireturn, 1)) := have h := dcb_457; ⟨fd_27 h, have h := fd_t1 h; ⟨fd_104 h, have h := fd_t1 h; ⟨fd_96 h, have h := fd_t1 h; ⟨fd_6 h, have h := fd_t1 h; ⟨fd_96 h, have h := fd_t1 h; ⟨fd_28 h, have h := fd_t1 h; ⟨fd_182 h rfl, have h := fd_t3 h; ⟨fd_167 h (by decide +kernel), have h := fd_t3 h; ⟨fd_2 h, have h := fd_t1 h; fd_172 h⟩⟩⟩⟩⟩⟩⟩⟩⟩
theorem dX6_own_23 : decode cX6_own 23 = .ok (.iload_n 1, 1) := dcq_457.1
theorem dX6_own_24 : decode cX6_own 24 = .ok (.imul, 1) := dcq_457.2.1
theorem dX6_own_25 : decode cX6_own 25 = .ok (.iadd, 1) := dcq_457.2.2.1
theorem dX6_own_26 : decode cX6_own 26 = .ok (.iconst 3, 1) := dcq_457.2.2.2.1
theorem dX6_own_27 : decode cX6_own 27 = .ok (.iadd, 1) := dcq_457.2.2.2.2.1
theorem dX6_own_28 : decode cX6_own 28 = .ok (.iload_n 2, 1) := dcq_457.2.2.2.2.2.1
theorem dX6_own_29 : decode cX6_own 29 = .ok (.invokevirtual 177, 3) := dcq_457.2.2.2.2.2.2.1
theorem dX6_own_32 : decode cX6_own 32 = .ok (.goto 4, 3) := dcq_457.2.2.2.2.2.2.2.1
theorem dX6_own_35 : decode cX6_own 35 = .ok (.iconst (-1), 1) := dcq_457.2.2.2.2.2.2.2.2.1
theorem dX6_own_36 : decode cX6_own 36 = .ok (.ireturn, 1) := dcq_457.2.2.2.2.2.2.2.2.2
set_option maxRecDepth 20000 in
theorem dcb_458 : fd_B cX6_give 0 [42, 27, 182, 0, 188, 153, 0, 16, 42, 28, 182, 0, 188, 153, 0, 8, 27, 28, 160, 0, 5, 2] := fd_o cX6_give 0 _ (by decide +kernel)
theorem dcq_458 : (decode cX6_give 0 = .ok (.aload_n 0, 1)) ∧ (decode cX6_give 1 = .ok (.iload_n 1, 1)) ∧ (decode cX6_give 2 = .ok (.invokevirtual 188, 3)) ∧ (decode cX6_give 5 = .ok (.ifCond .eq 16, 3)) ∧ (decode cX6_give 8 = .ok (.aload_n 0, 1)) ∧ (decode cX6_give 9 = .ok (.iload_n 2, 1)) ∧ (decode cX6_give 10 = .ok (.invokevirtual 188, 3)) ∧ (decode cX6_give 13 = .ok (.ifCond .eq 8, 3)) ∧ (decode cX6_give 16 = .ok (.iload_n 1, 1)) ∧ (decode cX6_give 17 = .ok (.iload_n 2, 1)) ∧ (decode cX6_give 18 = .ok (.if_icmp .ne 5, 3)) ∧ (decode cX6_give 21 = .ok (.iconst (-1), 1)) := have h := dcb_458; ⟨fd_42 h, have h := fd_t1 h; ⟨fd_27 h, have h := fd_t1 h; ⟨fd_182 h rfl, have h := fd_t3 h; ⟨fd_153 h (by decide +kernel), have h := fd_t3 h; ⟨fd_42 h, have h := fd_t1 h; ⟨fd_28 h, have h := fd_t1 h; ⟨fd_182 h rfl, have h := fd_t3 h; ⟨fd_153 h (by decide +kernel), have h := fd_t3 h; ⟨fd_27 h, have h := fd_t1 h; ⟨fd_28 h, have h := fd_t1 h; ⟨fd_160 h (by decide +kernel), have h := fd_t3 h; fd_2 h⟩⟩⟩⟩⟩⟩⟩⟩⟩⟩⟩
theorem dX6_give_0 : decode cX6_give 0 = .ok (.aload_n 0, 1) := dcq_458.1
theorem dX6_give_1 : decode cX6_give 1 = .ok (.iload_n 1, 1) := dcq_458.2.1
theorem dX6_give_2 : decode cX6_give 2 = .ok (.invokevirtual 188, 3) := dcq_458.2.2.1
theorem dX6_give_5 : decode cX6_give 5 = .ok (.ifCond .eq 16, 3) := dcq_458.2.2.2.1
theorem dX6_give_8 : decode cX6_give 8 = .ok (.aload_n 0, 1) := dcq_458.2.2.2.2.1
theorem dX6_give_9 : decode cX6_give 9 = .ok (.iload_n 2, 1) := dcq_458.2.2.2.2.2.1
theorem dX6_give_10 : decode cX6_give 10 = .ok (.invokevirtual 188, 3) := dcq_458.2.2.2.2.2.2.1
theorem dX6_give_13 : decode cX6_give 13 = .ok (.ifCond .eq 8, 3) := dcq_458.2.2.2.2.2.2.2.1
theorem dX6_give_16 : decode cX6_give 16 = .ok (.iload_n 1, 1) := dcq_458.2.2.2.2.2.2.2.2.1
theorem dX6_give_17 : decode cX6_give 17 = .ok (.iload_n 2, 1) := dcq_458.2.2.2.2.2.2.2.2.2.1
theorem dX6_give_18 : decode cX6_give 18 = .ok (.if_icmp .ne 5, 3) := dcq_458.2.2.2.2.2.2.2.2.2.2.1
theorem dX6_give_21 : decode cX6_give 21 = .ok (.iconst (-1), 1) := dcq_458.2.2.2.2.2.2.2.2.2.2.2
set_option maxRecDepth 20000 in
theorem dcb_459 : fd_B cX6_give 22 [172, 42, 27, 6, 182, 0, 191, 153, 0, 14, 42, 28, 6, 182, 0, 191, 16, 99, 160, 0, 6] := fd_o cX6_give 22 _ (by decide +kernel)
theorem dcq_459 : (decode cX6_give 22 = .ok (.ireturn, 1)) ∧ (decode cX6_give 23 = .ok (.aload_n 0, 1)) ∧ (decode cX6_give 24 = .ok (.iload_n 1, 1)) ∧ (decode cX6_give 25 = .ok (.iconst 3, 1)) ∧ (decode cX6_give 26 = .ok (.invokevirtual 191, 3)) ∧ (decode cX6_give 29 = .ok (.ifCond .eq 14, 3)) ∧ (decode cX6_give 32 = .ok (.aload_n 0, 1)) ∧ (decode cX6_give 33 = .ok (.iload_n 2, 1)) ∧ (decode cX6_give 34 = .ok (.iconst 3, 1)) ∧ (decode cX6_give 35 = .ok (.invokevirtual 191, 3)) ∧ (decode cX6_give 38 = .ok (.bipush 99, 2)) ∧ (decode cX6_give 40 = .ok (.if_icmp .ne 6, 3)) := have h := dcb_459; ⟨fd_172 h, have h := fd_t1 h; ⟨fd_42 h, have h := fd_t1 h; ⟨fd_27 h, have h := fd_t1 h; ⟨fd_6 h, have h := fd_t1 h; ⟨fd_182 h rfl, have h := fd_t3 h; ⟨fd_153 h (by decide +kernel), have h := fd_t3 h; ⟨fd_42 h, have h := fd_t1 h; ⟨fd_28 h, have h := fd_t1 h; ⟨fd_6 h, have h := fd_t1 h; ⟨fd_182 h rfl, have h := fd_t3 h; ⟨fd_16 h (by decide +kernel), have h := fd_t2 h; fd_160 h (by decide +kernel)⟩⟩⟩⟩⟩⟩⟩⟩⟩⟩⟩
theorem dX6_give_22 : decode cX6_give 22 = .ok (.ireturn, 1) := dcq_459.1
theorem dX6_give_23 : decode cX6_give 23 = .ok (.aload_n 0, 1) := dcq_459.2.1
theorem dX6_give_24 : decode cX6_give 24 = .ok (.iload_n 1, 1) := dcq_459.2.2.1
theorem dX6_give_25 : decode cX6_give 25 = .ok (.iconst 3, 1) := dcq_459.2.2.2.1
theorem dX6_give_26 : decode cX6_give 26 = .ok (.invokevirtual 191, 3) := dcq_459.2.2.2.2.1
theorem dX6_give_29 : decode cX6_give 29 = .ok (.ifCond .eq 14, 3) := dcq_459.2.2.2.2.2.1
theorem dX6_give_32 : decode cX6_give 32 = .ok (.aload_n 0, 1) := dcq_459.2.2.2.2.2.2.1
theorem dX6_give_33 : decode cX6_give 33 = .ok (.iload_n 2, 1) := dcq_459.2.2.2.2.2.2.2.1
theorem dX6_give_34 : decode cX6_give 34 = .ok (.iconst 3, 1) := dcq_459.2.2.2.2.2.2.2.2.1
theorem dX6_give_35 : decode cX6_give 35 = .ok (.invokevirtual 191, 3) := dcq_459.2.2.2.2.2.2.2.2.2.1
theorem dX6_give_38 : decode cX6_give 38 = .ok (.bipush 99, 2) := dcq_459.2.2.2.2.2.2.2.2.2.2.1
theorem dX6_give_40 : decode cX6_give 40 = .ok (.if_icmp .ne 6, 3) := dcq_459.2.2.2.2.2.2.2.2.2.2.2
set_option maxRecDepth 20000 in
theorem dcb_460 : fd_B cX6_give 43 [16, 253, 172, 42, 27, 6, 42, 27, 6, 182, 0, 191, 4, 100, 182, 0, 184] := fd_o cX6_give 43 _ (by decide +kernel)
theorem dcq_460 : (decode cX6_give 43 = .ok (.bipush (-3), 2)) ∧ (decode cX6_give 45 = .ok (.ireturn, 1)) ∧ (decode cX6_give 46 = .ok (.aload_n 0, 1)) ∧ (decode cX6_give 47 = .ok (.iload_n 1, 1)) ∧ (decode cX6_give 48 = .ok (.iconst 3, 1)) ∧ (decode cX6_give 49 = .ok (.aload_n 0, 1)) ∧ (decode cX6_give 50 = .ok (.iload_n 1, 1)) ∧ (decode cX6_give 51 = .ok (.iconst 3, 1)) ∧ (decode cX6_give 52 = .ok (.invokevirtual 191, 3)) ∧ (decode cX6_give 55 = .ok (.iconst 1, 1)) ∧ (decode cX6_give 56 = .ok (.isub, 1)) ∧ (decode cX6_give 57 = .ok (.invokevirtual 184, 3)) := have h := dcb_460; ⟨fd_16 h (by decide +kernel), have h := fd_t2 h; ⟨fd_172 h, have h := fd_t1 h; ⟨fd_42 h, have h := fd_t1 h; ⟨fd_27 h, have h := fd_t1 h; ⟨fd_6 h, have h := fd_t1 h; ⟨fd_42 h, have h := fd_t1 h; ⟨fd_27 h, have h := fd_t1 h; ⟨fd_6 h, have h := fd_t1 h; ⟨fd_182 h rfl, have h := fd_t3 h; ⟨fd_4 h, have h := fd_t1 h; ⟨fd_100 h, have h := fd_t1 h; fd_182 h rfl⟩⟩⟩⟩⟩⟩⟩⟩⟩⟩⟩
theorem dX6_give_43 : decode cX6_give 43 = .ok (.bipush (-3), 2) := dcq_460.1
theorem dX6_give_45 : decode cX6_give 45 = .ok (.ireturn, 1) := dcq_460.2.1
theorem dX6_give_46 : decode cX6_give 46 = .ok (.aload_n 0, 1) := dcq_460.2.2.1
theorem dX6_give_47 : decode cX6_give 47 = .ok (.iload_n 1, 1) := dcq_460.2.2.2.1
theorem dX6_give_48 : decode cX6_give 48 = .ok (.iconst 3, 1) := dcq_460.2.2.2.2.1
theorem dX6_give_49 : decode cX6_give 49 = .ok (.aload_n 0, 1) := dcq_460.2.2.2.2.2.1
theorem dX6_give_50 : decode cX6_give 50 = .ok (.iload_n 1, 1) := dcq_460.2.2.2.2.2.2.1
theorem dX6_give_51 : decode cX6_give 51 = .ok (.iconst 3, 1) := dcq_460.2.2.2.2.2.2.2.1
theorem dX6_give_52 : decode cX6_give 52 = .ok (.invokevirtual 191, 3) := dcq_460.2.2.2.2.2.2.2.2.1
theorem dX6_give_55 : decode cX6_give 55 = .ok (.iconst 1, 1) := dcq_460.2.2.2.2.2.2.2.2.2.1
theorem dX6_give_56 : decode cX6_give 56 = .ok (.isub, 1) := dcq_460.2.2.2.2.2.2.2.2.2.2.1
theorem dX6_give_57 : decode cX6_give 57 = .ok (.invokevirtual 184, 3) := dcq_460.2.2.2.2.2.2.2.2.2.2.2
set_option maxRecDepth 20000 in
theorem dcb_461 : fd_B cX6_give 60 [42, 28, 6, 42, 28, 6, 182, 0, 191, 4, 96, 182, 0, 184, 42, 28] := fd_o cX6_give 60 _ (by decide +kernel)
theorem dcq_461 : (decode cX6_give 60 = .ok (.aload_n 0, 1)) ∧ (decode cX6_give 61 = .ok (.iload_n 2, 1)) ∧ (decode cX6_give 62 = .ok (.iconst 3, 1)) ∧ (decode cX6_give 63 = .ok (.aload_n 0, 1)) ∧ (decode cX6_give 64 = .ok (.iload_n 2, 1)) ∧ (decode cX6_give 65 = .ok (.iconst 3, 1)) ∧ (decode cX6_give 66 = .ok (.invokevirtual 191, 3)) ∧ (decode cX6_give 69 = .ok (.iconst 1, 1)) ∧ (decode cX6_give 70 = .ok (.iadd, 1)) ∧ (decode cX6_give 71 = .ok (.invokevirtual 184, 3)) ∧ (decode cX6_give 74 = .ok (.aload_n 0, 1)) ∧ (decode cX6_give 75 = .ok (.iload_n 2, 1)) := have h := dcb_461; ⟨fd_42 h, have h := fd_t1 h; ⟨fd_28 h, have h := fd_t1 h; ⟨fd_6 h, have h := fd_t1 h; ⟨fd_42 h, have h := fd_t1 h; ⟨fd_28 h, have h := fd_t1 h; ⟨fd_6 h, have h := fd_t1 h; ⟨fd_182 h rfl, have h := fd_t3 h; ⟨fd_4 h, have h := fd_t1 h; ⟨fd_96 h, have h := fd_t1 h; ⟨fd_182 h rfl, have h := fd_t3 h; ⟨fd_42 h, have h := fd_t1 h; fd_28 h⟩⟩⟩⟩⟩⟩⟩⟩⟩⟩⟩
theorem dX6_give_60 : decode cX6_give 60 = .ok (.aload_n 0, 1) := dcq_461.1
theorem dX6_give_61 : decode cX6_give 61 = .ok (.iload_n 2, 1) := dcq_461.2.1
theorem dX6_give_62 : decode cX6_give 62 = .ok (.iconst 3, 1) := dcq_461.2.2.1
theorem dX6_give_63 : decode cX6_give 63 = .ok (.aload_n 0, 1) := dcq_461.2.2.2.1
theorem dX6_give_64 : decode cX6_give 64 = .ok (.iload_n 2, 1) := dcq_461.2.2.2.2.1
theorem dX6_give_65 : decode cX6_give 65 = .ok (.iconst 3, 1) := dcq_461.2.2.2.2.2.1
theorem dX6_give_66 : decode cX6_give 66 = .ok (.invokevirtual 191, 3) := dcq_461.2.2.2.2.2.2.1
theorem dX6_give_69 : decode cX6_give 69 = .ok (.iconst 1, 1) := dcq_461.2.2.2.2.2.2.2.1
theorem dX6_give_70 : decode cX6_give 70 = .ok (.iadd, 1) := dcq_461.2.2.2.2.2.2.2.2.1
theorem dX6_give_71 : decode cX6_give 71 = .ok (.invokevirtual 184, 3) := dcq_461.2.2.2.2.2.2.2.2.2.1
theorem dX6_give_74 : decode cX6_give 74 = .ok (.aload_n 0, 1) := dcq_461.2.2.2.2.2.2.2.2.2.2.1
theorem dX6_give_75 : decode cX6_give 75 = .ok (.iload_n 2, 1) := dcq_461.2.2.2.2.2.2.2.2.2.2.2
set_option maxRecDepth 20000 in
theorem dcb_462 : fd_B cX6_give 76 [6, 182, 0, 191, 172] := fd_o cX6_give 76 _ (by decide +kernel)
theorem dcq_462 : (decode cX6_give 76 = .ok (.iconst 3, 1)) ∧ (decode cX6_give 77 = .ok (.invokevirtual 191, 3)) ∧ (decode cX6_give 80 = .ok (.ireturn, 1)) := have h := dcb_462; ⟨fd_6 h, have h := fd_t1 h; ⟨fd_182 h rfl, have h := fd_t3 h; fd_172 h⟩⟩
theorem dX6_give_76 : decode cX6_give 76 = .ok (.iconst 3, 1) := dcq_462.1
theorem dX6_give_77 : decode cX6_give 77 = .ok (.invokevirtual 191, 3) := dcq_462.2.1
theorem dX6_give_80 : decode cX6_give 80 = .ok (.ireturn, 1) := dcq_462.2.2
set_option maxRecDepth 20000 in
theorem dcb_463 : fd_B cX6_isReady 0 [42, 27, 4, 182, 0, 191, 42, 27, 182, 0, 201, 161, 0, 7, 4, 167, 0, 4, 3, 172] := fd_o cX6_isReady 0 _ (by decide +kernel)
theorem dcq_463 : (decode cX6_isReady 0 = .ok (.aload_n 0, 1)) ∧ (decode cX6_isReady 1 = .ok (.iload_n 1, 1)) ∧ (decode cX6_isReady 2 = .ok (.iconst 1, 1)) ∧ (decode cX6_isReady 3 = .ok (.invokevirtual 191, 3)) ∧ (decode cX6_isReady 6 = .ok (.aload_n 0, 1)) ∧ (decode cX6_isReady 7 = .ok (.iload_n 1, 1)) ∧ (decode cX6_isReady 8 = .ok (.invokevirtual 201, 3)) ∧ (decode cX6_isReady 11 = .ok (.if_icmp .lt 7, 3)) ∧ (decode cX6_isReady 14 = .ok (.iconst 1, 1)) ∧ (decode cX6_isReady 15 = .ok (.goto 4, 3)) ∧ (decode cX6_isReady 18 = .ok (.iconst 0, 1)) ∧ (decode cX6_isReady 19 = .ok (.ireturn, 1)) := have h := dcb_463; ⟨fd_42 h, have h := fd_t1 h; ⟨fd_27 h, have h := fd_t1 h; ⟨fd_4 h, have h := fd_t1 h; ⟨fd_182 h rfl, have h := fd_t3 h; ⟨fd_42 h, have h := fd_t1 h; ⟨fd_27 h, have h := fd_t1 h; ⟨fd_182 h rfl, have h := fd_t3 h; ⟨fd_161 h (by decide +kernel), have h := fd_t3 h; ⟨fd_4 h, have h := fd_t1 h; ⟨fd_167 h (by decide +kernel), have h := fd_t3 h; ⟨fd_3 h, have h := fd_t1 h; fd_172 h⟩⟩⟩⟩⟩⟩⟩⟩⟩⟩⟩
theorem dX6_isReady_0 : decode cX6_isReady 0 = .ok (.aload_n 0, 1) := dcq_463.1
theorem dX6_isReady_1 : decode cX6_isReady 1 = .ok (.iload_n 1, 1) := dcq_463.2.1
theorem dX6_isReady_2 : decode cX6_isReady 2 = .ok (.iconst 1, 1) := dcq_463.2.2.1
theorem dX6_isReady_3 : decode cX6_isReady 3 = .ok (.invokevirtual 191, 3) := dcq_463.2.2.2.1
theorem dX6_isReady_6 : decode cX6_isReady 6 = .ok (.aload_n 0, 1) := dcq_463.2.2.2.2.1
theorem dX6_isReady_7 : decode cX6_isReady 7 = .ok (.iload_n 1, 1) := dcq_463.2.2.2.2.2.1
theorem dX6_isReady_8 : decode cX6_isReady 8 = .ok (.invokevirtual 201, 3) := dcq_463.2.2.2.2.2.2.1
theorem dX6_isReady_11 : decode cX6_isReady 11 = .ok (.if_icmp .lt 7, 3) := dcq_463.2.2.2.2.2.2.2.1
theorem dX6_isReady_14 : decode cX6_isReady 14 = .ok (.iconst 1, 1) := dcq_463.2.2.2.2.2.2.2.2.1
theorem dX6_isReady_15 : decode cX6_isReady 15 = .ok (.goto 4, 3) := dcq_463.2.2.2.2.2.2.2.2.2.1
theorem dX6_isReady_18 : decode cX6_isReady 18 = .ok (.iconst 0, 1) := dcq_463.2.2.2.2.2.2.2.2.2.2.1
theorem dX6_isReady_19 : decode cX6_isReady 19 = .ok (.ireturn, 1) := dcq_463.2.2.2.2.2.2.2.2.2.2.2
set_option maxRecDepth 20000 in
theorem dcb_464 : fd_B cX6_readySet 0 [3, 60, 3, 61, 28, 42, 180, 0, 7, 16, 6, 46, 162, 0, 27, 27, 42] := fd_o cX6_readySet 0 _ (by decide +kernel)
theorem dcq_464 : (decode cX6_readySet 0 = .ok (.iconst 0, 1)) ∧ (decode cX6_readySet 1 = .ok (.istore_n 1, 1)) ∧ (decode cX6_readySet 2 = .ok (.iconst 0, 1)) ∧ (decode cX6_readySet 3 = .ok (.istore_n 2, 1)) ∧ (decode cX6_readySet 4 = .ok (.iload_n 2, 1)) ∧ (decode cX6_readySet 5 = .ok (.aload_n 0, 1)) ∧ (decode cX6_readySet 6 = .ok (.getfield 7, 3)) ∧ (decode cX6_readySet 9 = .ok (.bipush 6, 2)) ∧ (decode cX6_readySet 11 = .ok (.iaload, 1)) ∧ (decode cX6_readySet 12 = .ok (.if_icmp .ge 27, 3)) ∧ (decode cX6_readySet 15 = .ok (.iload_n 1, 1)) ∧ (decode cX6_readySet 16 = .ok (.aload_n 0, 1)) := have h := dcb_464; ⟨fd_3 h, have h := fd_t1 h; ⟨fd_60 h, have h := fd_t1 h; ⟨fd_3 h, have h := fd_t1 h; ⟨fd_61 h, have h := fd_t1 h; ⟨fd_28 h, have h := fd_t1 h; ⟨fd_42 h, have h := fd_t1 h; ⟨fd_180 h rfl, have h := fd_t3 h; ⟨fd_16 h (by decide +kernel), have h := fd_t2 h; ⟨fd_46 h, have h := fd_t1 h; ⟨fd_162 h (by decide +kernel), have h := fd_t3 h; ⟨fd_27 h, have h := fd_t1 h; fd_42 h⟩⟩⟩⟩⟩⟩⟩⟩⟩⟩⟩
theorem dX6_readySet_0 : decode cX6_readySet 0 = .ok (.iconst 0, 1) := dcq_464.1
theorem dX6_readySet_1 : decode cX6_readySet 1 = .ok (.istore_n 1, 1) := dcq_464.2.1
theorem dX6_readySet_2 : decode cX6_readySet 2 = .ok (.iconst 0, 1) := dcq_464.2.2.1
theorem dX6_readySet_3 : decode cX6_readySet 3 = .ok (.istore_n 2, 1) := dcq_464.2.2.2.1
theorem dX6_readySet_4 : decode cX6_readySet 4 = .ok (.iload_n 2, 1) := dcq_464.2.2.2.2.1
theorem dX6_readySet_5 : decode cX6_readySet 5 = .ok (.aload_n 0, 1) := dcq_464.2.2.2.2.2.1
theorem dX6_readySet_6 : decode cX6_readySet 6 = .ok (.getfield 7, 3) := dcq_464.2.2.2.2.2.2.1
theorem dX6_readySet_9 : decode cX6_readySet 9 = .ok (.bipush 6, 2) := dcq_464.2.2.2.2.2.2.2.1
theorem dX6_readySet_11 : decode cX6_readySet 11 = .ok (.iaload, 1) := dcq_464.2.2.2.2.2.2.2.2.1
theorem dX6_readySet_12 : decode cX6_readySet 12 = .ok (.if_icmp .ge 27, 3) := dcq_464.2.2.2.2.2.2.2.2.2.1
theorem dX6_readySet_15 : decode cX6_readySet 15 = .ok (.iload_n 1, 1) := dcq_464.2.2.2.2.2.2.2.2.2.2.1
theorem dX6_readySet_16 : decode cX6_readySet 16 = .ok (.aload_n 0, 1) := dcq_464.2.2.2.2.2.2.2.2.2.2.2
set_option maxRecDepth 20000 in
theorem dcb_465 : fd_B cX6_readySet 17 [28, 182, 0, 210, 153, 0, 9, 4, 28, 120, 167, 0, 4, 3, 128, 60, 132, 2, 1, 167, 255, 224] := fd_o cX6_readySet 17 _ (by decide +kernel)
theorem dcq_465 : (decode cX6_readySet 17 = .ok (.iload_n 2, 1)) ∧ (decode cX6_readySet 18 = .ok (.invokevirtual 210, 3)) ∧ (decode cX6_readySet 21 = .ok (.ifCond .eq 9, 3)) ∧ (decode cX6_readySet 24 = .ok (.iconst 1, 1)) ∧ (decode cX6_readySet 25 = .ok (.iload_n 2, 1)) ∧ (decode cX6_readySet 26 = .ok (.ishl, 1)) ∧ (decode cX6_readySet 27 = .ok (.goto 4, 3)) ∧ (decode cX6_readySet 30 = .ok (.iconst 0, 1)) ∧ (decode cX6_readySet 31 = .ok (.ior, 1)) ∧ (decode cX6_readySet 32 = .ok (.istore_n 1, 1)) ∧ (decode cX6_readySet 33 = .ok (.iinc 2 1, 3)) ∧ (decode cX6_readySet 36 = .ok (.goto (-32), 3)) := have h := dcb_465; ⟨fd_28 h, have h := fd_t1 h; ⟨fd_182 h rfl, have h := fd_t3 h; ⟨fd_153 h (by decide +kernel), have h := fd_t3 h; ⟨fd_4 h, have h := fd_t1 h; ⟨fd_28 h, have h := fd_t1 h; ⟨fd_120 h, have h := fd_t1 h; ⟨fd_167 h (by decide +kernel), have h := fd_t3 h; ⟨fd_3 h, have h := fd_t1 h; ⟨fd_128 h, have h := fd_t1 h; ⟨fd_60 h, have h := fd_t1 h; ⟨fd_132 h rfl (by decide +kernel), have h := fd_t3 h; fd_167 h (by decide +kernel)⟩⟩⟩⟩⟩⟩⟩⟩⟩⟩⟩
theorem dX6_readySet_17 : decode cX6_readySet 17 = .ok (.iload_n 2, 1) := dcq_465.1
theorem dX6_readySet_18 : decode cX6_readySet 18 = .ok (.invokevirtual 210, 3) := dcq_465.2.1
theorem dX6_readySet_21 : decode cX6_readySet 21 = .ok (.ifCond .eq 9, 3) := dcq_465.2.2.1
theorem dX6_readySet_24 : decode cX6_readySet 24 = .ok (.iconst 1, 1) := dcq_465.2.2.2.1
theorem dX6_readySet_25 : decode cX6_readySet 25 = .ok (.iload_n 2, 1) := dcq_465.2.2.2.2.1
theorem dX6_readySet_26 : decode cX6_readySet 26 = .ok (.ishl, 1) := dcq_465.2.2.2.2.2.1
theorem dX6_readySet_27 : decode cX6_readySet 27 = .ok (.goto 4, 3) := dcq_465.2.2.2.2.2.2.1
theorem dX6_readySet_30 : decode cX6_readySet 30 = .ok (.iconst 0, 1) := dcq_465.2.2.2.2.2.2.2.1
theorem dX6_readySet_31 : decode cX6_readySet 31 = .ok (.ior, 1) := dcq_465.2.2.2.2.2.2.2.2.1
theorem dX6_readySet_32 : decode cX6_readySet 32 = .ok (.istore_n 1, 1) := dcq_465.2.2.2.2.2.2.2.2.2.1
theorem dX6_readySet_33 : decode cX6_readySet 33 = .ok (.iinc 2 1, 3) := dcq_465.2.2.2.2.2.2.2.2.2.2.1
theorem dX6_readySet_36 : decode cX6_readySet 36 = .ok (.goto (-32), 3) := dcq_465.2.2.2.2.2.2.2.2.2.2.2
set_option maxRecDepth 20000 in
theorem dcb_466 : fd_B cX6_readySet 39 [27, 172] := fd_o cX6_readySet 39 _ (by decide +kernel)
theorem dcq_466 : (decode cX6_readySet 39 = .ok (.iload_n 1, 1)) ∧ (decode cX6_readySet 40 = .ok (.ireturn, 1)) := have h := dcb_466; ⟨fd_27 h, have h := fd_t1 h; fd_172 h⟩
theorem dX6_readySet_39 : decode cX6_readySet 39 = .ok (.iload_n 1, 1) := dcq_466.1
theorem dX6_readySet_40 : decode cX6_readySet 40 = .ok (.ireturn, 1) := dcq_466.2
set_option maxRecDepth 20000 in
theorem dcb_467 : fd_B cX6_next 0 [2, 60, 3, 61, 28, 42, 180, 0, 7, 16, 6, 46, 162, 0, 82, 42, 28] := fd_o cX6_next 0 _ (by decide +kernel)
theorem dcq_467 : (decode cX6_next 0 = .ok (.iconst (-1), 1)) ∧ (decode cX6_next 1 = .ok (.istore_n 1, 1)) ∧ (decode cX6_next 2 = .ok (.iconst 0, 1)) ∧ (decode cX6_next 3 = .ok (.istore_n 2, 1)) ∧ (decode cX6_next 4 = .ok (.iload_n 2, 1)) ∧ (decode cX6_next 5 = .ok (.aload_n 0, 1)) ∧ (decode cX6_next 6 = .ok (.getfield 7, 3)) ∧ (decode cX6_next 9 = .ok (.bipush 6, 2)) ∧ (decode cX6_next 11 = .ok (.iaload, 1)) ∧ (decode cX6_next 12 = .ok (.if_icmp .ge 82, 3)) ∧ (decode cX6_next 15 = .ok (.aload_n 0, 1)) ∧ (decode cX6_next 16 = .ok (.iload_n 2, 1)) := have h := dcb_467; ⟨fd_2 h, have h := fd_t1 h; ⟨fd_60 h, have h := fd_t1 h; ⟨fd_3 h, have h := fd_t1 h; ⟨fd_61 h, have h := fd_t1 h; ⟨fd_28 h, have h := fd_t1 h; ⟨fd_42 h, have h := fd_t1 h; ⟨fd_180 h rfl, have h := fd_t3 h; ⟨fd_16 h (by decide +kernel), have h := fd_t2 h; ⟨fd_46 h, have h := fd_t1 h; ⟨fd_162 h (by decide +kernel), have h := fd_t3 h; ⟨fd_42 h, have h := fd_t1 h; fd_28 h⟩⟩⟩⟩⟩⟩⟩⟩⟩⟩⟩
theorem dX6_next_0 : decode cX6_next 0 = .ok (.iconst (-1), 1) := dcq_467.1
theorem dX6_next_1 : decode cX6_next 1 = .ok (.istore_n 1, 1) := dcq_467.2.1
theorem dX6_next_2 : decode cX6_next 2 = .ok (.iconst 0, 1) := dcq_467.2.2.1
theorem dX6_next_3 : decode cX6_next 3 = .ok (.istore_n 2, 1) := dcq_467.2.2.2.1
theorem dX6_next_4 : decode cX6_next 4 = .ok (.iload_n 2, 1) := dcq_467.2.2.2.2.1
theorem dX6_next_5 : decode cX6_next 5 = .ok (.aload_n 0, 1) := dcq_467.2.2.2.2.2.1
theorem dX6_next_6 : decode cX6_next 6 = .ok (.getfield 7, 3) := dcq_467.2.2.2.2.2.2.1
theorem dX6_next_9 : decode cX6_next 9 = .ok (.bipush 6, 2) := dcq_467.2.2.2.2.2.2.2.1
theorem dX6_next_11 : decode cX6_next 11 = .ok (.iaload, 1) := dcq_467.2.2.2.2.2.2.2.2.1
theorem dX6_next_12 : decode cX6_next 12 = .ok (.if_icmp .ge 82, 3) := dcq_467.2.2.2.2.2.2.2.2.2.1
theorem dX6_next_15 : decode cX6_next 15 = .ok (.aload_n 0, 1) := dcq_467.2.2.2.2.2.2.2.2.2.2.1
theorem dX6_next_16 : decode cX6_next 16 = .ok (.iload_n 2, 1) := dcq_467.2.2.2.2.2.2.2.2.2.2.2
set_option maxRecDepth 20000 in
theorem dcb_468 : fd_B cX6_next 17 [182, 0, 210, 153, 0, 29, 42, 28, 6, 182, 0, 191, 16, 99, 162, 0, 18, 42, 180, 0, 213, 28, 122] := fd_o cX6_next 17 _ (by decide +kernel)
theorem dcq_468 : (decode cX6_next 17 = .ok (.invokevirtual 210, 3)) ∧ (decode cX6_next 20 = .ok (.ifCond .eq 29, 3)) ∧ (decode cX6_next 23 = .ok (.aload_n 0, 1)) ∧ (decode cX6_next 24 = .ok (.iload_n 2, 1)) ∧ (decode cX6_next 25 = .ok (.iconst 3, 1)) ∧ (decode cX6_next 26 = .ok (.invokevirtual 191, 3)) ∧ (decode cX6_next 29 = .ok (.bipush 99, 2)) ∧ (decode cX6_next 31 = .ok (.if_icmp .ge 18, 3)) ∧ (decode cX6_next 34 = .ok (.aload_n 0, 1)) ∧ (decode cX6_next 35 = .ok (.getfield 213, 3)) ∧ (decode cX6_next 38 = .ok (.iload_n 2, 1)) ∧ (decode cX6_next 39 = .ok (.ishr, 1)) := have h := dcb_468; ⟨fd_182 h rfl, have h := fd_t3 h; ⟨fd_153 h (by decide +kernel), have h := fd_t3 h; ⟨fd_42 h, have h := fd_t1 h; ⟨fd_28 h, have h := fd_t1 h; ⟨fd_6 h, have h := fd_t1 h; ⟨fd_182 h rfl, have h := fd_t3 h; ⟨fd_16 h (by decide +kernel), have h := fd_t2 h; ⟨fd_162 h (by decide +kernel), have h := fd_t3 h; ⟨fd_42 h, have h := fd_t1 h; ⟨fd_180 h rfl, have h := fd_t3 h; ⟨fd_28 h, have h := fd_t1 h; fd_122 h⟩⟩⟩⟩⟩⟩⟩⟩⟩⟩⟩
theorem dX6_next_17 : decode cX6_next 17 = .ok (.invokevirtual 210, 3) := dcq_468.1
theorem dX6_next_20 : decode cX6_next 20 = .ok (.ifCond .eq 29, 3) := dcq_468.2.1
theorem dX6_next_23 : decode cX6_next 23 = .ok (.aload_n 0, 1) := dcq_468.2.2.1
theorem dX6_next_24 : decode cX6_next 24 = .ok (.iload_n 2, 1) := dcq_468.2.2.2.1
theorem dX6_next_25 : decode cX6_next 25 = .ok (.iconst 3, 1) := dcq_468.2.2.2.2.1
theorem dX6_next_26 : decode cX6_next 26 = .ok (.invokevirtual 191, 3) := dcq_468.2.2.2.2.2.1
theorem dX6_next_29 : decode cX6_next 29 = .ok (.bipush 99, 2) := dcq_468.2.2.2.2.2.2.1
theorem dX6_next_31 : decode cX6_next 31 = .ok (.if_icmp .ge 18, 3) := dcq_468.2.2.2.2.2.2.2.1
theorem dX6_next_34 : decode cX6_next 34 = .ok (.aload_n 0, 1) := dcq_468.2.2.2.2.2.2.2.2.1
theorem dX6_next_35 : decode cX6_next 35 = .ok (.getfield 213, 3) := dcq_468.2.2.2.2.2.2.2.2.2.1
theorem dX6_next_38 : decode cX6_next 38 = .ok (.iload_n 2, 1) := dcq_468.2.2.2.2.2.2.2.2.2.2.1
theorem dX6_next_39 : decode cX6_next 39 = .ok (.ishr, 1) := dcq_468.2.2.2.2.2.2.2.2.2.2.2
set_option maxRecDepth 20000 in
theorem dcb_469 : fd_B cX6_next 40 [4, 126, 154, 0, 7, 4, 167, 0, 4, 3, 62, 29, 153, 0, 36, 27, 155, 0, 30, 42] := fd_o cX6_next 40 _ (by decide +kernel)
theorem dcq_469 : (decode cX6_next 40 = .ok (.iconst 1, 1)) ∧ (decode cX6_next 41 = .ok (.iand, 1)) ∧ (decode cX6_next 42 = .ok (.ifCond .ne 7, 3)) ∧ (decode cX6_next 45 = .ok (.iconst 1, 1)) ∧ (decode cX6_next 46 = .ok (.goto 4, 3)) ∧ (decode cX6_next 49 = .ok (.iconst 0, 1)) ∧ (decode cX6_next 50 = .ok (.istore_n 3, 1)) ∧ (decode cX6_next 51 = .ok (.iload_n 3, 1)) ∧ (decode cX6_next 52 = .ok (.ifCond .eq 36, 3)) ∧ (decode cX6_next 55 = .ok (.iload_n 1, 1)) ∧ (decode cX6_next 56 = .ok (.ifCond .lt 30, 3)) ∧ (decode cX6_next 59 = .ok (.aload_n 0, 1)) := have h := dcb_469; ⟨fd_4 h, have h := fd_t1 h; ⟨fd_126 h, have h := fd_t1 h; ⟨fd_154 h (by decide +kernel), have h := fd_t3 h; ⟨fd_4 h, have h := fd_t1 h; ⟨fd_167 h (by decide +kernel), have h := fd_t3 h; ⟨fd_3 h, have h := fd_t1 h; ⟨fd_62 h, have h := fd_t1 h; ⟨fd_29 h, have h := fd_t1 h; ⟨fd_153 h (by decide +kernel), have h := fd_t3 h; ⟨fd_27 h, have h := fd_t1 h; ⟨fd_155 h (by decide +kernel), have h := fd_t3 h; fd_42 h⟩⟩⟩⟩⟩⟩⟩⟩⟩⟩⟩
theorem dX6_next_40 : decode cX6_next 40 = .ok (.iconst 1, 1) := dcq_469.1
theorem dX6_next_41 : decode cX6_next 41 = .ok (.iand, 1) := dcq_469.2.1
theorem dX6_next_42 : decode cX6_next 42 = .ok (.ifCond .ne 7, 3) := dcq_469.2.2.1
theorem dX6_next_45 : decode cX6_next 45 = .ok (.iconst 1, 1) := dcq_469.2.2.2.1
theorem dX6_next_46 : decode cX6_next 46 = .ok (.goto 4, 3) := dcq_469.2.2.2.2.1
theorem dX6_next_49 : decode cX6_next 49 = .ok (.iconst 0, 1) := dcq_469.2.2.2.2.2.1
theorem dX6_next_50 : decode cX6_next 50 = .ok (.istore_n 3, 1) := dcq_469.2.2.2.2.2.2.1
theorem dX6_next_51 : decode cX6_next 51 = .ok (.iload_n 3, 1) := dcq_469.2.2.2.2.2.2.2.1
theorem dX6_next_52 : decode cX6_next 52 = .ok (.ifCond .eq 36, 3) := dcq_469.2.2.2.2.2.2.2.2.1
theorem dX6_next_55 : decode cX6_next 55 = .ok (.iload_n 1, 1) := dcq_469.2.2.2.2.2.2.2.2.2.1
theorem dX6_next_56 : decode cX6_next 56 = .ok (.ifCond .lt 30, 3) := dcq_469.2.2.2.2.2.2.2.2.2.2.1
theorem dX6_next_59 : decode cX6_next 59 = .ok (.aload_n 0, 1) := dcq_469.2.2.2.2.2.2.2.2.2.2.2
set_option maxRecDepth 20000 in
theorem dcb_470 : fd_B cX6_next 60 [28, 4, 182, 0, 191, 42, 28, 182, 0, 201, 100, 42, 27, 4, 182, 0, 191, 42] := fd_o cX6_next 60 _ (by decide +kernel)
theorem dcq_470 : (decode cX6_next 60 = .ok (.iload_n 2, 1)) ∧ (decode cX6_next 61 = .ok (.iconst 1, 1)) ∧ (decode cX6_next 62 = .ok (.invokevirtual 191, 3)) ∧ (decode cX6_next 65 = .ok (.aload_n 0, 1)) ∧ (decode cX6_next 66 = .ok (.iload_n 2, 1)) ∧ (decode cX6_next 67 = .ok (.invokevirtual 201, 3)) ∧ (decode cX6_next 70 = .ok (.isub, 1)) ∧ (decode cX6_next 71 = .ok (.aload_n 0, 1)) ∧ (decode cX6_next 72 = .ok (.iload_n 1, 1)) ∧ (decode cX6_next 73 = .ok (.iconst 1, 1)) ∧ (decode cX6_next 74 = .ok (.invokevirtual 191, 3)) ∧ (decode cX6_next 77 = .ok (.aload_n 0, 1)) := have h := dcb_470; ⟨fd_28 h, have h := fd_t1 h; ⟨fd_4 h, have h := fd_t1 h; ⟨fd_182 h rfl, have h := fd_t3 h; ⟨fd_42 h, have h := fd_t1 h; ⟨fd_28 h, have h := fd_t1 h; ⟨fd_182 h rfl, have h := fd_t3 h; ⟨fd_100 h, have h := fd_t1 h; ⟨fd_42 h, have h := fd_t1 h; ⟨fd_27 h, have h := fd_t1 h; ⟨fd_4 h, have h := fd_t1 h; ⟨fd_182 h rfl, have h := fd_t3 h; fd_42 h⟩⟩⟩⟩⟩⟩⟩⟩⟩⟩⟩
theorem dX6_next_60 : decode cX6_next 60 = .ok (.iload_n 2, 1) := dcq_470.1
theorem dX6_next_61 : decode cX6_next 61 = .ok (.iconst 1, 1) := dcq_470.2.1
theorem dX6_next_62 : decode cX6_next 62 = .ok (.invokevirtual 191, 3) := dcq_470.2.2.1
theorem dX6_next_65 : decode cX6_next 65 = .ok (.aload_n 0, 1) := dcq_470.2.2.2.1
theorem dX6_next_66 : decode cX6_next 66 = .ok (.iload_n 2, 1) := dcq_470.2.2.2.2.1
theorem dX6_next_67 : decode cX6_next 67 = .ok (.invokevirtual 201, 3) := dcq_470.2.2.2.2.2.1
theorem dX6_next_70 : decode cX6_next 70 = .ok (.isub, 1) := dcq_470.2.2.2.2.2.2.1
theorem dX6_next_71 : decode cX6_next 71 = .ok (.aload_n 0, 1) := dcq_470.2.2.2.2.2.2.2.1
theorem dX6_next_72 : decode cX6_next 72 = .ok (.iload_n 1, 1) := dcq_470.2.2.2.2.2.2.2.2.1
theorem dX6_next_73 : decode cX6_next 73 = .ok (.iconst 1, 1) := dcq_470.2.2.2.2.2.2.2.2.2.1
theorem dX6_next_74 : decode cX6_next 74 = .ok (.invokevirtual 191, 3) := dcq_470.2.2.2.2.2.2.2.2.2.2.1
theorem dX6_next_77 : decode cX6_next 77 = .ok (.aload_n 0, 1) := dcq_470.2.2.2.2.2.2.2.2.2.2.2
set_option maxRecDepth 20000 in
theorem dcb_471 : fd_B cX6_next 78 [27, 182, 0, 201, 100, 164, 0, 5, 28, 60, 132, 2, 1, 167, 255, 169, 27, 172] := fd_o cX6_next 78 _ (by decide +kernel)
theorem dcq_471 : (decode cX6_next 78 = .ok (.iload_n 1, 1)) ∧ (decode cX6_next 79 = .ok (.invokevirtual 201, 3)) ∧ (decode cX6_next 82 = .ok (.isub, 1)) ∧ (decode cX6_next 83 = .ok (.if_icmp .le 5, 3)) ∧ (decode cX6_next 86 = .ok (.iload_n 2, 1)) ∧ (decode cX6_next 87 = .ok (.istore_n 1, 1)) ∧ (decode cX6_next 88 = .ok (.iinc 2 1, 3)) ∧ (decode cX6_next 91 = .ok (.goto (-87), 3)) ∧ (decode cX6_next 94 = .ok (.iload_n 1, 1)) ∧ (decode cX6_next 95 = .ok (.ireturn, 1)) := have h := dcb_471; ⟨fd_27 h, have h := fd_t1 h; ⟨fd_182 h rfl, have h := fd_t3 h; ⟨fd_100 h, have h := fd_t1 h; ⟨fd_164 h (by decide +kernel), have h := fd_t3 h; ⟨fd_28 h, have h := fd_t1 h; ⟨fd_60 h, have h := fd_t1 h; ⟨fd_132 h rfl (by decide +kernel), have h := fd_t3 h; ⟨fd_167 h (by decide +kernel), have h := fd_t3 h; ⟨fd_27 h, have h := fd_t1 h; fd_172 h⟩⟩⟩⟩⟩⟩⟩⟩⟩
theorem dX6_next_78 : decode cX6_next 78 = .ok (.iload_n 1, 1) := dcq_471.1
theorem dX6_next_79 : decode cX6_next 79 = .ok (.invokevirtual 201, 3) := dcq_471.2.1
theorem dX6_next_82 : decode cX6_next 82 = .ok (.isub, 1) := dcq_471.2.2.1
theorem dX6_next_83 : decode cX6_next 83 = .ok (.if_icmp .le 5, 3) := dcq_471.2.2.2.1
theorem dX6_next_86 : decode cX6_next 86 = .ok (.iload_n 2, 1) := dcq_471.2.2.2.2.1
theorem dX6_next_87 : decode cX6_next 87 = .ok (.istore_n 1, 1) := dcq_471.2.2.2.2.2.1
theorem dX6_next_88 : decode cX6_next 88 = .ok (.iinc 2 1, 3) := dcq_471.2.2.2.2.2.2.1
theorem dX6_next_91 : decode cX6_next 91 = .ok (.goto (-87), 3) := dcq_471.2.2.2.2.2.2.2.1
theorem dX6_next_94 : decode cX6_next 94 = .ok (.iload_n 1, 1) := dcq_471.2.2.2.2.2.2.2.2.1
theorem dX6_next_95 : decode cX6_next 95 = .ok (.ireturn, 1) := dcq_471.2.2.2.2.2.2.2.2.2
set_option maxRecDepth 20000 in
theorem dcb_472 : fd_B cX6_pageGoes 0 [42, 182, 0, 216, 60, 27, 156, 0, 25, 42, 180, 0, 7, 8, 42, 180, 0, 7, 8, 46] := fd_o cX6_pageGoes 0 _ (by decide +kernel)
theorem dcq_472 : (decode cX6_pageGoes 0 = .ok (.aload_n 0, 1)) ∧ (decode cX6_pageGoes 1 = .ok (.invokevirtual 216, 3)) ∧ (decode cX6_pageGoes 4 = .ok (.istore_n 1, 1)) ∧ (decode cX6_pageGoes 5 = .ok (.iload_n 1, 1)) ∧ (decode cX6_pageGoes 6 = .ok (.ifCond .ge 25, 3)) ∧ (decode cX6_pageGoes 9 = .ok (.aload_n 0, 1)) ∧ (decode cX6_pageGoes 10 = .ok (.getfield 7, 3)) ∧ (decode cX6_pageGoes 13 = .ok (.iconst 5, 1)) ∧ (decode cX6_pageGoes 14 = .ok (.aload_n 0, 1)) ∧ (decode cX6_pageGoes 15 = .ok (.getfield 7, 3)) ∧ (decode cX6_pageGoes 18 = .ok (.iconst 5, 1)) ∧ (decode cX6_pageGoes 19 = .ok (.iaload, 1)) := have h := dcb_472; ⟨fd_42 h, have h := fd_t1 h; ⟨fd_182 h rfl, have h := fd_t3 h; ⟨fd_60 h, have h := fd_t1 h; ⟨fd_27 h, have h := fd_t1 h; ⟨fd_156 h (by decide +kernel), have h := fd_t3 h; ⟨fd_42 h, have h := fd_t1 h; ⟨fd_180 h rfl, have h := fd_t3 h; ⟨fd_8 h, have h := fd_t1 h; ⟨fd_42 h, have h := fd_t1 h; ⟨fd_180 h rfl, have h := fd_t3 h; ⟨fd_8 h, have h := fd_t1 h; fd_46 h⟩⟩⟩⟩⟩⟩⟩⟩⟩⟩⟩
theorem dX6_pageGoes_0 : decode cX6_pageGoes 0 = .ok (.aload_n 0, 1) := dcq_472.1
theorem dX6_pageGoes_1 : decode cX6_pageGoes 1 = .ok (.invokevirtual 216, 3) := dcq_472.2.1
theorem dX6_pageGoes_4 : decode cX6_pageGoes 4 = .ok (.istore_n 1, 1) := dcq_472.2.2.1
theorem dX6_pageGoes_5 : decode cX6_pageGoes 5 = .ok (.iload_n 1, 1) := dcq_472.2.2.2.1
theorem dX6_pageGoes_6 : decode cX6_pageGoes 6 = .ok (.ifCond .ge 25, 3) := dcq_472.2.2.2.2.1
theorem dX6_pageGoes_9 : decode cX6_pageGoes 9 = .ok (.aload_n 0, 1) := dcq_472.2.2.2.2.2.1
theorem dX6_pageGoes_10 : decode cX6_pageGoes 10 = .ok (.getfield 7, 3) := dcq_472.2.2.2.2.2.2.1
theorem dX6_pageGoes_13 : decode cX6_pageGoes 13 = .ok (.iconst 5, 1) := dcq_472.2.2.2.2.2.2.2.1
theorem dX6_pageGoes_14 : decode cX6_pageGoes 14 = .ok (.aload_n 0, 1) := dcq_472.2.2.2.2.2.2.2.2.1
theorem dX6_pageGoes_15 : decode cX6_pageGoes 15 = .ok (.getfield 7, 3) := dcq_472.2.2.2.2.2.2.2.2.2.1
theorem dX6_pageGoes_18 : decode cX6_pageGoes 18 = .ok (.iconst 5, 1) := dcq_472.2.2.2.2.2.2.2.2.2.2.1
theorem dX6_pageGoes_19 : decode cX6_pageGoes 19 = .ok (.iaload, 1) := dcq_472.2.2.2.2.2.2.2.2.2.2.2
set_option maxRecDepth 20000 in
theorem dcb_473 : fd_B cX6_pageGoes 20 [4, 96, 3, 17, 39, 15, 184, 0, 194, 79, 177, 42, 27, 6, 42, 27] := fd_o cX6_pageGoes 20 _ (by decide +kernel)
theorem dcq_473 : (decode cX6_pageGoes 20 = .ok (.iconst 1, 1)) ∧ (decode cX6_pageGoes 21 = .ok (.iadd, 1)) ∧ (decode cX6_pageGoes 22 = .ok (.iconst 0, 1)) ∧ (decode cX6_pageGoes 23 = .ok (.sipush 9999, 3)) ∧ (decode cX6_pageGoes 26 = .ok (.invokestatic 194, 3)) ∧ (decode cX6_pageGoes 29 = .ok (.iastore, 1)) ∧ (decode cX6_pageGoes 30 = .ok (.return_, 1)) ∧ (decode cX6_pageGoes 31 = .ok (.aload_n 0, 1)) ∧ (decode cX6_pageGoes 32 = .ok (.iload_n 1, 1)) ∧ (decode cX6_pageGoes 33 = .ok (.iconst 3, 1)) ∧ (decode cX6_pageGoes 34 = .ok (.aload_n 0, 1)) ∧ (decode cX6_pageGoes 35 = .ok (.iload_n 1, 1)) := have h := dcb_473; ⟨fd_4 h, have h := fd_t1 h; ⟨fd_96 h, have h := fd_t1 h; ⟨fd_3 h, have h := fd_t1 h; ⟨fd_17 h (by decide +kernel), have h := fd_t3 h; ⟨fd_184 h rfl, have h := fd_t3 h; ⟨fd_79 h, have h := fd_t1 h; ⟨fd_177 h, have h := fd_t1 h; ⟨fd_42 h, have h := fd_t1 h; ⟨fd_27 h, have h := fd_t1 h; ⟨fd_6 h, have h := fd_t1 h; ⟨fd_42 h, have h := fd_t1 h; fd_27 h⟩⟩⟩⟩⟩⟩⟩⟩⟩⟩⟩
theorem dX6_pageGoes_20 : decode cX6_pageGoes 20 = .ok (.iconst 1, 1) := dcq_473.1
theorem dX6_pageGoes_21 : decode cX6_pageGoes 21 = .ok (.iadd, 1) := dcq_473.2.1
theorem dX6_pageGoes_22 : decode cX6_pageGoes 22 = .ok (.iconst 0, 1) := dcq_473.2.2.1
theorem dX6_pageGoes_23 : decode cX6_pageGoes 23 = .ok (.sipush 9999, 3) := dcq_473.2.2.2.1
theorem dX6_pageGoes_26 : decode cX6_pageGoes 26 = .ok (.invokestatic 194, 3) := dcq_473.2.2.2.2.1
theorem dX6_pageGoes_29 : decode cX6_pageGoes 29 = .ok (.iastore, 1) := dcq_473.2.2.2.2.2.1
theorem dX6_pageGoes_30 : decode cX6_pageGoes 30 = .ok (.return_, 1) := dcq_473.2.2.2.2.2.2.1
theorem dX6_pageGoes_31 : decode cX6_pageGoes 31 = .ok (.aload_n 0, 1) := dcq_473.2.2.2.2.2.2.2.1
theorem dX6_pageGoes_32 : decode cX6_pageGoes 32 = .ok (.iload_n 1, 1) := dcq_473.2.2.2.2.2.2.2.2.1
theorem dX6_pageGoes_33 : decode cX6_pageGoes 33 = .ok (.iconst 3, 1) := dcq_473.2.2.2.2.2.2.2.2.2.1
theorem dX6_pageGoes_34 : decode cX6_pageGoes 34 = .ok (.aload_n 0, 1) := dcq_473.2.2.2.2.2.2.2.2.2.2.1
theorem dX6_pageGoes_35 : decode cX6_pageGoes 35 = .ok (.iload_n 1, 1) := dcq_473.2.2.2.2.2.2.2.2.2.2.2
set_option maxRecDepth 20000 in
theorem dcb_474 : fd_B cX6_pageGoes 36 [6, 182, 0, 191, 4, 96, 182, 0, 184, 42, 27, 7, 42, 27, 7, 182, 0, 191] := fd_o cX6_pageGoes 36 _ (by decide +kernel)
theorem dcq_474 : (decode cX6_pageGoes 36 = .ok (.iconst 3, 1)) ∧ (decode cX6_pageGoes 37 = .ok (.invokevirtual 191, 3)) ∧ (decode cX6_pageGoes 40 = .ok (.iconst 1, 1)) ∧ (decode cX6_pageGoes 41 = .ok (.iadd, 1)) ∧ (decode cX6_pageGoes 42 = .ok (.invokevirtual 184, 3)) ∧ (decode cX6_pageGoes 45 = .ok (.aload_n 0, 1)) ∧ (decode cX6_pageGoes 46 = .ok (.iload_n 1, 1)) ∧ (decode cX6_pageGoes 47 = .ok (.iconst 4, 1)) ∧ (decode cX6_pageGoes 48 = .ok (.aload_n 0, 1)) ∧ (decode cX6_pageGoes 49 = .ok (.iload_n 1, 1)) ∧ (decode cX6_pageGoes 50 = .ok (.iconst 4, 1)) ∧ (decode cX6_pageGoes 51 = .ok (.invokevirtual 191, 3)) := have h := dcb_474; ⟨fd_6 h, have h := fd_t1 h; ⟨fd_182 h rfl, have h := fd_t3 h; ⟨fd_4 h, have h := fd_t1 h; ⟨fd_96 h, have h := fd_t1 h; ⟨fd_182 h rfl, have h := fd_t3 h; ⟨fd_42 h, have h := fd_t1 h; ⟨fd_27 h, have h := fd_t1 h; ⟨fd_7 h, have h := fd_t1 h; ⟨fd_42 h, have h := fd_t1 h; ⟨fd_27 h, have h := fd_t1 h; ⟨fd_7 h, have h := fd_t1 h; fd_182 h rfl⟩⟩⟩⟩⟩⟩⟩⟩⟩⟩⟩
theorem dX6_pageGoes_36 : decode cX6_pageGoes 36 = .ok (.iconst 3, 1) := dcq_474.1
theorem dX6_pageGoes_37 : decode cX6_pageGoes 37 = .ok (.invokevirtual 191, 3) := dcq_474.2.1
theorem dX6_pageGoes_40 : decode cX6_pageGoes 40 = .ok (.iconst 1, 1) := dcq_474.2.2.1
theorem dX6_pageGoes_41 : decode cX6_pageGoes 41 = .ok (.iadd, 1) := dcq_474.2.2.2.1
theorem dX6_pageGoes_42 : decode cX6_pageGoes 42 = .ok (.invokevirtual 184, 3) := dcq_474.2.2.2.2.1
theorem dX6_pageGoes_45 : decode cX6_pageGoes 45 = .ok (.aload_n 0, 1) := dcq_474.2.2.2.2.2.1
theorem dX6_pageGoes_46 : decode cX6_pageGoes 46 = .ok (.iload_n 1, 1) := dcq_474.2.2.2.2.2.2.1
theorem dX6_pageGoes_47 : decode cX6_pageGoes 47 = .ok (.iconst 4, 1) := dcq_474.2.2.2.2.2.2.2.1
theorem dX6_pageGoes_48 : decode cX6_pageGoes 48 = .ok (.aload_n 0, 1) := dcq_474.2.2.2.2.2.2.2.2.1
theorem dX6_pageGoes_49 : decode cX6_pageGoes 49 = .ok (.iload_n 1, 1) := dcq_474.2.2.2.2.2.2.2.2.2.1
theorem dX6_pageGoes_50 : decode cX6_pageGoes 50 = .ok (.iconst 4, 1) := dcq_474.2.2.2.2.2.2.2.2.2.2.1
theorem dX6_pageGoes_51 : decode cX6_pageGoes 51 = .ok (.invokevirtual 191, 3) := dcq_474.2.2.2.2.2.2.2.2.2.2.2
set_option maxRecDepth 20000 in
theorem dcb_475 : fd_B cX6_pageGoes 54 [4, 96, 3, 17, 39, 15, 184, 0, 194, 182, 0, 184, 42, 27, 4, 42, 27, 4] := fd_o cX6_pageGoes 54 _ (by decide +kernel)
theorem dcq_475 : (decode cX6_pageGoes 54 = .ok (.iconst 1, 1)) ∧ (decode cX6_pageGoes 55 = .ok (.iadd, 1)) ∧ (decode cX6_pageGoes 56 = .ok (.iconst 0, 1)) ∧ (decode cX6_pageGoes 57 = .ok (.sipush 9999, 3)) ∧ (decode cX6_pageGoes 60 = .ok (.invokestatic 194, 3)) ∧ (decode cX6_pageGoes 63 = .ok (.invokevirtual 184, 3)) ∧ (decode cX6_pageGoes 66 = .ok (.aload_n 0, 1)) ∧ (decode cX6_pageGoes 67 = .ok (.iload_n 1, 1)) ∧ (decode cX6_pageGoes 68 = .ok (.iconst 1, 1)) ∧ (decode cX6_pageGoes 69 = .ok (.aload_n 0, 1)) ∧ (decode cX6_pageGoes 70 = .ok (.iload_n 1, 1)) ∧ (decode cX6_pageGoes 71 = .ok (.iconst 1, 1)) := have h := dcb_475; ⟨fd_4 h, have h := fd_t1 h; ⟨fd_96 h, have h := fd_t1 h; ⟨fd_3 h, have h := fd_t1 h; ⟨fd_17 h (by decide +kernel), have h := fd_t3 h; ⟨fd_184 h rfl, have h := fd_t3 h; ⟨fd_182 h rfl, have h := fd_t3 h; ⟨fd_42 h, have h := fd_t1 h; ⟨fd_27 h, have h := fd_t1 h; ⟨fd_4 h, have h := fd_t1 h; ⟨fd_42 h, have h := fd_t1 h; ⟨fd_27 h, have h := fd_t1 h; fd_4 h⟩⟩⟩⟩⟩⟩⟩⟩⟩⟩⟩
theorem dX6_pageGoes_54 : decode cX6_pageGoes 54 = .ok (.iconst 1, 1) := dcq_475.1
theorem dX6_pageGoes_55 : decode cX6_pageGoes 55 = .ok (.iadd, 1) := dcq_475.2.1
theorem dX6_pageGoes_56 : decode cX6_pageGoes 56 = .ok (.iconst 0, 1) := dcq_475.2.2.1
theorem dX6_pageGoes_57 : decode cX6_pageGoes 57 = .ok (.sipush 9999, 3) := dcq_475.2.2.2.1
theorem dX6_pageGoes_60 : decode cX6_pageGoes 60 = .ok (.invokestatic 194, 3) := dcq_475.2.2.2.2.1
theorem dX6_pageGoes_63 : decode cX6_pageGoes 63 = .ok (.invokevirtual 184, 3) := dcq_475.2.2.2.2.2.1
theorem dX6_pageGoes_66 : decode cX6_pageGoes 66 = .ok (.aload_n 0, 1) := dcq_475.2.2.2.2.2.2.1
theorem dX6_pageGoes_67 : decode cX6_pageGoes 67 = .ok (.iload_n 1, 1) := dcq_475.2.2.2.2.2.2.2.1
theorem dX6_pageGoes_68 : decode cX6_pageGoes 68 = .ok (.iconst 1, 1) := dcq_475.2.2.2.2.2.2.2.2.1
theorem dX6_pageGoes_69 : decode cX6_pageGoes 69 = .ok (.aload_n 0, 1) := dcq_475.2.2.2.2.2.2.2.2.2.1
theorem dX6_pageGoes_70 : decode cX6_pageGoes 70 = .ok (.iload_n 1, 1) := dcq_475.2.2.2.2.2.2.2.2.2.2.1
theorem dX6_pageGoes_71 : decode cX6_pageGoes 71 = .ok (.iconst 1, 1) := dcq_475.2.2.2.2.2.2.2.2.2.2.2
set_option maxRecDepth 20000 in
theorem dcb_476 : fd_B cX6_pageGoes 72 [182, 0, 191, 42, 27, 182, 0, 201, 100, 182, 0, 184, 177] := fd_o cX6_pageGoes 72 _ (by decide +kernel)
theorem dcq_476 : (decode cX6_pageGoes 72 = .ok (.invokevirtual 191, 3)) ∧ (decode cX6_pageGoes 75 = .ok (.aload_n 0, 1)) ∧ (decode cX6_pageGoes 76 = .ok (.iload_n 1, 1)) ∧ (decode cX6_pageGoes 77 = .ok (.invokevirtual 201, 3)) ∧ (decode cX6_pageGoes 80 = .ok (.isub, 1)) ∧ (decode cX6_pageGoes 81 = .ok (.invokevirtual 184, 3)) ∧ (decode cX6_pageGoes 84 = .ok (.return_, 1)) := have h := dcb_476; ⟨fd_182 h rfl, have h := fd_t3 h; ⟨fd_42 h, have h := fd_t1 h; ⟨fd_27 h, have h := fd_t1 h; ⟨fd_182 h rfl, have h := fd_t3 h; ⟨fd_100 h, have h := fd_t1 h; ⟨fd_182 h rfl, have h := fd_t3 h; fd_177 h⟩⟩⟩⟩⟩⟩
theorem dX6_pageGoes_72 : decode cX6_pageGoes 72 = .ok (.invokevirtual 191, 3) := dcq_476.1
theorem dX6_pageGoes_75 : decode cX6_pageGoes 75 = .ok (.aload_n 0, 1) := dcq_476.2.1
theorem dX6_pageGoes_76 : decode cX6_pageGoes 76 = .ok (.iload_n 1, 1) := dcq_476.2.2.1
theorem dX6_pageGoes_77 : decode cX6_pageGoes 77 = .ok (.invokevirtual 201, 3) := dcq_476.2.2.2.1
theorem dX6_pageGoes_80 : decode cX6_pageGoes 80 = .ok (.isub, 1) := dcq_476.2.2.2.2.1
theorem dX6_pageGoes_81 : decode cX6_pageGoes 81 = .ok (.invokevirtual 184, 3) := dcq_476.2.2.2.2.2.1
theorem dX6_pageGoes_84 : decode cX6_pageGoes 84 = .ok (.return_, 1) := dcq_476.2.2.2.2.2.2
set_option maxRecDepth 20000 in
theorem dcb_477 : fd_B cX6_writes 0 [42, 27, 182, 0, 204, 61, 42, 27, 8, 42, 27, 8, 182, 0, 191, 28] := fd_o cX6_writes 0 _ (by decide +kernel)
theorem dcq_477 : (decode cX6_writes 0 = .ok (.aload_n 0, 1)) ∧ (decode cX6_writes 1 = .ok (.iload_n 1, 1)) ∧ (decode cX6_writes 2 = .ok (.invokevirtual 204, 3)) ∧ (decode cX6_writes 5 = .ok (.istore_n 2, 1)) ∧ (decode cX6_writes 6 = .ok (.aload_n 0, 1)) ∧ (decode cX6_writes 7 = .ok (.iload_n 1, 1)) ∧ (decode cX6_writes 8 = .ok (.iconst 5, 1)) ∧ (decode cX6_writes 9 = .ok (.aload_n 0, 1)) ∧ (decode cX6_writes 10 = .ok (.iload_n 1, 1)) ∧ (decode cX6_writes 11 = .ok (.iconst 5, 1)) ∧ (decode cX6_writes 12 = .ok (.invokevirtual 191, 3)) ∧ (decode cX6_writes 15 = .ok (.iload_n 2, 1)) := have h := dcb_477; ⟨fd_42 h, have h := fd_t1 h; ⟨fd_27 h, have h := fd_t1 h; ⟨fd_182 h rfl, have h := fd_t3 h; ⟨fd_61 h, have h := fd_t1 h; ⟨fd_42 h, have h := fd_t1 h; ⟨fd_27 h, have h := fd_t1 h; ⟨fd_8 h, have h := fd_t1 h; ⟨fd_42 h, have h := fd_t1 h; ⟨fd_27 h, have h := fd_t1 h; ⟨fd_8 h, have h := fd_t1 h; ⟨fd_182 h rfl, have h := fd_t3 h; fd_28 h⟩⟩⟩⟩⟩⟩⟩⟩⟩⟩⟩
theorem dX6_writes_0 : decode cX6_writes 0 = .ok (.aload_n 0, 1) := dcq_477.1
theorem dX6_writes_1 : decode cX6_writes 1 = .ok (.iload_n 1, 1) := dcq_477.2.1
theorem dX6_writes_2 : decode cX6_writes 2 = .ok (.invokevirtual 204, 3) := dcq_477.2.2.1
theorem dX6_writes_5 : decode cX6_writes 5 = .ok (.istore_n 2, 1) := dcq_477.2.2.2.1
theorem dX6_writes_6 : decode cX6_writes 6 = .ok (.aload_n 0, 1) := dcq_477.2.2.2.2.1
theorem dX6_writes_7 : decode cX6_writes 7 = .ok (.iload_n 1, 1) := dcq_477.2.2.2.2.2.1
theorem dX6_writes_8 : decode cX6_writes 8 = .ok (.iconst 5, 1) := dcq_477.2.2.2.2.2.2.1
theorem dX6_writes_9 : decode cX6_writes 9 = .ok (.aload_n 0, 1) := dcq_477.2.2.2.2.2.2.2.1
theorem dX6_writes_10 : decode cX6_writes 10 = .ok (.iload_n 1, 1) := dcq_477.2.2.2.2.2.2.2.2.1
theorem dX6_writes_11 : decode cX6_writes 11 = .ok (.iconst 5, 1) := dcq_477.2.2.2.2.2.2.2.2.2.1
theorem dX6_writes_12 : decode cX6_writes 12 = .ok (.invokevirtual 191, 3) := dcq_477.2.2.2.2.2.2.2.2.2.2.1
theorem dX6_writes_15 : decode cX6_writes 15 = .ok (.iload_n 2, 1) := dcq_477.2.2.2.2.2.2.2.2.2.2.2
set_option maxRecDepth 20000 in
theorem dcb_478 : fd_B cX6_writes 16 [96, 3, 18, 219, 184, 0, 194, 182, 0, 184, 42, 27, 6, 42, 27, 182, 0, 207, 153, 0, 14] := fd_o cX6_writes 16 _ (by decide +kernel)
theorem dcq_478 : (decode cX6_writes 16 = .ok (.iadd, 1)) ∧ (decode cX6_writes 17 = .ok (.iconst 0, 1)) ∧ (decode cX6_writes 18 = .ok (.ldc 219, 2)) ∧ (decode cX6_writes 20 = .ok (.invokestatic 194, 3)) ∧ (decode cX6_writes 23 = .ok (.invokevirtual 184, 3)) ∧ (decode cX6_writes 26 = .ok (.aload_n 0, 1)) ∧ (decode cX6_writes 27 = .ok (.iload_n 1, 1)) ∧ (decode cX6_writes 28 = .ok (.iconst 3, 1)) ∧ (decode cX6_writes 29 = .ok (.aload_n 0, 1)) ∧ (decode cX6_writes 30 = .ok (.iload_n 1, 1)) ∧ (decode cX6_writes 31 = .ok (.invokevirtual 207, 3)) ∧ (decode cX6_writes 34 = .ok (.ifCond .eq 14, 3)) := have h := dcb_478; ⟨fd_96 h, have h := fd_t1 h; ⟨fd_3 h, have h := fd_t1 h; ⟨fd_18 h rfl, have h := fd_t2 h; ⟨fd_184 h rfl, have h := fd_t3 h; ⟨fd_182 h rfl, have h := fd_t3 h; ⟨fd_42 h, have h := fd_t1 h; ⟨fd_27 h, have h := fd_t1 h; ⟨fd_6 h, have h := fd_t1 h; ⟨fd_42 h, have h := fd_t1 h; ⟨fd_27 h, have h := fd_t1 h; ⟨fd_182 h rfl, have h := fd_t3 h; fd_153 h (by decide +kernel)⟩⟩⟩⟩⟩⟩⟩⟩⟩⟩⟩
theorem dX6_writes_16 : decode cX6_writes 16 = .ok (.iadd, 1) := dcq_478.1
theorem dX6_writes_17 : decode cX6_writes 17 = .ok (.iconst 0, 1) := dcq_478.2.1
theorem dX6_writes_18 : decode cX6_writes 18 = .ok (.ldc 219, 2) := dcq_478.2.2.1
theorem dX6_writes_20 : decode cX6_writes 20 = .ok (.invokestatic 194, 3) := dcq_478.2.2.2.1
theorem dX6_writes_23 : decode cX6_writes 23 = .ok (.invokevirtual 184, 3) := dcq_478.2.2.2.2.1
theorem dX6_writes_26 : decode cX6_writes 26 = .ok (.aload_n 0, 1) := dcq_478.2.2.2.2.2.1
theorem dX6_writes_27 : decode cX6_writes 27 = .ok (.iload_n 1, 1) := dcq_478.2.2.2.2.2.2.1
theorem dX6_writes_28 : decode cX6_writes 28 = .ok (.iconst 3, 1) := dcq_478.2.2.2.2.2.2.2.1
theorem dX6_writes_29 : decode cX6_writes 29 = .ok (.aload_n 0, 1) := dcq_478.2.2.2.2.2.2.2.2.1
theorem dX6_writes_30 : decode cX6_writes 30 = .ok (.iload_n 1, 1) := dcq_478.2.2.2.2.2.2.2.2.2.1
theorem dX6_writes_31 : decode cX6_writes 31 = .ok (.invokevirtual 207, 3) := dcq_478.2.2.2.2.2.2.2.2.2.2.1
theorem dX6_writes_34 : decode cX6_writes 34 = .ok (.ifCond .eq 14, 3) := dcq_478.2.2.2.2.2.2.2.2.2.2.2
set_option maxRecDepth 20000 in
theorem dcb_479 : fd_B cX6_writes 37 [42, 27, 6, 182, 0, 191, 4, 100, 167, 0, 9, 42, 27, 6, 182, 0, 191, 182, 0, 184] := fd_o cX6_writes 37 _ (by decide +kernel)
theorem dcq_479 : (decode cX6_writes 37 = .ok (.aload_n 0, 1)) ∧ (decode cX6_writes 38 = .ok (.iload_n 1, 1)) ∧ (decode cX6_writes 39 = .ok (.iconst 3, 1)) ∧ (decode cX6_writes 40 = .ok (.invokevirtual 191, 3)) ∧ (decode cX6_writes 43 = .ok (.iconst 1, 1)) ∧ (decode cX6_writes 44 = .ok (.isub, 1)) ∧ (decode cX6_writes 45 = .ok (.goto 9, 3)) ∧ (decode cX6_writes 48 = .ok (.aload_n 0, 1)) ∧ (decode cX6_writes 49 = .ok (.iload_n 1, 1)) ∧ (decode cX6_writes 50 = .ok (.iconst 3, 1)) ∧ (decode cX6_writes 51 = .ok (.invokevirtual 191, 3)) ∧ (decode cX6_writes 54 = .ok (.invokevirtual 184, 3)) := have h := dcb_479; ⟨fd_42 h, have h := fd_t1 h; ⟨fd_27 h, have h := fd_t1 h; ⟨fd_6 h, have h := fd_t1 h; ⟨fd_182 h rfl, have h := fd_t3 h; ⟨fd_4 h, have h := fd_t1 h; ⟨fd_100 h, have h := fd_t1 h; ⟨fd_167 h (by decide +kernel), have h := fd_t3 h; ⟨fd_42 h, have h := fd_t1 h; ⟨fd_27 h, have h := fd_t1 h; ⟨fd_6 h, have h := fd_t1 h; ⟨fd_182 h rfl, have h := fd_t3 h; fd_182 h rfl⟩⟩⟩⟩⟩⟩⟩⟩⟩⟩⟩
theorem dX6_writes_37 : decode cX6_writes 37 = .ok (.aload_n 0, 1) := dcq_479.1
theorem dX6_writes_38 : decode cX6_writes 38 = .ok (.iload_n 1, 1) := dcq_479.2.1
theorem dX6_writes_39 : decode cX6_writes 39 = .ok (.iconst 3, 1) := dcq_479.2.2.1
theorem dX6_writes_40 : decode cX6_writes 40 = .ok (.invokevirtual 191, 3) := dcq_479.2.2.2.1
theorem dX6_writes_43 : decode cX6_writes 43 = .ok (.iconst 1, 1) := dcq_479.2.2.2.2.1
theorem dX6_writes_44 : decode cX6_writes 44 = .ok (.isub, 1) := dcq_479.2.2.2.2.2.1
theorem dX6_writes_45 : decode cX6_writes 45 = .ok (.goto 9, 3) := dcq_479.2.2.2.2.2.2.1
theorem dX6_writes_48 : decode cX6_writes 48 = .ok (.aload_n 0, 1) := dcq_479.2.2.2.2.2.2.2.1
theorem dX6_writes_49 : decode cX6_writes 49 = .ok (.iload_n 1, 1) := dcq_479.2.2.2.2.2.2.2.2.1
theorem dX6_writes_50 : decode cX6_writes 50 = .ok (.iconst 3, 1) := dcq_479.2.2.2.2.2.2.2.2.2.1
theorem dX6_writes_51 : decode cX6_writes 51 = .ok (.invokevirtual 191, 3) := dcq_479.2.2.2.2.2.2.2.2.2.2.1
theorem dX6_writes_54 : decode cX6_writes 54 = .ok (.invokevirtual 184, 3) := dcq_479.2.2.2.2.2.2.2.2.2.2.2
set_option maxRecDepth 20000 in
theorem dcb_480 : fd_B cX6_writes 57 [28, 172] := fd_o cX6_writes 57 _ (by decide +kernel)
theorem dcq_480 : (decode cX6_writes 57 = .ok (.iload_n 2, 1)) ∧ (decode cX6_writes 58 = .ok (.ireturn, 1)) := have h := dcb_480; ⟨fd_28 h, have h := fd_t1 h; fd_172 h⟩
theorem dX6_writes_57 : decode cX6_writes 57 = .ok (.iload_n 2, 1) := dcq_480.1
theorem dX6_writes_58 : decode cX6_writes 58 = .ok (.ireturn, 1) := dcq_480.2
set_option maxRecDepth 20000 in
theorem dcb_481 : fd_B cX6_weekGoes 0 [3, 60, 27, 42, 180, 0, 7, 16, 6, 46, 162, 0, 33, 42, 27, 4, 42] := fd_o cX6_weekGoes 0 _ (by decide +kernel)
theorem dcq_481 : (decode cX6_weekGoes 0 = .ok (.iconst 0, 1)) ∧ (decode cX6_weekGoes 1 = .ok (.istore_n 1, 1)) ∧ (decode cX6_weekGoes 2 = .ok (.iload_n 1, 1)) ∧ (decode cX6_weekGoes 3 = .ok (.aload_n 0, 1)) ∧ (decode cX6_weekGoes 4 = .ok (.getfield 7, 3)) ∧ (decode cX6_weekGoes 7 = .ok (.bipush 6, 2)) ∧ (decode cX6_weekGoes 9 = .ok (.iaload, 1)) ∧ (decode cX6_weekGoes 10 = .ok (.if_icmp .ge 33, 3)) ∧ (decode cX6_weekGoes 13 = .ok (.aload_n 0, 1)) ∧ (decode cX6_weekGoes 14 = .ok (.iload_n 1, 1)) ∧ (decode cX6_weekGoes 15 = .ok (.iconst 1, 1)) ∧ (decode cX6_weekGoes 16 = .ok (.aload_n 0, 1)) := have h := dcb_481; ⟨fd_3 h, have h := fd_t1 h; ⟨fd_60 h, have h := fd_t1 h; ⟨fd_27 h, have h := fd_t1 h; ⟨fd_42 h, have h := fd_t1 h; ⟨fd_180 h rfl, have h := fd_t3 h; ⟨fd_16 h (by decide +kernel), have h := fd_t2 h; ⟨fd_46 h, have h := fd_t1 h; ⟨fd_162 h (by decide +kernel), have h := fd_t3 h; ⟨fd_42 h, have h := fd_t1 h; ⟨fd_27 h, have h := fd_t1 h; ⟨fd_4 h, have h := fd_t1 h; fd_42 h⟩⟩⟩⟩⟩⟩⟩⟩⟩⟩⟩
theorem dX6_weekGoes_0 : decode cX6_weekGoes 0 = .ok (.iconst 0, 1) := dcq_481.1
theorem dX6_weekGoes_1 : decode cX6_weekGoes 1 = .ok (.istore_n 1, 1) := dcq_481.2.1
theorem dX6_weekGoes_2 : decode cX6_weekGoes 2 = .ok (.iload_n 1, 1) := dcq_481.2.2.1
theorem dX6_weekGoes_3 : decode cX6_weekGoes 3 = .ok (.aload_n 0, 1) := dcq_481.2.2.2.1
theorem dX6_weekGoes_4 : decode cX6_weekGoes 4 = .ok (.getfield 7, 3) := dcq_481.2.2.2.2.1
theorem dX6_weekGoes_7 : decode cX6_weekGoes 7 = .ok (.bipush 6, 2) := dcq_481.2.2.2.2.2.1
theorem dX6_weekGoes_9 : decode cX6_weekGoes 9 = .ok (.iaload, 1) := dcq_481.2.2.2.2.2.2.1
theorem dX6_weekGoes_10 : decode cX6_weekGoes 10 = .ok (.if_icmp .ge 33, 3) := dcq_481.2.2.2.2.2.2.2.1
theorem dX6_weekGoes_13 : decode cX6_weekGoes 13 = .ok (.aload_n 0, 1) := dcq_481.2.2.2.2.2.2.2.2.1
theorem dX6_weekGoes_14 : decode cX6_weekGoes 14 = .ok (.iload_n 1, 1) := dcq_481.2.2.2.2.2.2.2.2.2.1
theorem dX6_weekGoes_15 : decode cX6_weekGoes 15 = .ok (.iconst 1, 1) := dcq_481.2.2.2.2.2.2.2.2.2.2.1
theorem dX6_weekGoes_16 : decode cX6_weekGoes 16 = .ok (.aload_n 0, 1) := dcq_481.2.2.2.2.2.2.2.2.2.2.2
set_option maxRecDepth 20000 in
theorem dcb_482 : fd_B cX6_weekGoes 17 [27, 4, 182, 0, 191, 42, 27, 182, 0, 198, 96, 3, 16, 99, 184, 0, 194, 182, 0, 184, 132, 1, 1] := fd_o cX6_weekGoes 17 _ (by decide +kernel)
theorem dcq_482 : (decode cX6_weekGoes 17 = .ok (.iload_n 1, 1)) ∧ (decode cX6_weekGoes 18 = .ok (.iconst 1, 1)) ∧ (decode cX6_weekGoes 19 = .ok (.invokevirtual 191, 3)) ∧ (decode cX6_weekGoes 22 = .ok (.aload_n 0, 1)) ∧ (decode cX6_weekGoes 23 = .ok (.iload_n 1, 1)) ∧ (decode cX6_weekGoes 24 = .ok (.invokevirtual 198, 3)) ∧ (decode cX6_weekGoes 27 = .ok (.iadd, 1)) ∧ (decode cX6_weekGoes 28 = .ok (.iconst 0, 1)) ∧ (decode cX6_weekGoes 29 = .ok (.bipush 99, 2)) ∧ (decode cX6_weekGoes 31 = .ok (.invokestatic 194, 3)) ∧ (decode cX6_weekGoes 34 = .ok (.invokevirtual 184, 3)) ∧ (decode cX6_weekGoes 37 = .ok (.iinc 1 1, 3)) := have h := dcb_482; ⟨fd_27 h, have h := fd_t1 h; ⟨fd_4 h, have h := fd_t1 h; ⟨fd_182 h rfl, have h := fd_t3 h; ⟨fd_42 h, have h := fd_t1 h; ⟨fd_27 h, have h := fd_t1 h; ⟨fd_182 h rfl, have h := fd_t3 h; ⟨fd_96 h, have h := fd_t1 h; ⟨fd_3 h, have h := fd_t1 h; ⟨fd_16 h (by decide +kernel), have h := fd_t2 h; ⟨fd_184 h rfl, have h := fd_t3 h; ⟨fd_182 h rfl, have h := fd_t3 h; fd_132 h rfl (by decide +kernel)⟩⟩⟩⟩⟩⟩⟩⟩⟩⟩⟩
theorem dX6_weekGoes_17 : decode cX6_weekGoes 17 = .ok (.iload_n 1, 1) := dcq_482.1
theorem dX6_weekGoes_18 : decode cX6_weekGoes 18 = .ok (.iconst 1, 1) := dcq_482.2.1
theorem dX6_weekGoes_19 : decode cX6_weekGoes 19 = .ok (.invokevirtual 191, 3) := dcq_482.2.2.1
theorem dX6_weekGoes_22 : decode cX6_weekGoes 22 = .ok (.aload_n 0, 1) := dcq_482.2.2.2.1
theorem dX6_weekGoes_23 : decode cX6_weekGoes 23 = .ok (.iload_n 1, 1) := dcq_482.2.2.2.2.1
theorem dX6_weekGoes_24 : decode cX6_weekGoes 24 = .ok (.invokevirtual 198, 3) := dcq_482.2.2.2.2.2.1
theorem dX6_weekGoes_27 : decode cX6_weekGoes 27 = .ok (.iadd, 1) := dcq_482.2.2.2.2.2.2.1
theorem dX6_weekGoes_28 : decode cX6_weekGoes 28 = .ok (.iconst 0, 1) := dcq_482.2.2.2.2.2.2.2.1
theorem dX6_weekGoes_29 : decode cX6_weekGoes 29 = .ok (.bipush 99, 2) := dcq_482.2.2.2.2.2.2.2.2.1
theorem dX6_weekGoes_31 : decode cX6_weekGoes 31 = .ok (.invokestatic 194, 3) := dcq_482.2.2.2.2.2.2.2.2.2.1
theorem dX6_weekGoes_34 : decode cX6_weekGoes 34 = .ok (.invokevirtual 184, 3) := dcq_482.2.2.2.2.2.2.2.2.2.2.1
theorem dX6_weekGoes_37 : decode cX6_weekGoes 37 = .ok (.iinc 1 1, 3) := dcq_482.2.2.2.2.2.2.2.2.2.2.2
set_option maxRecDepth 20000 in
theorem dcb_483 : fd_B cX6_weekGoes 40 [167, 255, 218, 3, 60, 27, 42, 180, 0, 7, 3, 46, 162, 0, 13, 42, 182, 0, 220, 132, 1, 1] := fd_o cX6_weekGoes 40 _ (by decide +kernel)
theorem dcq_483 : (decode cX6_weekGoes 40 = .ok (.goto (-38), 3)) ∧ (decode cX6_weekGoes 43 = .ok (.iconst 0, 1)) ∧ (decode cX6_weekGoes 44 = .ok (.istore_n 1, 1)) ∧ (decode cX6_weekGoes 45 = .ok (.iload_n 1, 1)) ∧ (decode cX6_weekGoes 46 = .ok (.aload_n 0, 1)) ∧ (decode cX6_weekGoes 47 = .ok (.getfield 7, 3)) ∧ (decode cX6_weekGoes 50 = .ok (.iconst 0, 1)) ∧ (decode cX6_weekGoes 51 = .ok (.iaload, 1)) ∧ (decode cX6_weekGoes 52 = .ok (.if_icmp .ge 13, 3)) ∧ (decode cX6_weekGoes 55 = .ok (.aload_n 0, 1)) ∧ (decode cX6_weekGoes 56 = .ok (.invokevirtual 220, 3)) ∧ (decode cX6_weekGoes 59 = .ok (.iinc 1 1, 3)) := have h := dcb_483; ⟨fd_167 h (by decide +kernel), have h := fd_t3 h; ⟨fd_3 h, have h := fd_t1 h; ⟨fd_60 h, have h := fd_t1 h; ⟨fd_27 h, have h := fd_t1 h; ⟨fd_42 h, have h := fd_t1 h; ⟨fd_180 h rfl, have h := fd_t3 h; ⟨fd_3 h, have h := fd_t1 h; ⟨fd_46 h, have h := fd_t1 h; ⟨fd_162 h (by decide +kernel), have h := fd_t3 h; ⟨fd_42 h, have h := fd_t1 h; ⟨fd_182 h rfl, have h := fd_t3 h; fd_132 h rfl (by decide +kernel)⟩⟩⟩⟩⟩⟩⟩⟩⟩⟩⟩
theorem dX6_weekGoes_40 : decode cX6_weekGoes 40 = .ok (.goto (-38), 3) := dcq_483.1
theorem dX6_weekGoes_43 : decode cX6_weekGoes 43 = .ok (.iconst 0, 1) := dcq_483.2.1
theorem dX6_weekGoes_44 : decode cX6_weekGoes 44 = .ok (.istore_n 1, 1) := dcq_483.2.2.1
theorem dX6_weekGoes_45 : decode cX6_weekGoes 45 = .ok (.iload_n 1, 1) := dcq_483.2.2.2.1
theorem dX6_weekGoes_46 : decode cX6_weekGoes 46 = .ok (.aload_n 0, 1) := dcq_483.2.2.2.2.1
theorem dX6_weekGoes_47 : decode cX6_weekGoes 47 = .ok (.getfield 7, 3) := dcq_483.2.2.2.2.2.1
theorem dX6_weekGoes_50 : decode cX6_weekGoes 50 = .ok (.iconst 0, 1) := dcq_483.2.2.2.2.2.2.1
theorem dX6_weekGoes_51 : decode cX6_weekGoes 51 = .ok (.iaload, 1) := dcq_483.2.2.2.2.2.2.2.1
theorem dX6_weekGoes_52 : decode cX6_weekGoes 52 = .ok (.if_icmp .ge 13, 3) := dcq_483.2.2.2.2.2.2.2.2.1
theorem dX6_weekGoes_55 : decode cX6_weekGoes 55 = .ok (.aload_n 0, 1) := dcq_483.2.2.2.2.2.2.2.2.2.1
theorem dX6_weekGoes_56 : decode cX6_weekGoes 56 = .ok (.invokevirtual 220, 3) := dcq_483.2.2.2.2.2.2.2.2.2.2.1
theorem dX6_weekGoes_59 : decode cX6_weekGoes 59 = .ok (.iinc 1 1, 3) := dcq_483.2.2.2.2.2.2.2.2.2.2.2
set_option maxRecDepth 20000 in
theorem dcb_484 : fd_B cX6_weekGoes 62 [167, 255, 239, 3, 60, 3, 61, 28, 42, 180, 0, 7, 16, 6, 46, 162, 0, 30, 27] := fd_o cX6_weekGoes 62 _ (by decide +kernel)
theorem dcq_484 : (decode cX6_weekGoes 62 = .ok (.goto (-17), 3)) ∧ (decode cX6_weekGoes 65 = .ok (.iconst 0, 1)) ∧ (decode cX6_weekGoes 66 = .ok (.istore_n 1, 1)) ∧ (decode cX6_weekGoes 67 = .ok (.iconst 0, 1)) ∧ (decode cX6_weekGoes 68 = .ok (.istore_n 2, 1)) ∧ (decode cX6_weekGoes 69 = .ok (.iload_n 2, 1)) ∧ (decode cX6_weekGoes 70 = .ok (.aload_n 0, 1)) ∧ (decode cX6_weekGoes 71 = .ok (.getfield 7, 3)) ∧ (decode cX6_weekGoes 74 = .ok (.bipush 6, 2)) ∧ (decode cX6_weekGoes 76 = .ok (.iaload, 1)) ∧ (decode cX6_weekGoes 77 = .ok (.if_icmp .ge 30, 3)) ∧ (decode cX6_weekGoes 80 = .ok (.iload_n 1, 1)) := have h := dcb_484; ⟨fd_167 h (by decide +kernel), have h := fd_t3 h; ⟨fd_3 h, have h := fd_t1 h; ⟨fd_60 h, have h := fd_t1 h; ⟨fd_3 h, have h := fd_t1 h; ⟨fd_61 h, have h := fd_t1 h; ⟨fd_28 h, have h := fd_t1 h; ⟨fd_42 h, have h := fd_t1 h; ⟨fd_180 h rfl, have h := fd_t3 h; ⟨fd_16 h (by decide +kernel), have h := fd_t2 h; ⟨fd_46 h, have h := fd_t1 h; ⟨fd_162 h (by decide +kernel), have h := fd_t3 h; fd_27 h⟩⟩⟩⟩⟩⟩⟩⟩⟩⟩⟩
theorem dX6_weekGoes_62 : decode cX6_weekGoes 62 = .ok (.goto (-17), 3) := dcq_484.1
theorem dX6_weekGoes_65 : decode cX6_weekGoes 65 = .ok (.iconst 0, 1) := dcq_484.2.1
theorem dX6_weekGoes_66 : decode cX6_weekGoes 66 = .ok (.istore_n 1, 1) := dcq_484.2.2.1
theorem dX6_weekGoes_67 : decode cX6_weekGoes 67 = .ok (.iconst 0, 1) := dcq_484.2.2.2.1
theorem dX6_weekGoes_68 : decode cX6_weekGoes 68 = .ok (.istore_n 2, 1) := dcq_484.2.2.2.2.1
theorem dX6_weekGoes_69 : decode cX6_weekGoes 69 = .ok (.iload_n 2, 1) := dcq_484.2.2.2.2.2.1
theorem dX6_weekGoes_70 : decode cX6_weekGoes 70 = .ok (.aload_n 0, 1) := dcq_484.2.2.2.2.2.2.1
theorem dX6_weekGoes_71 : decode cX6_weekGoes 71 = .ok (.getfield 7, 3) := dcq_484.2.2.2.2.2.2.2.1
theorem dX6_weekGoes_74 : decode cX6_weekGoes 74 = .ok (.bipush 6, 2) := dcq_484.2.2.2.2.2.2.2.2.1
theorem dX6_weekGoes_76 : decode cX6_weekGoes 76 = .ok (.iaload, 1) := dcq_484.2.2.2.2.2.2.2.2.2.1
theorem dX6_weekGoes_77 : decode cX6_weekGoes 77 = .ok (.if_icmp .ge 30, 3) := dcq_484.2.2.2.2.2.2.2.2.2.2.1
theorem dX6_weekGoes_80 : decode cX6_weekGoes 80 = .ok (.iload_n 1, 1) := dcq_484.2.2.2.2.2.2.2.2.2.2.2
set_option maxRecDepth 20000 in
theorem dcb_485 : fd_B cX6_weekGoes 81 [42, 28, 6, 182, 0, 191, 158, 0, 11, 42, 28, 182, 0, 223, 167, 0, 4, 3, 96, 60] := fd_o cX6_weekGoes 81 _ (by decide +kernel)
theorem dcq_485 : (decode cX6_weekGoes 81 = .ok (.aload_n 0, 1)) ∧ (decode cX6_weekGoes 82 = .ok (.iload_n 2, 1)) ∧ (decode cX6_weekGoes 83 = .ok (.iconst 3, 1)) ∧ (decode cX6_weekGoes 84 = .ok (.invokevirtual 191, 3)) ∧ (decode cX6_weekGoes 87 = .ok (.ifCond .le 11, 3)) ∧ (decode cX6_weekGoes 90 = .ok (.aload_n 0, 1)) ∧ (decode cX6_weekGoes 91 = .ok (.iload_n 2, 1)) ∧ (decode cX6_weekGoes 92 = .ok (.invokevirtual 223, 3)) ∧ (decode cX6_weekGoes 95 = .ok (.goto 4, 3)) ∧ (decode cX6_weekGoes 98 = .ok (.iconst 0, 1)) ∧ (decode cX6_weekGoes 99 = .ok (.iadd, 1)) ∧ (decode cX6_weekGoes 100 = .ok (.istore_n 1, 1)) := have h := dcb_485; ⟨fd_42 h, have h := fd_t1 h; ⟨fd_28 h, have h := fd_t1 h; ⟨fd_6 h, have h := fd_t1 h; ⟨fd_182 h rfl, have h := fd_t3 h; ⟨fd_158 h (by decide +kernel), have h := fd_t3 h; ⟨fd_42 h, have h := fd_t1 h; ⟨fd_28 h, have h := fd_t1 h; ⟨fd_182 h rfl, have h := fd_t3 h; ⟨fd_167 h (by decide +kernel), have h := fd_t3 h; ⟨fd_3 h, have h := fd_t1 h; ⟨fd_96 h, have h := fd_t1 h; fd_60 h⟩⟩⟩⟩⟩⟩⟩⟩⟩⟩⟩
theorem dX6_weekGoes_81 : decode cX6_weekGoes 81 = .ok (.aload_n 0, 1) := dcq_485.1
theorem dX6_weekGoes_82 : decode cX6_weekGoes 82 = .ok (.iload_n 2, 1) := dcq_485.2.1
theorem dX6_weekGoes_83 : decode cX6_weekGoes 83 = .ok (.iconst 3, 1) := dcq_485.2.2.1
theorem dX6_weekGoes_84 : decode cX6_weekGoes 84 = .ok (.invokevirtual 191, 3) := dcq_485.2.2.2.1
theorem dX6_weekGoes_87 : decode cX6_weekGoes 87 = .ok (.ifCond .le 11, 3) := dcq_485.2.2.2.2.1
theorem dX6_weekGoes_90 : decode cX6_weekGoes 90 = .ok (.aload_n 0, 1) := dcq_485.2.2.2.2.2.1
theorem dX6_weekGoes_91 : decode cX6_weekGoes 91 = .ok (.iload_n 2, 1) := dcq_485.2.2.2.2.2.2.1
theorem dX6_weekGoes_92 : decode cX6_weekGoes 92 = .ok (.invokevirtual 223, 3) := dcq_485.2.2.2.2.2.2.2.1
theorem dX6_weekGoes_95 : decode cX6_weekGoes 95 = .ok (.goto 4, 3) := dcq_485.2.2.2.2.2.2.2.2.1
theorem dX6_weekGoes_98 : decode cX6_weekGoes 98 = .ok (.iconst 0, 1) := dcq_485.2.2.2.2.2.2.2.2.2.1
theorem dX6_weekGoes_99 : decode cX6_weekGoes 99 = .ok (.iadd, 1) := dcq_485.2.2.2.2.2.2.2.2.2.2.1
theorem dX6_weekGoes_100 : decode cX6_weekGoes 100 = .ok (.istore_n 1, 1) := dcq_485.2.2.2.2.2.2.2.2.2.2.2
set_option maxRecDepth 20000 in
theorem dcb_486 : fd_B cX6_weekGoes 101 [132, 2, 1, 167, 255, 221, 42, 180, 0, 7, 7, 92, 46, 4, 96, 79, 27, 172] := fd_o cX6_weekGoes 101 _ (by decide +kernel)
theorem dcq_486 : (decode cX6_weekGoes 101 = .ok (.iinc 2 1, 3)) ∧ (decode cX6_weekGoes 104 = .ok (.goto (-35), 3)) ∧ (decode cX6_weekGoes 107 = .ok (.aload_n 0, 1)) ∧ (decode cX6_weekGoes 108 = .ok (.getfield 7, 3)) ∧ (decode cX6_weekGoes 111 = .ok (.iconst 4, 1)) ∧ (decode cX6_weekGoes 112 = .ok (.dup2, 1)) ∧ (decode cX6_weekGoes 113 = .ok (.iaload, 1)) ∧ (decode cX6_weekGoes 114 = .ok (.iconst 1, 1)) ∧ (decode cX6_weekGoes 115 = .ok (.iadd, 1)) ∧ (decode cX6_weekGoes 116 = .ok (.iastore, 1)) ∧ (decode cX6_weekGoes 117 = .ok (.iload_n 1, 1)) ∧ (decode cX6_weekGoes 118 = .ok (.ireturn, 1)) := have h := dcb_486; ⟨fd_132 h rfl (by decide +kernel), have h := fd_t3 h; ⟨fd_167 h (by decide +kernel), have h := fd_t3 h; ⟨fd_42 h, have h := fd_t1 h; ⟨fd_180 h rfl, have h := fd_t3 h; ⟨fd_7 h, have h := fd_t1 h; ⟨fd_92 h, have h := fd_t1 h; ⟨fd_46 h, have h := fd_t1 h; ⟨fd_4 h, have h := fd_t1 h; ⟨fd_96 h, have h := fd_t1 h; ⟨fd_79 h, have h := fd_t1 h; ⟨fd_27 h, have h := fd_t1 h; fd_172 h⟩⟩⟩⟩⟩⟩⟩⟩⟩⟩⟩
theorem dX6_weekGoes_101 : decode cX6_weekGoes 101 = .ok (.iinc 2 1, 3) := dcq_486.1
theorem dX6_weekGoes_104 : decode cX6_weekGoes 104 = .ok (.goto (-35), 3) := dcq_486.2.1
theorem dX6_weekGoes_107 : decode cX6_weekGoes 107 = .ok (.aload_n 0, 1) := dcq_486.2.2.1
theorem dX6_weekGoes_108 : decode cX6_weekGoes 108 = .ok (.getfield 7, 3) := dcq_486.2.2.2.1
theorem dX6_weekGoes_111 : decode cX6_weekGoes 111 = .ok (.iconst 4, 1) := dcq_486.2.2.2.2.1
theorem dX6_weekGoes_112 : decode cX6_weekGoes 112 = .ok (.dup2, 1) := dcq_486.2.2.2.2.2.1
theorem dX6_weekGoes_113 : decode cX6_weekGoes 113 = .ok (.iaload, 1) := dcq_486.2.2.2.2.2.2.1
theorem dX6_weekGoes_114 : decode cX6_weekGoes 114 = .ok (.iconst 1, 1) := dcq_486.2.2.2.2.2.2.2.1
theorem dX6_weekGoes_115 : decode cX6_weekGoes 115 = .ok (.iadd, 1) := dcq_486.2.2.2.2.2.2.2.2.1
theorem dX6_weekGoes_116 : decode cX6_weekGoes 116 = .ok (.iastore, 1) := dcq_486.2.2.2.2.2.2.2.2.2.1
theorem dX6_weekGoes_117 : decode cX6_weekGoes 117 = .ok (.iload_n 1, 1) := dcq_486.2.2.2.2.2.2.2.2.2.2.1
theorem dX6_weekGoes_118 : decode cX6_weekGoes 118 = .ok (.ireturn, 1) := dcq_486.2.2.2.2.2.2.2.2.2.2.2
set_option maxRecDepth 20000 in
theorem dcb_487 : fd_B cX6_sumOf 0 [3, 61, 3, 62, 29, 42, 180, 0, 7, 16, 6, 46, 162, 0, 18, 28, 42] := fd_o cX6_sumOf 0 _ (by decide +kernel)
theorem dcq_487 : (decode cX6_sumOf 0 = .ok (.iconst 0, 1)) ∧ (decode cX6_sumOf 1 = .ok (.istore_n 2, 1)) ∧ (decode cX6_sumOf 2 = .ok (.iconst 0, 1)) ∧ (decode cX6_sumOf 3 = .ok (.istore_n 3, 1)) ∧ (decode cX6_sumOf 4 = .ok (.iload_n 3, 1)) ∧ (decode cX6_sumOf 5 = .ok (.aload_n 0, 1)) ∧ (decode cX6_sumOf 6 = .ok (.getfield 7, 3)) ∧ (decode cX6_sumOf 9 = .ok (.bipush 6, 2)) ∧ (decode cX6_sumOf 11 = .ok (.iaload, 1)) ∧ (decode cX6_sumOf 12 = .ok (.if_icmp .ge 18, 3)) ∧ (decode cX6_sumOf 15 = .ok (.iload_n 2, 1)) ∧ (decode cX6_sumOf 16 = .ok (.aload_n 0, 1)) := have h := dcb_487; ⟨fd_3 h, have h := fd_t1 h; ⟨fd_61 h, have h := fd_t1 h; ⟨fd_3 h, have h := fd_t1 h; ⟨fd_62 h, have h := fd_t1 h; ⟨fd_29 h, have h := fd_t1 h; ⟨fd_42 h, have h := fd_t1 h; ⟨fd_180 h rfl, have h := fd_t3 h; ⟨fd_16 h (by decide +kernel), have h := fd_t2 h; ⟨fd_46 h, have h := fd_t1 h; ⟨fd_162 h (by decide +kernel), have h := fd_t3 h; ⟨fd_28 h, have h := fd_t1 h; fd_42 h⟩⟩⟩⟩⟩⟩⟩⟩⟩⟩⟩
theorem dX6_sumOf_0 : decode cX6_sumOf 0 = .ok (.iconst 0, 1) := dcq_487.1
theorem dX6_sumOf_1 : decode cX6_sumOf 1 = .ok (.istore_n 2, 1) := dcq_487.2.1
theorem dX6_sumOf_2 : decode cX6_sumOf 2 = .ok (.iconst 0, 1) := dcq_487.2.2.1
theorem dX6_sumOf_3 : decode cX6_sumOf 3 = .ok (.istore_n 3, 1) := dcq_487.2.2.2.1
theorem dX6_sumOf_4 : decode cX6_sumOf 4 = .ok (.iload_n 3, 1) := dcq_487.2.2.2.2.1
theorem dX6_sumOf_5 : decode cX6_sumOf 5 = .ok (.aload_n 0, 1) := dcq_487.2.2.2.2.2.1
theorem dX6_sumOf_6 : decode cX6_sumOf 6 = .ok (.getfield 7, 3) := dcq_487.2.2.2.2.2.2.1
theorem dX6_sumOf_9 : decode cX6_sumOf 9 = .ok (.bipush 6, 2) := dcq_487.2.2.2.2.2.2.2.1
theorem dX6_sumOf_11 : decode cX6_sumOf 11 = .ok (.iaload, 1) := dcq_487.2.2.2.2.2.2.2.2.1
theorem dX6_sumOf_12 : decode cX6_sumOf 12 = .ok (.if_icmp .ge 18, 3) := dcq_487.2.2.2.2.2.2.2.2.2.1
theorem dX6_sumOf_15 : decode cX6_sumOf 15 = .ok (.iload_n 2, 1) := dcq_487.2.2.2.2.2.2.2.2.2.2.1
theorem dX6_sumOf_16 : decode cX6_sumOf 16 = .ok (.aload_n 0, 1) := dcq_487.2.2.2.2.2.2.2.2.2.2.2
set_option maxRecDepth 20000 in
theorem dcb_488 : fd_B cX6_sumOf 17 [29, 27, 182, 0, 191, 96, 61, 132, 3, 1, 167, 255, 233, 28, 172] := fd_o cX6_sumOf 17 _ (by decide +kernel)
theorem dcq_488 : (decode cX6_sumOf 17 = .ok (.iload_n 3, 1)) ∧ (decode cX6_sumOf 18 = .ok (.iload_n 1, 1)) ∧ (decode cX6_sumOf 19 = .ok (.invokevirtual 191, 3)) ∧ (decode cX6_sumOf 22 = .ok (.iadd, 1)) ∧ (decode cX6_sumOf 23 = .ok (.istore_n 2, 1)) ∧ (decode cX6_sumOf 24 = .ok (.iinc 3 1, 3)) ∧ (decode cX6_sumOf 27 = .ok (.goto (-23), 3)) ∧ (decode cX6_sumOf 30 = .ok (.iload_n 2, 1)) ∧ (decode cX6_sumOf 31 = .ok (.ireturn, 1)) := have h := dcb_488; ⟨fd_29 h, have h := fd_t1 h; ⟨fd_27 h, have h := fd_t1 h; ⟨fd_182 h rfl, have h := fd_t3 h; ⟨fd_96 h, have h := fd_t1 h; ⟨fd_61 h, have h := fd_t1 h; ⟨fd_132 h rfl (by decide +kernel), have h := fd_t3 h; ⟨fd_167 h (by decide +kernel), have h := fd_t3 h; ⟨fd_28 h, have h := fd_t1 h; fd_172 h⟩⟩⟩⟩⟩⟩⟩⟩
theorem dX6_sumOf_17 : decode cX6_sumOf 17 = .ok (.iload_n 3, 1) := dcq_488.1
theorem dX6_sumOf_18 : decode cX6_sumOf 18 = .ok (.iload_n 1, 1) := dcq_488.2.1
theorem dX6_sumOf_19 : decode cX6_sumOf 19 = .ok (.invokevirtual 191, 3) := dcq_488.2.2.1
theorem dX6_sumOf_22 : decode cX6_sumOf 22 = .ok (.iadd, 1) := dcq_488.2.2.2.1
theorem dX6_sumOf_23 : decode cX6_sumOf 23 = .ok (.istore_n 2, 1) := dcq_488.2.2.2.2.1
theorem dX6_sumOf_24 : decode cX6_sumOf 24 = .ok (.iinc 3 1, 3) := dcq_488.2.2.2.2.2.1
theorem dX6_sumOf_27 : decode cX6_sumOf 27 = .ok (.goto (-23), 3) := dcq_488.2.2.2.2.2.2.1
theorem dX6_sumOf_30 : decode cX6_sumOf 30 = .ok (.iload_n 2, 1) := dcq_488.2.2.2.2.2.2.2.1
theorem dX6_sumOf_31 : decode cX6_sumOf 31 = .ok (.ireturn, 1) := dcq_488.2.2.2.2.2.2.2.2
set_option maxRecDepth 20000 in
theorem dcb_489 : fd_B cX6_weeks 0 [27, 4, 16, 60, 184, 0, 60, 154, 0, 5, 2, 172, 3, 61, 28, 27, 162, 0, 14] := fd_o cX6_weeks 0 _ (by decide +kernel)
theorem dcq_489 : (decode cX6_weeks 0 = .ok (.iload_n 1, 1)) ∧ (decode cX6_weeks 1 = .ok (.iconst 1, 1)) ∧ (decode cX6_weeks 2 = .ok (.bipush 60, 2)) ∧ (decode cX6_weeks 4 = .ok (.invokestatic 60, 3)) ∧ (decode cX6_weeks 7 = .ok (.ifCond .ne 5, 3)) ∧ (decode cX6_weeks 10 = .ok (.iconst (-1), 1)) ∧ (decode cX6_weeks 11 = .ok (.ireturn, 1)) ∧ (decode cX6_weeks 12 = .ok (.iconst 0, 1)) ∧ (decode cX6_weeks 13 = .ok (.istore_n 2, 1)) ∧ (decode cX6_weeks 14 = .ok (.iload_n 2, 1)) ∧ (decode cX6_weeks 15 = .ok (.iload_n 1, 1)) ∧ (decode cX6_weeks 16 = .ok (.if_icmp .ge 14, 3)) := have h := dcb_489; ⟨fd_27 h, have h := fd_t1 h; ⟨fd_4 h, have h := fd_t1 h; ⟨fd_16 h (by decide +kernel), have h := fd_t2 h; ⟨fd_184 h rfl, have h := fd_t3 h; ⟨fd_154 h (by decide +kernel), have h := fd_t3 h; ⟨fd_2 h, have h := fd_t1 h; ⟨fd_172 h, have h := fd_t1 h; ⟨fd_3 h, have h := fd_t1 h; ⟨fd_61 h, have h := fd_t1 h; ⟨fd_28 h, have h := fd_t1 h; ⟨fd_27 h, have h := fd_t1 h; fd_162 h (by decide +kernel)⟩⟩⟩⟩⟩⟩⟩⟩⟩⟩⟩
theorem dX6_weeks_0 : decode cX6_weeks 0 = .ok (.iload_n 1, 1) := dcq_489.1
theorem dX6_weeks_1 : decode cX6_weeks 1 = .ok (.iconst 1, 1) := dcq_489.2.1
theorem dX6_weeks_2 : decode cX6_weeks 2 = .ok (.bipush 60, 2) := dcq_489.2.2.1
theorem dX6_weeks_4 : decode cX6_weeks 4 = .ok (.invokestatic 60, 3) := dcq_489.2.2.2.1
theorem dX6_weeks_7 : decode cX6_weeks 7 = .ok (.ifCond .ne 5, 3) := dcq_489.2.2.2.2.1
theorem dX6_weeks_10 : decode cX6_weeks 10 = .ok (.iconst (-1), 1) := dcq_489.2.2.2.2.2.1
theorem dX6_weeks_11 : decode cX6_weeks 11 = .ok (.ireturn, 1) := dcq_489.2.2.2.2.2.2.1
theorem dX6_weeks_12 : decode cX6_weeks 12 = .ok (.iconst 0, 1) := dcq_489.2.2.2.2.2.2.2.1
theorem dX6_weeks_13 : decode cX6_weeks 13 = .ok (.istore_n 2, 1) := dcq_489.2.2.2.2.2.2.2.2.1
theorem dX6_weeks_14 : decode cX6_weeks 14 = .ok (.iload_n 2, 1) := dcq_489.2.2.2.2.2.2.2.2.2.1
theorem dX6_weeks_15 : decode cX6_weeks 15 = .ok (.iload_n 1, 1) := dcq_489.2.2.2.2.2.2.2.2.2.2.1
theorem dX6_weeks_16 : decode cX6_weeks 16 = .ok (.if_icmp .ge 14, 3) := dcq_489.2.2.2.2.2.2.2.2.2.2.2
set_option maxRecDepth 20000 in
theorem dcb_490 : fd_B cX6_weeks 19 [42, 182, 0, 226, 87, 132, 2, 1, 167, 255, 243, 42, 6, 182, 0, 229, 172] := fd_o cX6_weeks 19 _ (by decide +kernel)
theorem dcq_490 : (decode cX6_weeks 19 = .ok (.aload_n 0, 1)) ∧ (decode cX6_weeks 20 = .ok (.invokevirtual 226, 3)) ∧ (decode cX6_weeks 23 = .ok (.pop, 1)) ∧ (decode cX6_weeks 24 = .ok (.iinc 2 1, 3)) ∧ (decode cX6_weeks 27 = .ok (.goto (-13), 3)) ∧ (decode cX6_weeks 30 = .ok (.aload_n 0, 1)) ∧ (decode cX6_weeks 31 = .ok (.iconst 3, 1)) ∧ (decode cX6_weeks 32 = .ok (.invokevirtual 229, 3)) ∧ (decode cX6_weeks 35 = .ok (.ireturn, 1)) := have h := dcb_490; ⟨fd_42 h, have h := fd_t1 h; ⟨fd_182 h rfl, have h := fd_t3 h; ⟨fd_87 h, have h := fd_t1 h; ⟨fd_132 h rfl (by decide +kernel), have h := fd_t3 h; ⟨fd_167 h (by decide +kernel), have h := fd_t3 h; ⟨fd_42 h, have h := fd_t1 h; ⟨fd_6 h, have h := fd_t1 h; ⟨fd_182 h rfl, have h := fd_t3 h; fd_172 h⟩⟩⟩⟩⟩⟩⟩⟩
theorem dX6_weeks_19 : decode cX6_weeks 19 = .ok (.aload_n 0, 1) := dcq_490.1
theorem dX6_weeks_20 : decode cX6_weeks 20 = .ok (.invokevirtual 226, 3) := dcq_490.2.1
theorem dX6_weeks_23 : decode cX6_weeks 23 = .ok (.pop, 1) := dcq_490.2.2.1
theorem dX6_weeks_24 : decode cX6_weeks 24 = .ok (.iinc 2 1, 3) := dcq_490.2.2.2.1
theorem dX6_weeks_27 : decode cX6_weeks 27 = .ok (.goto (-13), 3) := dcq_490.2.2.2.2.1
theorem dX6_weeks_30 : decode cX6_weeks 30 = .ok (.aload_n 0, 1) := dcq_490.2.2.2.2.2.1
theorem dX6_weeks_31 : decode cX6_weeks 31 = .ok (.iconst 3, 1) := dcq_490.2.2.2.2.2.2.1
theorem dX6_weeks_32 : decode cX6_weeks 32 = .ok (.invokevirtual 229, 3) := dcq_490.2.2.2.2.2.2.2.1
theorem dX6_weeks_35 : decode cX6_weeks 35 = .ok (.ireturn, 1) := dcq_490.2.2.2.2.2.2.2.2
set_option maxRecDepth 20000 in
theorem dcb_491 : fd_B cX6_drawn 0 [42, 180, 0, 7, 16, 7, 42, 180, 0, 7, 16, 7, 46, 18, 232, 104, 17, 48, 57, 96, 79] := fd_o cX6_drawn 0 _ (by decide +kernel)
theorem dcq_491 : (decode cX6_drawn 0 = .ok (.aload_n 0, 1)) ∧ (decode cX6_drawn 1 = .ok (.getfield 7, 3)) ∧ (decode cX6_drawn 4 = .ok (.bipush 7, 2)) ∧ (decode cX6_drawn 6 = .ok (.aload_n 0, 1)) ∧ (decode cX6_drawn 7 = .ok (.getfield 7, 3)) ∧ (decode cX6_drawn 10 = .ok (.bipush 7, 2)) ∧ (decode cX6_drawn 12 = .ok (.iaload, 1)) ∧ (decode cX6_drawn 13 = .ok (.ldc 232, 2)) ∧ (decode cX6_drawn 15 = .ok (.imul, 1)) ∧ (decode cX6_drawn 16 = .ok (.sipush 12345, 3)) ∧ (decode cX6_drawn 19 = .ok (.iadd, 1)) ∧ (decode cX6_drawn 20 = .ok (.iastore, 1)) := have h := dcb_491; ⟨fd_42 h, have h := fd_t1 h; ⟨fd_180 h rfl, have h := fd_t3 h; ⟨fd_16 h (by decide +kernel), have h := fd_t2 h; ⟨fd_42 h, have h := fd_t1 h; ⟨fd_180 h rfl, have h := fd_t3 h; ⟨fd_16 h (by decide +kernel), have h := fd_t2 h; ⟨fd_46 h, have h := fd_t1 h; ⟨fd_18 h rfl, have h := fd_t2 h; ⟨fd_104 h, have h := fd_t1 h; ⟨fd_17 h (by decide +kernel), have h := fd_t3 h; ⟨fd_96 h, have h := fd_t1 h; fd_79 h⟩⟩⟩⟩⟩⟩⟩⟩⟩⟩⟩
theorem dX6_drawn_0 : decode cX6_drawn 0 = .ok (.aload_n 0, 1) := dcq_491.1
theorem dX6_drawn_1 : decode cX6_drawn 1 = .ok (.getfield 7, 3) := dcq_491.2.1
theorem dX6_drawn_4 : decode cX6_drawn 4 = .ok (.bipush 7, 2) := dcq_491.2.2.1
theorem dX6_drawn_6 : decode cX6_drawn 6 = .ok (.aload_n 0, 1) := dcq_491.2.2.2.1
theorem dX6_drawn_7 : decode cX6_drawn 7 = .ok (.getfield 7, 3) := dcq_491.2.2.2.2.1
theorem dX6_drawn_10 : decode cX6_drawn 10 = .ok (.bipush 7, 2) := dcq_491.2.2.2.2.2.1
theorem dX6_drawn_12 : decode cX6_drawn 12 = .ok (.iaload, 1) := dcq_491.2.2.2.2.2.2.1
theorem dX6_drawn_13 : decode cX6_drawn 13 = .ok (.ldc 232, 2) := dcq_491.2.2.2.2.2.2.2.1
theorem dX6_drawn_15 : decode cX6_drawn 15 = .ok (.imul, 1) := dcq_491.2.2.2.2.2.2.2.2.1
theorem dX6_drawn_16 : decode cX6_drawn 16 = .ok (.sipush 12345, 3) := dcq_491.2.2.2.2.2.2.2.2.2.1
theorem dX6_drawn_19 : decode cX6_drawn 19 = .ok (.iadd, 1) := dcq_491.2.2.2.2.2.2.2.2.2.2.1
theorem dX6_drawn_20 : decode cX6_drawn 20 = .ok (.iastore, 1) := dcq_491.2.2.2.2.2.2.2.2.2.2.2
set_option maxRecDepth 20000 in
theorem dcb_492 : fd_B cX6_drawn 21 [42, 180, 0, 7, 16, 7, 46, 16, 16, 124, 172] := fd_o cX6_drawn 21 _ (by decide +kernel)
theorem dcq_492 : (decode cX6_drawn 21 = .ok (.aload_n 0, 1)) ∧ (decode cX6_drawn 22 = .ok (.getfield 7, 3)) ∧ (decode cX6_drawn 25 = .ok (.bipush 7, 2)) ∧ (decode cX6_drawn 27 = .ok (.iaload, 1)) ∧ (decode cX6_drawn 28 = .ok (.bipush 16, 2)) ∧ (decode cX6_drawn 30 = .ok (.iushr, 1)) ∧ (decode cX6_drawn 31 = .ok (.ireturn, 1)) := have h := dcb_492; ⟨fd_42 h, have h := fd_t1 h; ⟨fd_180 h rfl, have h := fd_t3 h; ⟨fd_16 h (by decide +kernel), have h := fd_t2 h; ⟨fd_46 h, have h := fd_t1 h; ⟨fd_16 h (by decide +kernel), have h := fd_t2 h; ⟨fd_124 h, have h := fd_t1 h; fd_172 h⟩⟩⟩⟩⟩⟩
theorem dX6_drawn_21 : decode cX6_drawn 21 = .ok (.aload_n 0, 1) := dcq_492.1
theorem dX6_drawn_22 : decode cX6_drawn 22 = .ok (.getfield 7, 3) := dcq_492.2.1
theorem dX6_drawn_25 : decode cX6_drawn 25 = .ok (.bipush 7, 2) := dcq_492.2.2.1
theorem dX6_drawn_27 : decode cX6_drawn 27 = .ok (.iaload, 1) := dcq_492.2.2.2.1
theorem dX6_drawn_28 : decode cX6_drawn 28 = .ok (.bipush 16, 2) := dcq_492.2.2.2.2.1
theorem dX6_drawn_30 : decode cX6_drawn 30 = .ok (.iushr, 1) := dcq_492.2.2.2.2.2.1
theorem dX6_drawn_31 : decode cX6_drawn 31 = .ok (.ireturn, 1) := dcq_492.2.2.2.2.2.2
set_option maxRecDepth 20000 in
theorem dcb_493 : fd_B cX6_seed 0 [42, 16, 7, 27, 182, 0, 177, 172] := fd_o cX6_seed 0 _ (by decide +kernel)
theorem dcq_493 : (decode cX6_seed 0 = .ok (.aload_n 0, 1)) ∧ (decode cX6_seed 1 = .ok (.bipush 7, 2)) ∧ (decode cX6_seed 3 = .ok (.iload_n 1, 1)) ∧ (decode cX6_seed 4 = .ok (.invokevirtual 177, 3)) ∧ (decode cX6_seed 7 = .ok (.ireturn, 1)) := have h := dcb_493; ⟨fd_42 h, have h := fd_t1 h; ⟨fd_16 h (by decide +kernel), have h := fd_t2 h; ⟨fd_27 h, have h := fd_t1 h; ⟨fd_182 h rfl, have h := fd_t3 h; fd_172 h⟩⟩⟩⟩
theorem dX6_seed_0 : decode cX6_seed 0 = .ok (.aload_n 0, 1) := dcq_493.1
theorem dX6_seed_1 : decode cX6_seed 1 = .ok (.bipush 7, 2) := dcq_493.2.1
theorem dX6_seed_3 : decode cX6_seed 3 = .ok (.iload_n 1, 1) := dcq_493.2.2.1
theorem dX6_seed_4 : decode cX6_seed 4 = .ok (.invokevirtual 177, 3) := dcq_493.2.2.2.1
theorem dX6_seed_7 : decode cX6_seed 7 = .ok (.ireturn, 1) := dcq_493.2.2.2.2
set_option maxRecDepth 20000 in
theorem dcb_494 : fd_B cX6_weekByDraws 0 [42, 180, 0, 7, 16, 6, 46, 158, 0, 46, 42, 182, 0, 233, 42, 180, 0, 7, 16, 6, 46, 112] := fd_o cX6_weekByDraws 0 _ (by decide +kernel)
theorem dcq_494 : (decode cX6_weekByDraws 0 = .ok (.aload_n 0, 1)) ∧ (decode cX6_weekByDraws 1 = .ok (.getfield 7, 3)) ∧ (decode cX6_weekByDraws 4 = .ok (.bipush 6, 2)) ∧ (decode cX6_weekByDraws 6 = .ok (.iaload, 1)) ∧ (decode cX6_weekByDraws 7 = .ok (.ifCond .le 46, 3)) ∧ (decode cX6_weekByDraws 10 = .ok (.aload_n 0, 1)) ∧ (decode cX6_weekByDraws 11 = .ok (.invokevirtual 233, 3)) ∧ (decode cX6_weekByDraws 14 = .ok (.aload_n 0, 1)) ∧ (decode cX6_weekByDraws 15 = .ok (.getfield 7, 3)) ∧ (decode cX6_weekByDraws 18 = .ok (.bipush 6, 2)) ∧ (decode cX6_weekByDraws 20 = .ok (.iaload, 1)) ∧ (decode cX6_weekByDraws 21 = .ok (.irem, 1)) := have h := dcb_494; ⟨fd_42 h, have h := fd_t1 h; ⟨fd_180 h rfl, have h := fd_t3 h; ⟨fd_16 h (by decide +kernel), have h := fd_t2 h; ⟨fd_46 h, have h := fd_t1 h; ⟨fd_158 h (by decide +kernel), have h := fd_t3 h; ⟨fd_42 h, have h := fd_t1 h; ⟨fd_182 h rfl, have h := fd_t3 h; ⟨fd_42 h, have h := fd_t1 h; ⟨fd_180 h rfl, have h := fd_t3 h; ⟨fd_16 h (by decide +kernel), have h := fd_t2 h; ⟨fd_46 h, have h := fd_t1 h; fd_112 h⟩⟩⟩⟩⟩⟩⟩⟩⟩⟩⟩
theorem dX6_weekByDraws_0 : decode cX6_weekByDraws 0 = .ok (.aload_n 0, 1) := dcq_494.1
theorem dX6_weekByDraws_1 : decode cX6_weekByDraws 1 = .ok (.getfield 7, 3) := dcq_494.2.1
theorem dX6_weekByDraws_4 : decode cX6_weekByDraws 4 = .ok (.bipush 6, 2) := dcq_494.2.2.1
theorem dX6_weekByDraws_6 : decode cX6_weekByDraws 6 = .ok (.iaload, 1) := dcq_494.2.2.2.1
theorem dX6_weekByDraws_7 : decode cX6_weekByDraws 7 = .ok (.ifCond .le 46, 3) := dcq_494.2.2.2.2.1
theorem dX6_weekByDraws_10 : decode cX6_weekByDraws 10 = .ok (.aload_n 0, 1) := dcq_494.2.2.2.2.2.1
theorem dX6_weekByDraws_11 : decode cX6_weekByDraws 11 = .ok (.invokevirtual 233, 3) := dcq_494.2.2.2.2.2.2.1
theorem dX6_weekByDraws_14 : decode cX6_weekByDraws 14 = .ok (.aload_n 0, 1) := dcq_494.2.2.2.2.2.2.2.1
theorem dX6_weekByDraws_15 : decode cX6_weekByDraws 15 = .ok (.getfield 7, 3) := dcq_494.2.2.2.2.2.2.2.2.1
theorem dX6_weekByDraws_18 : decode cX6_weekByDraws 18 = .ok (.bipush 6, 2) := dcq_494.2.2.2.2.2.2.2.2.2.1
theorem dX6_weekByDraws_20 : decode cX6_weekByDraws 20 = .ok (.iaload, 1) := dcq_494.2.2.2.2.2.2.2.2.2.2.1
theorem dX6_weekByDraws_21 : decode cX6_weekByDraws 21 = .ok (.irem, 1) := dcq_494.2.2.2.2.2.2.2.2.2.2.2
set_option maxRecDepth 20000 in
theorem dcb_495 : fd_B cX6_weekByDraws 22 [60, 42, 182, 0, 233, 16, 100, 112, 42, 180, 0, 7, 6, 46, 162, 0, 17, 42, 27] := fd_o cX6_weekByDraws 22 _ (by decide +kernel)
theorem dcq_495 : (decode cX6_weekByDraws 22 = .ok (.istore_n 1, 1)) ∧ (decode cX6_weekByDraws 23 = .ok (.aload_n 0, 1)) ∧ (decode cX6_weekByDraws 24 = .ok (.invokevirtual 233, 3)) ∧ (decode cX6_weekByDraws 27 = .ok (.bipush 100, 2)) ∧ (decode cX6_weekByDraws 29 = .ok (.irem, 1)) ∧ (decode cX6_weekByDraws 30 = .ok (.aload_n 0, 1)) ∧ (decode cX6_weekByDraws 31 = .ok (.getfield 7, 3)) ∧ (decode cX6_weekByDraws 34 = .ok (.iconst 3, 1)) ∧ (decode cX6_weekByDraws 35 = .ok (.iaload, 1)) ∧ (decode cX6_weekByDraws 36 = .ok (.if_icmp .ge 17, 3)) ∧ (decode cX6_weekByDraws 39 = .ok (.aload_n 0, 1)) ∧ (decode cX6_weekByDraws 40 = .ok (.iload_n 1, 1)) := have h := dcb_495; ⟨fd_60 h, have h := fd_t1 h; ⟨fd_42 h, have h := fd_t1 h; ⟨fd_182 h rfl, have h := fd_t3 h; ⟨fd_16 h (by decide +kernel), have h := fd_t2 h; ⟨fd_112 h, have h := fd_t1 h; ⟨fd_42 h, have h := fd_t1 h; ⟨fd_180 h rfl, have h := fd_t3 h; ⟨fd_6 h, have h := fd_t1 h; ⟨fd_46 h, have h := fd_t1 h; ⟨fd_162 h (by decide +kernel), have h := fd_t3 h; ⟨fd_42 h, have h := fd_t1 h; fd_27 h⟩⟩⟩⟩⟩⟩⟩⟩⟩⟩⟩
theorem dX6_weekByDraws_22 : decode cX6_weekByDraws 22 = .ok (.istore_n 1, 1) := dcq_495.1
theorem dX6_weekByDraws_23 : decode cX6_weekByDraws 23 = .ok (.aload_n 0, 1) := dcq_495.2.1
