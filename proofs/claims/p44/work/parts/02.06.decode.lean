-- decode rows: a program laid them
theorem dX6_isRow_15 : decode cX6_isRow 15 = .ok (.iconst 0, 1) := dcq_590.2.2.2.2.2.2.2.2.2.1
theorem dX6_isRow_16 : decode cX6_isRow 16 = .ok (.iconst 2, 1) := dcq_590.2.2.2.2.2.2.2.2.2.2.1
theorem dX6_isRow_17 : decode cX6_isRow 17 = .ok (.invokestatic 60, 3) := dcq_590.2.2.2.2.2.2.2.2.2.2.2
set_option maxRecDepth 20000 in
theorem dcb_591 : fd_B cX6_isRow 20 [153, 0, 7, 4, 167, 0, 4, 3, 172] := fd_o cX6_isRow 20 _ (by decide +kernel)
theorem dcq_591 : (decode cX6_isRow 20 = .ok (.ifCond .eq 7, 3)) ∧ (decode cX6_isRow 23 = .ok (.iconst 1, 1)) ∧ (decode cX6_isRow 24 = .ok (.goto 4, 3)) ∧ (decode cX6_isRow 27 = .ok (.iconst 0, 1)) ∧ (decode cX6_isRow 28 = .ok (.ireturn, 1)) := have h := dcb_591; ⟨fd_153 h (by decide +kernel), have h := fd_t3 h; ⟨fd_4 h, have h := fd_t1 h; ⟨fd_167 h (by decide +kernel), have h := fd_t3 h; ⟨fd_3 h, have h := fd_t1 h; fd_172 h⟩⟩⟩⟩
theorem dX6_isRow_20 : decode cX6_isRow 20 = .ok (.ifCond .eq 7, 3) := dcq_591.1
theorem dX6_isRow_23 : decode cX6_isRow 23 = .ok (.iconst 1, 1) := dcq_591.2.1
theorem dX6_isRow_24 : decode cX6_isRow 24 = .ok (.goto 4, 3) := dcq_591.2.2.1
theorem dX6_isRow_27 : decode cX6_isRow 27 = .ok (.iconst 0, 1) := dcq_591.2.2.2.1
theorem dX6_isRow_28 : decode cX6_isRow 28 = .ok (.ireturn, 1) := dcq_591.2.2.2.2
set_option maxRecDepth 20000 in
theorem dcb_592 : fd_B cX6_row 0 [42, 27, 28, 182, 1, 15, 153, 0, 16, 42, 180, 0, 28, 6, 27, 104, 28, 96] := fd_o cX6_row 0 _ (by decide +kernel)
theorem dcq_592 : (decode cX6_row 0 = .ok (.aload_n 0, 1)) ∧ (decode cX6_row 1 = .ok (.iload_n 1, 1)) ∧ (decode cX6_row 2 = .ok (.iload_n 2, 1)) ∧ (decode cX6_row 3 = .ok (.invokevirtual 271, 3)) ∧ (decode cX6_row 6 = .ok (.ifCond .eq 16, 3)) ∧ (decode cX6_row 9 = .ok (.aload_n 0, 1)) ∧ (decode cX6_row 10 = .ok (.getfield 28, 3)) ∧ (decode cX6_row 13 = .ok (.iconst 3, 1)) ∧ (decode cX6_row 14 = .ok (.iload_n 1, 1)) ∧ (decode cX6_row 15 = .ok (.imul, 1)) ∧ (decode cX6_row 16 = .ok (.iload_n 2, 1)) ∧ (decode cX6_row 17 = .ok (.iadd, 1)) := have h := dcb_592; ⟨fd_42 h, have h := fd_t1 h; ⟨fd_27 h, have h := fd_t1 h; ⟨fd_28 h, have h := fd_t1 h; ⟨fd_182 h rfl, have h := fd_t3 h; ⟨fd_153 h (by decide +kernel), have h := fd_t3 h; ⟨fd_42 h, have h := fd_t1 h; ⟨fd_180 h rfl, have h := fd_t3 h; ⟨fd_6 h, have h := fd_t1 h; ⟨fd_27 h, have h := fd_t1 h; ⟨fd_104 h, have h := fd_t1 h; ⟨fd_28 h, have h := fd_t1 h; fd_96 h⟩⟩⟩⟩⟩⟩⟩⟩⟩⟩⟩
theorem dX6_row_0 : decode cX6_row 0 = .ok (.aload_n 0, 1) := dcq_592.1
theorem dX6_row_1 : decode cX6_row 1 = .ok (.iload_n 1, 1) := dcq_592.2.1
theorem dX6_row_2 : decode cX6_row 2 = .ok (.iload_n 2, 1) := dcq_592.2.2.1
theorem dX6_row_3 : decode cX6_row 3 = .ok (.invokevirtual 271, 3) := dcq_592.2.2.2.1
theorem dX6_row_6 : decode cX6_row 6 = .ok (.ifCond .eq 16, 3) := dcq_592.2.2.2.2.1
theorem dX6_row_9 : decode cX6_row 9 = .ok (.aload_n 0, 1) := dcq_592.2.2.2.2.2.1
theorem dX6_row_10 : decode cX6_row 10 = .ok (.getfield 28, 3) := dcq_592.2.2.2.2.2.2.1
theorem dX6_row_13 : decode cX6_row 13 = .ok (.iconst 3, 1) := dcq_592.2.2.2.2.2.2.2.1
theorem dX6_row_14 : decode cX6_row 14 = .ok (.iload_n 1, 1) := dcq_592.2.2.2.2.2.2.2.2.1
theorem dX6_row_15 : decode cX6_row 15 = .ok (.imul, 1) := dcq_592.2.2.2.2.2.2.2.2.2.1
theorem dX6_row_16 : decode cX6_row 16 = .ok (.iload_n 2, 1) := dcq_592.2.2.2.2.2.2.2.2.2.2.1
theorem dX6_row_17 : decode cX6_row 17 = .ok (.iadd, 1) := dcq_592.2.2.2.2.2.2.2.2.2.2.2
set_option maxRecDepth 20000 in
theorem dcb_593 : fd_B cX6_row 18 [46, 167, 0, 5, 16, 247, 172] := fd_o cX6_row 18 _ (by decide +kernel)
theorem dcq_593 : (decode cX6_row 18 = .ok (.iaload, 1)) ∧ (decode cX6_row 19 = .ok (.goto 5, 3)) ∧ (decode cX6_row 22 = .ok (.bipush (-9), 2)) ∧ (decode cX6_row 24 = .ok (.ireturn, 1)) := have h := dcb_593; ⟨fd_46 h, have h := fd_t1 h; ⟨fd_167 h (by decide +kernel), have h := fd_t3 h; ⟨fd_16 h (by decide +kernel), have h := fd_t2 h; fd_172 h⟩⟩⟩
theorem dX6_row_18 : decode cX6_row 18 = .ok (.iaload, 1) := dcq_593.1
theorem dX6_row_19 : decode cX6_row 19 = .ok (.goto 5, 3) := dcq_593.2.1
theorem dX6_row_22 : decode cX6_row 22 = .ok (.bipush (-9), 2) := dcq_593.2.2.1
theorem dX6_row_24 : decode cX6_row 24 = .ok (.ireturn, 1) := dcq_593.2.2.2
set_option maxRecDepth 20000 in
theorem dcb_594 : fd_B cX6_alterRow 0 [42, 27, 28, 182, 1, 15, 154, 0, 6, 16, 247, 172, 42, 180, 0, 28, 6, 27, 104] := fd_o cX6_alterRow 0 _ (by decide +kernel)
theorem dcq_594 : (decode cX6_alterRow 0 = .ok (.aload_n 0, 1)) ∧ (decode cX6_alterRow 1 = .ok (.iload_n 1, 1)) ∧ (decode cX6_alterRow 2 = .ok (.iload_n 2, 1)) ∧ (decode cX6_alterRow 3 = .ok (.invokevirtual 271, 3)) ∧ (decode cX6_alterRow 6 = .ok (.ifCond .ne 6, 3)) ∧ (decode cX6_alterRow 9 = .ok (.bipush (-9), 2)) ∧ (decode cX6_alterRow 11 = .ok (.ireturn, 1)) ∧ (decode cX6_alterRow 12 = .ok (.aload_n 0, 1)) ∧ (decode cX6_alterRow 13 = .ok (.getfield 28, 3)) ∧ (decode cX6_alterRow 16 = .ok (.iconst 3, 1)) ∧ (decode cX6_alterRow 17 = .ok (.iload_n 1, 1)) ∧ (decode cX6_alterRow 18 = .ok (.imul, 1)) := have h := dcb_594; ⟨fd_42 h, have h := fd_t1 h; ⟨fd_27 h, have h := fd_t1 h; ⟨fd_28 h, have h := fd_t1 h; ⟨fd_182 h rfl, have h := fd_t3 h; ⟨fd_154 h (by decide +kernel), have h := fd_t3 h; ⟨fd_16 h (by decide +kernel), have h := fd_t2 h; ⟨fd_172 h, have h := fd_t1 h; ⟨fd_42 h, have h := fd_t1 h; ⟨fd_180 h rfl, have h := fd_t3 h; ⟨fd_6 h, have h := fd_t1 h; ⟨fd_27 h, have h := fd_t1 h; fd_104 h⟩⟩⟩⟩⟩⟩⟩⟩⟩⟩⟩
theorem dX6_alterRow_0 : decode cX6_alterRow 0 = .ok (.aload_n 0, 1) := dcq_594.1
theorem dX6_alterRow_1 : decode cX6_alterRow 1 = .ok (.iload_n 1, 1) := dcq_594.2.1
theorem dX6_alterRow_2 : decode cX6_alterRow 2 = .ok (.iload_n 2, 1) := dcq_594.2.2.1
theorem dX6_alterRow_3 : decode cX6_alterRow 3 = .ok (.invokevirtual 271, 3) := dcq_594.2.2.2.1
theorem dX6_alterRow_6 : decode cX6_alterRow 6 = .ok (.ifCond .ne 6, 3) := dcq_594.2.2.2.2.1
theorem dX6_alterRow_9 : decode cX6_alterRow 9 = .ok (.bipush (-9), 2) := dcq_594.2.2.2.2.2.1
theorem dX6_alterRow_11 : decode cX6_alterRow 11 = .ok (.ireturn, 1) := dcq_594.2.2.2.2.2.2.1
theorem dX6_alterRow_12 : decode cX6_alterRow 12 = .ok (.aload_n 0, 1) := dcq_594.2.2.2.2.2.2.2.1
theorem dX6_alterRow_13 : decode cX6_alterRow 13 = .ok (.getfield 28, 3) := dcq_594.2.2.2.2.2.2.2.2.1
theorem dX6_alterRow_16 : decode cX6_alterRow 16 = .ok (.iconst 3, 1) := dcq_594.2.2.2.2.2.2.2.2.2.1
theorem dX6_alterRow_17 : decode cX6_alterRow 17 = .ok (.iload_n 1, 1) := dcq_594.2.2.2.2.2.2.2.2.2.2.1
theorem dX6_alterRow_18 : decode cX6_alterRow 18 = .ok (.imul, 1) := dcq_594.2.2.2.2.2.2.2.2.2.2.2
set_option maxRecDepth 20000 in
theorem dcb_595 : fd_B cX6_alterRow 19 [28, 96, 46, 54, 4, 42, 180, 0, 28, 6, 27, 104, 28, 96, 29] := fd_o cX6_alterRow 19 _ (by decide +kernel)
theorem dcq_595 : (decode cX6_alterRow 19 = .ok (.iload_n 2, 1)) ∧ (decode cX6_alterRow 20 = .ok (.iadd, 1)) ∧ (decode cX6_alterRow 21 = .ok (.iaload, 1)) ∧ (decode cX6_alterRow 22 = .ok (.istore 4, 2)) ∧ (decode cX6_alterRow 24 = .ok (.aload_n 0, 1)) ∧ (decode cX6_alterRow 25 = .ok (.getfield 28, 3)) ∧ (decode cX6_alterRow 28 = .ok (.iconst 3, 1)) ∧ (decode cX6_alterRow 29 = .ok (.iload_n 1, 1)) ∧ (decode cX6_alterRow 30 = .ok (.imul, 1)) ∧ (decode cX6_alterRow 31 = .ok (.iload_n 2, 1)) ∧ (decode cX6_alterRow 32 = .ok (.iadd, 1)) ∧ (decode cX6_alterRow 33 = .ok (.iload_n 3, 1)) := have h := dcb_595; ⟨fd_28 h, have h := fd_t1 h; ⟨fd_96 h, have h := fd_t1 h; ⟨fd_46 h, have h := fd_t1 h; ⟨fd_54 h rfl, have h := fd_t2 h; ⟨fd_42 h, have h := fd_t1 h; ⟨fd_180 h rfl, have h := fd_t3 h; ⟨fd_6 h, have h := fd_t1 h; ⟨fd_27 h, have h := fd_t1 h; ⟨fd_104 h, have h := fd_t1 h; ⟨fd_28 h, have h := fd_t1 h; ⟨fd_96 h, have h := fd_t1 h; fd_29 h⟩⟩⟩⟩⟩⟩⟩⟩⟩⟩⟩
theorem dX6_alterRow_19 : decode cX6_alterRow 19 = .ok (.iload_n 2, 1) := dcq_595.1
theorem dX6_alterRow_20 : decode cX6_alterRow 20 = .ok (.iadd, 1) := dcq_595.2.1
theorem dX6_alterRow_21 : decode cX6_alterRow 21 = .ok (.iaload, 1) := dcq_595.2.2.1
theorem dX6_alterRow_22 : decode cX6_alterRow 22 = .ok (.istore 4, 2) := dcq_595.2.2.2.1
theorem dX6_alterRow_24 : decode cX6_alterRow 24 = .ok (.aload_n 0, 1) := dcq_595.2.2.2.2.1
theorem dX6_alterRow_25 : decode cX6_alterRow 25 = .ok (.getfield 28, 3) := dcq_595.2.2.2.2.2.1
theorem dX6_alterRow_28 : decode cX6_alterRow 28 = .ok (.iconst 3, 1) := dcq_595.2.2.2.2.2.2.1
theorem dX6_alterRow_29 : decode cX6_alterRow 29 = .ok (.iload_n 1, 1) := dcq_595.2.2.2.2.2.2.2.1
theorem dX6_alterRow_30 : decode cX6_alterRow 30 = .ok (.imul, 1) := dcq_595.2.2.2.2.2.2.2.2.1
theorem dX6_alterRow_31 : decode cX6_alterRow 31 = .ok (.iload_n 2, 1) := dcq_595.2.2.2.2.2.2.2.2.2.1
theorem dX6_alterRow_32 : decode cX6_alterRow 32 = .ok (.iadd, 1) := dcq_595.2.2.2.2.2.2.2.2.2.2.1
theorem dX6_alterRow_33 : decode cX6_alterRow 33 = .ok (.iload_n 3, 1) := dcq_595.2.2.2.2.2.2.2.2.2.2.2
set_option maxRecDepth 20000 in
theorem dcb_596 : fd_B cX6_alterRow 34 [79, 21, 4, 172] := fd_o cX6_alterRow 34 _ (by decide +kernel)
theorem dcq_596 : (decode cX6_alterRow 34 = .ok (.iastore, 1)) ∧ (decode cX6_alterRow 35 = .ok (.iload 4, 2)) ∧ (decode cX6_alterRow 37 = .ok (.ireturn, 1)) := have h := dcb_596; ⟨fd_79 h, have h := fd_t1 h; ⟨fd_21 h rfl, have h := fd_t2 h; fd_172 h⟩⟩
theorem dX6_alterRow_34 : decode cX6_alterRow 34 = .ok (.iastore, 1) := dcq_596.1
theorem dX6_alterRow_35 : decode cX6_alterRow 35 = .ok (.iload 4, 2) := dcq_596.2.1
theorem dX6_alterRow_37 : decode cX6_alterRow 37 = .ok (.ireturn, 1) := dcq_596.2.2
set_option maxRecDepth 20000 in
theorem dcb_597 : fd_B cX6_judge 0 [42, 27, 182, 0, 188, 154, 0, 5, 2, 172, 42, 27, 42, 180, 0, 174, 182, 1, 11, 3] := fd_o cX6_judge 0 _ (by decide +kernel)
theorem dcq_597 : (decode cX6_judge 0 = .ok (.aload_n 0, 1)) ∧ (decode cX6_judge 1 = .ok (.iload_n 1, 1)) ∧ (decode cX6_judge 2 = .ok (.invokevirtual 188, 3)) ∧ (decode cX6_judge 5 = .ok (.ifCond .ne 5, 3)) ∧ (decode cX6_judge 8 = .ok (.iconst (-1), 1)) ∧ (decode cX6_judge 9 = .ok (.ireturn, 1)) ∧ (decode cX6_judge 10 = .ok (.aload_n 0, 1)) ∧ (decode cX6_judge 11 = .ok (.iload_n 1, 1)) ∧ (decode cX6_judge 12 = .ok (.aload_n 0, 1)) ∧ (decode cX6_judge 13 = .ok (.getfield 174, 3)) ∧ (decode cX6_judge 16 = .ok (.invokevirtual 267, 3)) ∧ (decode cX6_judge 19 = .ok (.iconst 0, 1)) := have h := dcb_597; ⟨fd_42 h, have h := fd_t1 h; ⟨fd_27 h, have h := fd_t1 h; ⟨fd_182 h rfl, have h := fd_t3 h; ⟨fd_154 h (by decide +kernel), have h := fd_t3 h; ⟨fd_2 h, have h := fd_t1 h; ⟨fd_172 h, have h := fd_t1 h; ⟨fd_42 h, have h := fd_t1 h; ⟨fd_27 h, have h := fd_t1 h; ⟨fd_42 h, have h := fd_t1 h; ⟨fd_180 h rfl, have h := fd_t3 h; ⟨fd_182 h rfl, have h := fd_t3 h; fd_3 h⟩⟩⟩⟩⟩⟩⟩⟩⟩⟩⟩
theorem dX6_judge_0 : decode cX6_judge 0 = .ok (.aload_n 0, 1) := dcq_597.1
theorem dX6_judge_1 : decode cX6_judge 1 = .ok (.iload_n 1, 1) := dcq_597.2.1
theorem dX6_judge_2 : decode cX6_judge 2 = .ok (.invokevirtual 188, 3) := dcq_597.2.2.1
theorem dX6_judge_5 : decode cX6_judge 5 = .ok (.ifCond .ne 5, 3) := dcq_597.2.2.2.1
theorem dX6_judge_8 : decode cX6_judge 8 = .ok (.iconst (-1), 1) := dcq_597.2.2.2.2.1
theorem dX6_judge_9 : decode cX6_judge 9 = .ok (.ireturn, 1) := dcq_597.2.2.2.2.2.1
theorem dX6_judge_10 : decode cX6_judge 10 = .ok (.aload_n 0, 1) := dcq_597.2.2.2.2.2.2.1
theorem dX6_judge_11 : decode cX6_judge 11 = .ok (.iload_n 1, 1) := dcq_597.2.2.2.2.2.2.2.1
theorem dX6_judge_12 : decode cX6_judge 12 = .ok (.aload_n 0, 1) := dcq_597.2.2.2.2.2.2.2.2.1
theorem dX6_judge_13 : decode cX6_judge 13 = .ok (.getfield 174, 3) := dcq_597.2.2.2.2.2.2.2.2.2.1
theorem dX6_judge_16 : decode cX6_judge 16 = .ok (.invokevirtual 267, 3) := dcq_597.2.2.2.2.2.2.2.2.2.2.1
theorem dX6_judge_19 : decode cX6_judge 19 = .ok (.iconst 0, 1) := dcq_597.2.2.2.2.2.2.2.2.2.2.2
set_option maxRecDepth 20000 in
theorem dcb_598 : fd_B cX6_judge 20 [61, 28, 6, 42, 180, 0, 174, 104, 162, 0, 30, 42, 180, 0, 28, 28, 46, 42] := fd_o cX6_judge 20 _ (by decide +kernel)
theorem dcq_598 : (decode cX6_judge 20 = .ok (.istore_n 2, 1)) ∧ (decode cX6_judge 21 = .ok (.iload_n 2, 1)) ∧ (decode cX6_judge 22 = .ok (.iconst 3, 1)) ∧ (decode cX6_judge 23 = .ok (.aload_n 0, 1)) ∧ (decode cX6_judge 24 = .ok (.getfield 174, 3)) ∧ (decode cX6_judge 27 = .ok (.imul, 1)) ∧ (decode cX6_judge 28 = .ok (.if_icmp .ge 30, 3)) ∧ (decode cX6_judge 31 = .ok (.aload_n 0, 1)) ∧ (decode cX6_judge 32 = .ok (.getfield 28, 3)) ∧ (decode cX6_judge 35 = .ok (.iload_n 2, 1)) ∧ (decode cX6_judge 36 = .ok (.iaload, 1)) ∧ (decode cX6_judge 37 = .ok (.aload_n 0, 1)) := have h := dcb_598; ⟨fd_61 h, have h := fd_t1 h; ⟨fd_28 h, have h := fd_t1 h; ⟨fd_6 h, have h := fd_t1 h; ⟨fd_42 h, have h := fd_t1 h; ⟨fd_180 h rfl, have h := fd_t3 h; ⟨fd_104 h, have h := fd_t1 h; ⟨fd_162 h (by decide +kernel), have h := fd_t3 h; ⟨fd_42 h, have h := fd_t1 h; ⟨fd_180 h rfl, have h := fd_t3 h; ⟨fd_28 h, have h := fd_t1 h; ⟨fd_46 h, have h := fd_t1 h; fd_42 h⟩⟩⟩⟩⟩⟩⟩⟩⟩⟩⟩
theorem dX6_judge_20 : decode cX6_judge 20 = .ok (.istore_n 2, 1) := dcq_598.1
theorem dX6_judge_21 : decode cX6_judge 21 = .ok (.iload_n 2, 1) := dcq_598.2.1
theorem dX6_judge_22 : decode cX6_judge 22 = .ok (.iconst 3, 1) := dcq_598.2.2.1
theorem dX6_judge_23 : decode cX6_judge 23 = .ok (.aload_n 0, 1) := dcq_598.2.2.2.1
theorem dX6_judge_24 : decode cX6_judge 24 = .ok (.getfield 174, 3) := dcq_598.2.2.2.2.1
theorem dX6_judge_27 : decode cX6_judge 27 = .ok (.imul, 1) := dcq_598.2.2.2.2.2.1
theorem dX6_judge_28 : decode cX6_judge 28 = .ok (.if_icmp .ge 30, 3) := dcq_598.2.2.2.2.2.2.1
theorem dX6_judge_31 : decode cX6_judge 31 = .ok (.aload_n 0, 1) := dcq_598.2.2.2.2.2.2.2.1
theorem dX6_judge_32 : decode cX6_judge 32 = .ok (.getfield 28, 3) := dcq_598.2.2.2.2.2.2.2.2.1
theorem dX6_judge_35 : decode cX6_judge 35 = .ok (.iload_n 2, 1) := dcq_598.2.2.2.2.2.2.2.2.2.1
theorem dX6_judge_36 : decode cX6_judge 36 = .ok (.iaload, 1) := dcq_598.2.2.2.2.2.2.2.2.2.2.1
theorem dX6_judge_37 : decode cX6_judge 37 = .ok (.aload_n 0, 1) := dcq_598.2.2.2.2.2.2.2.2.2.2.2
set_option maxRecDepth 20000 in
theorem dcb_599 : fd_B cX6_judge 38 [180, 0, 31, 28, 46, 159, 0, 9, 28, 6, 108, 4, 96, 172, 132, 2, 1, 167, 255, 222] := fd_o cX6_judge 38 _ (by decide +kernel)
theorem dcq_599 : (decode cX6_judge 38 = .ok (.getfield 31, 3)) ∧ (decode cX6_judge 41 = .ok (.iload_n 2, 1)) ∧ (decode cX6_judge 42 = .ok (.iaload, 1)) ∧ (decode cX6_judge 43 = .ok (.if_icmp .eq 9, 3)) ∧ (decode cX6_judge 46 = .ok (.iload_n 2, 1)) ∧ (decode cX6_judge 47 = .ok (.iconst 3, 1)) ∧ (decode cX6_judge 48 = .ok (.idiv, 1)) ∧ (decode cX6_judge 49 = .ok (.iconst 1, 1)) ∧ (decode cX6_judge 50 = .ok (.iadd, 1)) ∧ (decode cX6_judge 51 = .ok (.ireturn, 1)) ∧ (decode cX6_judge 52 = .ok (.iinc 2 1, 3)) ∧ (decode cX6_judge 55 = .ok (.goto (-34), 3)) := have h := dcb_599; ⟨fd_180 h rfl, have h := fd_t3 h; ⟨fd_28 h, have h := fd_t1 h; ⟨fd_46 h, have h := fd_t1 h; ⟨fd_159 h (by decide +kernel), have h := fd_t3 h; ⟨fd_28 h, have h := fd_t1 h; ⟨fd_6 h, have h := fd_t1 h; ⟨fd_108 h, have h := fd_t1 h; ⟨fd_4 h, have h := fd_t1 h; ⟨fd_96 h, have h := fd_t1 h; ⟨fd_172 h, have h := fd_t1 h; ⟨fd_132 h rfl (by decide +kernel), have h := fd_t3 h; fd_167 h (by decide +kernel)⟩⟩⟩⟩⟩⟩⟩⟩⟩⟩⟩
theorem dX6_judge_38 : decode cX6_judge 38 = .ok (.getfield 31, 3) := dcq_599.1
theorem dX6_judge_41 : decode cX6_judge 41 = .ok (.iload_n 2, 1) := dcq_599.2.1
theorem dX6_judge_42 : decode cX6_judge 42 = .ok (.iaload, 1) := dcq_599.2.2.1
theorem dX6_judge_43 : decode cX6_judge 43 = .ok (.if_icmp .eq 9, 3) := dcq_599.2.2.2.1
theorem dX6_judge_46 : decode cX6_judge 46 = .ok (.iload_n 2, 1) := dcq_599.2.2.2.2.1
theorem dX6_judge_47 : decode cX6_judge 47 = .ok (.iconst 3, 1) := dcq_599.2.2.2.2.2.1
theorem dX6_judge_48 : decode cX6_judge 48 = .ok (.idiv, 1) := dcq_599.2.2.2.2.2.2.1
theorem dX6_judge_49 : decode cX6_judge 49 = .ok (.iconst 1, 1) := dcq_599.2.2.2.2.2.2.2.1
theorem dX6_judge_50 : decode cX6_judge 50 = .ok (.iadd, 1) := dcq_599.2.2.2.2.2.2.2.2.1
theorem dX6_judge_51 : decode cX6_judge 51 = .ok (.ireturn, 1) := dcq_599.2.2.2.2.2.2.2.2.2.1
theorem dX6_judge_52 : decode cX6_judge 52 = .ok (.iinc 2 1, 3) := dcq_599.2.2.2.2.2.2.2.2.2.2.1
theorem dX6_judge_55 : decode cX6_judge 55 = .ok (.goto (-34), 3) := dcq_599.2.2.2.2.2.2.2.2.2.2.2
set_option maxRecDepth 20000 in
theorem dcb_600 : fd_B cX6_judge 58 [3, 172] := fd_o cX6_judge 58 _ (by decide +kernel)
theorem dcq_600 : (decode cX6_judge 58 = .ok (.iconst 0, 1)) ∧ (decode cX6_judge 59 = .ok (.ireturn, 1)) := have h := dcb_600; ⟨fd_3 h, have h := fd_t1 h; fd_172 h⟩
theorem dX6_judge_58 : decode cX6_judge 58 = .ok (.iconst 0, 1) := dcq_600.1
theorem dX6_judge_59 : decode cX6_judge 59 = .ok (.ireturn, 1) := dcq_600.2
set_option maxRecDepth 20000 in
theorem dcb_601 : fd_B cX6_minds 0 [27, 184, 0, 251, 153, 0, 36, 42, 29, 182, 0, 188, 153, 0, 28, 21, 4, 3, 16, 8, 184, 0, 60, 153, 0, 17] := fd_o cX6_minds 0 _ (by decide +kernel)
theorem dcq_601 : (decode cX6_minds 0 = .ok (.iload_n 1, 1)) ∧ (decode cX6_minds 1 = .ok (.invokestatic 251, 3)) ∧ (decode cX6_minds 4 = .ok (.ifCond .eq 36, 3)) ∧ (decode cX6_minds 7 = .ok (.aload_n 0, 1)) ∧ (decode cX6_minds 8 = .ok (.iload_n 3, 1)) ∧ (decode cX6_minds 9 = .ok (.invokevirtual 188, 3)) ∧ (decode cX6_minds 12 = .ok (.ifCond .eq 28, 3)) ∧ (decode cX6_minds 15 = .ok (.iload 4, 2)) ∧ (decode cX6_minds 17 = .ok (.iconst 0, 1)) ∧ (decode cX6_minds 18 = .ok (.bipush 8, 2)) ∧ (decode cX6_minds 20 = .ok (.invokestatic 60, 3)) ∧ (decode cX6_minds 23 = .ok (.ifCond .eq 17, 3)) := have h := dcb_601; ⟨fd_27 h, have h := fd_t1 h; ⟨fd_184 h rfl, have h := fd_t3 h; ⟨fd_153 h (by decide +kernel), have h := fd_t3 h; ⟨fd_42 h, have h := fd_t1 h; ⟨fd_29 h, have h := fd_t1 h; ⟨fd_182 h rfl, have h := fd_t3 h; ⟨fd_153 h (by decide +kernel), have h := fd_t3 h; ⟨fd_21 h rfl, have h := fd_t2 h; ⟨fd_3 h, have h := fd_t1 h; ⟨fd_16 h (by decide +kernel), have h := fd_t2 h; ⟨fd_184 h rfl, have h := fd_t3 h; fd_153 h (by decide +kernel)⟩⟩⟩⟩⟩⟩⟩⟩⟩⟩⟩
theorem dX6_minds_0 : decode cX6_minds 0 = .ok (.iload_n 1, 1) := dcq_601.1
theorem dX6_minds_1 : decode cX6_minds 1 = .ok (.invokestatic 251, 3) := dcq_601.2.1
theorem dX6_minds_4 : decode cX6_minds 4 = .ok (.ifCond .eq 36, 3) := dcq_601.2.2.1
theorem dX6_minds_7 : decode cX6_minds 7 = .ok (.aload_n 0, 1) := dcq_601.2.2.2.1
theorem dX6_minds_8 : decode cX6_minds 8 = .ok (.iload_n 3, 1) := dcq_601.2.2.2.2.1
theorem dX6_minds_9 : decode cX6_minds 9 = .ok (.invokevirtual 188, 3) := dcq_601.2.2.2.2.2.1
theorem dX6_minds_12 : decode cX6_minds 12 = .ok (.ifCond .eq 28, 3) := dcq_601.2.2.2.2.2.2.1
theorem dX6_minds_15 : decode cX6_minds 15 = .ok (.iload 4, 2) := dcq_601.2.2.2.2.2.2.2.1
theorem dX6_minds_17 : decode cX6_minds 17 = .ok (.iconst 0, 1) := dcq_601.2.2.2.2.2.2.2.2.1
theorem dX6_minds_18 : decode cX6_minds 18 = .ok (.bipush 8, 2) := dcq_601.2.2.2.2.2.2.2.2.2.1
theorem dX6_minds_20 : decode cX6_minds 20 = .ok (.invokestatic 60, 3) := dcq_601.2.2.2.2.2.2.2.2.2.2.1
theorem dX6_minds_23 : decode cX6_minds 23 = .ok (.ifCond .eq 17, 3) := dcq_601.2.2.2.2.2.2.2.2.2.2.2
set_option maxRecDepth 20000 in
theorem dcb_602 : fd_B cX6_minds 26 [21, 4, 42, 180, 0, 7, 16, 6, 46, 29, 100, 164, 0, 5, 2, 172, 42, 27] := fd_o cX6_minds 26 _ (by decide +kernel)
theorem dcq_602 : (decode cX6_minds 26 = .ok (.iload 4, 2)) ∧ (decode cX6_minds 28 = .ok (.aload_n 0, 1)) ∧ (decode cX6_minds 29 = .ok (.getfield 7, 3)) ∧ (decode cX6_minds 32 = .ok (.bipush 6, 2)) ∧ (decode cX6_minds 34 = .ok (.iaload, 1)) ∧ (decode cX6_minds 35 = .ok (.iload_n 3, 1)) ∧ (decode cX6_minds 36 = .ok (.isub, 1)) ∧ (decode cX6_minds 37 = .ok (.if_icmp .le 5, 3)) ∧ (decode cX6_minds 40 = .ok (.iconst (-1), 1)) ∧ (decode cX6_minds 41 = .ok (.ireturn, 1)) ∧ (decode cX6_minds 42 = .ok (.aload_n 0, 1)) ∧ (decode cX6_minds 43 = .ok (.iload_n 1, 1)) := have h := dcb_602; ⟨fd_21 h rfl, have h := fd_t2 h; ⟨fd_42 h, have h := fd_t1 h; ⟨fd_180 h rfl, have h := fd_t3 h; ⟨fd_16 h (by decide +kernel), have h := fd_t2 h; ⟨fd_46 h, have h := fd_t1 h; ⟨fd_29 h, have h := fd_t1 h; ⟨fd_100 h, have h := fd_t1 h; ⟨fd_164 h (by decide +kernel), have h := fd_t3 h; ⟨fd_2 h, have h := fd_t1 h; ⟨fd_172 h, have h := fd_t1 h; ⟨fd_42 h, have h := fd_t1 h; fd_27 h⟩⟩⟩⟩⟩⟩⟩⟩⟩⟩⟩
theorem dX6_minds_26 : decode cX6_minds 26 = .ok (.iload 4, 2) := dcq_602.1
theorem dX6_minds_28 : decode cX6_minds 28 = .ok (.aload_n 0, 1) := dcq_602.2.1
theorem dX6_minds_29 : decode cX6_minds 29 = .ok (.getfield 7, 3) := dcq_602.2.2.1
theorem dX6_minds_32 : decode cX6_minds 32 = .ok (.bipush 6, 2) := dcq_602.2.2.2.1
theorem dX6_minds_34 : decode cX6_minds 34 = .ok (.iaload, 1) := dcq_602.2.2.2.2.1
theorem dX6_minds_35 : decode cX6_minds 35 = .ok (.iload_n 3, 1) := dcq_602.2.2.2.2.2.1
theorem dX6_minds_36 : decode cX6_minds 36 = .ok (.isub, 1) := dcq_602.2.2.2.2.2.2.1
theorem dX6_minds_37 : decode cX6_minds 37 = .ok (.if_icmp .le 5, 3) := dcq_602.2.2.2.2.2.2.2.1
theorem dX6_minds_40 : decode cX6_minds 40 = .ok (.iconst (-1), 1) := dcq_602.2.2.2.2.2.2.2.2.1
theorem dX6_minds_41 : decode cX6_minds 41 = .ok (.ireturn, 1) := dcq_602.2.2.2.2.2.2.2.2.2.1
theorem dX6_minds_42 : decode cX6_minds 42 = .ok (.aload_n 0, 1) := dcq_602.2.2.2.2.2.2.2.2.2.2.1
theorem dX6_minds_43 : decode cX6_minds 43 = .ok (.iload_n 1, 1) := dcq_602.2.2.2.2.2.2.2.2.2.2.2
set_option maxRecDepth 20000 in
theorem dcb_603 : fd_B cX6_minds 44 [3, 182, 1, 18, 54, 5, 21, 5, 153, 0, 6, 21, 5, 172, 28, 155, 0, 16, 28, 42, 180, 0, 37] := fd_o cX6_minds 44 _ (by decide +kernel)
theorem dcq_603 : (decode cX6_minds 44 = .ok (.iconst 0, 1)) ∧ (decode cX6_minds 45 = .ok (.invokevirtual 274, 3)) ∧ (decode cX6_minds 48 = .ok (.istore 5, 2)) ∧ (decode cX6_minds 50 = .ok (.iload 5, 2)) ∧ (decode cX6_minds 52 = .ok (.ifCond .eq 6, 3)) ∧ (decode cX6_minds 55 = .ok (.iload 5, 2)) ∧ (decode cX6_minds 57 = .ok (.ireturn, 1)) ∧ (decode cX6_minds 58 = .ok (.iload_n 2, 1)) ∧ (decode cX6_minds 59 = .ok (.ifCond .lt 16, 3)) ∧ (decode cX6_minds 62 = .ok (.iload_n 2, 1)) ∧ (decode cX6_minds 63 = .ok (.aload_n 0, 1)) ∧ (decode cX6_minds 64 = .ok (.getfield 37, 3)) := have h := dcb_603; ⟨fd_3 h, have h := fd_t1 h; ⟨fd_182 h rfl, have h := fd_t3 h; ⟨fd_54 h rfl, have h := fd_t2 h; ⟨fd_21 h rfl, have h := fd_t2 h; ⟨fd_153 h (by decide +kernel), have h := fd_t3 h; ⟨fd_21 h rfl, have h := fd_t2 h; ⟨fd_172 h, have h := fd_t1 h; ⟨fd_28 h, have h := fd_t1 h; ⟨fd_155 h (by decide +kernel), have h := fd_t3 h; ⟨fd_28 h, have h := fd_t1 h; ⟨fd_42 h, have h := fd_t1 h; fd_180 h rfl⟩⟩⟩⟩⟩⟩⟩⟩⟩⟩⟩
theorem dX6_minds_44 : decode cX6_minds 44 = .ok (.iconst 0, 1) := dcq_603.1
theorem dX6_minds_45 : decode cX6_minds 45 = .ok (.invokevirtual 274, 3) := dcq_603.2.1
theorem dX6_minds_48 : decode cX6_minds 48 = .ok (.istore 5, 2) := dcq_603.2.2.1
theorem dX6_minds_50 : decode cX6_minds 50 = .ok (.iload 5, 2) := dcq_603.2.2.2.1
theorem dX6_minds_52 : decode cX6_minds 52 = .ok (.ifCond .eq 6, 3) := dcq_603.2.2.2.2.1
theorem dX6_minds_55 : decode cX6_minds 55 = .ok (.iload 5, 2) := dcq_603.2.2.2.2.2.1
theorem dX6_minds_57 : decode cX6_minds 57 = .ok (.ireturn, 1) := dcq_603.2.2.2.2.2.2.1
theorem dX6_minds_58 : decode cX6_minds 58 = .ok (.iload_n 2, 1) := dcq_603.2.2.2.2.2.2.2.1
theorem dX6_minds_59 : decode cX6_minds 59 = .ok (.ifCond .lt 16, 3) := dcq_603.2.2.2.2.2.2.2.2.1
theorem dX6_minds_62 : decode cX6_minds 62 = .ok (.iload_n 2, 1) := dcq_603.2.2.2.2.2.2.2.2.2.1
theorem dX6_minds_63 : decode cX6_minds 63 = .ok (.aload_n 0, 1) := dcq_603.2.2.2.2.2.2.2.2.2.2.1
theorem dX6_minds_64 : decode cX6_minds 64 = .ok (.getfield 37, 3) := dcq_603.2.2.2.2.2.2.2.2.2.2.2
set_option maxRecDepth 20000 in
theorem dcb_604 : fd_B cX6_minds 67 [27, 46, 21, 4, 100, 164, 0, 6, 16, 244, 172, 3, 54, 6, 21, 6, 21, 4, 162, 0, 39] := fd_o cX6_minds 67 _ (by decide +kernel)
theorem dcq_604 : (decode cX6_minds 67 = .ok (.iload_n 1, 1)) ∧ (decode cX6_minds 68 = .ok (.iaload, 1)) ∧ (decode cX6_minds 69 = .ok (.iload 4, 2)) ∧ (decode cX6_minds 71 = .ok (.isub, 1)) ∧ (decode cX6_minds 72 = .ok (.if_icmp .le 6, 3)) ∧ (decode cX6_minds 75 = .ok (.bipush (-12), 2)) ∧ (decode cX6_minds 77 = .ok (.ireturn, 1)) ∧ (decode cX6_minds 78 = .ok (.iconst 0, 1)) ∧ (decode cX6_minds 79 = .ok (.istore 6, 2)) ∧ (decode cX6_minds 81 = .ok (.iload 6, 2)) ∧ (decode cX6_minds 83 = .ok (.iload 4, 2)) ∧ (decode cX6_minds 85 = .ok (.if_icmp .ge 39, 3)) := have h := dcb_604; ⟨fd_27 h, have h := fd_t1 h; ⟨fd_46 h, have h := fd_t1 h; ⟨fd_21 h rfl, have h := fd_t2 h; ⟨fd_100 h, have h := fd_t1 h; ⟨fd_164 h (by decide +kernel), have h := fd_t3 h; ⟨fd_16 h (by decide +kernel), have h := fd_t2 h; ⟨fd_172 h, have h := fd_t1 h; ⟨fd_3 h, have h := fd_t1 h; ⟨fd_54 h rfl, have h := fd_t2 h; ⟨fd_21 h rfl, have h := fd_t2 h; ⟨fd_21 h rfl, have h := fd_t2 h; fd_162 h (by decide +kernel)⟩⟩⟩⟩⟩⟩⟩⟩⟩⟩⟩
theorem dX6_minds_67 : decode cX6_minds 67 = .ok (.iload_n 1, 1) := dcq_604.1
theorem dX6_minds_68 : decode cX6_minds 68 = .ok (.iaload, 1) := dcq_604.2.1
theorem dX6_minds_69 : decode cX6_minds 69 = .ok (.iload 4, 2) := dcq_604.2.2.1
theorem dX6_minds_71 : decode cX6_minds 71 = .ok (.isub, 1) := dcq_604.2.2.2.1
theorem dX6_minds_72 : decode cX6_minds 72 = .ok (.if_icmp .le 6, 3) := dcq_604.2.2.2.2.1
theorem dX6_minds_75 : decode cX6_minds 75 = .ok (.bipush (-12), 2) := dcq_604.2.2.2.2.2.1
theorem dX6_minds_77 : decode cX6_minds 77 = .ok (.ireturn, 1) := dcq_604.2.2.2.2.2.2.1
theorem dX6_minds_78 : decode cX6_minds 78 = .ok (.iconst 0, 1) := dcq_604.2.2.2.2.2.2.2.1
theorem dX6_minds_79 : decode cX6_minds 79 = .ok (.istore 6, 2) := dcq_604.2.2.2.2.2.2.2.2.1
theorem dX6_minds_81 : decode cX6_minds 81 = .ok (.iload 6, 2) := dcq_604.2.2.2.2.2.2.2.2.2.1
theorem dX6_minds_83 : decode cX6_minds 83 = .ok (.iload 4, 2) := dcq_604.2.2.2.2.2.2.2.2.2.2.1
theorem dX6_minds_85 : decode cX6_minds 85 = .ok (.if_icmp .ge 39, 3) := dcq_604.2.2.2.2.2.2.2.2.2.2.2
set_option maxRecDepth 20000 in
theorem dcb_605 : fd_B cX6_minds 88 [42, 29, 21, 6, 96, 4, 42, 180, 0, 40, 16, 40, 27, 104, 28, 96] := fd_o cX6_minds 88 _ (by decide +kernel)
theorem dcq_605 : (decode cX6_minds 88 = .ok (.aload_n 0, 1)) ∧ (decode cX6_minds 89 = .ok (.iload_n 3, 1)) ∧ (decode cX6_minds 90 = .ok (.iload 6, 2)) ∧ (decode cX6_minds 92 = .ok (.iadd, 1)) ∧ (decode cX6_minds 93 = .ok (.iconst 1, 1)) ∧ (decode cX6_minds 94 = .ok (.aload_n 0, 1)) ∧ (decode cX6_minds 95 = .ok (.getfield 40, 3)) ∧ (decode cX6_minds 98 = .ok (.bipush 40, 2)) ∧ (decode cX6_minds 100 = .ok (.iload_n 1, 1)) ∧ (decode cX6_minds 101 = .ok (.imul, 1)) ∧ (decode cX6_minds 102 = .ok (.iload_n 2, 1)) ∧ (decode cX6_minds 103 = .ok (.iadd, 1)) := have h := dcb_605; ⟨fd_42 h, have h := fd_t1 h; ⟨fd_29 h, have h := fd_t1 h; ⟨fd_21 h rfl, have h := fd_t2 h; ⟨fd_96 h, have h := fd_t1 h; ⟨fd_4 h, have h := fd_t1 h; ⟨fd_42 h, have h := fd_t1 h; ⟨fd_180 h rfl, have h := fd_t3 h; ⟨fd_16 h (by decide +kernel), have h := fd_t2 h; ⟨fd_27 h, have h := fd_t1 h; ⟨fd_104 h, have h := fd_t1 h; ⟨fd_28 h, have h := fd_t1 h; fd_96 h⟩⟩⟩⟩⟩⟩⟩⟩⟩⟩⟩
theorem dX6_minds_88 : decode cX6_minds 88 = .ok (.aload_n 0, 1) := dcq_605.1
theorem dX6_minds_89 : decode cX6_minds 89 = .ok (.iload_n 3, 1) := dcq_605.2.1
theorem dX6_minds_90 : decode cX6_minds 90 = .ok (.iload 6, 2) := dcq_605.2.2.1
theorem dX6_minds_92 : decode cX6_minds 92 = .ok (.iadd, 1) := dcq_605.2.2.2.1
theorem dX6_minds_93 : decode cX6_minds 93 = .ok (.iconst 1, 1) := dcq_605.2.2.2.2.1
theorem dX6_minds_94 : decode cX6_minds 94 = .ok (.aload_n 0, 1) := dcq_605.2.2.2.2.2.1
theorem dX6_minds_95 : decode cX6_minds 95 = .ok (.getfield 40, 3) := dcq_605.2.2.2.2.2.2.1
theorem dX6_minds_98 : decode cX6_minds 98 = .ok (.bipush 40, 2) := dcq_605.2.2.2.2.2.2.2.1
theorem dX6_minds_100 : decode cX6_minds 100 = .ok (.iload_n 1, 1) := dcq_605.2.2.2.2.2.2.2.2.1
theorem dX6_minds_101 : decode cX6_minds 101 = .ok (.imul, 1) := dcq_605.2.2.2.2.2.2.2.2.2.1
theorem dX6_minds_102 : decode cX6_minds 102 = .ok (.iload_n 2, 1) := dcq_605.2.2.2.2.2.2.2.2.2.2.1
theorem dX6_minds_103 : decode cX6_minds 103 = .ok (.iadd, 1) := dcq_605.2.2.2.2.2.2.2.2.2.2.2
set_option maxRecDepth 20000 in
theorem dcb_606 : fd_B cX6_minds 104 [21, 6, 96, 47, 136, 3, 16, 99, 184, 0, 194, 182, 0, 184, 132, 6, 1, 167, 255, 216, 21, 4, 172] := fd_o cX6_minds 104 _ (by decide +kernel)
theorem dcq_606 : (decode cX6_minds 104 = .ok (.iload 6, 2)) ∧ (decode cX6_minds 106 = .ok (.iadd, 1)) ∧ (decode cX6_minds 107 = .ok (.laload, 1)) ∧ (decode cX6_minds 108 = .ok (.l2i, 1)) ∧ (decode cX6_minds 109 = .ok (.iconst 0, 1)) ∧ (decode cX6_minds 110 = .ok (.bipush 99, 2)) ∧ (decode cX6_minds 112 = .ok (.invokestatic 194, 3)) ∧ (decode cX6_minds 115 = .ok (.invokevirtual 184, 3)) ∧ (decode cX6_minds 118 = .ok (.iinc 6 1, 3)) ∧ (decode cX6_minds 121 = .ok (.goto (-40), 3)) ∧ (decode cX6_minds 124 = .ok (.iload 4, 2)) ∧ (decode cX6_minds 126 = .ok (.ireturn, 1)) := have h := dcb_606; ⟨fd_21 h rfl, have h := fd_t2 h; ⟨fd_96 h, have h := fd_t1 h; ⟨fd_47 h, have h := fd_t1 h; ⟨fd_136 h, have h := fd_t1 h; ⟨fd_3 h, have h := fd_t1 h; ⟨fd_16 h (by decide +kernel), have h := fd_t2 h; ⟨fd_184 h rfl, have h := fd_t3 h; ⟨fd_182 h rfl, have h := fd_t3 h; ⟨fd_132 h rfl (by decide +kernel), have h := fd_t3 h; ⟨fd_167 h (by decide +kernel), have h := fd_t3 h; ⟨fd_21 h rfl, have h := fd_t2 h; fd_172 h⟩⟩⟩⟩⟩⟩⟩⟩⟩⟩⟩
theorem dX6_minds_104 : decode cX6_minds 104 = .ok (.iload 6, 2) := dcq_606.1
theorem dX6_minds_106 : decode cX6_minds 106 = .ok (.iadd, 1) := dcq_606.2.1
theorem dX6_minds_107 : decode cX6_minds 107 = .ok (.laload, 1) := dcq_606.2.2.1
theorem dX6_minds_108 : decode cX6_minds 108 = .ok (.l2i, 1) := dcq_606.2.2.2.1
theorem dX6_minds_109 : decode cX6_minds 109 = .ok (.iconst 0, 1) := dcq_606.2.2.2.2.1
theorem dX6_minds_110 : decode cX6_minds 110 = .ok (.bipush 99, 2) := dcq_606.2.2.2.2.2.1
theorem dX6_minds_112 : decode cX6_minds 112 = .ok (.invokestatic 194, 3) := dcq_606.2.2.2.2.2.2.1
theorem dX6_minds_115 : decode cX6_minds 115 = .ok (.invokevirtual 184, 3) := dcq_606.2.2.2.2.2.2.2.1
theorem dX6_minds_118 : decode cX6_minds 118 = .ok (.iinc 6 1, 3) := dcq_606.2.2.2.2.2.2.2.2.1
theorem dX6_minds_121 : decode cX6_minds 121 = .ok (.goto (-40), 3) := dcq_606.2.2.2.2.2.2.2.2.2.1
theorem dX6_minds_124 : decode cX6_minds 124 = .ok (.iload 4, 2) := dcq_606.2.2.2.2.2.2.2.2.2.2.1
theorem dX6_minds_126 : decode cX6_minds 126 = .ok (.ireturn, 1) := dcq_606.2.2.2.2.2.2.2.2.2.2.2
set_option maxRecDepth 20000 in
theorem dcb_607 : fd_B cX6_isShelf 0 [26, 3, 6, 184, 0, 60, 172] := fd_o cX6_isShelf 0 _ (by decide +kernel)
theorem dcq_607 : (decode cX6_isShelf 0 = .ok (.iload_n 0, 1)) ∧ (decode cX6_isShelf 1 = .ok (.iconst 0, 1)) ∧ (decode cX6_isShelf 2 = .ok (.iconst 3, 1)) ∧ (decode cX6_isShelf 3 = .ok (.invokestatic 60, 3)) ∧ (decode cX6_isShelf 6 = .ok (.ireturn, 1)) := have h := dcb_607; ⟨fd_26 h, have h := fd_t1 h; ⟨fd_3 h, have h := fd_t1 h; ⟨fd_6 h, have h := fd_t1 h; ⟨fd_184 h rfl, have h := fd_t3 h; fd_172 h⟩⟩⟩⟩
theorem dX6_isShelf_0 : decode cX6_isShelf 0 = .ok (.iload_n 0, 1) := dcq_607.1
theorem dX6_isShelf_1 : decode cX6_isShelf 1 = .ok (.iconst 0, 1) := dcq_607.2.1
theorem dX6_isShelf_2 : decode cX6_isShelf 2 = .ok (.iconst 3, 1) := dcq_607.2.2.1
theorem dX6_isShelf_3 : decode cX6_isShelf 3 = .ok (.invokestatic 60, 3) := dcq_607.2.2.2.1
theorem dX6_isShelf_6 : decode cX6_isShelf 6 = .ok (.ireturn, 1) := dcq_607.2.2.2.2
set_option maxRecDepth 20000 in
theorem dcb_608 : fd_B cX6_sheet 0 [27, 184, 0, 251, 153, 0, 22, 28, 2, 6, 184, 0, 60, 153, 0, 13, 28, 155, 0, 11, 29, 16, 40] := fd_o cX6_sheet 0 _ (by decide +kernel)
theorem dcq_608 : (decode cX6_sheet 0 = .ok (.iload_n 1, 1)) ∧ (decode cX6_sheet 1 = .ok (.invokestatic 251, 3)) ∧ (decode cX6_sheet 4 = .ok (.ifCond .eq 22, 3)) ∧ (decode cX6_sheet 7 = .ok (.iload_n 2, 1)) ∧ (decode cX6_sheet 8 = .ok (.iconst (-1), 1)) ∧ (decode cX6_sheet 9 = .ok (.iconst 3, 1)) ∧ (decode cX6_sheet 10 = .ok (.invokestatic 60, 3)) ∧ (decode cX6_sheet 13 = .ok (.ifCond .eq 13, 3)) ∧ (decode cX6_sheet 16 = .ok (.iload_n 2, 1)) ∧ (decode cX6_sheet 17 = .ok (.ifCond .lt 11, 3)) ∧ (decode cX6_sheet 20 = .ok (.iload_n 3, 1)) ∧ (decode cX6_sheet 21 = .ok (.bipush 40, 2)) := have h := dcb_608; ⟨fd_27 h, have h := fd_t1 h; ⟨fd_184 h rfl, have h := fd_t3 h; ⟨fd_153 h (by decide +kernel), have h := fd_t3 h; ⟨fd_28 h, have h := fd_t1 h; ⟨fd_2 h, have h := fd_t1 h; ⟨fd_6 h, have h := fd_t1 h; ⟨fd_184 h rfl, have h := fd_t3 h; ⟨fd_153 h (by decide +kernel), have h := fd_t3 h; ⟨fd_28 h, have h := fd_t1 h; ⟨fd_155 h (by decide +kernel), have h := fd_t3 h; ⟨fd_29 h, have h := fd_t1 h; fd_16 h (by decide +kernel)⟩⟩⟩⟩⟩⟩⟩⟩⟩⟩⟩
theorem dX6_sheet_0 : decode cX6_sheet 0 = .ok (.iload_n 1, 1) := dcq_608.1
theorem dX6_sheet_1 : decode cX6_sheet 1 = .ok (.invokestatic 251, 3) := dcq_608.2.1
theorem dX6_sheet_4 : decode cX6_sheet 4 = .ok (.ifCond .eq 22, 3) := dcq_608.2.2.1
theorem dX6_sheet_7 : decode cX6_sheet 7 = .ok (.iload_n 2, 1) := dcq_608.2.2.2.1
theorem dX6_sheet_8 : decode cX6_sheet 8 = .ok (.iconst (-1), 1) := dcq_608.2.2.2.2.1
theorem dX6_sheet_9 : decode cX6_sheet 9 = .ok (.iconst 3, 1) := dcq_608.2.2.2.2.2.1
theorem dX6_sheet_10 : decode cX6_sheet 10 = .ok (.invokestatic 60, 3) := dcq_608.2.2.2.2.2.2.1
theorem dX6_sheet_13 : decode cX6_sheet 13 = .ok (.ifCond .eq 13, 3) := dcq_608.2.2.2.2.2.2.2.1
theorem dX6_sheet_16 : decode cX6_sheet 16 = .ok (.iload_n 2, 1) := dcq_608.2.2.2.2.2.2.2.2.1
theorem dX6_sheet_17 : decode cX6_sheet 17 = .ok (.ifCond .lt 11, 3) := dcq_608.2.2.2.2.2.2.2.2.2.1
theorem dX6_sheet_20 : decode cX6_sheet 20 = .ok (.iload_n 3, 1) := dcq_608.2.2.2.2.2.2.2.2.2.2.1
theorem dX6_sheet_21 : decode cX6_sheet 21 = .ok (.bipush 40, 2) := dcq_608.2.2.2.2.2.2.2.2.2.2.2
set_option maxRecDepth 20000 in
theorem dcb_609 : fd_B cX6_sheet 23 [164, 0, 5, 2, 172, 28, 155, 0, 10, 29, 156, 0, 6, 16, 242, 172, 42, 180, 0, 34, 27] := fd_o cX6_sheet 23 _ (by decide +kernel)
theorem dcq_609 : (decode cX6_sheet 23 = .ok (.if_icmp .le 5, 3)) ∧ (decode cX6_sheet 26 = .ok (.iconst (-1), 1)) ∧ (decode cX6_sheet 27 = .ok (.ireturn, 1)) ∧ (decode cX6_sheet 28 = .ok (.iload_n 2, 1)) ∧ (decode cX6_sheet 29 = .ok (.ifCond .lt 10, 3)) ∧ (decode cX6_sheet 32 = .ok (.iload_n 3, 1)) ∧ (decode cX6_sheet 33 = .ok (.ifCond .ge 6, 3)) ∧ (decode cX6_sheet 36 = .ok (.bipush (-14), 2)) ∧ (decode cX6_sheet 38 = .ok (.ireturn, 1)) ∧ (decode cX6_sheet 39 = .ok (.aload_n 0, 1)) ∧ (decode cX6_sheet 40 = .ok (.getfield 34, 3)) ∧ (decode cX6_sheet 43 = .ok (.iload_n 1, 1)) := have h := dcb_609; ⟨fd_164 h (by decide +kernel), have h := fd_t3 h; ⟨fd_2 h, have h := fd_t1 h; ⟨fd_172 h, have h := fd_t1 h; ⟨fd_28 h, have h := fd_t1 h; ⟨fd_155 h (by decide +kernel), have h := fd_t3 h; ⟨fd_29 h, have h := fd_t1 h; ⟨fd_156 h (by decide +kernel), have h := fd_t3 h; ⟨fd_16 h (by decide +kernel), have h := fd_t2 h; ⟨fd_172 h, have h := fd_t1 h; ⟨fd_42 h, have h := fd_t1 h; ⟨fd_180 h rfl, have h := fd_t3 h; fd_27 h⟩⟩⟩⟩⟩⟩⟩⟩⟩⟩⟩
theorem dX6_sheet_23 : decode cX6_sheet 23 = .ok (.if_icmp .le 5, 3) := dcq_609.1
theorem dX6_sheet_26 : decode cX6_sheet 26 = .ok (.iconst (-1), 1) := dcq_609.2.1
theorem dX6_sheet_27 : decode cX6_sheet 27 = .ok (.ireturn, 1) := dcq_609.2.2.1
theorem dX6_sheet_28 : decode cX6_sheet 28 = .ok (.iload_n 2, 1) := dcq_609.2.2.2.1
theorem dX6_sheet_29 : decode cX6_sheet 29 = .ok (.ifCond .lt 10, 3) := dcq_609.2.2.2.2.1
theorem dX6_sheet_32 : decode cX6_sheet 32 = .ok (.iload_n 3, 1) := dcq_609.2.2.2.2.2.1
theorem dX6_sheet_33 : decode cX6_sheet 33 = .ok (.ifCond .ge 6, 3) := dcq_609.2.2.2.2.2.2.1
theorem dX6_sheet_36 : decode cX6_sheet 36 = .ok (.bipush (-14), 2) := dcq_609.2.2.2.2.2.2.2.1
theorem dX6_sheet_38 : decode cX6_sheet 38 = .ok (.ireturn, 1) := dcq_609.2.2.2.2.2.2.2.2.1
theorem dX6_sheet_39 : decode cX6_sheet 39 = .ok (.aload_n 0, 1) := dcq_609.2.2.2.2.2.2.2.2.2.1
theorem dX6_sheet_40 : decode cX6_sheet 40 = .ok (.getfield 34, 3) := dcq_609.2.2.2.2.2.2.2.2.2.2.1
theorem dX6_sheet_43 : decode cX6_sheet 43 = .ok (.iload_n 1, 1) := dcq_609.2.2.2.2.2.2.2.2.2.2.2
set_option maxRecDepth 20000 in
theorem dcb_610 : fd_B cX6_sheet 44 [28, 79, 42, 180, 0, 37, 27, 28, 156, 0, 7, 3, 167, 0, 4, 29, 79, 3] := fd_o cX6_sheet 44 _ (by decide +kernel)
theorem dcq_610 : (decode cX6_sheet 44 = .ok (.iload_n 2, 1)) ∧ (decode cX6_sheet 45 = .ok (.iastore, 1)) ∧ (decode cX6_sheet 46 = .ok (.aload_n 0, 1)) ∧ (decode cX6_sheet 47 = .ok (.getfield 37, 3)) ∧ (decode cX6_sheet 50 = .ok (.iload_n 1, 1)) ∧ (decode cX6_sheet 51 = .ok (.iload_n 2, 1)) ∧ (decode cX6_sheet 52 = .ok (.ifCond .ge 7, 3)) ∧ (decode cX6_sheet 55 = .ok (.iconst 0, 1)) ∧ (decode cX6_sheet 56 = .ok (.goto 4, 3)) ∧ (decode cX6_sheet 59 = .ok (.iload_n 3, 1)) ∧ (decode cX6_sheet 60 = .ok (.iastore, 1)) ∧ (decode cX6_sheet 61 = .ok (.iconst 0, 1)) := have h := dcb_610; ⟨fd_28 h, have h := fd_t1 h; ⟨fd_79 h, have h := fd_t1 h; ⟨fd_42 h, have h := fd_t1 h; ⟨fd_180 h rfl, have h := fd_t3 h; ⟨fd_27 h, have h := fd_t1 h; ⟨fd_28 h, have h := fd_t1 h; ⟨fd_156 h (by decide +kernel), have h := fd_t3 h; ⟨fd_3 h, have h := fd_t1 h; ⟨fd_167 h (by decide +kernel), have h := fd_t3 h; ⟨fd_29 h, have h := fd_t1 h; ⟨fd_79 h, have h := fd_t1 h; fd_3 h⟩⟩⟩⟩⟩⟩⟩⟩⟩⟩⟩
theorem dX6_sheet_44 : decode cX6_sheet 44 = .ok (.iload_n 2, 1) := dcq_610.1
theorem dX6_sheet_45 : decode cX6_sheet 45 = .ok (.iastore, 1) := dcq_610.2.1
theorem dX6_sheet_46 : decode cX6_sheet 46 = .ok (.aload_n 0, 1) := dcq_610.2.2.1
theorem dX6_sheet_47 : decode cX6_sheet 47 = .ok (.getfield 37, 3) := dcq_610.2.2.2.1
theorem dX6_sheet_50 : decode cX6_sheet 50 = .ok (.iload_n 1, 1) := dcq_610.2.2.2.2.1
theorem dX6_sheet_51 : decode cX6_sheet 51 = .ok (.iload_n 2, 1) := dcq_610.2.2.2.2.2.1
theorem dX6_sheet_52 : decode cX6_sheet 52 = .ok (.ifCond .ge 7, 3) := dcq_610.2.2.2.2.2.2.1
theorem dX6_sheet_55 : decode cX6_sheet 55 = .ok (.iconst 0, 1) := dcq_610.2.2.2.2.2.2.2.1
theorem dX6_sheet_56 : decode cX6_sheet 56 = .ok (.goto 4, 3) := dcq_610.2.2.2.2.2.2.2.2.1
theorem dX6_sheet_59 : decode cX6_sheet 59 = .ok (.iload_n 3, 1) := dcq_610.2.2.2.2.2.2.2.2.2.1
theorem dX6_sheet_60 : decode cX6_sheet 60 = .ok (.iastore, 1) := dcq_610.2.2.2.2.2.2.2.2.2.2.1
theorem dX6_sheet_61 : decode cX6_sheet 61 = .ok (.iconst 0, 1) := dcq_610.2.2.2.2.2.2.2.2.2.2.2
set_option maxRecDepth 20000 in
theorem dcb_611 : fd_B cX6_sheet 62 [54, 4, 21, 4, 16, 40, 162, 0, 22, 42, 180, 0, 40, 16, 40, 27, 104, 21, 4, 96, 9] := fd_o cX6_sheet 62 _ (by decide +kernel)
theorem dcq_611 : (decode cX6_sheet 62 = .ok (.istore 4, 2)) ∧ (decode cX6_sheet 64 = .ok (.iload 4, 2)) ∧ (decode cX6_sheet 66 = .ok (.bipush 40, 2)) ∧ (decode cX6_sheet 68 = .ok (.if_icmp .ge 22, 3)) ∧ (decode cX6_sheet 71 = .ok (.aload_n 0, 1)) ∧ (decode cX6_sheet 72 = .ok (.getfield 40, 3)) ∧ (decode cX6_sheet 75 = .ok (.bipush 40, 2)) ∧ (decode cX6_sheet 77 = .ok (.iload_n 1, 1)) ∧ (decode cX6_sheet 78 = .ok (.imul, 1)) ∧ (decode cX6_sheet 79 = .ok (.iload 4, 2)) ∧ (decode cX6_sheet 81 = .ok (.iadd, 1)) ∧ (decode cX6_sheet 82 = .ok (.lconst 0, 1)) := have h := dcb_611; ⟨fd_54 h rfl, have h := fd_t2 h; ⟨fd_21 h rfl, have h := fd_t2 h; ⟨fd_16 h (by decide +kernel), have h := fd_t2 h; ⟨fd_162 h (by decide +kernel), have h := fd_t3 h; ⟨fd_42 h, have h := fd_t1 h; ⟨fd_180 h rfl, have h := fd_t3 h; ⟨fd_16 h (by decide +kernel), have h := fd_t2 h; ⟨fd_27 h, have h := fd_t1 h; ⟨fd_104 h, have h := fd_t1 h; ⟨fd_21 h rfl, have h := fd_t2 h; ⟨fd_96 h, have h := fd_t1 h; fd_9 h⟩⟩⟩⟩⟩⟩⟩⟩⟩⟩⟩
theorem dX6_sheet_62 : decode cX6_sheet 62 = .ok (.istore 4, 2) := dcq_611.1
theorem dX6_sheet_64 : decode cX6_sheet 64 = .ok (.iload 4, 2) := dcq_611.2.1
theorem dX6_sheet_66 : decode cX6_sheet 66 = .ok (.bipush 40, 2) := dcq_611.2.2.1
theorem dX6_sheet_68 : decode cX6_sheet 68 = .ok (.if_icmp .ge 22, 3) := dcq_611.2.2.2.1
theorem dX6_sheet_71 : decode cX6_sheet 71 = .ok (.aload_n 0, 1) := dcq_611.2.2.2.2.1
theorem dX6_sheet_72 : decode cX6_sheet 72 = .ok (.getfield 40, 3) := dcq_611.2.2.2.2.2.1
theorem dX6_sheet_75 : decode cX6_sheet 75 = .ok (.bipush 40, 2) := dcq_611.2.2.2.2.2.2.1
theorem dX6_sheet_77 : decode cX6_sheet 77 = .ok (.iload_n 1, 1) := dcq_611.2.2.2.2.2.2.2.1
theorem dX6_sheet_78 : decode cX6_sheet 78 = .ok (.imul, 1) := dcq_611.2.2.2.2.2.2.2.2.1
theorem dX6_sheet_79 : decode cX6_sheet 79 = .ok (.iload 4, 2) := dcq_611.2.2.2.2.2.2.2.2.2.1
theorem dX6_sheet_81 : decode cX6_sheet 81 = .ok (.iadd, 1) := dcq_611.2.2.2.2.2.2.2.2.2.2.1
theorem dX6_sheet_82 : decode cX6_sheet 82 = .ok (.lconst 0, 1) := dcq_611.2.2.2.2.2.2.2.2.2.2.2
set_option maxRecDepth 20000 in
theorem dcb_612 : fd_B cX6_sheet 83 [80, 132, 4, 1, 167, 255, 233, 4, 172] := fd_o cX6_sheet 83 _ (by decide +kernel)
theorem dcq_612 : (decode cX6_sheet 83 = .ok (.lastore, 1)) ∧ (decode cX6_sheet 84 = .ok (.iinc 4 1, 3)) ∧ (decode cX6_sheet 87 = .ok (.goto (-23), 3)) ∧ (decode cX6_sheet 90 = .ok (.iconst 1, 1)) ∧ (decode cX6_sheet 91 = .ok (.ireturn, 1)) := have h := dcb_612; ⟨fd_80 h, have h := fd_t1 h; ⟨fd_132 h rfl (by decide +kernel), have h := fd_t3 h; ⟨fd_167 h (by decide +kernel), have h := fd_t3 h; ⟨fd_4 h, have h := fd_t1 h; fd_172 h⟩⟩⟩⟩
theorem dX6_sheet_83 : decode cX6_sheet 83 = .ok (.lastore, 1) := dcq_612.1
theorem dX6_sheet_84 : decode cX6_sheet 84 = .ok (.iinc 4 1, 3) := dcq_612.2.1
theorem dX6_sheet_87 : decode cX6_sheet 87 = .ok (.goto (-23), 3) := dcq_612.2.2.1
theorem dX6_sheet_90 : decode cX6_sheet 90 = .ok (.iconst 1, 1) := dcq_612.2.2.2.1
theorem dX6_sheet_91 : decode cX6_sheet 91 = .ok (.ireturn, 1) := dcq_612.2.2.2.2
set_option maxRecDepth 20000 in
theorem dcb_613 : fd_B cX6_put 0 [27, 184, 0, 251, 154, 0, 5, 2, 172, 42, 180, 0, 34, 27, 46, 156, 0, 6, 16, 245, 172] := fd_o cX6_put 0 _ (by decide +kernel)
theorem dcq_613 : (decode cX6_put 0 = .ok (.iload_n 1, 1)) ∧ (decode cX6_put 1 = .ok (.invokestatic 251, 3)) ∧ (decode cX6_put 4 = .ok (.ifCond .ne 5, 3)) ∧ (decode cX6_put 7 = .ok (.iconst (-1), 1)) ∧ (decode cX6_put 8 = .ok (.ireturn, 1)) ∧ (decode cX6_put 9 = .ok (.aload_n 0, 1)) ∧ (decode cX6_put 10 = .ok (.getfield 34, 3)) ∧ (decode cX6_put 13 = .ok (.iload_n 1, 1)) ∧ (decode cX6_put 14 = .ok (.iaload, 1)) ∧ (decode cX6_put 15 = .ok (.ifCond .ge 6, 3)) ∧ (decode cX6_put 18 = .ok (.bipush (-11), 2)) ∧ (decode cX6_put 20 = .ok (.ireturn, 1)) := have h := dcb_613; ⟨fd_27 h, have h := fd_t1 h; ⟨fd_184 h rfl, have h := fd_t3 h; ⟨fd_154 h (by decide +kernel), have h := fd_t3 h; ⟨fd_2 h, have h := fd_t1 h; ⟨fd_172 h, have h := fd_t1 h; ⟨fd_42 h, have h := fd_t1 h; ⟨fd_180 h rfl, have h := fd_t3 h; ⟨fd_27 h, have h := fd_t1 h; ⟨fd_46 h, have h := fd_t1 h; ⟨fd_156 h (by decide +kernel), have h := fd_t3 h; ⟨fd_16 h (by decide +kernel), have h := fd_t2 h; fd_172 h⟩⟩⟩⟩⟩⟩⟩⟩⟩⟩⟩
theorem dX6_put_0 : decode cX6_put 0 = .ok (.iload_n 1, 1) := dcq_613.1
theorem dX6_put_1 : decode cX6_put 1 = .ok (.invokestatic 251, 3) := dcq_613.2.1
theorem dX6_put_4 : decode cX6_put 4 = .ok (.ifCond .ne 5, 3) := dcq_613.2.2.1
theorem dX6_put_7 : decode cX6_put 7 = .ok (.iconst (-1), 1) := dcq_613.2.2.2.1
theorem dX6_put_8 : decode cX6_put 8 = .ok (.ireturn, 1) := dcq_613.2.2.2.2.1
theorem dX6_put_9 : decode cX6_put 9 = .ok (.aload_n 0, 1) := dcq_613.2.2.2.2.2.1
theorem dX6_put_10 : decode cX6_put 10 = .ok (.getfield 34, 3) := dcq_613.2.2.2.2.2.2.1
theorem dX6_put_13 : decode cX6_put 13 = .ok (.iload_n 1, 1) := dcq_613.2.2.2.2.2.2.2.1
theorem dX6_put_14 : decode cX6_put 14 = .ok (.iaload, 1) := dcq_613.2.2.2.2.2.2.2.2.1
theorem dX6_put_15 : decode cX6_put 15 = .ok (.ifCond .ge 6, 3) := dcq_613.2.2.2.2.2.2.2.2.2.1
theorem dX6_put_18 : decode cX6_put 18 = .ok (.bipush (-11), 2) := dcq_613.2.2.2.2.2.2.2.2.2.2.1
theorem dX6_put_20 : decode cX6_put 20 = .ok (.ireturn, 1) := dcq_613.2.2.2.2.2.2.2.2.2.2.2
set_option maxRecDepth 20000 in
theorem dcb_614 : fd_B cX6_put 21 [28, 3, 42, 180, 0, 37, 27, 46, 4, 100, 184, 0, 60, 154, 0, 6, 16, 244, 172] := fd_o cX6_put 21 _ (by decide +kernel)
theorem dcq_614 : (decode cX6_put 21 = .ok (.iload_n 2, 1)) ∧ (decode cX6_put 22 = .ok (.iconst 0, 1)) ∧ (decode cX6_put 23 = .ok (.aload_n 0, 1)) ∧ (decode cX6_put 24 = .ok (.getfield 37, 3)) ∧ (decode cX6_put 27 = .ok (.iload_n 1, 1)) ∧ (decode cX6_put 28 = .ok (.iaload, 1)) ∧ (decode cX6_put 29 = .ok (.iconst 1, 1)) ∧ (decode cX6_put 30 = .ok (.isub, 1)) ∧ (decode cX6_put 31 = .ok (.invokestatic 60, 3)) ∧ (decode cX6_put 34 = .ok (.ifCond .ne 6, 3)) ∧ (decode cX6_put 37 = .ok (.bipush (-12), 2)) ∧ (decode cX6_put 39 = .ok (.ireturn, 1)) := have h := dcb_614; ⟨fd_28 h, have h := fd_t1 h; ⟨fd_3 h, have h := fd_t1 h; ⟨fd_42 h, have h := fd_t1 h; ⟨fd_180 h rfl, have h := fd_t3 h; ⟨fd_27 h, have h := fd_t1 h; ⟨fd_46 h, have h := fd_t1 h; ⟨fd_4 h, have h := fd_t1 h; ⟨fd_100 h, have h := fd_t1 h; ⟨fd_184 h rfl, have h := fd_t3 h; ⟨fd_154 h (by decide +kernel), have h := fd_t3 h; ⟨fd_16 h (by decide +kernel), have h := fd_t2 h; fd_172 h⟩⟩⟩⟩⟩⟩⟩⟩⟩⟩⟩
theorem dX6_put_21 : decode cX6_put 21 = .ok (.iload_n 2, 1) := dcq_614.1
theorem dX6_put_22 : decode cX6_put 22 = .ok (.iconst 0, 1) := dcq_614.2.1
theorem dX6_put_23 : decode cX6_put 23 = .ok (.aload_n 0, 1) := dcq_614.2.2.1
theorem dX6_put_24 : decode cX6_put 24 = .ok (.getfield 37, 3) := dcq_614.2.2.2.1
theorem dX6_put_27 : decode cX6_put 27 = .ok (.iload_n 1, 1) := dcq_614.2.2.2.2.1
theorem dX6_put_28 : decode cX6_put 28 = .ok (.iaload, 1) := dcq_614.2.2.2.2.2.1
theorem dX6_put_29 : decode cX6_put 29 = .ok (.iconst 1, 1) := dcq_614.2.2.2.2.2.2.1
theorem dX6_put_30 : decode cX6_put 30 = .ok (.isub, 1) := dcq_614.2.2.2.2.2.2.2.1
theorem dX6_put_31 : decode cX6_put 31 = .ok (.invokestatic 60, 3) := dcq_614.2.2.2.2.2.2.2.2.1
theorem dX6_put_34 : decode cX6_put 34 = .ok (.ifCond .ne 6, 3) := dcq_614.2.2.2.2.2.2.2.2.2.1
theorem dX6_put_37 : decode cX6_put 37 = .ok (.bipush (-12), 2) := dcq_614.2.2.2.2.2.2.2.2.2.2.1
theorem dX6_put_39 : decode cX6_put 39 = .ok (.ireturn, 1) := dcq_614.2.2.2.2.2.2.2.2.2.2.2
set_option maxRecDepth 20000 in
theorem dcb_615 : fd_B cX6_put 40 [42, 180, 0, 40, 16, 40, 27, 104, 28, 96, 42, 180, 0, 34, 27, 46, 154, 0, 9] := fd_o cX6_put 40 _ (by decide +kernel)
theorem dcq_615 : (decode cX6_put 40 = .ok (.aload_n 0, 1)) ∧ (decode cX6_put 41 = .ok (.getfield 40, 3)) ∧ (decode cX6_put 44 = .ok (.bipush 40, 2)) ∧ (decode cX6_put 46 = .ok (.iload_n 1, 1)) ∧ (decode cX6_put 47 = .ok (.imul, 1)) ∧ (decode cX6_put 48 = .ok (.iload_n 2, 1)) ∧ (decode cX6_put 49 = .ok (.iadd, 1)) ∧ (decode cX6_put 50 = .ok (.aload_n 0, 1)) ∧ (decode cX6_put 51 = .ok (.getfield 34, 3)) ∧ (decode cX6_put 54 = .ok (.iload_n 1, 1)) ∧ (decode cX6_put 55 = .ok (.iaload, 1)) ∧ (decode cX6_put 56 = .ok (.ifCond .ne 9, 3)) := have h := dcb_615; ⟨fd_42 h, have h := fd_t1 h; ⟨fd_180 h rfl, have h := fd_t3 h; ⟨fd_16 h (by decide +kernel), have h := fd_t2 h; ⟨fd_27 h, have h := fd_t1 h; ⟨fd_104 h, have h := fd_t1 h; ⟨fd_28 h, have h := fd_t1 h; ⟨fd_96 h, have h := fd_t1 h; ⟨fd_42 h, have h := fd_t1 h; ⟨fd_180 h rfl, have h := fd_t3 h; ⟨fd_27 h, have h := fd_t1 h; ⟨fd_46 h, have h := fd_t1 h; fd_154 h (by decide +kernel)⟩⟩⟩⟩⟩⟩⟩⟩⟩⟩⟩
theorem dX6_put_40 : decode cX6_put 40 = .ok (.aload_n 0, 1) := dcq_615.1
theorem dX6_put_41 : decode cX6_put 41 = .ok (.getfield 40, 3) := dcq_615.2.1
theorem dX6_put_44 : decode cX6_put 44 = .ok (.bipush 40, 2) := dcq_615.2.2.1
theorem dX6_put_46 : decode cX6_put 46 = .ok (.iload_n 1, 1) := dcq_615.2.2.2.1
theorem dX6_put_47 : decode cX6_put 47 = .ok (.imul, 1) := dcq_615.2.2.2.2.1
theorem dX6_put_48 : decode cX6_put 48 = .ok (.iload_n 2, 1) := dcq_615.2.2.2.2.2.1
theorem dX6_put_49 : decode cX6_put 49 = .ok (.iadd, 1) := dcq_615.2.2.2.2.2.2.1
theorem dX6_put_50 : decode cX6_put 50 = .ok (.aload_n 0, 1) := dcq_615.2.2.2.2.2.2.2.1
theorem dX6_put_51 : decode cX6_put 51 = .ok (.getfield 34, 3) := dcq_615.2.2.2.2.2.2.2.2.1
theorem dX6_put_54 : decode cX6_put 54 = .ok (.iload_n 1, 1) := dcq_615.2.2.2.2.2.2.2.2.2.1
theorem dX6_put_55 : decode cX6_put 55 = .ok (.iaload, 1) := dcq_615.2.2.2.2.2.2.2.2.2.2.1
theorem dX6_put_56 : decode cX6_put 56 = .ok (.ifCond .ne 9, 3) := dcq_615.2.2.2.2.2.2.2.2.2.2.2
set_option maxRecDepth 20000 in
theorem dcb_616 : fd_B cX6_put 59 [29, 145, 133, 167, 0, 21, 42, 180, 0, 34, 27, 46, 4, 160, 0, 9, 29, 147] := fd_o cX6_put 59 _ (by decide +kernel)
theorem dcq_616 : (decode cX6_put 59 = .ok (.iload_n 3, 1)) ∧ (decode cX6_put 60 = .ok (.i2b, 1)) ∧ (decode cX6_put 61 = .ok (.i2l, 1)) ∧ (decode cX6_put 62 = .ok (.goto 21, 3)) ∧ (decode cX6_put 65 = .ok (.aload_n 0, 1)) ∧ (decode cX6_put 66 = .ok (.getfield 34, 3)) ∧ (decode cX6_put 69 = .ok (.iload_n 1, 1)) ∧ (decode cX6_put 70 = .ok (.iaload, 1)) ∧ (decode cX6_put 71 = .ok (.iconst 1, 1)) ∧ (decode cX6_put 72 = .ok (.if_icmp .ne 9, 3)) ∧ (decode cX6_put 75 = .ok (.iload_n 3, 1)) ∧ (decode cX6_put 76 = .ok (.i2s, 1)) := have h := dcb_616; ⟨fd_29 h, have h := fd_t1 h; ⟨fd_145 h, have h := fd_t1 h; ⟨fd_133 h, have h := fd_t1 h; ⟨fd_167 h (by decide +kernel), have h := fd_t3 h; ⟨fd_42 h, have h := fd_t1 h; ⟨fd_180 h rfl, have h := fd_t3 h; ⟨fd_27 h, have h := fd_t1 h; ⟨fd_46 h, have h := fd_t1 h; ⟨fd_4 h, have h := fd_t1 h; ⟨fd_160 h (by decide +kernel), have h := fd_t3 h; ⟨fd_29 h, have h := fd_t1 h; fd_147 h⟩⟩⟩⟩⟩⟩⟩⟩⟩⟩⟩
theorem dX6_put_59 : decode cX6_put 59 = .ok (.iload_n 3, 1) := dcq_616.1
theorem dX6_put_60 : decode cX6_put 60 = .ok (.i2b, 1) := dcq_616.2.1
theorem dX6_put_61 : decode cX6_put 61 = .ok (.i2l, 1) := dcq_616.2.2.1
theorem dX6_put_62 : decode cX6_put 62 = .ok (.goto 21, 3) := dcq_616.2.2.2.1
theorem dX6_put_65 : decode cX6_put 65 = .ok (.aload_n 0, 1) := dcq_616.2.2.2.2.1
theorem dX6_put_66 : decode cX6_put 66 = .ok (.getfield 34, 3) := dcq_616.2.2.2.2.2.1
theorem dX6_put_69 : decode cX6_put 69 = .ok (.iload_n 1, 1) := dcq_616.2.2.2.2.2.2.1
theorem dX6_put_70 : decode cX6_put 70 = .ok (.iaload, 1) := dcq_616.2.2.2.2.2.2.2.1
theorem dX6_put_71 : decode cX6_put 71 = .ok (.iconst 1, 1) := dcq_616.2.2.2.2.2.2.2.2.1
theorem dX6_put_72 : decode cX6_put 72 = .ok (.if_icmp .ne 9, 3) := dcq_616.2.2.2.2.2.2.2.2.2.1
theorem dX6_put_75 : decode cX6_put 75 = .ok (.iload_n 3, 1) := dcq_616.2.2.2.2.2.2.2.2.2.2.1
theorem dX6_put_76 : decode cX6_put 76 = .ok (.i2s, 1) := dcq_616.2.2.2.2.2.2.2.2.2.2.2
set_option maxRecDepth 20000 in
theorem dcb_617 : fd_B cX6_put 77 [133, 167, 0, 5, 29, 133, 80, 4, 172] := fd_o cX6_put 77 _ (by decide +kernel)
theorem dcq_617 : (decode cX6_put 77 = .ok (.i2l, 1)) ∧ (decode cX6_put 78 = .ok (.goto 5, 3)) ∧ (decode cX6_put 81 = .ok (.iload_n 3, 1)) ∧ (decode cX6_put 82 = .ok (.i2l, 1)) ∧ (decode cX6_put 83 = .ok (.lastore, 1)) ∧ (decode cX6_put 84 = .ok (.iconst 1, 1)) ∧ (decode cX6_put 85 = .ok (.ireturn, 1)) := have h := dcb_617; ⟨fd_133 h, have h := fd_t1 h; ⟨fd_167 h (by decide +kernel), have h := fd_t3 h; ⟨fd_29 h, have h := fd_t1 h; ⟨fd_133 h, have h := fd_t1 h; ⟨fd_80 h, have h := fd_t1 h; ⟨fd_4 h, have h := fd_t1 h; fd_172 h⟩⟩⟩⟩⟩⟩
theorem dX6_put_77 : decode cX6_put 77 = .ok (.i2l, 1) := dcq_617.1
theorem dX6_put_78 : decode cX6_put 78 = .ok (.goto 5, 3) := dcq_617.2.1
theorem dX6_put_81 : decode cX6_put 81 = .ok (.iload_n 3, 1) := dcq_617.2.2.1
theorem dX6_put_82 : decode cX6_put 82 = .ok (.i2l, 1) := dcq_617.2.2.2.1
theorem dX6_put_83 : decode cX6_put 83 = .ok (.lastore, 1) := dcq_617.2.2.2.2.1
theorem dX6_put_84 : decode cX6_put 84 = .ok (.iconst 1, 1) := dcq_617.2.2.2.2.2.1
theorem dX6_put_85 : decode cX6_put 85 = .ok (.ireturn, 1) := dcq_617.2.2.2.2.2.2
set_option maxRecDepth 20000 in
theorem dcb_618 : fd_B cX6_lacksSort 0 [42, 180, 0, 34, 27, 46, 156, 0, 8, 16, 245, 167, 0, 19, 42, 180, 0, 34, 27, 46, 28] := fd_o cX6_lacksSort 0 _ (by decide +kernel)
theorem dcq_618 : (decode cX6_lacksSort 0 = .ok (.aload_n 0, 1)) ∧ (decode cX6_lacksSort 1 = .ok (.getfield 34, 3)) ∧ (decode cX6_lacksSort 4 = .ok (.iload_n 1, 1)) ∧ (decode cX6_lacksSort 5 = .ok (.iaload, 1)) ∧ (decode cX6_lacksSort 6 = .ok (.ifCond .ge 8, 3)) ∧ (decode cX6_lacksSort 9 = .ok (.bipush (-11), 2)) ∧ (decode cX6_lacksSort 11 = .ok (.goto 19, 3)) ∧ (decode cX6_lacksSort 14 = .ok (.aload_n 0, 1)) ∧ (decode cX6_lacksSort 15 = .ok (.getfield 34, 3)) ∧ (decode cX6_lacksSort 18 = .ok (.iload_n 1, 1)) ∧ (decode cX6_lacksSort 19 = .ok (.iaload, 1)) ∧ (decode cX6_lacksSort 20 = .ok (.iload_n 2, 1)) := have h := dcb_618; ⟨fd_42 h, have h := fd_t1 h; ⟨fd_180 h rfl, have h := fd_t3 h; ⟨fd_27 h, have h := fd_t1 h; ⟨fd_46 h, have h := fd_t1 h; ⟨fd_156 h (by decide +kernel), have h := fd_t3 h; ⟨fd_16 h (by decide +kernel), have h := fd_t2 h; ⟨fd_167 h (by decide +kernel), have h := fd_t3 h; ⟨fd_42 h, have h := fd_t1 h; ⟨fd_180 h rfl, have h := fd_t3 h; ⟨fd_27 h, have h := fd_t1 h; ⟨fd_46 h, have h := fd_t1 h; fd_28 h⟩⟩⟩⟩⟩⟩⟩⟩⟩⟩⟩
theorem dX6_lacksSort_0 : decode cX6_lacksSort 0 = .ok (.aload_n 0, 1) := dcq_618.1
theorem dX6_lacksSort_1 : decode cX6_lacksSort 1 = .ok (.getfield 34, 3) := dcq_618.2.1
theorem dX6_lacksSort_4 : decode cX6_lacksSort 4 = .ok (.iload_n 1, 1) := dcq_618.2.2.1
theorem dX6_lacksSort_5 : decode cX6_lacksSort 5 = .ok (.iaload, 1) := dcq_618.2.2.2.1
theorem dX6_lacksSort_6 : decode cX6_lacksSort 6 = .ok (.ifCond .ge 8, 3) := dcq_618.2.2.2.2.1
theorem dX6_lacksSort_9 : decode cX6_lacksSort 9 = .ok (.bipush (-11), 2) := dcq_618.2.2.2.2.2.1
theorem dX6_lacksSort_11 : decode cX6_lacksSort 11 = .ok (.goto 19, 3) := dcq_618.2.2.2.2.2.2.1
theorem dX6_lacksSort_14 : decode cX6_lacksSort 14 = .ok (.aload_n 0, 1) := dcq_618.2.2.2.2.2.2.2.1
theorem dX6_lacksSort_15 : decode cX6_lacksSort 15 = .ok (.getfield 34, 3) := dcq_618.2.2.2.2.2.2.2.2.1
theorem dX6_lacksSort_18 : decode cX6_lacksSort 18 = .ok (.iload_n 1, 1) := dcq_618.2.2.2.2.2.2.2.2.2.1
theorem dX6_lacksSort_19 : decode cX6_lacksSort 19 = .ok (.iaload, 1) := dcq_618.2.2.2.2.2.2.2.2.2.2.1
theorem dX6_lacksSort_20 : decode cX6_lacksSort 20 = .ok (.iload_n 2, 1) := dcq_618.2.2.2.2.2.2.2.2.2.2.2
set_option maxRecDepth 20000 in
theorem dcb_619 : fd_B cX6_lacksSort 21 [159, 0, 8, 16, 243, 167, 0, 4, 3, 172] := fd_o cX6_lacksSort 21 _ (by decide +kernel)
theorem dcq_619 : (decode cX6_lacksSort 21 = .ok (.if_icmp .eq 8, 3)) ∧ (decode cX6_lacksSort 24 = .ok (.bipush (-13), 2)) ∧ (decode cX6_lacksSort 26 = .ok (.goto 4, 3)) ∧ (decode cX6_lacksSort 29 = .ok (.iconst 0, 1)) ∧ (decode cX6_lacksSort 30 = .ok (.ireturn, 1)) := have h := dcb_619; ⟨fd_159 h (by decide +kernel), have h := fd_t3 h; ⟨fd_16 h (by decide +kernel), have h := fd_t2 h; ⟨fd_167 h (by decide +kernel), have h := fd_t3 h; ⟨fd_3 h, have h := fd_t1 h; fd_172 h⟩⟩⟩⟩
theorem dX6_lacksSort_21 : decode cX6_lacksSort 21 = .ok (.if_icmp .eq 8, 3) := dcq_619.1
theorem dX6_lacksSort_24 : decode cX6_lacksSort 24 = .ok (.bipush (-13), 2) := dcq_619.2.1
theorem dX6_lacksSort_26 : decode cX6_lacksSort 26 = .ok (.goto 4, 3) := dcq_619.2.2.1
theorem dX6_lacksSort_29 : decode cX6_lacksSort 29 = .ok (.iconst 0, 1) := dcq_619.2.2.2.1
theorem dX6_lacksSort_30 : decode cX6_lacksSort 30 = .ok (.ireturn, 1) := dcq_619.2.2.2.2
set_option maxRecDepth 20000 in
theorem dcb_620 : fd_B cX6_item 0 [27, 184, 0, 251, 153, 0, 12, 28, 3, 6, 184, 0, 60, 154, 0, 5, 2, 172, 42, 27] := fd_o cX6_item 0 _ (by decide +kernel)
theorem dcq_620 : (decode cX6_item 0 = .ok (.iload_n 1, 1)) ∧ (decode cX6_item 1 = .ok (.invokestatic 251, 3)) ∧ (decode cX6_item 4 = .ok (.ifCond .eq 12, 3)) ∧ (decode cX6_item 7 = .ok (.iload_n 2, 1)) ∧ (decode cX6_item 8 = .ok (.iconst 0, 1)) ∧ (decode cX6_item 9 = .ok (.iconst 3, 1)) ∧ (decode cX6_item 10 = .ok (.invokestatic 60, 3)) ∧ (decode cX6_item 13 = .ok (.ifCond .ne 5, 3)) ∧ (decode cX6_item 16 = .ok (.iconst (-1), 1)) ∧ (decode cX6_item 17 = .ok (.ireturn, 1)) ∧ (decode cX6_item 18 = .ok (.aload_n 0, 1)) ∧ (decode cX6_item 19 = .ok (.iload_n 1, 1)) := have h := dcb_620; ⟨fd_27 h, have h := fd_t1 h; ⟨fd_184 h rfl, have h := fd_t3 h; ⟨fd_153 h (by decide +kernel), have h := fd_t3 h; ⟨fd_28 h, have h := fd_t1 h; ⟨fd_3 h, have h := fd_t1 h; ⟨fd_6 h, have h := fd_t1 h; ⟨fd_184 h rfl, have h := fd_t3 h; ⟨fd_154 h (by decide +kernel), have h := fd_t3 h; ⟨fd_2 h, have h := fd_t1 h; ⟨fd_172 h, have h := fd_t1 h; ⟨fd_42 h, have h := fd_t1 h; fd_27 h⟩⟩⟩⟩⟩⟩⟩⟩⟩⟩⟩
theorem dX6_item_0 : decode cX6_item 0 = .ok (.iload_n 1, 1) := dcq_620.1
theorem dX6_item_1 : decode cX6_item 1 = .ok (.invokestatic 251, 3) := dcq_620.2.1
theorem dX6_item_4 : decode cX6_item 4 = .ok (.ifCond .eq 12, 3) := dcq_620.2.2.1
theorem dX6_item_7 : decode cX6_item 7 = .ok (.iload_n 2, 1) := dcq_620.2.2.2.1
theorem dX6_item_8 : decode cX6_item 8 = .ok (.iconst 0, 1) := dcq_620.2.2.2.2.1
theorem dX6_item_9 : decode cX6_item 9 = .ok (.iconst 3, 1) := dcq_620.2.2.2.2.2.1
theorem dX6_item_10 : decode cX6_item 10 = .ok (.invokestatic 60, 3) := dcq_620.2.2.2.2.2.2.1
theorem dX6_item_13 : decode cX6_item 13 = .ok (.ifCond .ne 5, 3) := dcq_620.2.2.2.2.2.2.2.1
theorem dX6_item_16 : decode cX6_item 16 = .ok (.iconst (-1), 1) := dcq_620.2.2.2.2.2.2.2.2.1
theorem dX6_item_17 : decode cX6_item 17 = .ok (.ireturn, 1) := dcq_620.2.2.2.2.2.2.2.2.2.1
theorem dX6_item_18 : decode cX6_item 18 = .ok (.aload_n 0, 1) := dcq_620.2.2.2.2.2.2.2.2.2.2.1
theorem dX6_item_19 : decode cX6_item 19 = .ok (.iload_n 1, 1) := dcq_620.2.2.2.2.2.2.2.2.2.2.2
set_option maxRecDepth 20000 in
theorem dcb_621 : fd_B cX6_item 20 [28, 182, 1, 18, 54, 4, 21, 4, 153, 0, 6, 21, 4, 172, 29, 3, 42, 180, 0, 37, 27] := fd_o cX6_item 20 _ (by decide +kernel)
theorem dcq_621 : (decode cX6_item 20 = .ok (.iload_n 2, 1)) ∧ (decode cX6_item 21 = .ok (.invokevirtual 274, 3)) ∧ (decode cX6_item 24 = .ok (.istore 4, 2)) ∧ (decode cX6_item 26 = .ok (.iload 4, 2)) ∧ (decode cX6_item 28 = .ok (.ifCond .eq 6, 3)) ∧ (decode cX6_item 31 = .ok (.iload 4, 2)) ∧ (decode cX6_item 33 = .ok (.ireturn, 1)) ∧ (decode cX6_item 34 = .ok (.iload_n 3, 1)) ∧ (decode cX6_item 35 = .ok (.iconst 0, 1)) ∧ (decode cX6_item 36 = .ok (.aload_n 0, 1)) ∧ (decode cX6_item 37 = .ok (.getfield 37, 3)) ∧ (decode cX6_item 40 = .ok (.iload_n 1, 1)) := have h := dcb_621; ⟨fd_28 h, have h := fd_t1 h; ⟨fd_182 h rfl, have h := fd_t3 h; ⟨fd_54 h rfl, have h := fd_t2 h; ⟨fd_21 h rfl, have h := fd_t2 h; ⟨fd_153 h (by decide +kernel), have h := fd_t3 h; ⟨fd_21 h rfl, have h := fd_t2 h; ⟨fd_172 h, have h := fd_t1 h; ⟨fd_29 h, have h := fd_t1 h; ⟨fd_3 h, have h := fd_t1 h; ⟨fd_42 h, have h := fd_t1 h; ⟨fd_180 h rfl, have h := fd_t3 h; fd_27 h⟩⟩⟩⟩⟩⟩⟩⟩⟩⟩⟩
theorem dX6_item_20 : decode cX6_item 20 = .ok (.iload_n 2, 1) := dcq_621.1
theorem dX6_item_21 : decode cX6_item 21 = .ok (.invokevirtual 274, 3) := dcq_621.2.1
theorem dX6_item_24 : decode cX6_item 24 = .ok (.istore 4, 2) := dcq_621.2.2.1
theorem dX6_item_26 : decode cX6_item 26 = .ok (.iload 4, 2) := dcq_621.2.2.2.1
theorem dX6_item_28 : decode cX6_item 28 = .ok (.ifCond .eq 6, 3) := dcq_621.2.2.2.2.1
theorem dX6_item_31 : decode cX6_item 31 = .ok (.iload 4, 2) := dcq_621.2.2.2.2.2.1
theorem dX6_item_33 : decode cX6_item 33 = .ok (.ireturn, 1) := dcq_621.2.2.2.2.2.2.1
theorem dX6_item_34 : decode cX6_item 34 = .ok (.iload_n 3, 1) := dcq_621.2.2.2.2.2.2.2.1
theorem dX6_item_35 : decode cX6_item 35 = .ok (.iconst 0, 1) := dcq_621.2.2.2.2.2.2.2.2.1
theorem dX6_item_36 : decode cX6_item 36 = .ok (.aload_n 0, 1) := dcq_621.2.2.2.2.2.2.2.2.2.1
theorem dX6_item_37 : decode cX6_item 37 = .ok (.getfield 37, 3) := dcq_621.2.2.2.2.2.2.2.2.2.2.1
theorem dX6_item_40 : decode cX6_item 40 = .ok (.iload_n 1, 1) := dcq_621.2.2.2.2.2.2.2.2.2.2.2
set_option maxRecDepth 20000 in
theorem dcb_622 : fd_B cX6_item 41 [46, 4, 100, 184, 0, 60, 153, 0, 18, 42, 180, 0, 40, 16, 40, 27, 104, 29, 96] := fd_o cX6_item 41 _ (by decide +kernel)
theorem dcq_622 : (decode cX6_item 41 = .ok (.iaload, 1)) ∧ (decode cX6_item 42 = .ok (.iconst 1, 1)) ∧ (decode cX6_item 43 = .ok (.isub, 1)) ∧ (decode cX6_item 44 = .ok (.invokestatic 60, 3)) ∧ (decode cX6_item 47 = .ok (.ifCond .eq 18, 3)) ∧ (decode cX6_item 50 = .ok (.aload_n 0, 1)) ∧ (decode cX6_item 51 = .ok (.getfield 40, 3)) ∧ (decode cX6_item 54 = .ok (.bipush 40, 2)) ∧ (decode cX6_item 56 = .ok (.iload_n 1, 1)) ∧ (decode cX6_item 57 = .ok (.imul, 1)) ∧ (decode cX6_item 58 = .ok (.iload_n 3, 1)) ∧ (decode cX6_item 59 = .ok (.iadd, 1)) := have h := dcb_622; ⟨fd_46 h, have h := fd_t1 h; ⟨fd_4 h, have h := fd_t1 h; ⟨fd_100 h, have h := fd_t1 h; ⟨fd_184 h rfl, have h := fd_t3 h; ⟨fd_153 h (by decide +kernel), have h := fd_t3 h; ⟨fd_42 h, have h := fd_t1 h; ⟨fd_180 h rfl, have h := fd_t3 h; ⟨fd_16 h (by decide +kernel), have h := fd_t2 h; ⟨fd_27 h, have h := fd_t1 h; ⟨fd_104 h, have h := fd_t1 h; ⟨fd_29 h, have h := fd_t1 h; fd_96 h⟩⟩⟩⟩⟩⟩⟩⟩⟩⟩⟩
theorem dX6_item_41 : decode cX6_item 41 = .ok (.iaload, 1) := dcq_622.1
theorem dX6_item_42 : decode cX6_item 42 = .ok (.iconst 1, 1) := dcq_622.2.1
theorem dX6_item_43 : decode cX6_item 43 = .ok (.isub, 1) := dcq_622.2.2.1
theorem dX6_item_44 : decode cX6_item 44 = .ok (.invokestatic 60, 3) := dcq_622.2.2.2.1
theorem dX6_item_47 : decode cX6_item 47 = .ok (.ifCond .eq 18, 3) := dcq_622.2.2.2.2.1
theorem dX6_item_50 : decode cX6_item 50 = .ok (.aload_n 0, 1) := dcq_622.2.2.2.2.2.1
theorem dX6_item_51 : decode cX6_item 51 = .ok (.getfield 40, 3) := dcq_622.2.2.2.2.2.2.1
theorem dX6_item_54 : decode cX6_item 54 = .ok (.bipush 40, 2) := dcq_622.2.2.2.2.2.2.2.1
theorem dX6_item_56 : decode cX6_item 56 = .ok (.iload_n 1, 1) := dcq_622.2.2.2.2.2.2.2.2.1
theorem dX6_item_57 : decode cX6_item 57 = .ok (.imul, 1) := dcq_622.2.2.2.2.2.2.2.2.2.1
theorem dX6_item_58 : decode cX6_item 58 = .ok (.iload_n 3, 1) := dcq_622.2.2.2.2.2.2.2.2.2.2.1
theorem dX6_item_59 : decode cX6_item 59 = .ok (.iadd, 1) := dcq_622.2.2.2.2.2.2.2.2.2.2.2
set_option maxRecDepth 20000 in
theorem dcb_623 : fd_B cX6_item 60 [47, 136, 167, 0, 5, 16, 244, 172] := fd_o cX6_item 60 _ (by decide +kernel)
theorem dcq_623 : (decode cX6_item 60 = .ok (.laload, 1)) ∧ (decode cX6_item 61 = .ok (.l2i, 1)) ∧ (decode cX6_item 62 = .ok (.goto 5, 3)) ∧ (decode cX6_item 65 = .ok (.bipush (-12), 2)) ∧ (decode cX6_item 67 = .ok (.ireturn, 1)) := have h := dcb_623; ⟨fd_47 h, have h := fd_t1 h; ⟨fd_136 h, have h := fd_t1 h; ⟨fd_167 h (by decide +kernel), have h := fd_t3 h; ⟨fd_16 h (by decide +kernel), have h := fd_t2 h; fd_172 h⟩⟩⟩⟩
theorem dX6_item_60 : decode cX6_item 60 = .ok (.laload, 1) := dcq_623.1
theorem dX6_item_61 : decode cX6_item 61 = .ok (.l2i, 1) := dcq_623.2.1
theorem dX6_item_62 : decode cX6_item 62 = .ok (.goto 5, 3) := dcq_623.2.2.1
theorem dX6_item_65 : decode cX6_item 65 = .ok (.bipush (-12), 2) := dcq_623.2.2.2.1
theorem dX6_item_67 : decode cX6_item 67 = .ok (.ireturn, 1) := dcq_623.2.2.2.2
set_option maxRecDepth 20000 in
theorem dcb_624 : fd_B cX6_isHeld 0 [27, 154, 0, 11, 42, 28, 182, 0, 188, 167, 0, 25, 27, 4, 160, 0, 10, 28, 184, 0, 251, 167, 0, 13] := fd_o cX6_isHeld 0 _ (by decide +kernel)
theorem dcq_624 : (decode cX6_isHeld 0 = .ok (.iload_n 1, 1)) ∧ (decode cX6_isHeld 1 = .ok (.ifCond .ne 11, 3)) ∧ (decode cX6_isHeld 4 = .ok (.aload_n 0, 1)) ∧ (decode cX6_isHeld 5 = .ok (.iload_n 2, 1)) ∧ (decode cX6_isHeld 6 = .ok (.invokevirtual 188, 3)) ∧ (decode cX6_isHeld 9 = .ok (.goto 25, 3)) ∧ (decode cX6_isHeld 12 = .ok (.iload_n 1, 1)) ∧ (decode cX6_isHeld 13 = .ok (.iconst 1, 1)) ∧ (decode cX6_isHeld 14 = .ok (.if_icmp .ne 10, 3)) ∧ (decode cX6_isHeld 17 = .ok (.iload_n 2, 1)) ∧ (decode cX6_isHeld 18 = .ok (.invokestatic 251, 3)) ∧ (decode cX6_isHeld 21 = .ok (.goto 13, 3)) := have h := dcb_624; ⟨fd_27 h, have h := fd_t1 h; ⟨fd_154 h (by decide +kernel), have h := fd_t3 h; ⟨fd_42 h, have h := fd_t1 h; ⟨fd_28 h, have h := fd_t1 h; ⟨fd_182 h rfl, have h := fd_t3 h; ⟨fd_167 h (by decide +kernel), have h := fd_t3 h; ⟨fd_27 h, have h := fd_t1 h; ⟨fd_4 h, have h := fd_t1 h; ⟨fd_160 h (by decide +kernel), have h := fd_t3 h; ⟨fd_28 h, have h := fd_t1 h; ⟨fd_184 h rfl, have h := fd_t3 h; fd_167 h (by decide +kernel)⟩⟩⟩⟩⟩⟩⟩⟩⟩⟩⟩
theorem dX6_isHeld_0 : decode cX6_isHeld 0 = .ok (.iload_n 1, 1) := dcq_624.1
theorem dX6_isHeld_1 : decode cX6_isHeld 1 = .ok (.ifCond .ne 11, 3) := dcq_624.2.1
theorem dX6_isHeld_4 : decode cX6_isHeld 4 = .ok (.aload_n 0, 1) := dcq_624.2.2.1
theorem dX6_isHeld_5 : decode cX6_isHeld 5 = .ok (.iload_n 2, 1) := dcq_624.2.2.2.1
theorem dX6_isHeld_6 : decode cX6_isHeld 6 = .ok (.invokevirtual 188, 3) := dcq_624.2.2.2.2.1
theorem dX6_isHeld_9 : decode cX6_isHeld 9 = .ok (.goto 25, 3) := dcq_624.2.2.2.2.2.1
theorem dX6_isHeld_12 : decode cX6_isHeld 12 = .ok (.iload_n 1, 1) := dcq_624.2.2.2.2.2.2.1
theorem dX6_isHeld_13 : decode cX6_isHeld 13 = .ok (.iconst 1, 1) := dcq_624.2.2.2.2.2.2.2.1
theorem dX6_isHeld_14 : decode cX6_isHeld 14 = .ok (.if_icmp .ne 10, 3) := dcq_624.2.2.2.2.2.2.2.2.1
theorem dX6_isHeld_17 : decode cX6_isHeld 17 = .ok (.iload_n 2, 1) := dcq_624.2.2.2.2.2.2.2.2.2.1
theorem dX6_isHeld_18 : decode cX6_isHeld 18 = .ok (.invokestatic 251, 3) := dcq_624.2.2.2.2.2.2.2.2.2.2.1
theorem dX6_isHeld_21 : decode cX6_isHeld 21 = .ok (.goto 13, 3) := dcq_624.2.2.2.2.2.2.2.2.2.2.2
set_option maxRecDepth 20000 in
theorem dcb_625 : fd_B cX6_isHeld 24 [27, 5, 160, 0, 7, 4, 167, 0, 4, 3, 172] := fd_o cX6_isHeld 24 _ (by decide +kernel)
theorem dcq_625 : (decode cX6_isHeld 24 = .ok (.iload_n 1, 1)) ∧ (decode cX6_isHeld 25 = .ok (.iconst 2, 1)) ∧ (decode cX6_isHeld 26 = .ok (.if_icmp .ne 7, 3)) ∧ (decode cX6_isHeld 29 = .ok (.iconst 1, 1)) ∧ (decode cX6_isHeld 30 = .ok (.goto 4, 3)) ∧ (decode cX6_isHeld 33 = .ok (.iconst 0, 1)) ∧ (decode cX6_isHeld 34 = .ok (.ireturn, 1)) := have h := dcb_625; ⟨fd_27 h, have h := fd_t1 h; ⟨fd_5 h, have h := fd_t1 h; ⟨fd_160 h (by decide +kernel), have h := fd_t3 h; ⟨fd_4 h, have h := fd_t1 h; ⟨fd_167 h (by decide +kernel), have h := fd_t3 h; ⟨fd_3 h, have h := fd_t1 h; fd_172 h⟩⟩⟩⟩⟩⟩
theorem dX6_isHeld_24 : decode cX6_isHeld 24 = .ok (.iload_n 1, 1) := dcq_625.1
theorem dX6_isHeld_25 : decode cX6_isHeld 25 = .ok (.iconst 2, 1) := dcq_625.2.1
theorem dX6_isHeld_26 : decode cX6_isHeld 26 = .ok (.if_icmp .ne 7, 3) := dcq_625.2.2.1
theorem dX6_isHeld_29 : decode cX6_isHeld 29 = .ok (.iconst 1, 1) := dcq_625.2.2.2.1
theorem dX6_isHeld_30 : decode cX6_isHeld 30 = .ok (.goto 4, 3) := dcq_625.2.2.2.2.1
theorem dX6_isHeld_33 : decode cX6_isHeld 33 = .ok (.iconst 0, 1) := dcq_625.2.2.2.2.2.1
theorem dX6_isHeld_34 : decode cX6_isHeld 34 = .ok (.ireturn, 1) := dcq_625.2.2.2.2.2.2
set_option maxRecDepth 20000 in
theorem dcb_626 : fd_B cX6_shelf 0 [27, 184, 0, 251, 153, 0, 12, 42, 28, 29, 182, 1, 21, 154, 0, 5, 2, 172, 42, 180, 0, 44] := fd_o cX6_shelf 0 _ (by decide +kernel)
theorem dcq_626 : (decode cX6_shelf 0 = .ok (.iload_n 1, 1)) ∧ (decode cX6_shelf 1 = .ok (.invokestatic 251, 3)) ∧ (decode cX6_shelf 4 = .ok (.ifCond .eq 12, 3)) ∧ (decode cX6_shelf 7 = .ok (.aload_n 0, 1)) ∧ (decode cX6_shelf 8 = .ok (.iload_n 2, 1)) ∧ (decode cX6_shelf 9 = .ok (.iload_n 3, 1)) ∧ (decode cX6_shelf 10 = .ok (.invokevirtual 277, 3)) ∧ (decode cX6_shelf 13 = .ok (.ifCond .ne 5, 3)) ∧ (decode cX6_shelf 16 = .ok (.iconst (-1), 1)) ∧ (decode cX6_shelf 17 = .ok (.ireturn, 1)) ∧ (decode cX6_shelf 18 = .ok (.aload_n 0, 1)) ∧ (decode cX6_shelf 19 = .ok (.getfield 44, 3)) := have h := dcb_626; ⟨fd_27 h, have h := fd_t1 h; ⟨fd_184 h rfl, have h := fd_t3 h; ⟨fd_153 h (by decide +kernel), have h := fd_t3 h; ⟨fd_42 h, have h := fd_t1 h; ⟨fd_28 h, have h := fd_t1 h; ⟨fd_29 h, have h := fd_t1 h; ⟨fd_182 h rfl, have h := fd_t3 h; ⟨fd_154 h (by decide +kernel), have h := fd_t3 h; ⟨fd_2 h, have h := fd_t1 h; ⟨fd_172 h, have h := fd_t1 h; ⟨fd_42 h, have h := fd_t1 h; fd_180 h rfl⟩⟩⟩⟩⟩⟩⟩⟩⟩⟩⟩
theorem dX6_shelf_0 : decode cX6_shelf 0 = .ok (.iload_n 1, 1) := dcq_626.1
theorem dX6_shelf_1 : decode cX6_shelf 1 = .ok (.invokestatic 251, 3) := dcq_626.2.1
theorem dX6_shelf_4 : decode cX6_shelf 4 = .ok (.ifCond .eq 12, 3) := dcq_626.2.2.1
theorem dX6_shelf_7 : decode cX6_shelf 7 = .ok (.aload_n 0, 1) := dcq_626.2.2.2.1
theorem dX6_shelf_8 : decode cX6_shelf 8 = .ok (.iload_n 2, 1) := dcq_626.2.2.2.2.1
theorem dX6_shelf_9 : decode cX6_shelf 9 = .ok (.iload_n 3, 1) := dcq_626.2.2.2.2.2.1
theorem dX6_shelf_10 : decode cX6_shelf 10 = .ok (.invokevirtual 277, 3) := dcq_626.2.2.2.2.2.2.1
theorem dX6_shelf_13 : decode cX6_shelf 13 = .ok (.ifCond .ne 5, 3) := dcq_626.2.2.2.2.2.2.2.1
theorem dX6_shelf_16 : decode cX6_shelf 16 = .ok (.iconst (-1), 1) := dcq_626.2.2.2.2.2.2.2.2.1
theorem dX6_shelf_17 : decode cX6_shelf 17 = .ok (.ireturn, 1) := dcq_626.2.2.2.2.2.2.2.2.2.1
theorem dX6_shelf_18 : decode cX6_shelf 18 = .ok (.aload_n 0, 1) := dcq_626.2.2.2.2.2.2.2.2.2.2.1
theorem dX6_shelf_19 : decode cX6_shelf 19 = .ok (.getfield 44, 3) := dcq_626.2.2.2.2.2.2.2.2.2.2.2
set_option maxRecDepth 20000 in
theorem dcb_627 : fd_B cX6_shelf 22 [27, 28, 5, 159, 0, 17, 28, 4, 160, 0, 16, 42, 180, 0, 34, 29, 46, 156, 0, 7] := fd_o cX6_shelf 22 _ (by decide +kernel)
theorem dcq_627 : (decode cX6_shelf 22 = .ok (.iload_n 1, 1)) ∧ (decode cX6_shelf 23 = .ok (.iload_n 2, 1)) ∧ (decode cX6_shelf 24 = .ok (.iconst 2, 1)) ∧ (decode cX6_shelf 25 = .ok (.if_icmp .eq 17, 3)) ∧ (decode cX6_shelf 28 = .ok (.iload_n 2, 1)) ∧ (decode cX6_shelf 29 = .ok (.iconst 1, 1)) ∧ (decode cX6_shelf 30 = .ok (.if_icmp .ne 16, 3)) ∧ (decode cX6_shelf 33 = .ok (.aload_n 0, 1)) ∧ (decode cX6_shelf 34 = .ok (.getfield 34, 3)) ∧ (decode cX6_shelf 37 = .ok (.iload_n 3, 1)) ∧ (decode cX6_shelf 38 = .ok (.iaload, 1)) ∧ (decode cX6_shelf 39 = .ok (.ifCond .ge 7, 3)) := have h := dcb_627; ⟨fd_27 h, have h := fd_t1 h; ⟨fd_28 h, have h := fd_t1 h; ⟨fd_5 h, have h := fd_t1 h; ⟨fd_159 h (by decide +kernel), have h := fd_t3 h; ⟨fd_28 h, have h := fd_t1 h; ⟨fd_4 h, have h := fd_t1 h; ⟨fd_160 h (by decide +kernel), have h := fd_t3 h; ⟨fd_42 h, have h := fd_t1 h; ⟨fd_180 h rfl, have h := fd_t3 h; ⟨fd_29 h, have h := fd_t1 h; ⟨fd_46 h, have h := fd_t1 h; fd_156 h (by decide +kernel)⟩⟩⟩⟩⟩⟩⟩⟩⟩⟩⟩
theorem dX6_shelf_22 : decode cX6_shelf 22 = .ok (.iload_n 1, 1) := dcq_627.1
theorem dX6_shelf_23 : decode cX6_shelf 23 = .ok (.iload_n 2, 1) := dcq_627.2.1
theorem dX6_shelf_24 : decode cX6_shelf 24 = .ok (.iconst 2, 1) := dcq_627.2.2.1
theorem dX6_shelf_25 : decode cX6_shelf 25 = .ok (.if_icmp .eq 17, 3) := dcq_627.2.2.2.1
theorem dX6_shelf_28 : decode cX6_shelf 28 = .ok (.iload_n 2, 1) := dcq_627.2.2.2.2.1
theorem dX6_shelf_29 : decode cX6_shelf 29 = .ok (.iconst 1, 1) := dcq_627.2.2.2.2.2.1
theorem dX6_shelf_30 : decode cX6_shelf 30 = .ok (.if_icmp .ne 16, 3) := dcq_627.2.2.2.2.2.2.1
theorem dX6_shelf_33 : decode cX6_shelf 33 = .ok (.aload_n 0, 1) := dcq_627.2.2.2.2.2.2.2.1
theorem dX6_shelf_34 : decode cX6_shelf 34 = .ok (.getfield 34, 3) := dcq_627.2.2.2.2.2.2.2.2.1
theorem dX6_shelf_37 : decode cX6_shelf 37 = .ok (.iload_n 3, 1) := dcq_627.2.2.2.2.2.2.2.2.2.1
theorem dX6_shelf_38 : decode cX6_shelf 38 = .ok (.iaload, 1) := dcq_627.2.2.2.2.2.2.2.2.2.2.1
theorem dX6_shelf_39 : decode cX6_shelf 39 = .ok (.ifCond .ge 7, 3) := dcq_627.2.2.2.2.2.2.2.2.2.2.2
set_option maxRecDepth 20000 in
theorem dcb_628 : fd_B cX6_shelf 42 [2, 167, 0, 4, 28, 79, 42, 180, 0, 47, 27, 28, 4, 160, 0, 12, 42, 180, 0, 34] := fd_o cX6_shelf 42 _ (by decide +kernel)
theorem dcq_628 : (decode cX6_shelf 42 = .ok (.iconst (-1), 1)) ∧ (decode cX6_shelf 43 = .ok (.goto 4, 3)) ∧ (decode cX6_shelf 46 = .ok (.iload_n 2, 1)) ∧ (decode cX6_shelf 47 = .ok (.iastore, 1)) ∧ (decode cX6_shelf 48 = .ok (.aload_n 0, 1)) ∧ (decode cX6_shelf 49 = .ok (.getfield 47, 3)) ∧ (decode cX6_shelf 52 = .ok (.iload_n 1, 1)) ∧ (decode cX6_shelf 53 = .ok (.iload_n 2, 1)) ∧ (decode cX6_shelf 54 = .ok (.iconst 1, 1)) ∧ (decode cX6_shelf 55 = .ok (.if_icmp .ne 12, 3)) ∧ (decode cX6_shelf 58 = .ok (.aload_n 0, 1)) ∧ (decode cX6_shelf 59 = .ok (.getfield 34, 3)) := have h := dcb_628; ⟨fd_2 h, have h := fd_t1 h; ⟨fd_167 h (by decide +kernel), have h := fd_t3 h; ⟨fd_28 h, have h := fd_t1 h; ⟨fd_79 h, have h := fd_t1 h; ⟨fd_42 h, have h := fd_t1 h; ⟨fd_180 h rfl, have h := fd_t3 h; ⟨fd_27 h, have h := fd_t1 h; ⟨fd_28 h, have h := fd_t1 h; ⟨fd_4 h, have h := fd_t1 h; ⟨fd_160 h (by decide +kernel), have h := fd_t3 h; ⟨fd_42 h, have h := fd_t1 h; fd_180 h rfl⟩⟩⟩⟩⟩⟩⟩⟩⟩⟩⟩
theorem dX6_shelf_42 : decode cX6_shelf 42 = .ok (.iconst (-1), 1) := dcq_628.1
theorem dX6_shelf_43 : decode cX6_shelf 43 = .ok (.goto 4, 3) := dcq_628.2.1
theorem dX6_shelf_46 : decode cX6_shelf 46 = .ok (.iload_n 2, 1) := dcq_628.2.2.1
theorem dX6_shelf_47 : decode cX6_shelf 47 = .ok (.iastore, 1) := dcq_628.2.2.2.1
theorem dX6_shelf_48 : decode cX6_shelf 48 = .ok (.aload_n 0, 1) := dcq_628.2.2.2.2.1
theorem dX6_shelf_49 : decode cX6_shelf 49 = .ok (.getfield 47, 3) := dcq_628.2.2.2.2.2.1
theorem dX6_shelf_52 : decode cX6_shelf 52 = .ok (.iload_n 1, 1) := dcq_628.2.2.2.2.2.2.1
theorem dX6_shelf_53 : decode cX6_shelf 53 = .ok (.iload_n 2, 1) := dcq_628.2.2.2.2.2.2.2.1
theorem dX6_shelf_54 : decode cX6_shelf 54 = .ok (.iconst 1, 1) := dcq_628.2.2.2.2.2.2.2.2.1
theorem dX6_shelf_55 : decode cX6_shelf 55 = .ok (.if_icmp .ne 12, 3) := dcq_628.2.2.2.2.2.2.2.2.2.1
theorem dX6_shelf_58 : decode cX6_shelf 58 = .ok (.aload_n 0, 1) := dcq_628.2.2.2.2.2.2.2.2.2.2.1
theorem dX6_shelf_59 : decode cX6_shelf 59 = .ok (.getfield 34, 3) := dcq_628.2.2.2.2.2.2.2.2.2.2.2
set_option maxRecDepth 20000 in
theorem dcb_629 : fd_B cX6_shelf 62 [29, 46, 167, 0, 4, 29, 79, 42, 180, 0, 50, 27, 28, 4, 160, 0, 12, 42] := fd_o cX6_shelf 62 _ (by decide +kernel)
theorem dcq_629 : (decode cX6_shelf 62 = .ok (.iload_n 3, 1)) ∧ (decode cX6_shelf 63 = .ok (.iaload, 1)) ∧ (decode cX6_shelf 64 = .ok (.goto 4, 3)) ∧ (decode cX6_shelf 67 = .ok (.iload_n 3, 1)) ∧ (decode cX6_shelf 68 = .ok (.iastore, 1)) ∧ (decode cX6_shelf 69 = .ok (.aload_n 0, 1)) ∧ (decode cX6_shelf 70 = .ok (.getfield 50, 3)) ∧ (decode cX6_shelf 73 = .ok (.iload_n 1, 1)) ∧ (decode cX6_shelf 74 = .ok (.iload_n 2, 1)) ∧ (decode cX6_shelf 75 = .ok (.iconst 1, 1)) ∧ (decode cX6_shelf 76 = .ok (.if_icmp .ne 12, 3)) ∧ (decode cX6_shelf 79 = .ok (.aload_n 0, 1)) := have h := dcb_629; ⟨fd_29 h, have h := fd_t1 h; ⟨fd_46 h, have h := fd_t1 h; ⟨fd_167 h (by decide +kernel), have h := fd_t3 h; ⟨fd_29 h, have h := fd_t1 h; ⟨fd_79 h, have h := fd_t1 h; ⟨fd_42 h, have h := fd_t1 h; ⟨fd_180 h rfl, have h := fd_t3 h; ⟨fd_27 h, have h := fd_t1 h; ⟨fd_28 h, have h := fd_t1 h; ⟨fd_4 h, have h := fd_t1 h; ⟨fd_160 h (by decide +kernel), have h := fd_t3 h; fd_42 h⟩⟩⟩⟩⟩⟩⟩⟩⟩⟩⟩
theorem dX6_shelf_62 : decode cX6_shelf 62 = .ok (.iload_n 3, 1) := dcq_629.1
theorem dX6_shelf_63 : decode cX6_shelf 63 = .ok (.iaload, 1) := dcq_629.2.1
theorem dX6_shelf_64 : decode cX6_shelf 64 = .ok (.goto 4, 3) := dcq_629.2.2.1
theorem dX6_shelf_67 : decode cX6_shelf 67 = .ok (.iload_n 3, 1) := dcq_629.2.2.2.1
theorem dX6_shelf_68 : decode cX6_shelf 68 = .ok (.iastore, 1) := dcq_629.2.2.2.2.1
theorem dX6_shelf_69 : decode cX6_shelf 69 = .ok (.aload_n 0, 1) := dcq_629.2.2.2.2.2.1
theorem dX6_shelf_70 : decode cX6_shelf 70 = .ok (.getfield 50, 3) := dcq_629.2.2.2.2.2.2.1
theorem dX6_shelf_73 : decode cX6_shelf 73 = .ok (.iload_n 1, 1) := dcq_629.2.2.2.2.2.2.2.1
theorem dX6_shelf_74 : decode cX6_shelf 74 = .ok (.iload_n 2, 1) := dcq_629.2.2.2.2.2.2.2.2.1
theorem dX6_shelf_75 : decode cX6_shelf 75 = .ok (.iconst 1, 1) := dcq_629.2.2.2.2.2.2.2.2.2.1
theorem dX6_shelf_76 : decode cX6_shelf 76 = .ok (.if_icmp .ne 12, 3) := dcq_629.2.2.2.2.2.2.2.2.2.2.1
theorem dX6_shelf_79 : decode cX6_shelf 79 = .ok (.aload_n 0, 1) := dcq_629.2.2.2.2.2.2.2.2.2.2.2
set_option maxRecDepth 20000 in
theorem dcb_630 : fd_B cX6_shelf 80 [180, 0, 37, 29, 46, 167, 0, 4, 3, 79, 4, 172] := fd_o cX6_shelf 80 _ (by decide +kernel)
theorem dcq_630 : (decode cX6_shelf 80 = .ok (.getfield 37, 3)) ∧ (decode cX6_shelf 83 = .ok (.iload_n 3, 1)) ∧ (decode cX6_shelf 84 = .ok (.iaload, 1)) ∧ (decode cX6_shelf 85 = .ok (.goto 4, 3)) ∧ (decode cX6_shelf 88 = .ok (.iconst 0, 1)) ∧ (decode cX6_shelf 89 = .ok (.iastore, 1)) ∧ (decode cX6_shelf 90 = .ok (.iconst 1, 1)) ∧ (decode cX6_shelf 91 = .ok (.ireturn, 1)) := have h := dcb_630; ⟨fd_180 h rfl, have h := fd_t3 h; ⟨fd_29 h, have h := fd_t1 h; ⟨fd_46 h, have h := fd_t1 h; ⟨fd_167 h (by decide +kernel), have h := fd_t3 h; ⟨fd_3 h, have h := fd_t1 h; ⟨fd_79 h, have h := fd_t1 h; ⟨fd_4 h, have h := fd_t1 h; fd_172 h⟩⟩⟩⟩⟩⟩⟩
theorem dX6_shelf_80 : decode cX6_shelf 80 = .ok (.getfield 37, 3) := dcq_630.1
theorem dX6_shelf_83 : decode cX6_shelf 83 = .ok (.iload_n 3, 1) := dcq_630.2.1
theorem dX6_shelf_84 : decode cX6_shelf 84 = .ok (.iaload, 1) := dcq_630.2.2.1
theorem dX6_shelf_85 : decode cX6_shelf 85 = .ok (.goto 4, 3) := dcq_630.2.2.2.1
theorem dX6_shelf_88 : decode cX6_shelf 88 = .ok (.iconst 0, 1) := dcq_630.2.2.2.2.1
theorem dX6_shelf_89 : decode cX6_shelf 89 = .ok (.iastore, 1) := dcq_630.2.2.2.2.2.1
theorem dX6_shelf_90 : decode cX6_shelf 90 = .ok (.iconst 1, 1) := dcq_630.2.2.2.2.2.2.1
theorem dX6_shelf_91 : decode cX6_shelf 91 = .ok (.ireturn, 1) := dcq_630.2.2.2.2.2.2.2
set_option maxRecDepth 20000 in
theorem dcb_631 : fd_B cX6_kindOn 0 [42, 180, 0, 44, 27, 46, 153, 0, 19, 42, 180, 0, 44, 27, 46, 156, 0, 7, 2, 167, 0, 5] := fd_o cX6_kindOn 0 _ (by decide +kernel)
theorem dcq_631 : (decode cX6_kindOn 0 = .ok (.aload_n 0, 1)) ∧ (decode cX6_kindOn 1 = .ok (.getfield 44, 3)) ∧ (decode cX6_kindOn 4 = .ok (.iload_n 1, 1)) ∧ (decode cX6_kindOn 5 = .ok (.iaload, 1)) ∧ (decode cX6_kindOn 6 = .ok (.ifCond .eq 19, 3)) ∧ (decode cX6_kindOn 9 = .ok (.aload_n 0, 1)) ∧ (decode cX6_kindOn 10 = .ok (.getfield 44, 3)) ∧ (decode cX6_kindOn 13 = .ok (.iload_n 1, 1)) ∧ (decode cX6_kindOn 14 = .ok (.iaload, 1)) ∧ (decode cX6_kindOn 15 = .ok (.ifCond .ge 7, 3)) ∧ (decode cX6_kindOn 18 = .ok (.iconst (-1), 1)) ∧ (decode cX6_kindOn 19 = .ok (.goto 5, 3)) := have h := dcb_631; ⟨fd_42 h, have h := fd_t1 h; ⟨fd_180 h rfl, have h := fd_t3 h; ⟨fd_27 h, have h := fd_t1 h; ⟨fd_46 h, have h := fd_t1 h; ⟨fd_153 h (by decide +kernel), have h := fd_t3 h; ⟨fd_42 h, have h := fd_t1 h; ⟨fd_180 h rfl, have h := fd_t3 h; ⟨fd_27 h, have h := fd_t1 h; ⟨fd_46 h, have h := fd_t1 h; ⟨fd_156 h (by decide +kernel), have h := fd_t3 h; ⟨fd_2 h, have h := fd_t1 h; fd_167 h (by decide +kernel)⟩⟩⟩⟩⟩⟩⟩⟩⟩⟩⟩
theorem dX6_kindOn_0 : decode cX6_kindOn 0 = .ok (.aload_n 0, 1) := dcq_631.1
theorem dX6_kindOn_1 : decode cX6_kindOn 1 = .ok (.getfield 44, 3) := dcq_631.2.1
theorem dX6_kindOn_4 : decode cX6_kindOn 4 = .ok (.iload_n 1, 1) := dcq_631.2.2.1
theorem dX6_kindOn_5 : decode cX6_kindOn 5 = .ok (.iaload, 1) := dcq_631.2.2.2.1
theorem dX6_kindOn_6 : decode cX6_kindOn 6 = .ok (.ifCond .eq 19, 3) := dcq_631.2.2.2.2.1
theorem dX6_kindOn_9 : decode cX6_kindOn 9 = .ok (.aload_n 0, 1) := dcq_631.2.2.2.2.2.1
theorem dX6_kindOn_10 : decode cX6_kindOn 10 = .ok (.getfield 44, 3) := dcq_631.2.2.2.2.2.2.1
theorem dX6_kindOn_13 : decode cX6_kindOn 13 = .ok (.iload_n 1, 1) := dcq_631.2.2.2.2.2.2.2.1
theorem dX6_kindOn_14 : decode cX6_kindOn 14 = .ok (.iaload, 1) := dcq_631.2.2.2.2.2.2.2.2.1
theorem dX6_kindOn_15 : decode cX6_kindOn 15 = .ok (.ifCond .ge 7, 3) := dcq_631.2.2.2.2.2.2.2.2.2.1
theorem dX6_kindOn_18 : decode cX6_kindOn 18 = .ok (.iconst (-1), 1) := dcq_631.2.2.2.2.2.2.2.2.2.2.1
theorem dX6_kindOn_19 : decode cX6_kindOn 19 = .ok (.goto 5, 3) := dcq_631.2.2.2.2.2.2.2.2.2.2.2
set_option maxRecDepth 20000 in
theorem dcb_632 : fd_B cX6_kindOn 22 [16, 9, 172, 42, 42, 180, 0, 47, 27, 46, 182, 0, 188, 153, 0, 17, 42, 42, 180, 0, 47] := fd_o cX6_kindOn 22 _ (by decide +kernel)
theorem dcq_632 : (decode cX6_kindOn 22 = .ok (.bipush 9, 2)) ∧ (decode cX6_kindOn 24 = .ok (.ireturn, 1)) ∧ (decode cX6_kindOn 25 = .ok (.aload_n 0, 1)) ∧ (decode cX6_kindOn 26 = .ok (.aload_n 0, 1)) ∧ (decode cX6_kindOn 27 = .ok (.getfield 47, 3)) ∧ (decode cX6_kindOn 30 = .ok (.iload_n 1, 1)) ∧ (decode cX6_kindOn 31 = .ok (.iaload, 1)) ∧ (decode cX6_kindOn 32 = .ok (.invokevirtual 188, 3)) ∧ (decode cX6_kindOn 35 = .ok (.ifCond .eq 17, 3)) ∧ (decode cX6_kindOn 38 = .ok (.aload_n 0, 1)) ∧ (decode cX6_kindOn 39 = .ok (.aload_n 0, 1)) ∧ (decode cX6_kindOn 40 = .ok (.getfield 47, 3)) := have h := dcb_632; ⟨fd_16 h (by decide +kernel), have h := fd_t2 h; ⟨fd_172 h, have h := fd_t1 h; ⟨fd_42 h, have h := fd_t1 h; ⟨fd_42 h, have h := fd_t1 h; ⟨fd_180 h rfl, have h := fd_t3 h; ⟨fd_27 h, have h := fd_t1 h; ⟨fd_46 h, have h := fd_t1 h; ⟨fd_182 h rfl, have h := fd_t3 h; ⟨fd_153 h (by decide +kernel), have h := fd_t3 h; ⟨fd_42 h, have h := fd_t1 h; ⟨fd_42 h, have h := fd_t1 h; fd_180 h rfl⟩⟩⟩⟩⟩⟩⟩⟩⟩⟩⟩
theorem dX6_kindOn_22 : decode cX6_kindOn 22 = .ok (.bipush 9, 2) := dcq_632.1
theorem dX6_kindOn_24 : decode cX6_kindOn 24 = .ok (.ireturn, 1) := dcq_632.2.1
theorem dX6_kindOn_25 : decode cX6_kindOn 25 = .ok (.aload_n 0, 1) := dcq_632.2.2.1
theorem dX6_kindOn_26 : decode cX6_kindOn 26 = .ok (.aload_n 0, 1) := dcq_632.2.2.2.1
theorem dX6_kindOn_27 : decode cX6_kindOn 27 = .ok (.getfield 47, 3) := dcq_632.2.2.2.2.1
theorem dX6_kindOn_30 : decode cX6_kindOn 30 = .ok (.iload_n 1, 1) := dcq_632.2.2.2.2.2.1
theorem dX6_kindOn_31 : decode cX6_kindOn 31 = .ok (.iaload, 1) := dcq_632.2.2.2.2.2.2.1
theorem dX6_kindOn_32 : decode cX6_kindOn 32 = .ok (.invokevirtual 188, 3) := dcq_632.2.2.2.2.2.2.2.1
theorem dX6_kindOn_35 : decode cX6_kindOn 35 = .ok (.ifCond .eq 17, 3) := dcq_632.2.2.2.2.2.2.2.2.1
theorem dX6_kindOn_38 : decode cX6_kindOn 38 = .ok (.aload_n 0, 1) := dcq_632.2.2.2.2.2.2.2.2.2.1
theorem dX6_kindOn_39 : decode cX6_kindOn 39 = .ok (.aload_n 0, 1) := dcq_632.2.2.2.2.2.2.2.2.2.2.1
theorem dX6_kindOn_40 : decode cX6_kindOn 40 = .ok (.getfield 47, 3) := dcq_632.2.2.2.2.2.2.2.2.2.2.2
set_option maxRecDepth 20000 in
theorem dcb_633 : fd_B cX6_kindOn 43 [27, 46, 3, 182, 0, 191, 167, 0, 4, 2, 172] := fd_o cX6_kindOn 43 _ (by decide +kernel)
theorem dcq_633 : (decode cX6_kindOn 43 = .ok (.iload_n 1, 1)) ∧ (decode cX6_kindOn 44 = .ok (.iaload, 1)) ∧ (decode cX6_kindOn 45 = .ok (.iconst 0, 1)) ∧ (decode cX6_kindOn 46 = .ok (.invokevirtual 191, 3)) ∧ (decode cX6_kindOn 49 = .ok (.goto 4, 3)) ∧ (decode cX6_kindOn 52 = .ok (.iconst (-1), 1)) ∧ (decode cX6_kindOn 53 = .ok (.ireturn, 1)) := have h := dcb_633; ⟨fd_27 h, have h := fd_t1 h; ⟨fd_46 h, have h := fd_t1 h; ⟨fd_3 h, have h := fd_t1 h; ⟨fd_182 h rfl, have h := fd_t3 h; ⟨fd_167 h (by decide +kernel), have h := fd_t3 h; ⟨fd_2 h, have h := fd_t1 h; fd_172 h⟩⟩⟩⟩⟩⟩
theorem dX6_kindOn_43 : decode cX6_kindOn 43 = .ok (.iload_n 1, 1) := dcq_633.1
theorem dX6_kindOn_44 : decode cX6_kindOn 44 = .ok (.iaload, 1) := dcq_633.2.1
theorem dX6_kindOn_45 : decode cX6_kindOn 45 = .ok (.iconst 0, 1) := dcq_633.2.2.1
theorem dX6_kindOn_46 : decode cX6_kindOn 46 = .ok (.invokevirtual 191, 3) := dcq_633.2.2.2.1
theorem dX6_kindOn_49 : decode cX6_kindOn 49 = .ok (.goto 4, 3) := dcq_633.2.2.2.2.1
theorem dX6_kindOn_52 : decode cX6_kindOn 52 = .ok (.iconst (-1), 1) := dcq_633.2.2.2.2.2.1
theorem dX6_kindOn_53 : decode cX6_kindOn 53 = .ok (.ireturn, 1) := dcq_633.2.2.2.2.2.2
set_option maxRecDepth 20000 in
theorem dcb_634 : fd_B cX6_isUnder 0 [27, 153, 0, 28, 27, 26, 159, 0, 23, 27, 4, 160, 0, 8, 26, 6, 159, 0, 13, 27] := fd_o cX6_isUnder 0 _ (by decide +kernel)
theorem dcq_634 : (decode cX6_isUnder 0 = .ok (.iload_n 1, 1)) ∧ (decode cX6_isUnder 1 = .ok (.ifCond .eq 28, 3)) ∧ (decode cX6_isUnder 4 = .ok (.iload_n 1, 1)) ∧ (decode cX6_isUnder 5 = .ok (.iload_n 0, 1)) ∧ (decode cX6_isUnder 6 = .ok (.if_icmp .eq 23, 3)) ∧ (decode cX6_isUnder 9 = .ok (.iload_n 1, 1)) ∧ (decode cX6_isUnder 10 = .ok (.iconst 1, 1)) ∧ (decode cX6_isUnder 11 = .ok (.if_icmp .ne 8, 3)) ∧ (decode cX6_isUnder 14 = .ok (.iload_n 0, 1)) ∧ (decode cX6_isUnder 15 = .ok (.iconst 3, 1)) ∧ (decode cX6_isUnder 16 = .ok (.if_icmp .eq 13, 3)) ∧ (decode cX6_isUnder 19 = .ok (.iload_n 1, 1)) := have h := dcb_634; ⟨fd_27 h, have h := fd_t1 h; ⟨fd_153 h (by decide +kernel), have h := fd_t3 h; ⟨fd_27 h, have h := fd_t1 h; ⟨fd_26 h, have h := fd_t1 h; ⟨fd_159 h (by decide +kernel), have h := fd_t3 h; ⟨fd_27 h, have h := fd_t1 h; ⟨fd_4 h, have h := fd_t1 h; ⟨fd_160 h (by decide +kernel), have h := fd_t3 h; ⟨fd_26 h, have h := fd_t1 h; ⟨fd_6 h, have h := fd_t1 h; ⟨fd_159 h (by decide +kernel), have h := fd_t3 h; fd_27 h⟩⟩⟩⟩⟩⟩⟩⟩⟩⟩⟩
theorem dX6_isUnder_0 : decode cX6_isUnder 0 = .ok (.iload_n 1, 1) := dcq_634.1
theorem dX6_isUnder_1 : decode cX6_isUnder 1 = .ok (.ifCond .eq 28, 3) := dcq_634.2.1
theorem dX6_isUnder_4 : decode cX6_isUnder 4 = .ok (.iload_n 1, 1) := dcq_634.2.2.1
theorem dX6_isUnder_5 : decode cX6_isUnder 5 = .ok (.iload_n 0, 1) := dcq_634.2.2.2.1
theorem dX6_isUnder_6 : decode cX6_isUnder 6 = .ok (.if_icmp .eq 23, 3) := dcq_634.2.2.2.2.1
theorem dX6_isUnder_9 : decode cX6_isUnder 9 = .ok (.iload_n 1, 1) := dcq_634.2.2.2.2.2.1
theorem dX6_isUnder_10 : decode cX6_isUnder 10 = .ok (.iconst 1, 1) := dcq_634.2.2.2.2.2.2.1
theorem dX6_isUnder_11 : decode cX6_isUnder 11 = .ok (.if_icmp .ne 8, 3) := dcq_634.2.2.2.2.2.2.2.1
theorem dX6_isUnder_14 : decode cX6_isUnder 14 = .ok (.iload_n 0, 1) := dcq_634.2.2.2.2.2.2.2.2.1
theorem dX6_isUnder_15 : decode cX6_isUnder 15 = .ok (.iconst 3, 1) := dcq_634.2.2.2.2.2.2.2.2.2.1
theorem dX6_isUnder_16 : decode cX6_isUnder 16 = .ok (.if_icmp .eq 13, 3) := dcq_634.2.2.2.2.2.2.2.2.2.2.1
theorem dX6_isUnder_19 : decode cX6_isUnder 19 = .ok (.iload_n 1, 1) := dcq_634.2.2.2.2.2.2.2.2.2.2.2
set_option maxRecDepth 20000 in
theorem dcb_635 : fd_B cX6_isUnder 20 [5, 160, 0, 12, 26, 7, 160, 0, 7, 4, 167, 0, 4, 3, 172] := fd_o cX6_isUnder 20 _ (by decide +kernel)
theorem dcq_635 : (decode cX6_isUnder 20 = .ok (.iconst 2, 1)) ∧ (decode cX6_isUnder 21 = .ok (.if_icmp .ne 12, 3)) ∧ (decode cX6_isUnder 24 = .ok (.iload_n 0, 1)) ∧ (decode cX6_isUnder 25 = .ok (.iconst 4, 1)) ∧ (decode cX6_isUnder 26 = .ok (.if_icmp .ne 7, 3)) ∧ (decode cX6_isUnder 29 = .ok (.iconst 1, 1)) ∧ (decode cX6_isUnder 30 = .ok (.goto 4, 3)) ∧ (decode cX6_isUnder 33 = .ok (.iconst 0, 1)) ∧ (decode cX6_isUnder 34 = .ok (.ireturn, 1)) := have h := dcb_635; ⟨fd_5 h, have h := fd_t1 h; ⟨fd_160 h (by decide +kernel), have h := fd_t3 h; ⟨fd_26 h, have h := fd_t1 h; ⟨fd_7 h, have h := fd_t1 h; ⟨fd_160 h (by decide +kernel), have h := fd_t3 h; ⟨fd_4 h, have h := fd_t1 h; ⟨fd_167 h (by decide +kernel), have h := fd_t3 h; ⟨fd_3 h, have h := fd_t1 h; fd_172 h⟩⟩⟩⟩⟩⟩⟩⟩
theorem dX6_isUnder_20 : decode cX6_isUnder 20 = .ok (.iconst 2, 1) := dcq_635.1
theorem dX6_isUnder_21 : decode cX6_isUnder 21 = .ok (.if_icmp .ne 12, 3) := dcq_635.2.1
theorem dX6_isUnder_24 : decode cX6_isUnder 24 = .ok (.iload_n 0, 1) := dcq_635.2.2.1
theorem dX6_isUnder_25 : decode cX6_isUnder 25 = .ok (.iconst 4, 1) := dcq_635.2.2.2.1
theorem dX6_isUnder_26 : decode cX6_isUnder 26 = .ok (.if_icmp .ne 7, 3) := dcq_635.2.2.2.2.1
theorem dX6_isUnder_29 : decode cX6_isUnder 29 = .ok (.iconst 1, 1) := dcq_635.2.2.2.2.2.1
theorem dX6_isUnder_30 : decode cX6_isUnder 30 = .ok (.goto 4, 3) := dcq_635.2.2.2.2.2.2.1
theorem dX6_isUnder_33 : decode cX6_isUnder 33 = .ok (.iconst 0, 1) := dcq_635.2.2.2.2.2.2.2.1
theorem dX6_isUnder_34 : decode cX6_isUnder 34 = .ok (.ireturn, 1) := dcq_635.2.2.2.2.2.2.2.2
set_option maxRecDepth 20000 in
theorem dcb_636 : fd_B cX6_taken 0 [27, 184, 0, 251, 153, 0, 23, 28, 3, 8, 184, 0, 60, 154, 0, 16, 28, 16, 10, 16, 13, 184, 0, 60] := fd_o cX6_taken 0 _ (by decide +kernel)
theorem dcq_636 : (decode cX6_taken 0 = .ok (.iload_n 1, 1)) ∧ (decode cX6_taken 1 = .ok (.invokestatic 251, 3)) ∧ (decode cX6_taken 4 = .ok (.ifCond .eq 23, 3)) ∧ (decode cX6_taken 7 = .ok (.iload_n 2, 1)) ∧ (decode cX6_taken 8 = .ok (.iconst 0, 1)) ∧ (decode cX6_taken 9 = .ok (.iconst 5, 1)) ∧ (decode cX6_taken 10 = .ok (.invokestatic 60, 3)) ∧ (decode cX6_taken 13 = .ok (.ifCond .ne 16, 3)) ∧ (decode cX6_taken 16 = .ok (.iload_n 2, 1)) ∧ (decode cX6_taken 17 = .ok (.bipush 10, 2)) ∧ (decode cX6_taken 19 = .ok (.bipush 13, 2)) ∧ (decode cX6_taken 21 = .ok (.invokestatic 60, 3)) := have h := dcb_636; ⟨fd_27 h, have h := fd_t1 h; ⟨fd_184 h rfl, have h := fd_t3 h; ⟨fd_153 h (by decide +kernel), have h := fd_t3 h; ⟨fd_28 h, have h := fd_t1 h; ⟨fd_3 h, have h := fd_t1 h; ⟨fd_8 h, have h := fd_t1 h; ⟨fd_184 h rfl, have h := fd_t3 h; ⟨fd_154 h (by decide +kernel), have h := fd_t3 h; ⟨fd_28 h, have h := fd_t1 h; ⟨fd_16 h (by decide +kernel), have h := fd_t2 h; ⟨fd_16 h (by decide +kernel), have h := fd_t2 h; fd_184 h rfl⟩⟩⟩⟩⟩⟩⟩⟩⟩⟩⟩
theorem dX6_taken_0 : decode cX6_taken 0 = .ok (.iload_n 1, 1) := dcq_636.1
theorem dX6_taken_1 : decode cX6_taken 1 = .ok (.invokestatic 251, 3) := dcq_636.2.1
theorem dX6_taken_4 : decode cX6_taken 4 = .ok (.ifCond .eq 23, 3) := dcq_636.2.2.1
theorem dX6_taken_7 : decode cX6_taken 7 = .ok (.iload_n 2, 1) := dcq_636.2.2.2.1
theorem dX6_taken_8 : decode cX6_taken 8 = .ok (.iconst 0, 1) := dcq_636.2.2.2.2.1
theorem dX6_taken_9 : decode cX6_taken 9 = .ok (.iconst 5, 1) := dcq_636.2.2.2.2.2.1
theorem dX6_taken_10 : decode cX6_taken 10 = .ok (.invokestatic 60, 3) := dcq_636.2.2.2.2.2.2.1
theorem dX6_taken_13 : decode cX6_taken 13 = .ok (.ifCond .ne 16, 3) := dcq_636.2.2.2.2.2.2.2.1
theorem dX6_taken_16 : decode cX6_taken 16 = .ok (.iload_n 2, 1) := dcq_636.2.2.2.2.2.2.2.2.1
theorem dX6_taken_17 : decode cX6_taken 17 = .ok (.bipush 10, 2) := dcq_636.2.2.2.2.2.2.2.2.2.1
theorem dX6_taken_19 : decode cX6_taken 19 = .ok (.bipush 13, 2) := dcq_636.2.2.2.2.2.2.2.2.2.2.1
theorem dX6_taken_21 : decode cX6_taken 21 = .ok (.invokestatic 60, 3) := dcq_636.2.2.2.2.2.2.2.2.2.2.2
set_option maxRecDepth 20000 in
theorem dcb_637 : fd_B cX6_taken 24 [154, 0, 5, 2, 172, 42, 27, 182, 1, 24, 62, 29, 156, 0, 6, 16, 245, 172, 29] := fd_o cX6_taken 24 _ (by decide +kernel)
theorem dcq_637 : (decode cX6_taken 24 = .ok (.ifCond .ne 5, 3)) ∧ (decode cX6_taken 27 = .ok (.iconst (-1), 1)) ∧ (decode cX6_taken 28 = .ok (.ireturn, 1)) ∧ (decode cX6_taken 29 = .ok (.aload_n 0, 1)) ∧ (decode cX6_taken 30 = .ok (.iload_n 1, 1)) ∧ (decode cX6_taken 31 = .ok (.invokevirtual 280, 3)) ∧ (decode cX6_taken 34 = .ok (.istore_n 3, 1)) ∧ (decode cX6_taken 35 = .ok (.iload_n 3, 1)) ∧ (decode cX6_taken 36 = .ok (.ifCond .ge 6, 3)) ∧ (decode cX6_taken 39 = .ok (.bipush (-11), 2)) ∧ (decode cX6_taken 41 = .ok (.ireturn, 1)) ∧ (decode cX6_taken 42 = .ok (.iload_n 3, 1)) := have h := dcb_637; ⟨fd_154 h (by decide +kernel), have h := fd_t3 h; ⟨fd_2 h, have h := fd_t1 h; ⟨fd_172 h, have h := fd_t1 h; ⟨fd_42 h, have h := fd_t1 h; ⟨fd_27 h, have h := fd_t1 h; ⟨fd_182 h rfl, have h := fd_t3 h; ⟨fd_62 h, have h := fd_t1 h; ⟨fd_29 h, have h := fd_t1 h; ⟨fd_156 h (by decide +kernel), have h := fd_t3 h; ⟨fd_16 h (by decide +kernel), have h := fd_t2 h; ⟨fd_172 h, have h := fd_t1 h; fd_29 h⟩⟩⟩⟩⟩⟩⟩⟩⟩⟩⟩
theorem dX6_taken_24 : decode cX6_taken 24 = .ok (.ifCond .ne 5, 3) := dcq_637.1
theorem dX6_taken_27 : decode cX6_taken 27 = .ok (.iconst (-1), 1) := dcq_637.2.1
theorem dX6_taken_28 : decode cX6_taken 28 = .ok (.ireturn, 1) := dcq_637.2.2.1
theorem dX6_taken_29 : decode cX6_taken 29 = .ok (.aload_n 0, 1) := dcq_637.2.2.2.1
theorem dX6_taken_30 : decode cX6_taken 30 = .ok (.iload_n 1, 1) := dcq_637.2.2.2.2.1
theorem dX6_taken_31 : decode cX6_taken 31 = .ok (.invokevirtual 280, 3) := dcq_637.2.2.2.2.2.1
theorem dX6_taken_34 : decode cX6_taken 34 = .ok (.istore_n 3, 1) := dcq_637.2.2.2.2.2.2.1
theorem dX6_taken_35 : decode cX6_taken 35 = .ok (.iload_n 3, 1) := dcq_637.2.2.2.2.2.2.2.1
theorem dX6_taken_36 : decode cX6_taken 36 = .ok (.ifCond .ge 6, 3) := dcq_637.2.2.2.2.2.2.2.2.1
theorem dX6_taken_39 : decode cX6_taken 39 = .ok (.bipush (-11), 2) := dcq_637.2.2.2.2.2.2.2.2.2.1
theorem dX6_taken_41 : decode cX6_taken 41 = .ok (.ireturn, 1) := dcq_637.2.2.2.2.2.2.2.2.2.2.1
theorem dX6_taken_42 : decode cX6_taken 42 = .ok (.iload_n 3, 1) := dcq_637.2.2.2.2.2.2.2.2.2.2.2
set_option maxRecDepth 20000 in
theorem dcb_638 : fd_B cX6_taken 43 [16, 9, 160, 0, 28, 28, 16, 10, 42, 180, 0, 47, 27, 46, 96, 160, 0, 12, 42, 180, 0, 50] := fd_o cX6_taken 43 _ (by decide +kernel)
theorem dcq_638 : (decode cX6_taken 43 = .ok (.bipush 9, 2)) ∧ (decode cX6_taken 45 = .ok (.if_icmp .ne 28, 3)) ∧ (decode cX6_taken 48 = .ok (.iload_n 2, 1)) ∧ (decode cX6_taken 49 = .ok (.bipush 10, 2)) ∧ (decode cX6_taken 51 = .ok (.aload_n 0, 1)) ∧ (decode cX6_taken 52 = .ok (.getfield 47, 3)) ∧ (decode cX6_taken 55 = .ok (.iload_n 1, 1)) ∧ (decode cX6_taken 56 = .ok (.iaload, 1)) ∧ (decode cX6_taken 57 = .ok (.iadd, 1)) ∧ (decode cX6_taken 58 = .ok (.if_icmp .ne 12, 3)) ∧ (decode cX6_taken 61 = .ok (.aload_n 0, 1)) ∧ (decode cX6_taken 62 = .ok (.getfield 50, 3)) := have h := dcb_638; ⟨fd_16 h (by decide +kernel), have h := fd_t2 h; ⟨fd_160 h (by decide +kernel), have h := fd_t3 h; ⟨fd_28 h, have h := fd_t1 h; ⟨fd_16 h (by decide +kernel), have h := fd_t2 h; ⟨fd_42 h, have h := fd_t1 h; ⟨fd_180 h rfl, have h := fd_t3 h; ⟨fd_27 h, have h := fd_t1 h; ⟨fd_46 h, have h := fd_t1 h; ⟨fd_96 h, have h := fd_t1 h; ⟨fd_160 h (by decide +kernel), have h := fd_t3 h; ⟨fd_42 h, have h := fd_t1 h; fd_180 h rfl⟩⟩⟩⟩⟩⟩⟩⟩⟩⟩⟩
theorem dX6_taken_43 : decode cX6_taken 43 = .ok (.bipush 9, 2) := dcq_638.1
theorem dX6_taken_45 : decode cX6_taken 45 = .ok (.if_icmp .ne 28, 3) := dcq_638.2.1
theorem dX6_taken_48 : decode cX6_taken 48 = .ok (.iload_n 2, 1) := dcq_638.2.2.1
theorem dX6_taken_49 : decode cX6_taken 49 = .ok (.bipush 10, 2) := dcq_638.2.2.2.1
theorem dX6_taken_51 : decode cX6_taken 51 = .ok (.aload_n 0, 1) := dcq_638.2.2.2.2.1
theorem dX6_taken_52 : decode cX6_taken 52 = .ok (.getfield 47, 3) := dcq_638.2.2.2.2.2.1
theorem dX6_taken_55 : decode cX6_taken 55 = .ok (.iload_n 1, 1) := dcq_638.2.2.2.2.2.2.1
theorem dX6_taken_56 : decode cX6_taken 56 = .ok (.iaload, 1) := dcq_638.2.2.2.2.2.2.2.1
theorem dX6_taken_57 : decode cX6_taken 57 = .ok (.iadd, 1) := dcq_638.2.2.2.2.2.2.2.2.1
theorem dX6_taken_58 : decode cX6_taken 58 = .ok (.if_icmp .ne 12, 3) := dcq_638.2.2.2.2.2.2.2.2.2.1
theorem dX6_taken_61 : decode cX6_taken 61 = .ok (.aload_n 0, 1) := dcq_638.2.2.2.2.2.2.2.2.2.2.1
theorem dX6_taken_62 : decode cX6_taken 62 = .ok (.getfield 50, 3) := dcq_638.2.2.2.2.2.2.2.2.2.2.2
set_option maxRecDepth 20000 in
theorem dcb_639 : fd_B cX6_taken 65 [27, 46, 167, 0, 5, 16, 243, 172, 28, 16, 10, 162, 0, 20, 29, 28, 184, 1, 27, 153, 0, 12] := fd_o cX6_taken 65 _ (by decide +kernel)
theorem dcq_639 : (decode cX6_taken 65 = .ok (.iload_n 1, 1)) ∧ (decode cX6_taken 66 = .ok (.iaload, 1)) ∧ (decode cX6_taken 67 = .ok (.goto 5, 3)) ∧ (decode cX6_taken 70 = .ok (.bipush (-13), 2)) ∧ (decode cX6_taken 72 = .ok (.ireturn, 1)) ∧ (decode cX6_taken 73 = .ok (.iload_n 2, 1)) ∧ (decode cX6_taken 74 = .ok (.bipush 10, 2)) ∧ (decode cX6_taken 76 = .ok (.if_icmp .ge 20, 3)) ∧ (decode cX6_taken 79 = .ok (.iload_n 3, 1)) ∧ (decode cX6_taken 80 = .ok (.iload_n 2, 1)) ∧ (decode cX6_taken 81 = .ok (.invokestatic 283, 3)) ∧ (decode cX6_taken 84 = .ok (.ifCond .eq 12, 3)) := have h := dcb_639; ⟨fd_27 h, have h := fd_t1 h; ⟨fd_46 h, have h := fd_t1 h; ⟨fd_167 h (by decide +kernel), have h := fd_t3 h; ⟨fd_16 h (by decide +kernel), have h := fd_t2 h; ⟨fd_172 h, have h := fd_t1 h; ⟨fd_28 h, have h := fd_t1 h; ⟨fd_16 h (by decide +kernel), have h := fd_t2 h; ⟨fd_162 h (by decide +kernel), have h := fd_t3 h; ⟨fd_29 h, have h := fd_t1 h; ⟨fd_28 h, have h := fd_t1 h; ⟨fd_184 h rfl, have h := fd_t3 h; fd_153 h (by decide +kernel)⟩⟩⟩⟩⟩⟩⟩⟩⟩⟩⟩
theorem dX6_taken_65 : decode cX6_taken 65 = .ok (.iload_n 1, 1) := dcq_639.1
theorem dX6_taken_66 : decode cX6_taken 66 = .ok (.iaload, 1) := dcq_639.2.1
theorem dX6_taken_67 : decode cX6_taken 67 = .ok (.goto 5, 3) := dcq_639.2.2.1
theorem dX6_taken_70 : decode cX6_taken 70 = .ok (.bipush (-13), 2) := dcq_639.2.2.2.1
theorem dX6_taken_72 : decode cX6_taken 72 = .ok (.ireturn, 1) := dcq_639.2.2.2.2.1
theorem dX6_taken_73 : decode cX6_taken 73 = .ok (.iload_n 2, 1) := dcq_639.2.2.2.2.2.1
theorem dX6_taken_74 : decode cX6_taken 74 = .ok (.bipush 10, 2) := dcq_639.2.2.2.2.2.2.1
theorem dX6_taken_76 : decode cX6_taken 76 = .ok (.if_icmp .ge 20, 3) := dcq_639.2.2.2.2.2.2.2.1
theorem dX6_taken_79 : decode cX6_taken 79 = .ok (.iload_n 3, 1) := dcq_639.2.2.2.2.2.2.2.2.1
theorem dX6_taken_80 : decode cX6_taken 80 = .ok (.iload_n 2, 1) := dcq_639.2.2.2.2.2.2.2.2.2.1
theorem dX6_taken_81 : decode cX6_taken 81 = .ok (.invokestatic 283, 3) := dcq_639.2.2.2.2.2.2.2.2.2.2.1
theorem dX6_taken_84 : decode cX6_taken 84 = .ok (.ifCond .eq 12, 3) := dcq_639.2.2.2.2.2.2.2.2.2.2.2
set_option maxRecDepth 20000 in
theorem dcb_640 : fd_B cX6_taken 87 [42, 180, 0, 47, 27, 46, 167, 0, 5, 16, 243, 172] := fd_o cX6_taken 87 _ (by decide +kernel)
theorem dcq_640 : (decode cX6_taken 87 = .ok (.aload_n 0, 1)) ∧ (decode cX6_taken 88 = .ok (.getfield 47, 3)) ∧ (decode cX6_taken 91 = .ok (.iload_n 1, 1)) ∧ (decode cX6_taken 92 = .ok (.iaload, 1)) ∧ (decode cX6_taken 93 = .ok (.goto 5, 3)) ∧ (decode cX6_taken 96 = .ok (.bipush (-13), 2)) ∧ (decode cX6_taken 98 = .ok (.ireturn, 1)) := have h := dcb_640; ⟨fd_42 h, have h := fd_t1 h; ⟨fd_180 h rfl, have h := fd_t3 h; ⟨fd_27 h, have h := fd_t1 h; ⟨fd_46 h, have h := fd_t1 h; ⟨fd_167 h (by decide +kernel), have h := fd_t3 h; ⟨fd_16 h (by decide +kernel), have h := fd_t2 h; fd_172 h⟩⟩⟩⟩⟩⟩
theorem dX6_taken_87 : decode cX6_taken 87 = .ok (.aload_n 0, 1) := dcq_640.1
theorem dX6_taken_88 : decode cX6_taken 88 = .ok (.getfield 47, 3) := dcq_640.2.1
theorem dX6_taken_91 : decode cX6_taken 91 = .ok (.iload_n 1, 1) := dcq_640.2.2.1
theorem dX6_taken_92 : decode cX6_taken 92 = .ok (.iaload, 1) := dcq_640.2.2.2.1
theorem dX6_taken_93 : decode cX6_taken 93 = .ok (.goto 5, 3) := dcq_640.2.2.2.2.1
theorem dX6_taken_96 : decode cX6_taken 96 = .ok (.bipush (-13), 2) := dcq_640.2.2.2.2.2.1
theorem dX6_taken_98 : decode cX6_taken 98 = .ok (.ireturn, 1) := dcq_640.2.2.2.2.2.2
set_option maxRecDepth 20000 in
theorem dcb_641 : fd_B cX6_ran 0 [42, 180, 1, 30, 16, 30, 162, 0, 23, 42, 180, 0, 53, 42, 180, 1, 30, 27, 79, 42, 89] := fd_o cX6_ran 0 _ (by decide +kernel)
theorem dcq_641 : (decode cX6_ran 0 = .ok (.aload_n 0, 1)) ∧ (decode cX6_ran 1 = .ok (.getfield 286, 3)) ∧ (decode cX6_ran 4 = .ok (.bipush 30, 2)) ∧ (decode cX6_ran 6 = .ok (.if_icmp .ge 23, 3)) ∧ (decode cX6_ran 9 = .ok (.aload_n 0, 1)) ∧ (decode cX6_ran 10 = .ok (.getfield 53, 3)) ∧ (decode cX6_ran 13 = .ok (.aload_n 0, 1)) ∧ (decode cX6_ran 14 = .ok (.getfield 286, 3)) ∧ (decode cX6_ran 17 = .ok (.iload_n 1, 1)) ∧ (decode cX6_ran 18 = .ok (.iastore, 1)) ∧ (decode cX6_ran 19 = .ok (.aload_n 0, 1)) ∧ (decode cX6_ran 20 = .ok (.dup, 1)) := have h := dcb_641; ⟨fd_42 h, have h := fd_t1 h; ⟨fd_180 h rfl, have h := fd_t3 h; ⟨fd_16 h (by decide +kernel), have h := fd_t2 h; ⟨fd_162 h (by decide +kernel), have h := fd_t3 h; ⟨fd_42 h, have h := fd_t1 h; ⟨fd_180 h rfl, have h := fd_t3 h; ⟨fd_42 h, have h := fd_t1 h; ⟨fd_180 h rfl, have h := fd_t3 h; ⟨fd_27 h, have h := fd_t1 h; ⟨fd_79 h, have h := fd_t1 h; ⟨fd_42 h, have h := fd_t1 h; fd_89 h⟩⟩⟩⟩⟩⟩⟩⟩⟩⟩⟩
theorem dX6_ran_0 : decode cX6_ran 0 = .ok (.aload_n 0, 1) := dcq_641.1
theorem dX6_ran_1 : decode cX6_ran 1 = .ok (.getfield 286, 3) := dcq_641.2.1
theorem dX6_ran_4 : decode cX6_ran 4 = .ok (.bipush 30, 2) := dcq_641.2.2.1
theorem dX6_ran_6 : decode cX6_ran 6 = .ok (.if_icmp .ge 23, 3) := dcq_641.2.2.2.1
theorem dX6_ran_9 : decode cX6_ran 9 = .ok (.aload_n 0, 1) := dcq_641.2.2.2.2.1
theorem dX6_ran_10 : decode cX6_ran 10 = .ok (.getfield 53, 3) := dcq_641.2.2.2.2.2.1
theorem dX6_ran_13 : decode cX6_ran 13 = .ok (.aload_n 0, 1) := dcq_641.2.2.2.2.2.2.1
theorem dX6_ran_14 : decode cX6_ran 14 = .ok (.getfield 286, 3) := dcq_641.2.2.2.2.2.2.2.1
theorem dX6_ran_17 : decode cX6_ran 17 = .ok (.iload_n 1, 1) := dcq_641.2.2.2.2.2.2.2.2.1
theorem dX6_ran_18 : decode cX6_ran 18 = .ok (.iastore, 1) := dcq_641.2.2.2.2.2.2.2.2.2.1
theorem dX6_ran_19 : decode cX6_ran 19 = .ok (.aload_n 0, 1) := dcq_641.2.2.2.2.2.2.2.2.2.2.1
theorem dX6_ran_20 : decode cX6_ran 20 = .ok (.dup, 1) := dcq_641.2.2.2.2.2.2.2.2.2.2.2
set_option maxRecDepth 20000 in
theorem dcb_642 : fd_B cX6_ran 21 [180, 1, 30, 4, 96, 181, 1, 30, 177] := fd_o cX6_ran 21 _ (by decide +kernel)
theorem dcq_642 : (decode cX6_ran 21 = .ok (.getfield 286, 3)) ∧ (decode cX6_ran 24 = .ok (.iconst 1, 1)) ∧ (decode cX6_ran 25 = .ok (.iadd, 1)) ∧ (decode cX6_ran 26 = .ok (.putfield 286, 3)) ∧ (decode cX6_ran 29 = .ok (.return_, 1)) := have h := dcb_642; ⟨fd_180 h rfl, have h := fd_t3 h; ⟨fd_4 h, have h := fd_t1 h; ⟨fd_96 h, have h := fd_t1 h; ⟨fd_181 h rfl, have h := fd_t3 h; fd_177 h⟩⟩⟩⟩
theorem dX6_ran_21 : decode cX6_ran 21 = .ok (.getfield 286, 3) := dcq_642.1
theorem dX6_ran_24 : decode cX6_ran 24 = .ok (.iconst 1, 1) := dcq_642.2.1
theorem dX6_ran_25 : decode cX6_ran 25 = .ok (.iadd, 1) := dcq_642.2.2.1
theorem dX6_ran_26 : decode cX6_ran 26 = .ok (.putfield 286, 3) := dcq_642.2.2.2.1
theorem dX6_ran_29 : decode cX6_ran 29 = .ok (.return_, 1) := dcq_642.2.2.2.2
set_option maxRecDepth 20000 in
theorem dcb_643 : fd_B cX6_plainThinks 0 [42, 16, 10, 182, 1, 33, 27, 7, 104, 42, 180, 1, 36, 100, 172] := fd_o cX6_plainThinks 0 _ (by decide +kernel)
theorem dcq_643 : (decode cX6_plainThinks 0 = .ok (.aload_n 0, 1)) ∧ (decode cX6_plainThinks 1 = .ok (.bipush 10, 2)) ∧ (decode cX6_plainThinks 3 = .ok (.invokevirtual 289, 3)) ∧ (decode cX6_plainThinks 6 = .ok (.iload_n 1, 1)) ∧ (decode cX6_plainThinks 7 = .ok (.iconst 4, 1)) ∧ (decode cX6_plainThinks 8 = .ok (.imul, 1)) ∧ (decode cX6_plainThinks 9 = .ok (.aload_n 0, 1)) ∧ (decode cX6_plainThinks 10 = .ok (.getfield 292, 3)) ∧ (decode cX6_plainThinks 13 = .ok (.isub, 1)) ∧ (decode cX6_plainThinks 14 = .ok (.ireturn, 1)) := have h := dcb_643; ⟨fd_42 h, have h := fd_t1 h; ⟨fd_16 h (by decide +kernel), have h := fd_t2 h; ⟨fd_182 h rfl, have h := fd_t3 h; ⟨fd_27 h, have h := fd_t1 h; ⟨fd_7 h, have h := fd_t1 h; ⟨fd_104 h, have h := fd_t1 h; ⟨fd_42 h, have h := fd_t1 h; ⟨fd_180 h rfl, have h := fd_t3 h; ⟨fd_100 h, have h := fd_t1 h; fd_172 h⟩⟩⟩⟩⟩⟩⟩⟩⟩
theorem dX6_plainThinks_0 : decode cX6_plainThinks 0 = .ok (.aload_n 0, 1) := dcq_643.1
theorem dX6_plainThinks_1 : decode cX6_plainThinks 1 = .ok (.bipush 10, 2) := dcq_643.2.1
theorem dX6_plainThinks_3 : decode cX6_plainThinks 3 = .ok (.invokevirtual 289, 3) := dcq_643.2.2.1
theorem dX6_plainThinks_6 : decode cX6_plainThinks 6 = .ok (.iload_n 1, 1) := dcq_643.2.2.2.1
theorem dX6_plainThinks_7 : decode cX6_plainThinks 7 = .ok (.iconst 4, 1) := dcq_643.2.2.2.2.1
theorem dX6_plainThinks_8 : decode cX6_plainThinks 8 = .ok (.imul, 1) := dcq_643.2.2.2.2.2.1
theorem dX6_plainThinks_9 : decode cX6_plainThinks 9 = .ok (.aload_n 0, 1) := dcq_643.2.2.2.2.2.2.1
theorem dX6_plainThinks_10 : decode cX6_plainThinks 10 = .ok (.getfield 292, 3) := dcq_643.2.2.2.2.2.2.2.1
theorem dX6_plainThinks_13 : decode cX6_plainThinks 13 = .ok (.isub, 1) := dcq_643.2.2.2.2.2.2.2.2.1
theorem dX6_plainThinks_14 : decode cX6_plainThinks 14 = .ok (.ireturn, 1) := dcq_643.2.2.2.2.2.2.2.2.2
set_option maxRecDepth 20000 in
theorem dcb_644 : fd_B cX6_widowThinks 0 [42, 16, 30, 182, 1, 33, 42, 27, 182, 1, 39, 116, 172] := fd_o cX6_widowThinks 0 _ (by decide +kernel)
theorem dcq_644 : (decode cX6_widowThinks 0 = .ok (.aload_n 0, 1)) ∧ (decode cX6_widowThinks 1 = .ok (.bipush 30, 2)) ∧ (decode cX6_widowThinks 3 = .ok (.invokevirtual 289, 3)) ∧ (decode cX6_widowThinks 6 = .ok (.aload_n 0, 1)) ∧ (decode cX6_widowThinks 7 = .ok (.iload_n 1, 1)) ∧ (decode cX6_widowThinks 8 = .ok (.invokevirtual 295, 3)) ∧ (decode cX6_widowThinks 11 = .ok (.ineg, 1)) ∧ (decode cX6_widowThinks 12 = .ok (.ireturn, 1)) := have h := dcb_644; ⟨fd_42 h, have h := fd_t1 h; ⟨fd_16 h (by decide +kernel), have h := fd_t2 h; ⟨fd_182 h rfl, have h := fd_t3 h; ⟨fd_42 h, have h := fd_t1 h; ⟨fd_27 h, have h := fd_t1 h; ⟨fd_182 h rfl, have h := fd_t3 h; ⟨fd_116 h, have h := fd_t1 h; fd_172 h⟩⟩⟩⟩⟩⟩⟩
theorem dX6_widowThinks_0 : decode cX6_widowThinks 0 = .ok (.aload_n 0, 1) := dcq_644.1
theorem dX6_widowThinks_1 : decode cX6_widowThinks 1 = .ok (.bipush 30, 2) := dcq_644.2.1
theorem dX6_widowThinks_3 : decode cX6_widowThinks 3 = .ok (.invokevirtual 289, 3) := dcq_644.2.2.1
theorem dX6_widowThinks_6 : decode cX6_widowThinks 6 = .ok (.aload_n 0, 1) := dcq_644.2.2.2.1
theorem dX6_widowThinks_7 : decode cX6_widowThinks 7 = .ok (.iload_n 1, 1) := dcq_644.2.2.2.2.1
theorem dX6_widowThinks_8 : decode cX6_widowThinks 8 = .ok (.invokevirtual 295, 3) := dcq_644.2.2.2.2.2.1
theorem dX6_widowThinks_11 : decode cX6_widowThinks 11 = .ok (.ineg, 1) := dcq_644.2.2.2.2.2.2.1
theorem dX6_widowThinks_12 : decode cX6_widowThinks 12 = .ok (.ireturn, 1) := dcq_644.2.2.2.2.2.2.2
set_option maxRecDepth 20000 in
theorem dcb_645 : fd_B cX6_thinksIt 0 [42, 180, 1, 42] := fd_o cX6_thinksIt 0 _ (by decide +kernel)
theorem dcq_645 : (decode cX6_thinksIt 0 = .ok (.aload_n 0, 1)) ∧ (decode cX6_thinksIt 1 = .ok (.getfield 298, 3)) := have h := dcb_645; ⟨fd_42 h, have h := fd_t1 h; fd_180 h rfl⟩
theorem dX6_thinksIt_0 : decode cX6_thinksIt 0 = .ok (.aload_n 0, 1) := dcq_645.1
theorem dX6_thinksIt_1 : decode cX6_thinksIt 1 = .ok (.getfield 298, 3) := dcq_645.2
set_option maxRecDepth 20000 in
theorem dX6_thinksIt_4 : decode cX6_thinksIt 4 = .ok (.tableswitch 65 2 4 #[28, 48, 34], 28) := by decide +kernel
set_option maxRecDepth 20000 in
theorem dcb_646 : fd_B cX6_thinksIt 32 [42, 27, 182, 1, 45, 172, 42, 16, 40, 182, 1, 33, 42, 27, 182, 1, 45, 5, 96] := fd_o cX6_thinksIt 32 _ (by decide +kernel)
theorem dcq_646 : (decode cX6_thinksIt 32 = .ok (.aload_n 0, 1)) ∧ (decode cX6_thinksIt 33 = .ok (.iload_n 1, 1)) ∧ (decode cX6_thinksIt 34 = .ok (.invokevirtual 301, 3)) ∧ (decode cX6_thinksIt 37 = .ok (.ireturn, 1)) ∧ (decode cX6_thinksIt 38 = .ok (.aload_n 0, 1)) ∧ (decode cX6_thinksIt 39 = .ok (.bipush 40, 2)) ∧ (decode cX6_thinksIt 41 = .ok (.invokevirtual 289, 3)) ∧ (decode cX6_thinksIt 44 = .ok (.aload_n 0, 1)) ∧ (decode cX6_thinksIt 45 = .ok (.iload_n 1, 1)) ∧ (decode cX6_thinksIt 46 = .ok (.invokevirtual 301, 3)) ∧ (decode cX6_thinksIt 49 = .ok (.iconst 2, 1)) ∧ (decode cX6_thinksIt 50 = .ok (.iadd, 1)) := have h := dcb_646; ⟨fd_42 h, have h := fd_t1 h; ⟨fd_27 h, have h := fd_t1 h; ⟨fd_182 h rfl, have h := fd_t3 h; ⟨fd_172 h, have h := fd_t1 h; ⟨fd_42 h, have h := fd_t1 h; ⟨fd_16 h (by decide +kernel), have h := fd_t2 h; ⟨fd_182 h rfl, have h := fd_t3 h; ⟨fd_42 h, have h := fd_t1 h; ⟨fd_27 h, have h := fd_t1 h; ⟨fd_182 h rfl, have h := fd_t3 h; ⟨fd_5 h, have h := fd_t1 h; fd_96 h⟩⟩⟩⟩⟩⟩⟩⟩⟩⟩⟩
theorem dX6_thinksIt_32 : decode cX6_thinksIt 32 = .ok (.aload_n 0, 1) := dcq_646.1
theorem dX6_thinksIt_33 : decode cX6_thinksIt 33 = .ok (.iload_n 1, 1) := dcq_646.2.1
theorem dX6_thinksIt_34 : decode cX6_thinksIt 34 = .ok (.invokevirtual 301, 3) := dcq_646.2.2.1
theorem dX6_thinksIt_37 : decode cX6_thinksIt 37 = .ok (.ireturn, 1) := dcq_646.2.2.2.1
theorem dX6_thinksIt_38 : decode cX6_thinksIt 38 = .ok (.aload_n 0, 1) := dcq_646.2.2.2.2.1
theorem dX6_thinksIt_39 : decode cX6_thinksIt 39 = .ok (.bipush 40, 2) := dcq_646.2.2.2.2.2.1
theorem dX6_thinksIt_41 : decode cX6_thinksIt 41 = .ok (.invokevirtual 289, 3) := dcq_646.2.2.2.2.2.2.1
theorem dX6_thinksIt_44 : decode cX6_thinksIt 44 = .ok (.aload_n 0, 1) := dcq_646.2.2.2.2.2.2.2.1
theorem dX6_thinksIt_45 : decode cX6_thinksIt 45 = .ok (.iload_n 1, 1) := dcq_646.2.2.2.2.2.2.2.2.1
theorem dX6_thinksIt_46 : decode cX6_thinksIt 46 = .ok (.invokevirtual 301, 3) := dcq_646.2.2.2.2.2.2.2.2.2.1
theorem dX6_thinksIt_49 : decode cX6_thinksIt 49 = .ok (.iconst 2, 1) := dcq_646.2.2.2.2.2.2.2.2.2.2.1
theorem dX6_thinksIt_50 : decode cX6_thinksIt 50 = .ok (.iadd, 1) := dcq_646.2.2.2.2.2.2.2.2.2.2.2
set_option maxRecDepth 20000 in
theorem dcb_647 : fd_B cX6_thinksIt 51 [172, 42, 16, 51, 182, 1, 33, 42, 27, 182, 1, 39, 42, 180, 1, 48, 100, 172, 42] := fd_o cX6_thinksIt 51 _ (by decide +kernel)
theorem dcq_647 : (decode cX6_thinksIt 51 = .ok (.ireturn, 1)) ∧ (decode cX6_thinksIt 52 = .ok (.aload_n 0, 1)) ∧ (decode cX6_thinksIt 53 = .ok (.bipush 51, 2)) ∧ (decode cX6_thinksIt 55 = .ok (.invokevirtual 289, 3)) ∧ (decode cX6_thinksIt 58 = .ok (.aload_n 0, 1)) ∧ (decode cX6_thinksIt 59 = .ok (.iload_n 1, 1)) ∧ (decode cX6_thinksIt 60 = .ok (.invokevirtual 295, 3)) ∧ (decode cX6_thinksIt 63 = .ok (.aload_n 0, 1)) ∧ (decode cX6_thinksIt 64 = .ok (.getfield 304, 3)) ∧ (decode cX6_thinksIt 67 = .ok (.isub, 1)) ∧ (decode cX6_thinksIt 68 = .ok (.ireturn, 1)) ∧ (decode cX6_thinksIt 69 = .ok (.aload_n 0, 1)) := have h := dcb_647; ⟨fd_172 h, have h := fd_t1 h; ⟨fd_42 h, have h := fd_t1 h; ⟨fd_16 h (by decide +kernel), have h := fd_t2 h; ⟨fd_182 h rfl, have h := fd_t3 h; ⟨fd_42 h, have h := fd_t1 h; ⟨fd_27 h, have h := fd_t1 h; ⟨fd_182 h rfl, have h := fd_t3 h; ⟨fd_42 h, have h := fd_t1 h; ⟨fd_180 h rfl, have h := fd_t3 h; ⟨fd_100 h, have h := fd_t1 h; ⟨fd_172 h, have h := fd_t1 h; fd_42 h⟩⟩⟩⟩⟩⟩⟩⟩⟩⟩⟩
theorem dX6_thinksIt_51 : decode cX6_thinksIt 51 = .ok (.ireturn, 1) := dcq_647.1
theorem dX6_thinksIt_52 : decode cX6_thinksIt 52 = .ok (.aload_n 0, 1) := dcq_647.2.1
theorem dX6_thinksIt_53 : decode cX6_thinksIt 53 = .ok (.bipush 51, 2) := dcq_647.2.2.1
theorem dX6_thinksIt_55 : decode cX6_thinksIt 55 = .ok (.invokevirtual 289, 3) := dcq_647.2.2.2.1
theorem dX6_thinksIt_58 : decode cX6_thinksIt 58 = .ok (.aload_n 0, 1) := dcq_647.2.2.2.2.1
theorem dX6_thinksIt_59 : decode cX6_thinksIt 59 = .ok (.iload_n 1, 1) := dcq_647.2.2.2.2.2.1
theorem dX6_thinksIt_60 : decode cX6_thinksIt 60 = .ok (.invokevirtual 295, 3) := dcq_647.2.2.2.2.2.2.1
theorem dX6_thinksIt_63 : decode cX6_thinksIt 63 = .ok (.aload_n 0, 1) := dcq_647.2.2.2.2.2.2.2.1
theorem dX6_thinksIt_64 : decode cX6_thinksIt 64 = .ok (.getfield 304, 3) := dcq_647.2.2.2.2.2.2.2.2.1
theorem dX6_thinksIt_67 : decode cX6_thinksIt 67 = .ok (.isub, 1) := dcq_647.2.2.2.2.2.2.2.2.2.1
theorem dX6_thinksIt_68 : decode cX6_thinksIt 68 = .ok (.ireturn, 1) := dcq_647.2.2.2.2.2.2.2.2.2.2.1
theorem dX6_thinksIt_69 : decode cX6_thinksIt 69 = .ok (.aload_n 0, 1) := dcq_647.2.2.2.2.2.2.2.2.2.2.2
set_option maxRecDepth 20000 in
theorem dcb_648 : fd_B cX6_thinksIt 70 [27, 182, 1, 39, 172] := fd_o cX6_thinksIt 70 _ (by decide +kernel)
theorem dcq_648 : (decode cX6_thinksIt 70 = .ok (.iload_n 1, 1)) ∧ (decode cX6_thinksIt 71 = .ok (.invokevirtual 295, 3)) ∧ (decode cX6_thinksIt 74 = .ok (.ireturn, 1)) := have h := dcb_648; ⟨fd_27 h, have h := fd_t1 h; ⟨fd_182 h rfl, have h := fd_t3 h; fd_172 h⟩⟩
theorem dX6_thinksIt_70 : decode cX6_thinksIt 70 = .ok (.iload_n 1, 1) := dcq_648.1
theorem dX6_thinksIt_71 : decode cX6_thinksIt 71 = .ok (.invokevirtual 295, 3) := dcq_648.2.1
theorem dX6_thinksIt_74 : decode cX6_thinksIt 74 = .ok (.ireturn, 1) := dcq_648.2.2
set_option maxRecDepth 20000 in
theorem dcb_649 : fd_B cX6_plainAsks 0 [42, 16, 11, 182, 1, 33, 42, 27, 182, 1, 51, 42, 180, 1, 48, 96, 172] := fd_o cX6_plainAsks 0 _ (by decide +kernel)
theorem dcq_649 : (decode cX6_plainAsks 0 = .ok (.aload_n 0, 1)) ∧ (decode cX6_plainAsks 1 = .ok (.bipush 11, 2)) ∧ (decode cX6_plainAsks 3 = .ok (.invokevirtual 289, 3)) ∧ (decode cX6_plainAsks 6 = .ok (.aload_n 0, 1)) ∧ (decode cX6_plainAsks 7 = .ok (.iload_n 1, 1)) ∧ (decode cX6_plainAsks 8 = .ok (.invokevirtual 307, 3)) ∧ (decode cX6_plainAsks 11 = .ok (.aload_n 0, 1)) ∧ (decode cX6_plainAsks 12 = .ok (.getfield 304, 3)) ∧ (decode cX6_plainAsks 15 = .ok (.iadd, 1)) ∧ (decode cX6_plainAsks 16 = .ok (.ireturn, 1)) := have h := dcb_649; ⟨fd_42 h, have h := fd_t1 h; ⟨fd_16 h (by decide +kernel), have h := fd_t2 h; ⟨fd_182 h rfl, have h := fd_t3 h; ⟨fd_42 h, have h := fd_t1 h; ⟨fd_27 h, have h := fd_t1 h; ⟨fd_182 h rfl, have h := fd_t3 h; ⟨fd_42 h, have h := fd_t1 h; ⟨fd_180 h rfl, have h := fd_t3 h; ⟨fd_96 h, have h := fd_t1 h; fd_172 h⟩⟩⟩⟩⟩⟩⟩⟩⟩
theorem dX6_plainAsks_0 : decode cX6_plainAsks 0 = .ok (.aload_n 0, 1) := dcq_649.1
theorem dX6_plainAsks_1 : decode cX6_plainAsks 1 = .ok (.bipush 11, 2) := dcq_649.2.1
theorem dX6_plainAsks_3 : decode cX6_plainAsks 3 = .ok (.invokevirtual 289, 3) := dcq_649.2.2.1
theorem dX6_plainAsks_6 : decode cX6_plainAsks 6 = .ok (.aload_n 0, 1) := dcq_649.2.2.2.1
theorem dX6_plainAsks_7 : decode cX6_plainAsks 7 = .ok (.iload_n 1, 1) := dcq_649.2.2.2.2.1
theorem dX6_plainAsks_8 : decode cX6_plainAsks 8 = .ok (.invokevirtual 307, 3) := dcq_649.2.2.2.2.2.1
theorem dX6_plainAsks_11 : decode cX6_plainAsks 11 = .ok (.aload_n 0, 1) := dcq_649.2.2.2.2.2.2.1
theorem dX6_plainAsks_12 : decode cX6_plainAsks 12 = .ok (.getfield 304, 3) := dcq_649.2.2.2.2.2.2.2.1
theorem dX6_plainAsks_15 : decode cX6_plainAsks 15 = .ok (.iadd, 1) := dcq_649.2.2.2.2.2.2.2.2.1
theorem dX6_plainAsks_16 : decode cX6_plainAsks 16 = .ok (.ireturn, 1) := dcq_649.2.2.2.2.2.2.2.2.2
set_option maxRecDepth 20000 in
theorem dcb_650 : fd_B cX6_asksIt 0 [42, 180, 1, 42, 4, 159, 0, 11, 42, 180, 1, 42, 6, 160, 0, 17, 42, 16, 20, 182, 1, 33, 42] := fd_o cX6_asksIt 0 _ (by decide +kernel)
theorem dcq_650 : (decode cX6_asksIt 0 = .ok (.aload_n 0, 1)) ∧ (decode cX6_asksIt 1 = .ok (.getfield 298, 3)) ∧ (decode cX6_asksIt 4 = .ok (.iconst 1, 1)) ∧ (decode cX6_asksIt 5 = .ok (.if_icmp .eq 11, 3)) ∧ (decode cX6_asksIt 8 = .ok (.aload_n 0, 1)) ∧ (decode cX6_asksIt 9 = .ok (.getfield 298, 3)) ∧ (decode cX6_asksIt 12 = .ok (.iconst 3, 1)) ∧ (decode cX6_asksIt 13 = .ok (.if_icmp .ne 17, 3)) ∧ (decode cX6_asksIt 16 = .ok (.aload_n 0, 1)) ∧ (decode cX6_asksIt 17 = .ok (.bipush 20, 2)) ∧ (decode cX6_asksIt 19 = .ok (.invokevirtual 289, 3)) ∧ (decode cX6_asksIt 22 = .ok (.aload_n 0, 1)) := have h := dcb_650; ⟨fd_42 h, have h := fd_t1 h; ⟨fd_180 h rfl, have h := fd_t3 h; ⟨fd_4 h, have h := fd_t1 h; ⟨fd_159 h (by decide +kernel), have h := fd_t3 h; ⟨fd_42 h, have h := fd_t1 h; ⟨fd_180 h rfl, have h := fd_t3 h; ⟨fd_6 h, have h := fd_t1 h; ⟨fd_160 h (by decide +kernel), have h := fd_t3 h; ⟨fd_42 h, have h := fd_t1 h; ⟨fd_16 h (by decide +kernel), have h := fd_t2 h; ⟨fd_182 h rfl, have h := fd_t3 h; fd_42 h⟩⟩⟩⟩⟩⟩⟩⟩⟩⟩⟩
theorem dX6_asksIt_0 : decode cX6_asksIt 0 = .ok (.aload_n 0, 1) := dcq_650.1
theorem dX6_asksIt_1 : decode cX6_asksIt 1 = .ok (.getfield 298, 3) := dcq_650.2.1
theorem dX6_asksIt_4 : decode cX6_asksIt 4 = .ok (.iconst 1, 1) := dcq_650.2.2.1
theorem dX6_asksIt_5 : decode cX6_asksIt 5 = .ok (.if_icmp .eq 11, 3) := dcq_650.2.2.2.1
theorem dX6_asksIt_8 : decode cX6_asksIt 8 = .ok (.aload_n 0, 1) := dcq_650.2.2.2.2.1
theorem dX6_asksIt_9 : decode cX6_asksIt 9 = .ok (.getfield 298, 3) := dcq_650.2.2.2.2.2.1
theorem dX6_asksIt_12 : decode cX6_asksIt 12 = .ok (.iconst 3, 1) := dcq_650.2.2.2.2.2.2.1
theorem dX6_asksIt_13 : decode cX6_asksIt 13 = .ok (.if_icmp .ne 17, 3) := dcq_650.2.2.2.2.2.2.2.1
theorem dX6_asksIt_16 : decode cX6_asksIt 16 = .ok (.aload_n 0, 1) := dcq_650.2.2.2.2.2.2.2.2.1
theorem dX6_asksIt_17 : decode cX6_asksIt 17 = .ok (.bipush 20, 2) := dcq_650.2.2.2.2.2.2.2.2.2.1
theorem dX6_asksIt_19 : decode cX6_asksIt 19 = .ok (.invokevirtual 289, 3) := dcq_650.2.2.2.2.2.2.2.2.2.2.1
theorem dX6_asksIt_22 : decode cX6_asksIt 22 = .ok (.aload_n 0, 1) := dcq_650.2.2.2.2.2.2.2.2.2.2.2
set_option maxRecDepth 20000 in
theorem dcb_651 : fd_B cX6_asksIt 23 [27, 182, 1, 54, 6, 104, 172, 42, 180, 1, 42, 7, 160, 0, 26, 42, 16, 41, 182, 1, 33] := fd_o cX6_asksIt 23 _ (by decide +kernel)
theorem dcq_651 : (decode cX6_asksIt 23 = .ok (.iload_n 1, 1)) ∧ (decode cX6_asksIt 24 = .ok (.invokevirtual 310, 3)) ∧ (decode cX6_asksIt 27 = .ok (.iconst 3, 1)) ∧ (decode cX6_asksIt 28 = .ok (.imul, 1)) ∧ (decode cX6_asksIt 29 = .ok (.ireturn, 1)) ∧ (decode cX6_asksIt 30 = .ok (.aload_n 0, 1)) ∧ (decode cX6_asksIt 31 = .ok (.getfield 298, 3)) ∧ (decode cX6_asksIt 34 = .ok (.iconst 4, 1)) ∧ (decode cX6_asksIt 35 = .ok (.if_icmp .ne 26, 3)) ∧ (decode cX6_asksIt 38 = .ok (.aload_n 0, 1)) ∧ (decode cX6_asksIt 39 = .ok (.bipush 41, 2)) ∧ (decode cX6_asksIt 41 = .ok (.invokevirtual 289, 3)) := have h := dcb_651; ⟨fd_27 h, have h := fd_t1 h; ⟨fd_182 h rfl, have h := fd_t3 h; ⟨fd_6 h, have h := fd_t1 h; ⟨fd_104 h, have h := fd_t1 h; ⟨fd_172 h, have h := fd_t1 h; ⟨fd_42 h, have h := fd_t1 h; ⟨fd_180 h rfl, have h := fd_t3 h; ⟨fd_7 h, have h := fd_t1 h; ⟨fd_160 h (by decide +kernel), have h := fd_t3 h; ⟨fd_42 h, have h := fd_t1 h; ⟨fd_16 h (by decide +kernel), have h := fd_t2 h; fd_182 h rfl⟩⟩⟩⟩⟩⟩⟩⟩⟩⟩⟩
theorem dX6_asksIt_23 : decode cX6_asksIt 23 = .ok (.iload_n 1, 1) := dcq_651.1
theorem dX6_asksIt_24 : decode cX6_asksIt 24 = .ok (.invokevirtual 310, 3) := dcq_651.2.1
theorem dX6_asksIt_27 : decode cX6_asksIt 27 = .ok (.iconst 3, 1) := dcq_651.2.2.1
theorem dX6_asksIt_28 : decode cX6_asksIt 28 = .ok (.imul, 1) := dcq_651.2.2.2.1
theorem dX6_asksIt_29 : decode cX6_asksIt 29 = .ok (.ireturn, 1) := dcq_651.2.2.2.2.1
theorem dX6_asksIt_30 : decode cX6_asksIt 30 = .ok (.aload_n 0, 1) := dcq_651.2.2.2.2.2.1
theorem dX6_asksIt_31 : decode cX6_asksIt 31 = .ok (.getfield 298, 3) := dcq_651.2.2.2.2.2.2.1
theorem dX6_asksIt_34 : decode cX6_asksIt 34 = .ok (.iconst 4, 1) := dcq_651.2.2.2.2.2.2.2.1
theorem dX6_asksIt_35 : decode cX6_asksIt 35 = .ok (.if_icmp .ne 26, 3) := dcq_651.2.2.2.2.2.2.2.2.1
theorem dX6_asksIt_38 : decode cX6_asksIt 38 = .ok (.aload_n 0, 1) := dcq_651.2.2.2.2.2.2.2.2.2.1
theorem dX6_asksIt_39 : decode cX6_asksIt 39 = .ok (.bipush 41, 2) := dcq_651.2.2.2.2.2.2.2.2.2.2.1
theorem dX6_asksIt_41 : decode cX6_asksIt 41 = .ok (.invokevirtual 289, 3) := dcq_651.2.2.2.2.2.2.2.2.2.2.2
set_option maxRecDepth 20000 in
theorem dcb_652 : fd_B cX6_asksIt 44 [42, 27, 182, 1, 54, 61, 28, 42, 42, 180, 1, 48, 182, 1, 51, 130, 172, 42] := fd_o cX6_asksIt 44 _ (by decide +kernel)
theorem dcq_652 : (decode cX6_asksIt 44 = .ok (.aload_n 0, 1)) ∧ (decode cX6_asksIt 45 = .ok (.iload_n 1, 1)) ∧ (decode cX6_asksIt 46 = .ok (.invokevirtual 310, 3)) ∧ (decode cX6_asksIt 49 = .ok (.istore_n 2, 1)) ∧ (decode cX6_asksIt 50 = .ok (.iload_n 2, 1)) ∧ (decode cX6_asksIt 51 = .ok (.aload_n 0, 1)) ∧ (decode cX6_asksIt 52 = .ok (.aload_n 0, 1)) ∧ (decode cX6_asksIt 53 = .ok (.getfield 304, 3)) ∧ (decode cX6_asksIt 56 = .ok (.invokevirtual 307, 3)) ∧ (decode cX6_asksIt 59 = .ok (.ixor, 1)) ∧ (decode cX6_asksIt 60 = .ok (.ireturn, 1)) ∧ (decode cX6_asksIt 61 = .ok (.aload_n 0, 1)) := have h := dcb_652; ⟨fd_42 h, have h := fd_t1 h; ⟨fd_27 h, have h := fd_t1 h; ⟨fd_182 h rfl, have h := fd_t3 h; ⟨fd_61 h, have h := fd_t1 h; ⟨fd_28 h, have h := fd_t1 h; ⟨fd_42 h, have h := fd_t1 h; ⟨fd_42 h, have h := fd_t1 h; ⟨fd_180 h rfl, have h := fd_t3 h; ⟨fd_182 h rfl, have h := fd_t3 h; ⟨fd_130 h, have h := fd_t1 h; ⟨fd_172 h, have h := fd_t1 h; fd_42 h⟩⟩⟩⟩⟩⟩⟩⟩⟩⟩⟩
theorem dX6_asksIt_44 : decode cX6_asksIt 44 = .ok (.aload_n 0, 1) := dcq_652.1
theorem dX6_asksIt_45 : decode cX6_asksIt 45 = .ok (.iload_n 1, 1) := dcq_652.2.1
theorem dX6_asksIt_46 : decode cX6_asksIt 46 = .ok (.invokevirtual 310, 3) := dcq_652.2.2.1
theorem dX6_asksIt_49 : decode cX6_asksIt 49 = .ok (.istore_n 2, 1) := dcq_652.2.2.2.1
theorem dX6_asksIt_50 : decode cX6_asksIt 50 = .ok (.iload_n 2, 1) := dcq_652.2.2.2.2.1
theorem dX6_asksIt_51 : decode cX6_asksIt 51 = .ok (.aload_n 0, 1) := dcq_652.2.2.2.2.2.1
theorem dX6_asksIt_52 : decode cX6_asksIt 52 = .ok (.aload_n 0, 1) := dcq_652.2.2.2.2.2.2.1
theorem dX6_asksIt_53 : decode cX6_asksIt 53 = .ok (.getfield 304, 3) := dcq_652.2.2.2.2.2.2.2.1
theorem dX6_asksIt_56 : decode cX6_asksIt 56 = .ok (.invokevirtual 307, 3) := dcq_652.2.2.2.2.2.2.2.2.1
theorem dX6_asksIt_59 : decode cX6_asksIt 59 = .ok (.ixor, 1) := dcq_652.2.2.2.2.2.2.2.2.2.1
theorem dX6_asksIt_60 : decode cX6_asksIt 60 = .ok (.ireturn, 1) := dcq_652.2.2.2.2.2.2.2.2.2.2.1
theorem dX6_asksIt_61 : decode cX6_asksIt 61 = .ok (.aload_n 0, 1) := dcq_652.2.2.2.2.2.2.2.2.2.2.2
set_option maxRecDepth 20000 in
theorem dcb_653 : fd_B cX6_asksIt 62 [27, 182, 1, 54, 172] := fd_o cX6_asksIt 62 _ (by decide +kernel)
theorem dcq_653 : (decode cX6_asksIt 62 = .ok (.iload_n 1, 1)) ∧ (decode cX6_asksIt 63 = .ok (.invokevirtual 310, 3)) ∧ (decode cX6_asksIt 66 = .ok (.ireturn, 1)) := have h := dcb_653; ⟨fd_27 h, have h := fd_t1 h; ⟨fd_182 h rfl, have h := fd_t3 h; fd_172 h⟩⟩
theorem dX6_asksIt_62 : decode cX6_asksIt 62 = .ok (.iload_n 1, 1) := dcq_653.1
theorem dX6_asksIt_63 : decode cX6_asksIt 63 = .ok (.invokevirtual 310, 3) := dcq_653.2.1
theorem dX6_asksIt_66 : decode cX6_asksIt 66 = .ok (.ireturn, 1) := dcq_653.2.2
set_option maxRecDepth 20000 in
theorem dcb_654 : fd_B cX6_plainParts 0 [42, 16, 12, 182, 1, 33, 42, 180, 1, 48, 42, 180, 1, 36, 160, 0, 10, 42, 4, 181, 1, 57, 3] := fd_o cX6_plainParts 0 _ (by decide +kernel)
theorem dcq_654 : (decode cX6_plainParts 0 = .ok (.aload_n 0, 1)) ∧ (decode cX6_plainParts 1 = .ok (.bipush 12, 2)) ∧ (decode cX6_plainParts 3 = .ok (.invokevirtual 289, 3)) ∧ (decode cX6_plainParts 6 = .ok (.aload_n 0, 1)) ∧ (decode cX6_plainParts 7 = .ok (.getfield 304, 3)) ∧ (decode cX6_plainParts 10 = .ok (.aload_n 0, 1)) ∧ (decode cX6_plainParts 11 = .ok (.getfield 292, 3)) ∧ (decode cX6_plainParts 14 = .ok (.if_icmp .ne 10, 3)) ∧ (decode cX6_plainParts 17 = .ok (.aload_n 0, 1)) ∧ (decode cX6_plainParts 18 = .ok (.iconst 1, 1)) ∧ (decode cX6_plainParts 19 = .ok (.putfield 313, 3)) ∧ (decode cX6_plainParts 22 = .ok (.iconst 0, 1)) := have h := dcb_654; ⟨fd_42 h, have h := fd_t1 h; ⟨fd_16 h (by decide +kernel), have h := fd_t2 h; ⟨fd_182 h rfl, have h := fd_t3 h; ⟨fd_42 h, have h := fd_t1 h; ⟨fd_180 h rfl, have h := fd_t3 h; ⟨fd_42 h, have h := fd_t1 h; ⟨fd_180 h rfl, have h := fd_t3 h; ⟨fd_160 h (by decide +kernel), have h := fd_t3 h; ⟨fd_42 h, have h := fd_t1 h; ⟨fd_4 h, have h := fd_t1 h; ⟨fd_181 h rfl, have h := fd_t3 h; fd_3 h⟩⟩⟩⟩⟩⟩⟩⟩⟩⟩⟩
theorem dX6_plainParts_0 : decode cX6_plainParts 0 = .ok (.aload_n 0, 1) := dcq_654.1
theorem dX6_plainParts_1 : decode cX6_plainParts 1 = .ok (.bipush 12, 2) := dcq_654.2.1
theorem dX6_plainParts_3 : decode cX6_plainParts 3 = .ok (.invokevirtual 289, 3) := dcq_654.2.2.1
theorem dX6_plainParts_6 : decode cX6_plainParts 6 = .ok (.aload_n 0, 1) := dcq_654.2.2.2.1
theorem dX6_plainParts_7 : decode cX6_plainParts 7 = .ok (.getfield 304, 3) := dcq_654.2.2.2.2.1
theorem dX6_plainParts_10 : decode cX6_plainParts 10 = .ok (.aload_n 0, 1) := dcq_654.2.2.2.2.2.1
theorem dX6_plainParts_11 : decode cX6_plainParts 11 = .ok (.getfield 292, 3) := dcq_654.2.2.2.2.2.2.1
theorem dX6_plainParts_14 : decode cX6_plainParts 14 = .ok (.if_icmp .ne 10, 3) := dcq_654.2.2.2.2.2.2.2.1
theorem dX6_plainParts_17 : decode cX6_plainParts 17 = .ok (.aload_n 0, 1) := dcq_654.2.2.2.2.2.2.2.2.1
theorem dX6_plainParts_18 : decode cX6_plainParts 18 = .ok (.iconst 1, 1) := dcq_654.2.2.2.2.2.2.2.2.2.1
theorem dX6_plainParts_19 : decode cX6_plainParts 19 = .ok (.putfield 313, 3) := dcq_654.2.2.2.2.2.2.2.2.2.2.1
theorem dX6_plainParts_22 : decode cX6_plainParts 22 = .ok (.iconst 0, 1) := dcq_654.2.2.2.2.2.2.2.2.2.2.2
set_option maxRecDepth 20000 in
theorem dcb_655 : fd_B cX6_plainParts 23 [172, 27, 42, 180, 1, 48, 42, 180, 1, 36, 100, 108, 172] := fd_o cX6_plainParts 23 _ (by decide +kernel)
theorem dcq_655 : (decode cX6_plainParts 23 = .ok (.ireturn, 1)) ∧ (decode cX6_plainParts 24 = .ok (.iload_n 1, 1)) ∧ (decode cX6_plainParts 25 = .ok (.aload_n 0, 1)) ∧ (decode cX6_plainParts 26 = .ok (.getfield 304, 3)) ∧ (decode cX6_plainParts 29 = .ok (.aload_n 0, 1)) ∧ (decode cX6_plainParts 30 = .ok (.getfield 292, 3)) ∧ (decode cX6_plainParts 33 = .ok (.isub, 1)) ∧ (decode cX6_plainParts 34 = .ok (.idiv, 1)) ∧ (decode cX6_plainParts 35 = .ok (.ireturn, 1)) := have h := dcb_655; ⟨fd_172 h, have h := fd_t1 h; ⟨fd_27 h, have h := fd_t1 h; ⟨fd_42 h, have h := fd_t1 h; ⟨fd_180 h rfl, have h := fd_t3 h; ⟨fd_42 h, have h := fd_t1 h; ⟨fd_180 h rfl, have h := fd_t3 h; ⟨fd_100 h, have h := fd_t1 h; ⟨fd_108 h, have h := fd_t1 h; fd_172 h⟩⟩⟩⟩⟩⟩⟩⟩
theorem dX6_plainParts_23 : decode cX6_plainParts 23 = .ok (.ireturn, 1) := dcq_655.1
theorem dX6_plainParts_24 : decode cX6_plainParts 24 = .ok (.iload_n 1, 1) := dcq_655.2.1
theorem dX6_plainParts_25 : decode cX6_plainParts 25 = .ok (.aload_n 0, 1) := dcq_655.2.2.1
theorem dX6_plainParts_26 : decode cX6_plainParts 26 = .ok (.getfield 304, 3) := dcq_655.2.2.2.1
theorem dX6_plainParts_29 : decode cX6_plainParts 29 = .ok (.aload_n 0, 1) := dcq_655.2.2.2.2.1
theorem dX6_plainParts_30 : decode cX6_plainParts 30 = .ok (.getfield 292, 3) := dcq_655.2.2.2.2.2.1
theorem dX6_plainParts_33 : decode cX6_plainParts 33 = .ok (.isub, 1) := dcq_655.2.2.2.2.2.2.1
theorem dX6_plainParts_34 : decode cX6_plainParts 34 = .ok (.idiv, 1) := dcq_655.2.2.2.2.2.2.2.1
theorem dX6_plainParts_35 : decode cX6_plainParts 35 = .ok (.ireturn, 1) := dcq_655.2.2.2.2.2.2.2.2
set_option maxRecDepth 20000 in
theorem dcb_656 : fd_B cX6_partsIt 0 [42, 180, 1, 42, 6, 160, 0, 22, 42, 16, 50, 182, 1, 33, 42, 27, 5, 104, 182, 1, 60] := fd_o cX6_partsIt 0 _ (by decide +kernel)
theorem dcq_656 : (decode cX6_partsIt 0 = .ok (.aload_n 0, 1)) ∧ (decode cX6_partsIt 1 = .ok (.getfield 298, 3)) ∧ (decode cX6_partsIt 4 = .ok (.iconst 3, 1)) ∧ (decode cX6_partsIt 5 = .ok (.if_icmp .ne 22, 3)) ∧ (decode cX6_partsIt 8 = .ok (.aload_n 0, 1)) ∧ (decode cX6_partsIt 9 = .ok (.bipush 50, 2)) ∧ (decode cX6_partsIt 11 = .ok (.invokevirtual 289, 3)) ∧ (decode cX6_partsIt 14 = .ok (.aload_n 0, 1)) ∧ (decode cX6_partsIt 15 = .ok (.iload_n 1, 1)) ∧ (decode cX6_partsIt 16 = .ok (.iconst 2, 1)) ∧ (decode cX6_partsIt 17 = .ok (.imul, 1)) ∧ (decode cX6_partsIt 18 = .ok (.invokevirtual 316, 3)) := have h := dcb_656; ⟨fd_42 h, have h := fd_t1 h; ⟨fd_180 h rfl, have h := fd_t3 h; ⟨fd_6 h, have h := fd_t1 h; ⟨fd_160 h (by decide +kernel), have h := fd_t3 h; ⟨fd_42 h, have h := fd_t1 h; ⟨fd_16 h (by decide +kernel), have h := fd_t2 h; ⟨fd_182 h rfl, have h := fd_t3 h; ⟨fd_42 h, have h := fd_t1 h; ⟨fd_27 h, have h := fd_t1 h; ⟨fd_5 h, have h := fd_t1 h; ⟨fd_104 h, have h := fd_t1 h; fd_182 h rfl⟩⟩⟩⟩⟩⟩⟩⟩⟩⟩⟩
theorem dX6_partsIt_0 : decode cX6_partsIt 0 = .ok (.aload_n 0, 1) := dcq_656.1
theorem dX6_partsIt_1 : decode cX6_partsIt 1 = .ok (.getfield 298, 3) := dcq_656.2.1
theorem dX6_partsIt_4 : decode cX6_partsIt 4 = .ok (.iconst 3, 1) := dcq_656.2.2.1
theorem dX6_partsIt_5 : decode cX6_partsIt 5 = .ok (.if_icmp .ne 22, 3) := dcq_656.2.2.2.1
theorem dX6_partsIt_8 : decode cX6_partsIt 8 = .ok (.aload_n 0, 1) := dcq_656.2.2.2.2.1
theorem dX6_partsIt_9 : decode cX6_partsIt 9 = .ok (.bipush 50, 2) := dcq_656.2.2.2.2.2.1
theorem dX6_partsIt_11 : decode cX6_partsIt 11 = .ok (.invokevirtual 289, 3) := dcq_656.2.2.2.2.2.2.1
theorem dX6_partsIt_14 : decode cX6_partsIt 14 = .ok (.aload_n 0, 1) := dcq_656.2.2.2.2.2.2.2.1
theorem dX6_partsIt_15 : decode cX6_partsIt 15 = .ok (.iload_n 1, 1) := dcq_656.2.2.2.2.2.2.2.2.1
theorem dX6_partsIt_16 : decode cX6_partsIt 16 = .ok (.iconst 2, 1) := dcq_656.2.2.2.2.2.2.2.2.2.1
theorem dX6_partsIt_17 : decode cX6_partsIt 17 = .ok (.imul, 1) := dcq_656.2.2.2.2.2.2.2.2.2.2.1
theorem dX6_partsIt_18 : decode cX6_partsIt 18 = .ok (.invokevirtual 316, 3) := dcq_656.2.2.2.2.2.2.2.2.2.2.2
set_option maxRecDepth 20000 in
theorem dcb_657 : fd_B cX6_partsIt 21 [42, 180, 1, 36, 100, 172, 42, 180, 1, 42, 8, 160, 0, 37, 42, 16, 61, 182, 1, 33, 42] := fd_o cX6_partsIt 21 _ (by decide +kernel)
theorem dcq_657 : (decode cX6_partsIt 21 = .ok (.aload_n 0, 1)) ∧ (decode cX6_partsIt 22 = .ok (.getfield 292, 3)) ∧ (decode cX6_partsIt 25 = .ok (.isub, 1)) ∧ (decode cX6_partsIt 26 = .ok (.ireturn, 1)) ∧ (decode cX6_partsIt 27 = .ok (.aload_n 0, 1)) ∧ (decode cX6_partsIt 28 = .ok (.getfield 298, 3)) ∧ (decode cX6_partsIt 31 = .ok (.iconst 5, 1)) ∧ (decode cX6_partsIt 32 = .ok (.if_icmp .ne 37, 3)) ∧ (decode cX6_partsIt 35 = .ok (.aload_n 0, 1)) ∧ (decode cX6_partsIt 36 = .ok (.bipush 61, 2)) ∧ (decode cX6_partsIt 38 = .ok (.invokevirtual 289, 3)) ∧ (decode cX6_partsIt 41 = .ok (.aload_n 0, 1)) := have h := dcb_657; ⟨fd_42 h, have h := fd_t1 h; ⟨fd_180 h rfl, have h := fd_t3 h; ⟨fd_100 h, have h := fd_t1 h; ⟨fd_172 h, have h := fd_t1 h; ⟨fd_42 h, have h := fd_t1 h; ⟨fd_180 h rfl, have h := fd_t3 h; ⟨fd_8 h, have h := fd_t1 h; ⟨fd_160 h (by decide +kernel), have h := fd_t3 h; ⟨fd_42 h, have h := fd_t1 h; ⟨fd_16 h (by decide +kernel), have h := fd_t2 h; ⟨fd_182 h rfl, have h := fd_t3 h; fd_42 h⟩⟩⟩⟩⟩⟩⟩⟩⟩⟩⟩
theorem dX6_partsIt_21 : decode cX6_partsIt 21 = .ok (.aload_n 0, 1) := dcq_657.1
theorem dX6_partsIt_22 : decode cX6_partsIt 22 = .ok (.getfield 292, 3) := dcq_657.2.1
theorem dX6_partsIt_25 : decode cX6_partsIt 25 = .ok (.isub, 1) := dcq_657.2.2.1
theorem dX6_partsIt_26 : decode cX6_partsIt 26 = .ok (.ireturn, 1) := dcq_657.2.2.2.1
theorem dX6_partsIt_27 : decode cX6_partsIt 27 = .ok (.aload_n 0, 1) := dcq_657.2.2.2.2.1
theorem dX6_partsIt_28 : decode cX6_partsIt 28 = .ok (.getfield 298, 3) := dcq_657.2.2.2.2.2.1
theorem dX6_partsIt_31 : decode cX6_partsIt 31 = .ok (.iconst 5, 1) := dcq_657.2.2.2.2.2.2.1
theorem dX6_partsIt_32 : decode cX6_partsIt 32 = .ok (.if_icmp .ne 37, 3) := dcq_657.2.2.2.2.2.2.2.1
theorem dX6_partsIt_35 : decode cX6_partsIt 35 = .ok (.aload_n 0, 1) := dcq_657.2.2.2.2.2.2.2.2.1
theorem dX6_partsIt_36 : decode cX6_partsIt 36 = .ok (.bipush 61, 2) := dcq_657.2.2.2.2.2.2.2.2.2.1
theorem dX6_partsIt_38 : decode cX6_partsIt 38 = .ok (.invokevirtual 289, 3) := dcq_657.2.2.2.2.2.2.2.2.2.2.1
theorem dX6_partsIt_41 : decode cX6_partsIt 41 = .ok (.aload_n 0, 1) := dcq_657.2.2.2.2.2.2.2.2.2.2.2
set_option maxRecDepth 20000 in
theorem dcb_658 : fd_B cX6_partsIt 42 [27, 182, 1, 60, 61, 42, 180, 1, 57, 153, 0, 7, 3, 167, 0, 13, 28, 42, 42, 180, 1, 36] := fd_o cX6_partsIt 42 _ (by decide +kernel)
theorem dcq_658 : (decode cX6_partsIt 42 = .ok (.iload_n 1, 1)) ∧ (decode cX6_partsIt 43 = .ok (.invokevirtual 316, 3)) ∧ (decode cX6_partsIt 46 = .ok (.istore_n 2, 1)) ∧ (decode cX6_partsIt 47 = .ok (.aload_n 0, 1)) ∧ (decode cX6_partsIt 48 = .ok (.getfield 313, 3)) ∧ (decode cX6_partsIt 51 = .ok (.ifCond .eq 7, 3)) ∧ (decode cX6_partsIt 54 = .ok (.iconst 0, 1)) ∧ (decode cX6_partsIt 55 = .ok (.goto 13, 3)) ∧ (decode cX6_partsIt 58 = .ok (.iload_n 2, 1)) ∧ (decode cX6_partsIt 59 = .ok (.aload_n 0, 1)) ∧ (decode cX6_partsIt 60 = .ok (.aload_n 0, 1)) ∧ (decode cX6_partsIt 61 = .ok (.getfield 292, 3)) := have h := dcb_658; ⟨fd_27 h, have h := fd_t1 h; ⟨fd_182 h rfl, have h := fd_t3 h; ⟨fd_61 h, have h := fd_t1 h; ⟨fd_42 h, have h := fd_t1 h; ⟨fd_180 h rfl, have h := fd_t3 h; ⟨fd_153 h (by decide +kernel), have h := fd_t3 h; ⟨fd_3 h, have h := fd_t1 h; ⟨fd_167 h (by decide +kernel), have h := fd_t3 h; ⟨fd_28 h, have h := fd_t1 h; ⟨fd_42 h, have h := fd_t1 h; ⟨fd_42 h, have h := fd_t1 h; fd_180 h rfl⟩⟩⟩⟩⟩⟩⟩⟩⟩⟩⟩
theorem dX6_partsIt_42 : decode cX6_partsIt 42 = .ok (.iload_n 1, 1) := dcq_658.1
theorem dX6_partsIt_43 : decode cX6_partsIt 43 = .ok (.invokevirtual 316, 3) := dcq_658.2.1
theorem dX6_partsIt_46 : decode cX6_partsIt 46 = .ok (.istore_n 2, 1) := dcq_658.2.2.1
theorem dX6_partsIt_47 : decode cX6_partsIt 47 = .ok (.aload_n 0, 1) := dcq_658.2.2.2.1
theorem dX6_partsIt_48 : decode cX6_partsIt 48 = .ok (.getfield 313, 3) := dcq_658.2.2.2.2.1
theorem dX6_partsIt_51 : decode cX6_partsIt 51 = .ok (.ifCond .eq 7, 3) := dcq_658.2.2.2.2.2.1
theorem dX6_partsIt_54 : decode cX6_partsIt 54 = .ok (.iconst 0, 1) := dcq_658.2.2.2.2.2.2.1
theorem dX6_partsIt_55 : decode cX6_partsIt 55 = .ok (.goto 13, 3) := dcq_658.2.2.2.2.2.2.2.1
theorem dX6_partsIt_58 : decode cX6_partsIt 58 = .ok (.iload_n 2, 1) := dcq_658.2.2.2.2.2.2.2.2.1
theorem dX6_partsIt_59 : decode cX6_partsIt 59 = .ok (.aload_n 0, 1) := dcq_658.2.2.2.2.2.2.2.2.2.1
theorem dX6_partsIt_60 : decode cX6_partsIt 60 = .ok (.aload_n 0, 1) := dcq_658.2.2.2.2.2.2.2.2.2.2.1
theorem dX6_partsIt_61 : decode cX6_partsIt 61 = .ok (.getfield 292, 3) := dcq_658.2.2.2.2.2.2.2.2.2.2.2
set_option maxRecDepth 20000 in
theorem dcb_659 : fd_B cX6_partsIt 64 [182, 1, 51, 100, 172, 42, 27, 182, 1, 60, 172] := fd_o cX6_partsIt 64 _ (by decide +kernel)
theorem dcq_659 : (decode cX6_partsIt 64 = .ok (.invokevirtual 307, 3)) ∧ (decode cX6_partsIt 67 = .ok (.isub, 1)) ∧ (decode cX6_partsIt 68 = .ok (.ireturn, 1)) ∧ (decode cX6_partsIt 69 = .ok (.aload_n 0, 1)) ∧ (decode cX6_partsIt 70 = .ok (.iload_n 1, 1)) ∧ (decode cX6_partsIt 71 = .ok (.invokevirtual 316, 3)) ∧ (decode cX6_partsIt 74 = .ok (.ireturn, 1)) := have h := dcb_659; ⟨fd_182 h rfl, have h := fd_t3 h; ⟨fd_100 h, have h := fd_t1 h; ⟨fd_172 h, have h := fd_t1 h; ⟨fd_42 h, have h := fd_t1 h; ⟨fd_27 h, have h := fd_t1 h; ⟨fd_182 h rfl, have h := fd_t3 h; fd_172 h⟩⟩⟩⟩⟩⟩
theorem dX6_partsIt_64 : decode cX6_partsIt 64 = .ok (.invokevirtual 307, 3) := dcq_659.1
theorem dX6_partsIt_67 : decode cX6_partsIt 67 = .ok (.isub, 1) := dcq_659.2.1
theorem dX6_partsIt_68 : decode cX6_partsIt 68 = .ok (.ireturn, 1) := dcq_659.2.2.1
theorem dX6_partsIt_69 : decode cX6_partsIt 69 = .ok (.aload_n 0, 1) := dcq_659.2.2.2.1
theorem dX6_partsIt_70 : decode cX6_partsIt 70 = .ok (.iload_n 1, 1) := dcq_659.2.2.2.2.1
theorem dX6_partsIt_71 : decode cX6_partsIt 71 = .ok (.invokevirtual 316, 3) := dcq_659.2.2.2.2.2.1
theorem dX6_partsIt_74 : decode cX6_partsIt 74 = .ok (.ireturn, 1) := dcq_659.2.2.2.2.2.2
set_option maxRecDepth 20000 in
theorem dcb_660 : fd_B cX6_plainWrites 0 [42, 16, 13, 182, 1, 33, 42, 27, 182, 1, 63, 16, 10, 130, 172] := fd_o cX6_plainWrites 0 _ (by decide +kernel)
theorem dcq_660 : (decode cX6_plainWrites 0 = .ok (.aload_n 0, 1)) ∧ (decode cX6_plainWrites 1 = .ok (.bipush 13, 2)) ∧ (decode cX6_plainWrites 3 = .ok (.invokevirtual 289, 3)) ∧ (decode cX6_plainWrites 6 = .ok (.aload_n 0, 1)) ∧ (decode cX6_plainWrites 7 = .ok (.iload_n 1, 1)) ∧ (decode cX6_plainWrites 8 = .ok (.invokevirtual 319, 3)) ∧ (decode cX6_plainWrites 11 = .ok (.bipush 10, 2)) ∧ (decode cX6_plainWrites 13 = .ok (.ixor, 1)) ∧ (decode cX6_plainWrites 14 = .ok (.ireturn, 1)) := have h := dcb_660; ⟨fd_42 h, have h := fd_t1 h; ⟨fd_16 h (by decide +kernel), have h := fd_t2 h; ⟨fd_182 h rfl, have h := fd_t3 h; ⟨fd_42 h, have h := fd_t1 h; ⟨fd_27 h, have h := fd_t1 h; ⟨fd_182 h rfl, have h := fd_t3 h; ⟨fd_16 h (by decide +kernel), have h := fd_t2 h; ⟨fd_130 h, have h := fd_t1 h; fd_172 h⟩⟩⟩⟩⟩⟩⟩⟩
theorem dX6_plainWrites_0 : decode cX6_plainWrites 0 = .ok (.aload_n 0, 1) := dcq_660.1
theorem dX6_plainWrites_1 : decode cX6_plainWrites 1 = .ok (.bipush 13, 2) := dcq_660.2.1
theorem dX6_plainWrites_3 : decode cX6_plainWrites 3 = .ok (.invokevirtual 289, 3) := dcq_660.2.2.1
theorem dX6_plainWrites_6 : decode cX6_plainWrites 6 = .ok (.aload_n 0, 1) := dcq_660.2.2.2.1
theorem dX6_plainWrites_7 : decode cX6_plainWrites 7 = .ok (.iload_n 1, 1) := dcq_660.2.2.2.2.1
theorem dX6_plainWrites_8 : decode cX6_plainWrites 8 = .ok (.invokevirtual 319, 3) := dcq_660.2.2.2.2.2.1
theorem dX6_plainWrites_11 : decode cX6_plainWrites 11 = .ok (.bipush 10, 2) := dcq_660.2.2.2.2.2.2.1
theorem dX6_plainWrites_13 : decode cX6_plainWrites 13 = .ok (.ixor, 1) := dcq_660.2.2.2.2.2.2.2.1
theorem dX6_plainWrites_14 : decode cX6_plainWrites 14 = .ok (.ireturn, 1) := dcq_660.2.2.2.2.2.2.2.2
set_option maxRecDepth 20000 in
theorem dcb_661 : fd_B cX6_writesIt 0 [42, 180, 1, 42, 5, 159, 0, 11, 42, 180, 1, 42, 7, 160, 0, 26, 42, 16, 31, 182, 1, 33, 42] := fd_o cX6_writesIt 0 _ (by decide +kernel)
theorem dcq_661 : (decode cX6_writesIt 0 = .ok (.aload_n 0, 1)) ∧ (decode cX6_writesIt 1 = .ok (.getfield 298, 3)) ∧ (decode cX6_writesIt 4 = .ok (.iconst 2, 1)) ∧ (decode cX6_writesIt 5 = .ok (.if_icmp .eq 11, 3)) ∧ (decode cX6_writesIt 8 = .ok (.aload_n 0, 1)) ∧ (decode cX6_writesIt 9 = .ok (.getfield 298, 3)) ∧ (decode cX6_writesIt 12 = .ok (.iconst 4, 1)) ∧ (decode cX6_writesIt 13 = .ok (.if_icmp .ne 26, 3)) ∧ (decode cX6_writesIt 16 = .ok (.aload_n 0, 1)) ∧ (decode cX6_writesIt 17 = .ok (.bipush 31, 2)) ∧ (decode cX6_writesIt 19 = .ok (.invokevirtual 289, 3)) ∧ (decode cX6_writesIt 22 = .ok (.aload_n 0, 1)) := have h := dcb_661; ⟨fd_42 h, have h := fd_t1 h; ⟨fd_180 h rfl, have h := fd_t3 h; ⟨fd_5 h, have h := fd_t1 h; ⟨fd_159 h (by decide +kernel), have h := fd_t3 h; ⟨fd_42 h, have h := fd_t1 h; ⟨fd_180 h rfl, have h := fd_t3 h; ⟨fd_7 h, have h := fd_t1 h; ⟨fd_160 h (by decide +kernel), have h := fd_t3 h; ⟨fd_42 h, have h := fd_t1 h; ⟨fd_16 h (by decide +kernel), have h := fd_t2 h; ⟨fd_182 h rfl, have h := fd_t3 h; fd_42 h⟩⟩⟩⟩⟩⟩⟩⟩⟩⟩⟩
theorem dX6_writesIt_0 : decode cX6_writesIt 0 = .ok (.aload_n 0, 1) := dcq_661.1
theorem dX6_writesIt_1 : decode cX6_writesIt 1 = .ok (.getfield 298, 3) := dcq_661.2.1
theorem dX6_writesIt_4 : decode cX6_writesIt 4 = .ok (.iconst 2, 1) := dcq_661.2.2.1
theorem dX6_writesIt_5 : decode cX6_writesIt 5 = .ok (.if_icmp .eq 11, 3) := dcq_661.2.2.2.1
theorem dX6_writesIt_8 : decode cX6_writesIt 8 = .ok (.aload_n 0, 1) := dcq_661.2.2.2.2.1
theorem dX6_writesIt_9 : decode cX6_writesIt 9 = .ok (.getfield 298, 3) := dcq_661.2.2.2.2.2.1
theorem dX6_writesIt_12 : decode cX6_writesIt 12 = .ok (.iconst 4, 1) := dcq_661.2.2.2.2.2.2.1
theorem dX6_writesIt_13 : decode cX6_writesIt 13 = .ok (.if_icmp .ne 26, 3) := dcq_661.2.2.2.2.2.2.2.1
theorem dX6_writesIt_16 : decode cX6_writesIt 16 = .ok (.aload_n 0, 1) := dcq_661.2.2.2.2.2.2.2.2.1
theorem dX6_writesIt_17 : decode cX6_writesIt 17 = .ok (.bipush 31, 2) := dcq_661.2.2.2.2.2.2.2.2.2.1
theorem dX6_writesIt_19 : decode cX6_writesIt 19 = .ok (.invokevirtual 289, 3) := dcq_661.2.2.2.2.2.2.2.2.2.2.1
theorem dX6_writesIt_22 : decode cX6_writesIt 22 = .ok (.aload_n 0, 1) := dcq_661.2.2.2.2.2.2.2.2.2.2.2
set_option maxRecDepth 20000 in
theorem dcb_662 : fd_B cX6_writesIt 23 [27, 182, 1, 66, 61, 28, 42, 42, 180, 1, 36, 182, 1, 69, 96, 172, 42, 180, 1, 42] := fd_o cX6_writesIt 23 _ (by decide +kernel)
theorem dcq_662 : (decode cX6_writesIt 23 = .ok (.iload_n 1, 1)) ∧ (decode cX6_writesIt 24 = .ok (.invokevirtual 322, 3)) ∧ (decode cX6_writesIt 27 = .ok (.istore_n 2, 1)) ∧ (decode cX6_writesIt 28 = .ok (.iload_n 2, 1)) ∧ (decode cX6_writesIt 29 = .ok (.aload_n 0, 1)) ∧ (decode cX6_writesIt 30 = .ok (.aload_n 0, 1)) ∧ (decode cX6_writesIt 31 = .ok (.getfield 292, 3)) ∧ (decode cX6_writesIt 34 = .ok (.invokevirtual 325, 3)) ∧ (decode cX6_writesIt 37 = .ok (.iadd, 1)) ∧ (decode cX6_writesIt 38 = .ok (.ireturn, 1)) ∧ (decode cX6_writesIt 39 = .ok (.aload_n 0, 1)) ∧ (decode cX6_writesIt 40 = .ok (.getfield 298, 3)) := have h := dcb_662; ⟨fd_27 h, have h := fd_t1 h; ⟨fd_182 h rfl, have h := fd_t3 h; ⟨fd_61 h, have h := fd_t1 h; ⟨fd_28 h, have h := fd_t1 h; ⟨fd_42 h, have h := fd_t1 h; ⟨fd_42 h, have h := fd_t1 h; ⟨fd_180 h rfl, have h := fd_t3 h; ⟨fd_182 h rfl, have h := fd_t3 h; ⟨fd_96 h, have h := fd_t1 h; ⟨fd_172 h, have h := fd_t1 h; ⟨fd_42 h, have h := fd_t1 h; fd_180 h rfl⟩⟩⟩⟩⟩⟩⟩⟩⟩⟩⟩
theorem dX6_writesIt_23 : decode cX6_writesIt 23 = .ok (.iload_n 1, 1) := dcq_662.1
theorem dX6_writesIt_24 : decode cX6_writesIt 24 = .ok (.invokevirtual 322, 3) := dcq_662.2.1
theorem dX6_writesIt_27 : decode cX6_writesIt 27 = .ok (.istore_n 2, 1) := dcq_662.2.2.1
theorem dX6_writesIt_28 : decode cX6_writesIt 28 = .ok (.iload_n 2, 1) := dcq_662.2.2.2.1
theorem dX6_writesIt_29 : decode cX6_writesIt 29 = .ok (.aload_n 0, 1) := dcq_662.2.2.2.2.1
theorem dX6_writesIt_30 : decode cX6_writesIt 30 = .ok (.aload_n 0, 1) := dcq_662.2.2.2.2.2.1
theorem dX6_writesIt_31 : decode cX6_writesIt 31 = .ok (.getfield 292, 3) := dcq_662.2.2.2.2.2.2.1
theorem dX6_writesIt_34 : decode cX6_writesIt 34 = .ok (.invokevirtual 325, 3) := dcq_662.2.2.2.2.2.2.2.1
theorem dX6_writesIt_37 : decode cX6_writesIt 37 = .ok (.iadd, 1) := dcq_662.2.2.2.2.2.2.2.2.1
theorem dX6_writesIt_38 : decode cX6_writesIt 38 = .ok (.ireturn, 1) := dcq_662.2.2.2.2.2.2.2.2.2.1
theorem dX6_writesIt_39 : decode cX6_writesIt 39 = .ok (.aload_n 0, 1) := dcq_662.2.2.2.2.2.2.2.2.2.2.1
theorem dX6_writesIt_40 : decode cX6_writesIt 40 = .ok (.getfield 298, 3) := dcq_662.2.2.2.2.2.2.2.2.2.2.2
set_option maxRecDepth 20000 in
theorem dcb_663 : fd_B cX6_writesIt 43 [8, 160, 0, 18, 42, 16, 60, 182, 1, 33, 16, 8, 42, 27, 182, 1, 66, 100, 172, 42] := fd_o cX6_writesIt 43 _ (by decide +kernel)
theorem dcq_663 : (decode cX6_writesIt 43 = .ok (.iconst 5, 1)) ∧ (decode cX6_writesIt 44 = .ok (.if_icmp .ne 18, 3)) ∧ (decode cX6_writesIt 47 = .ok (.aload_n 0, 1)) ∧ (decode cX6_writesIt 48 = .ok (.bipush 60, 2)) ∧ (decode cX6_writesIt 50 = .ok (.invokevirtual 289, 3)) ∧ (decode cX6_writesIt 53 = .ok (.bipush 8, 2)) ∧ (decode cX6_writesIt 55 = .ok (.aload_n 0, 1)) ∧ (decode cX6_writesIt 56 = .ok (.iload_n 1, 1)) ∧ (decode cX6_writesIt 57 = .ok (.invokevirtual 322, 3)) ∧ (decode cX6_writesIt 60 = .ok (.isub, 1)) ∧ (decode cX6_writesIt 61 = .ok (.ireturn, 1)) ∧ (decode cX6_writesIt 62 = .ok (.aload_n 0, 1)) := have h := dcb_663; ⟨fd_8 h, have h := fd_t1 h; ⟨fd_160 h (by decide +kernel), have h := fd_t3 h; ⟨fd_42 h, have h := fd_t1 h; ⟨fd_16 h (by decide +kernel), have h := fd_t2 h; ⟨fd_182 h rfl, have h := fd_t3 h; ⟨fd_16 h (by decide +kernel), have h := fd_t2 h; ⟨fd_42 h, have h := fd_t1 h; ⟨fd_27 h, have h := fd_t1 h; ⟨fd_182 h rfl, have h := fd_t3 h; ⟨fd_100 h, have h := fd_t1 h; ⟨fd_172 h, have h := fd_t1 h; fd_42 h⟩⟩⟩⟩⟩⟩⟩⟩⟩⟩⟩
theorem dX6_writesIt_43 : decode cX6_writesIt 43 = .ok (.iconst 5, 1) := dcq_663.1
theorem dX6_writesIt_44 : decode cX6_writesIt 44 = .ok (.if_icmp .ne 18, 3) := dcq_663.2.1
theorem dX6_writesIt_47 : decode cX6_writesIt 47 = .ok (.aload_n 0, 1) := dcq_663.2.2.1
theorem dX6_writesIt_48 : decode cX6_writesIt 48 = .ok (.bipush 60, 2) := dcq_663.2.2.2.1
theorem dX6_writesIt_50 : decode cX6_writesIt 50 = .ok (.invokevirtual 289, 3) := dcq_663.2.2.2.2.1
theorem dX6_writesIt_53 : decode cX6_writesIt 53 = .ok (.bipush 8, 2) := dcq_663.2.2.2.2.2.1
theorem dX6_writesIt_55 : decode cX6_writesIt 55 = .ok (.aload_n 0, 1) := dcq_663.2.2.2.2.2.2.1
theorem dX6_writesIt_56 : decode cX6_writesIt 56 = .ok (.iload_n 1, 1) := dcq_663.2.2.2.2.2.2.2.1
theorem dX6_writesIt_57 : decode cX6_writesIt 57 = .ok (.invokevirtual 322, 3) := dcq_663.2.2.2.2.2.2.2.2.1
theorem dX6_writesIt_60 : decode cX6_writesIt 60 = .ok (.isub, 1) := dcq_663.2.2.2.2.2.2.2.2.2.1
theorem dX6_writesIt_61 : decode cX6_writesIt 61 = .ok (.ireturn, 1) := dcq_663.2.2.2.2.2.2.2.2.2.2.1
theorem dX6_writesIt_62 : decode cX6_writesIt 62 = .ok (.aload_n 0, 1) := dcq_663.2.2.2.2.2.2.2.2.2.2.2
set_option maxRecDepth 20000 in
theorem dcb_664 : fd_B cX6_writesIt 63 [27, 182, 1, 66, 172] := fd_o cX6_writesIt 63 _ (by decide +kernel)
theorem dcq_664 : (decode cX6_writesIt 63 = .ok (.iload_n 1, 1)) ∧ (decode cX6_writesIt 64 = .ok (.invokevirtual 322, 3)) ∧ (decode cX6_writesIt 67 = .ok (.ireturn, 1)) := have h := dcb_664; ⟨fd_27 h, have h := fd_t1 h; ⟨fd_182 h rfl, have h := fd_t3 h; fd_172 h⟩⟩
theorem dX6_writesIt_63 : decode cX6_writesIt 63 = .ok (.iload_n 1, 1) := dcq_664.1
theorem dX6_writesIt_64 : decode cX6_writesIt 64 = .ok (.invokevirtual 322, 3) := dcq_664.2.1
theorem dX6_writesIt_67 : decode cX6_writesIt 67 = .ok (.ireturn, 1) := dcq_664.2.2
set_option maxRecDepth 20000 in
theorem dcb_665 : fd_B cX6_act 0 [42, 3, 181, 1, 30, 27, 184, 0, 251, 153, 0, 11, 42, 27, 182, 1, 24, 167, 0, 4, 2, 54, 4] := fd_o cX6_act 0 _ (by decide +kernel)
theorem dcq_665 : (decode cX6_act 0 = .ok (.aload_n 0, 1)) ∧ (decode cX6_act 1 = .ok (.iconst 0, 1)) ∧ (decode cX6_act 2 = .ok (.putfield 286, 3)) ∧ (decode cX6_act 5 = .ok (.iload_n 1, 1)) ∧ (decode cX6_act 6 = .ok (.invokestatic 251, 3)) ∧ (decode cX6_act 9 = .ok (.ifCond .eq 11, 3)) ∧ (decode cX6_act 12 = .ok (.aload_n 0, 1)) ∧ (decode cX6_act 13 = .ok (.iload_n 1, 1)) ∧ (decode cX6_act 14 = .ok (.invokevirtual 280, 3)) ∧ (decode cX6_act 17 = .ok (.goto 4, 3)) ∧ (decode cX6_act 20 = .ok (.iconst (-1), 1)) ∧ (decode cX6_act 21 = .ok (.istore 4, 2)) := have h := dcb_665; ⟨fd_42 h, have h := fd_t1 h; ⟨fd_3 h, have h := fd_t1 h; ⟨fd_181 h rfl, have h := fd_t3 h; ⟨fd_27 h, have h := fd_t1 h; ⟨fd_184 h rfl, have h := fd_t3 h; ⟨fd_153 h (by decide +kernel), have h := fd_t3 h; ⟨fd_42 h, have h := fd_t1 h; ⟨fd_27 h, have h := fd_t1 h; ⟨fd_182 h rfl, have h := fd_t3 h; ⟨fd_167 h (by decide +kernel), have h := fd_t3 h; ⟨fd_2 h, have h := fd_t1 h; fd_54 h rfl⟩⟩⟩⟩⟩⟩⟩⟩⟩⟩⟩
theorem dX6_act_0 : decode cX6_act 0 = .ok (.aload_n 0, 1) := dcq_665.1
theorem dX6_act_1 : decode cX6_act 1 = .ok (.iconst 0, 1) := dcq_665.2.1
theorem dX6_act_2 : decode cX6_act 2 = .ok (.putfield 286, 3) := dcq_665.2.2.1
theorem dX6_act_5 : decode cX6_act 5 = .ok (.iload_n 1, 1) := dcq_665.2.2.2.1
theorem dX6_act_6 : decode cX6_act 6 = .ok (.invokestatic 251, 3) := dcq_665.2.2.2.2.1
theorem dX6_act_9 : decode cX6_act 9 = .ok (.ifCond .eq 11, 3) := dcq_665.2.2.2.2.2.1
theorem dX6_act_12 : decode cX6_act 12 = .ok (.aload_n 0, 1) := dcq_665.2.2.2.2.2.2.1
theorem dX6_act_13 : decode cX6_act 13 = .ok (.iload_n 1, 1) := dcq_665.2.2.2.2.2.2.2.1
theorem dX6_act_14 : decode cX6_act 14 = .ok (.invokevirtual 280, 3) := dcq_665.2.2.2.2.2.2.2.2.1
theorem dX6_act_17 : decode cX6_act 17 = .ok (.goto 4, 3) := dcq_665.2.2.2.2.2.2.2.2.2.1
theorem dX6_act_20 : decode cX6_act 20 = .ok (.iconst (-1), 1) := dcq_665.2.2.2.2.2.2.2.2.2.2.1
theorem dX6_act_21 : decode cX6_act 21 = .ok (.istore 4, 2) := dcq_665.2.2.2.2.2.2.2.2.2.2.2
set_option maxRecDepth 20000 in
theorem dcb_666 : fd_B cX6_act 23 [28, 3, 6, 184, 0, 60, 153, 0, 13, 21, 4, 3, 8, 184, 0, 60, 154, 0, 5, 3, 172] := fd_o cX6_act 23 _ (by decide +kernel)
theorem dcq_666 : (decode cX6_act 23 = .ok (.iload_n 2, 1)) ∧ (decode cX6_act 24 = .ok (.iconst 0, 1)) ∧ (decode cX6_act 25 = .ok (.iconst 3, 1)) ∧ (decode cX6_act 26 = .ok (.invokestatic 60, 3)) ∧ (decode cX6_act 29 = .ok (.ifCond .eq 13, 3)) ∧ (decode cX6_act 32 = .ok (.iload 4, 2)) ∧ (decode cX6_act 34 = .ok (.iconst 0, 1)) ∧ (decode cX6_act 35 = .ok (.iconst 5, 1)) ∧ (decode cX6_act 36 = .ok (.invokestatic 60, 3)) ∧ (decode cX6_act 39 = .ok (.ifCond .ne 5, 3)) ∧ (decode cX6_act 42 = .ok (.iconst 0, 1)) ∧ (decode cX6_act 43 = .ok (.ireturn, 1)) := have h := dcb_666; ⟨fd_28 h, have h := fd_t1 h; ⟨fd_3 h, have h := fd_t1 h; ⟨fd_6 h, have h := fd_t1 h; ⟨fd_184 h rfl, have h := fd_t3 h; ⟨fd_153 h (by decide +kernel), have h := fd_t3 h; ⟨fd_21 h rfl, have h := fd_t2 h; ⟨fd_3 h, have h := fd_t1 h; ⟨fd_8 h, have h := fd_t1 h; ⟨fd_184 h rfl, have h := fd_t3 h; ⟨fd_154 h (by decide +kernel), have h := fd_t3 h; ⟨fd_3 h, have h := fd_t1 h; fd_172 h⟩⟩⟩⟩⟩⟩⟩⟩⟩⟩⟩
theorem dX6_act_23 : decode cX6_act 23 = .ok (.iload_n 2, 1) := dcq_666.1
theorem dX6_act_24 : decode cX6_act 24 = .ok (.iconst 0, 1) := dcq_666.2.1
theorem dX6_act_25 : decode cX6_act 25 = .ok (.iconst 3, 1) := dcq_666.2.2.1
theorem dX6_act_26 : decode cX6_act 26 = .ok (.invokestatic 60, 3) := dcq_666.2.2.2.1
theorem dX6_act_29 : decode cX6_act 29 = .ok (.ifCond .eq 13, 3) := dcq_666.2.2.2.2.1
theorem dX6_act_32 : decode cX6_act 32 = .ok (.iload 4, 2) := dcq_666.2.2.2.2.2.1
theorem dX6_act_34 : decode cX6_act 34 = .ok (.iconst 0, 1) := dcq_666.2.2.2.2.2.2.1
theorem dX6_act_35 : decode cX6_act 35 = .ok (.iconst 5, 1) := dcq_666.2.2.2.2.2.2.2.1
theorem dX6_act_36 : decode cX6_act 36 = .ok (.invokestatic 60, 3) := dcq_666.2.2.2.2.2.2.2.2.1
theorem dX6_act_39 : decode cX6_act 39 = .ok (.ifCond .ne 5, 3) := dcq_666.2.2.2.2.2.2.2.2.2.1
theorem dX6_act_42 : decode cX6_act 42 = .ok (.iconst 0, 1) := dcq_666.2.2.2.2.2.2.2.2.2.2.1
theorem dX6_act_43 : decode cX6_act 43 = .ok (.ireturn, 1) := dcq_666.2.2.2.2.2.2.2.2.2.2.2
set_option maxRecDepth 20000 in
theorem dcb_667 : fd_B cX6_act 44 [42, 21, 4, 181, 1, 42, 42, 42, 180, 0, 47, 27, 46, 181, 1, 36, 42, 42, 42] := fd_o cX6_act 44 _ (by decide +kernel)
theorem dcq_667 : (decode cX6_act 44 = .ok (.aload_n 0, 1)) ∧ (decode cX6_act 45 = .ok (.iload 4, 2)) ∧ (decode cX6_act 47 = .ok (.putfield 298, 3)) ∧ (decode cX6_act 50 = .ok (.aload_n 0, 1)) ∧ (decode cX6_act 51 = .ok (.aload_n 0, 1)) ∧ (decode cX6_act 52 = .ok (.getfield 47, 3)) ∧ (decode cX6_act 55 = .ok (.iload_n 1, 1)) ∧ (decode cX6_act 56 = .ok (.iaload, 1)) ∧ (decode cX6_act 57 = .ok (.putfield 292, 3)) ∧ (decode cX6_act 60 = .ok (.aload_n 0, 1)) ∧ (decode cX6_act 61 = .ok (.aload_n 0, 1)) ∧ (decode cX6_act 62 = .ok (.aload_n 0, 1)) := have h := dcb_667; ⟨fd_42 h, have h := fd_t1 h; ⟨fd_21 h rfl, have h := fd_t2 h; ⟨fd_181 h rfl, have h := fd_t3 h; ⟨fd_42 h, have h := fd_t1 h; ⟨fd_42 h, have h := fd_t1 h; ⟨fd_180 h rfl, have h := fd_t3 h; ⟨fd_27 h, have h := fd_t1 h; ⟨fd_46 h, have h := fd_t1 h; ⟨fd_181 h rfl, have h := fd_t3 h; ⟨fd_42 h, have h := fd_t1 h; ⟨fd_42 h, have h := fd_t1 h; fd_42 h⟩⟩⟩⟩⟩⟩⟩⟩⟩⟩⟩
theorem dX6_act_44 : decode cX6_act 44 = .ok (.aload_n 0, 1) := dcq_667.1
theorem dX6_act_45 : decode cX6_act 45 = .ok (.iload 4, 2) := dcq_667.2.1
theorem dX6_act_47 : decode cX6_act 47 = .ok (.putfield 298, 3) := dcq_667.2.2.1
theorem dX6_act_50 : decode cX6_act 50 = .ok (.aload_n 0, 1) := dcq_667.2.2.2.1
theorem dX6_act_51 : decode cX6_act 51 = .ok (.aload_n 0, 1) := dcq_667.2.2.2.2.1
theorem dX6_act_52 : decode cX6_act 52 = .ok (.getfield 47, 3) := dcq_667.2.2.2.2.2.1
theorem dX6_act_55 : decode cX6_act 55 = .ok (.iload_n 1, 1) := dcq_667.2.2.2.2.2.2.1
theorem dX6_act_56 : decode cX6_act 56 = .ok (.iaload, 1) := dcq_667.2.2.2.2.2.2.2.1
theorem dX6_act_57 : decode cX6_act 57 = .ok (.putfield 292, 3) := dcq_667.2.2.2.2.2.2.2.2.1
theorem dX6_act_60 : decode cX6_act 60 = .ok (.aload_n 0, 1) := dcq_667.2.2.2.2.2.2.2.2.2.1
theorem dX6_act_61 : decode cX6_act 61 = .ok (.aload_n 0, 1) := dcq_667.2.2.2.2.2.2.2.2.2.2.1
theorem dX6_act_62 : decode cX6_act 62 = .ok (.aload_n 0, 1) := dcq_667.2.2.2.2.2.2.2.2.2.2.2
set_option maxRecDepth 20000 in
theorem dcb_668 : fd_B cX6_act 63 [180, 1, 36, 5, 182, 0, 191, 181, 1, 48, 42, 3, 181, 1, 57, 28, 154, 0, 11, 42, 29, 182, 1, 51] := fd_o cX6_act 63 _ (by decide +kernel)
theorem dcq_668 : (decode cX6_act 63 = .ok (.getfield 292, 3)) ∧ (decode cX6_act 66 = .ok (.iconst 2, 1)) ∧ (decode cX6_act 67 = .ok (.invokevirtual 191, 3)) ∧ (decode cX6_act 70 = .ok (.putfield 304, 3)) ∧ (decode cX6_act 73 = .ok (.aload_n 0, 1)) ∧ (decode cX6_act 74 = .ok (.iconst 0, 1)) ∧ (decode cX6_act 75 = .ok (.putfield 313, 3)) ∧ (decode cX6_act 78 = .ok (.iload_n 2, 1)) ∧ (decode cX6_act 79 = .ok (.ifCond .ne 11, 3)) ∧ (decode cX6_act 82 = .ok (.aload_n 0, 1)) ∧ (decode cX6_act 83 = .ok (.iload_n 3, 1)) ∧ (decode cX6_act 84 = .ok (.invokevirtual 307, 3)) := have h := dcb_668; ⟨fd_180 h rfl, have h := fd_t3 h; ⟨fd_5 h, have h := fd_t1 h; ⟨fd_182 h rfl, have h := fd_t3 h; ⟨fd_181 h rfl, have h := fd_t3 h; ⟨fd_42 h, have h := fd_t1 h; ⟨fd_3 h, have h := fd_t1 h; ⟨fd_181 h rfl, have h := fd_t3 h; ⟨fd_28 h, have h := fd_t1 h; ⟨fd_154 h (by decide +kernel), have h := fd_t3 h; ⟨fd_42 h, have h := fd_t1 h; ⟨fd_29 h, have h := fd_t1 h; fd_182 h rfl⟩⟩⟩⟩⟩⟩⟩⟩⟩⟩⟩
theorem dX6_act_63 : decode cX6_act 63 = .ok (.getfield 292, 3) := dcq_668.1
theorem dX6_act_66 : decode cX6_act 66 = .ok (.iconst 2, 1) := dcq_668.2.1
theorem dX6_act_67 : decode cX6_act 67 = .ok (.invokevirtual 191, 3) := dcq_668.2.2.1
theorem dX6_act_70 : decode cX6_act 70 = .ok (.putfield 304, 3) := dcq_668.2.2.2.1
theorem dX6_act_73 : decode cX6_act 73 = .ok (.aload_n 0, 1) := dcq_668.2.2.2.2.1
theorem dX6_act_74 : decode cX6_act 74 = .ok (.iconst 0, 1) := dcq_668.2.2.2.2.2.1
theorem dX6_act_75 : decode cX6_act 75 = .ok (.putfield 313, 3) := dcq_668.2.2.2.2.2.2.1
theorem dX6_act_78 : decode cX6_act 78 = .ok (.iload_n 2, 1) := dcq_668.2.2.2.2.2.2.2.1
theorem dX6_act_79 : decode cX6_act 79 = .ok (.ifCond .ne 11, 3) := dcq_668.2.2.2.2.2.2.2.2.1
theorem dX6_act_82 : decode cX6_act 82 = .ok (.aload_n 0, 1) := dcq_668.2.2.2.2.2.2.2.2.2.1
theorem dX6_act_83 : decode cX6_act 83 = .ok (.iload_n 3, 1) := dcq_668.2.2.2.2.2.2.2.2.2.2.1
theorem dX6_act_84 : decode cX6_act 84 = .ok (.invokevirtual 307, 3) := dcq_668.2.2.2.2.2.2.2.2.2.2.2
set_option maxRecDepth 20000 in
theorem dcb_669 : fd_B cX6_act 87 [167, 0, 34, 28, 4, 160, 0, 11, 42, 29, 182, 1, 63, 167, 0, 21, 28, 5, 160, 0, 11, 42] := fd_o cX6_act 87 _ (by decide +kernel)
theorem dcq_669 : (decode cX6_act 87 = .ok (.goto 34, 3)) ∧ (decode cX6_act 90 = .ok (.iload_n 2, 1)) ∧ (decode cX6_act 91 = .ok (.iconst 1, 1)) ∧ (decode cX6_act 92 = .ok (.if_icmp .ne 11, 3)) ∧ (decode cX6_act 95 = .ok (.aload_n 0, 1)) ∧ (decode cX6_act 96 = .ok (.iload_n 3, 1)) ∧ (decode cX6_act 97 = .ok (.invokevirtual 319, 3)) ∧ (decode cX6_act 100 = .ok (.goto 21, 3)) ∧ (decode cX6_act 103 = .ok (.iload_n 2, 1)) ∧ (decode cX6_act 104 = .ok (.iconst 2, 1)) ∧ (decode cX6_act 105 = .ok (.if_icmp .ne 11, 3)) ∧ (decode cX6_act 108 = .ok (.aload_n 0, 1)) := have h := dcb_669; ⟨fd_167 h (by decide +kernel), have h := fd_t3 h; ⟨fd_28 h, have h := fd_t1 h; ⟨fd_4 h, have h := fd_t1 h; ⟨fd_160 h (by decide +kernel), have h := fd_t3 h; ⟨fd_42 h, have h := fd_t1 h; ⟨fd_29 h, have h := fd_t1 h; ⟨fd_182 h rfl, have h := fd_t3 h; ⟨fd_167 h (by decide +kernel), have h := fd_t3 h; ⟨fd_28 h, have h := fd_t1 h; ⟨fd_5 h, have h := fd_t1 h; ⟨fd_160 h (by decide +kernel), have h := fd_t3 h; fd_42 h⟩⟩⟩⟩⟩⟩⟩⟩⟩⟩⟩
theorem dX6_act_87 : decode cX6_act 87 = .ok (.goto 34, 3) := dcq_669.1
theorem dX6_act_90 : decode cX6_act 90 = .ok (.iload_n 2, 1) := dcq_669.2.1
theorem dX6_act_91 : decode cX6_act 91 = .ok (.iconst 1, 1) := dcq_669.2.2.1
theorem dX6_act_92 : decode cX6_act 92 = .ok (.if_icmp .ne 11, 3) := dcq_669.2.2.2.1
theorem dX6_act_95 : decode cX6_act 95 = .ok (.aload_n 0, 1) := dcq_669.2.2.2.2.1
theorem dX6_act_96 : decode cX6_act 96 = .ok (.iload_n 3, 1) := dcq_669.2.2.2.2.2.1
theorem dX6_act_97 : decode cX6_act 97 = .ok (.invokevirtual 319, 3) := dcq_669.2.2.2.2.2.2.1
theorem dX6_act_100 : decode cX6_act 100 = .ok (.goto 21, 3) := dcq_669.2.2.2.2.2.2.2.1
theorem dX6_act_103 : decode cX6_act 103 = .ok (.iload_n 2, 1) := dcq_669.2.2.2.2.2.2.2.2.1
theorem dX6_act_104 : decode cX6_act 104 = .ok (.iconst 2, 1) := dcq_669.2.2.2.2.2.2.2.2.2.1
theorem dX6_act_105 : decode cX6_act 105 = .ok (.if_icmp .ne 11, 3) := dcq_669.2.2.2.2.2.2.2.2.2.2.1
theorem dX6_act_108 : decode cX6_act 108 = .ok (.aload_n 0, 1) := dcq_669.2.2.2.2.2.2.2.2.2.2.2
set_option maxRecDepth 20000 in
theorem dcb_670 : fd_B cX6_act 109 [29, 182, 1, 69, 167, 0, 8, 42, 29, 182, 1, 72, 54, 5, 42, 180, 1, 57, 153, 0, 8, 16, 241, 167, 0, 5] := fd_o cX6_act 109 _ (by decide +kernel)
theorem dcq_670 : (decode cX6_act 109 = .ok (.iload_n 3, 1)) ∧ (decode cX6_act 110 = .ok (.invokevirtual 325, 3)) ∧ (decode cX6_act 113 = .ok (.goto 8, 3)) ∧ (decode cX6_act 116 = .ok (.aload_n 0, 1)) ∧ (decode cX6_act 117 = .ok (.iload_n 3, 1)) ∧ (decode cX6_act 118 = .ok (.invokevirtual 328, 3)) ∧ (decode cX6_act 121 = .ok (.istore 5, 2)) ∧ (decode cX6_act 123 = .ok (.aload_n 0, 1)) ∧ (decode cX6_act 124 = .ok (.getfield 313, 3)) ∧ (decode cX6_act 127 = .ok (.ifCond .eq 8, 3)) ∧ (decode cX6_act 130 = .ok (.bipush (-15), 2)) ∧ (decode cX6_act 132 = .ok (.goto 5, 3)) := have h := dcb_670; ⟨fd_29 h, have h := fd_t1 h; ⟨fd_182 h rfl, have h := fd_t3 h; ⟨fd_167 h (by decide +kernel), have h := fd_t3 h; ⟨fd_42 h, have h := fd_t1 h; ⟨fd_29 h, have h := fd_t1 h; ⟨fd_182 h rfl, have h := fd_t3 h; ⟨fd_54 h rfl, have h := fd_t2 h; ⟨fd_42 h, have h := fd_t1 h; ⟨fd_180 h rfl, have h := fd_t3 h; ⟨fd_153 h (by decide +kernel), have h := fd_t3 h; ⟨fd_16 h (by decide +kernel), have h := fd_t2 h; fd_167 h (by decide +kernel)⟩⟩⟩⟩⟩⟩⟩⟩⟩⟩⟩
theorem dX6_act_109 : decode cX6_act 109 = .ok (.iload_n 3, 1) := dcq_670.1
theorem dX6_act_110 : decode cX6_act 110 = .ok (.invokevirtual 325, 3) := dcq_670.2.1
theorem dX6_act_113 : decode cX6_act 113 = .ok (.goto 8, 3) := dcq_670.2.2.1
theorem dX6_act_116 : decode cX6_act 116 = .ok (.aload_n 0, 1) := dcq_670.2.2.2.1
theorem dX6_act_117 : decode cX6_act 117 = .ok (.iload_n 3, 1) := dcq_670.2.2.2.2.1
theorem dX6_act_118 : decode cX6_act 118 = .ok (.invokevirtual 328, 3) := dcq_670.2.2.2.2.2.1
theorem dX6_act_121 : decode cX6_act 121 = .ok (.istore 5, 2) := dcq_670.2.2.2.2.2.2.1
theorem dX6_act_123 : decode cX6_act 123 = .ok (.aload_n 0, 1) := dcq_670.2.2.2.2.2.2.2.1
theorem dX6_act_124 : decode cX6_act 124 = .ok (.getfield 313, 3) := dcq_670.2.2.2.2.2.2.2.2.1
theorem dX6_act_127 : decode cX6_act 127 = .ok (.ifCond .eq 8, 3) := dcq_670.2.2.2.2.2.2.2.2.2.1
theorem dX6_act_130 : decode cX6_act 130 = .ok (.bipush (-15), 2) := dcq_670.2.2.2.2.2.2.2.2.2.2.1
theorem dX6_act_132 : decode cX6_act 132 = .ok (.goto 5, 3) := dcq_670.2.2.2.2.2.2.2.2.2.2.2
set_option maxRecDepth 20000 in
theorem dcb_671 : fd_B cX6_act 135 [21, 5, 172] := fd_o cX6_act 135 _ (by decide +kernel)
theorem dcq_671 : (decode cX6_act 135 = .ok (.iload 5, 2)) ∧ (decode cX6_act 137 = .ok (.ireturn, 1)) := have h := dcb_671; ⟨fd_21 h rfl, have h := fd_t2 h; fd_172 h⟩
theorem dX6_act_135 : decode cX6_act 135 = .ok (.iload 5, 2) := dcq_671.1
theorem dX6_act_137 : decode cX6_act 137 = .ok (.ireturn, 1) := dcq_671.2
set_option maxRecDepth 20000 in
theorem dcb_672 : fd_B cX6_trace 0 [27, 3, 42, 180, 1, 30, 4, 100, 184, 0, 60, 153, 0, 12, 42, 180, 0, 53, 27, 46] := fd_o cX6_trace 0 _ (by decide +kernel)
theorem dcq_672 : (decode cX6_trace 0 = .ok (.iload_n 1, 1)) ∧ (decode cX6_trace 1 = .ok (.iconst 0, 1)) ∧ (decode cX6_trace 2 = .ok (.aload_n 0, 1)) ∧ (decode cX6_trace 3 = .ok (.getfield 286, 3)) ∧ (decode cX6_trace 6 = .ok (.iconst 1, 1)) ∧ (decode cX6_trace 7 = .ok (.isub, 1)) ∧ (decode cX6_trace 8 = .ok (.invokestatic 60, 3)) ∧ (decode cX6_trace 11 = .ok (.ifCond .eq 12, 3)) ∧ (decode cX6_trace 14 = .ok (.aload_n 0, 1)) ∧ (decode cX6_trace 15 = .ok (.getfield 53, 3)) ∧ (decode cX6_trace 18 = .ok (.iload_n 1, 1)) ∧ (decode cX6_trace 19 = .ok (.iaload, 1)) := have h := dcb_672; ⟨fd_27 h, have h := fd_t1 h; ⟨fd_3 h, have h := fd_t1 h; ⟨fd_42 h, have h := fd_t1 h; ⟨fd_180 h rfl, have h := fd_t3 h; ⟨fd_4 h, have h := fd_t1 h; ⟨fd_100 h, have h := fd_t1 h; ⟨fd_184 h rfl, have h := fd_t3 h; ⟨fd_153 h (by decide +kernel), have h := fd_t3 h; ⟨fd_42 h, have h := fd_t1 h; ⟨fd_180 h rfl, have h := fd_t3 h; ⟨fd_27 h, have h := fd_t1 h; fd_46 h⟩⟩⟩⟩⟩⟩⟩⟩⟩⟩⟩
theorem dX6_trace_0 : decode cX6_trace 0 = .ok (.iload_n 1, 1) := dcq_672.1
theorem dX6_trace_1 : decode cX6_trace 1 = .ok (.iconst 0, 1) := dcq_672.2.1
theorem dX6_trace_2 : decode cX6_trace 2 = .ok (.aload_n 0, 1) := dcq_672.2.2.1
theorem dX6_trace_3 : decode cX6_trace 3 = .ok (.getfield 286, 3) := dcq_672.2.2.2.1
theorem dX6_trace_6 : decode cX6_trace 6 = .ok (.iconst 1, 1) := dcq_672.2.2.2.2.1
theorem dX6_trace_7 : decode cX6_trace 7 = .ok (.isub, 1) := dcq_672.2.2.2.2.2.1
theorem dX6_trace_8 : decode cX6_trace 8 = .ok (.invokestatic 60, 3) := dcq_672.2.2.2.2.2.2.1
theorem dX6_trace_11 : decode cX6_trace 11 = .ok (.ifCond .eq 12, 3) := dcq_672.2.2.2.2.2.2.2.1
theorem dX6_trace_14 : decode cX6_trace 14 = .ok (.aload_n 0, 1) := dcq_672.2.2.2.2.2.2.2.2.1
theorem dX6_trace_15 : decode cX6_trace 15 = .ok (.getfield 53, 3) := dcq_672.2.2.2.2.2.2.2.2.2.1
theorem dX6_trace_18 : decode cX6_trace 18 = .ok (.iload_n 1, 1) := dcq_672.2.2.2.2.2.2.2.2.2.2.1
theorem dX6_trace_19 : decode cX6_trace 19 = .ok (.iaload, 1) := dcq_672.2.2.2.2.2.2.2.2.2.2.2
set_option maxRecDepth 20000 in
theorem dcb_673 : fd_B cX6_trace 20 [167, 0, 5, 16, 253, 172] := fd_o cX6_trace 20 _ (by decide +kernel)
theorem dcq_673 : (decode cX6_trace 20 = .ok (.goto 5, 3)) ∧ (decode cX6_trace 23 = .ok (.bipush (-3), 2)) ∧ (decode cX6_trace 25 = .ok (.ireturn, 1)) := have h := dcb_673; ⟨fd_167 h (by decide +kernel), have h := fd_t3 h; ⟨fd_16 h (by decide +kernel), have h := fd_t2 h; fd_172 h⟩⟩
theorem dX6_trace_20 : decode cX6_trace 20 = .ok (.goto 5, 3) := dcq_673.1
theorem dX6_trace_23 : decode cX6_trace 23 = .ok (.bipush (-3), 2) := dcq_673.2.1
theorem dX6_trace_25 : decode cX6_trace 25 = .ok (.ireturn, 1) := dcq_673.2.2
set_option maxRecDepth 20000 in
theorem dcb_674 : fd_B cX6_manyWith 0 [3, 61, 3, 62, 29, 42, 180, 0, 7, 16, 6, 46, 162, 0, 26, 28, 42] := fd_o cX6_manyWith 0 _ (by decide +kernel)
theorem dcq_674 : (decode cX6_manyWith 0 = .ok (.iconst 0, 1)) ∧ (decode cX6_manyWith 1 = .ok (.istore_n 2, 1)) ∧ (decode cX6_manyWith 2 = .ok (.iconst 0, 1)) ∧ (decode cX6_manyWith 3 = .ok (.istore_n 3, 1)) ∧ (decode cX6_manyWith 4 = .ok (.iload_n 3, 1)) ∧ (decode cX6_manyWith 5 = .ok (.aload_n 0, 1)) ∧ (decode cX6_manyWith 6 = .ok (.getfield 7, 3)) ∧ (decode cX6_manyWith 9 = .ok (.bipush 6, 2)) ∧ (decode cX6_manyWith 11 = .ok (.iaload, 1)) ∧ (decode cX6_manyWith 12 = .ok (.if_icmp .ge 26, 3)) ∧ (decode cX6_manyWith 15 = .ok (.iload_n 2, 1)) ∧ (decode cX6_manyWith 16 = .ok (.aload_n 0, 1)) := have h := dcb_674; ⟨fd_3 h, have h := fd_t1 h; ⟨fd_61 h, have h := fd_t1 h; ⟨fd_3 h, have h := fd_t1 h; ⟨fd_62 h, have h := fd_t1 h; ⟨fd_29 h, have h := fd_t1 h; ⟨fd_42 h, have h := fd_t1 h; ⟨fd_180 h rfl, have h := fd_t3 h; ⟨fd_16 h (by decide +kernel), have h := fd_t2 h; ⟨fd_46 h, have h := fd_t1 h; ⟨fd_162 h (by decide +kernel), have h := fd_t3 h; ⟨fd_28 h, have h := fd_t1 h; fd_42 h⟩⟩⟩⟩⟩⟩⟩⟩⟩⟩⟩
theorem dX6_manyWith_0 : decode cX6_manyWith 0 = .ok (.iconst 0, 1) := dcq_674.1
theorem dX6_manyWith_1 : decode cX6_manyWith 1 = .ok (.istore_n 2, 1) := dcq_674.2.1
theorem dX6_manyWith_2 : decode cX6_manyWith 2 = .ok (.iconst 0, 1) := dcq_674.2.2.1
theorem dX6_manyWith_3 : decode cX6_manyWith 3 = .ok (.istore_n 3, 1) := dcq_674.2.2.2.1
theorem dX6_manyWith_4 : decode cX6_manyWith 4 = .ok (.iload_n 3, 1) := dcq_674.2.2.2.2.1
theorem dX6_manyWith_5 : decode cX6_manyWith 5 = .ok (.aload_n 0, 1) := dcq_674.2.2.2.2.2.1
theorem dX6_manyWith_6 : decode cX6_manyWith 6 = .ok (.getfield 7, 3) := dcq_674.2.2.2.2.2.2.1
theorem dX6_manyWith_9 : decode cX6_manyWith 9 = .ok (.bipush 6, 2) := dcq_674.2.2.2.2.2.2.2.1
theorem dX6_manyWith_11 : decode cX6_manyWith 11 = .ok (.iaload, 1) := dcq_674.2.2.2.2.2.2.2.2.1
theorem dX6_manyWith_12 : decode cX6_manyWith 12 = .ok (.if_icmp .ge 26, 3) := dcq_674.2.2.2.2.2.2.2.2.2.1
theorem dX6_manyWith_15 : decode cX6_manyWith 15 = .ok (.iload_n 2, 1) := dcq_674.2.2.2.2.2.2.2.2.2.2.1
theorem dX6_manyWith_16 : decode cX6_manyWith 16 = .ok (.aload_n 0, 1) := dcq_674.2.2.2.2.2.2.2.2.2.2.2
set_option maxRecDepth 20000 in
theorem dcb_675 : fd_B cX6_manyWith 17 [29, 27, 182, 0, 191, 158, 0, 7, 4, 167, 0, 4, 3, 96, 61, 132, 3, 1, 167, 255, 225, 28] := fd_o cX6_manyWith 17 _ (by decide +kernel)
theorem dcq_675 : (decode cX6_manyWith 17 = .ok (.iload_n 3, 1)) ∧ (decode cX6_manyWith 18 = .ok (.iload_n 1, 1)) ∧ (decode cX6_manyWith 19 = .ok (.invokevirtual 191, 3)) ∧ (decode cX6_manyWith 22 = .ok (.ifCond .le 7, 3)) ∧ (decode cX6_manyWith 25 = .ok (.iconst 1, 1)) ∧ (decode cX6_manyWith 26 = .ok (.goto 4, 3)) ∧ (decode cX6_manyWith 29 = .ok (.iconst 0, 1)) ∧ (decode cX6_manyWith 30 = .ok (.iadd, 1)) ∧ (decode cX6_manyWith 31 = .ok (.istore_n 2, 1)) ∧ (decode cX6_manyWith 32 = .ok (.iinc 3 1, 3)) ∧ (decode cX6_manyWith 35 = .ok (.goto (-31), 3)) ∧ (decode cX6_manyWith 38 = .ok (.iload_n 2, 1)) := have h := dcb_675; ⟨fd_29 h, have h := fd_t1 h; ⟨fd_27 h, have h := fd_t1 h; ⟨fd_182 h rfl, have h := fd_t3 h; ⟨fd_158 h (by decide +kernel), have h := fd_t3 h; ⟨fd_4 h, have h := fd_t1 h; ⟨fd_167 h (by decide +kernel), have h := fd_t3 h; ⟨fd_3 h, have h := fd_t1 h; ⟨fd_96 h, have h := fd_t1 h; ⟨fd_61 h, have h := fd_t1 h; ⟨fd_132 h rfl (by decide +kernel), have h := fd_t3 h; ⟨fd_167 h (by decide +kernel), have h := fd_t3 h; fd_28 h⟩⟩⟩⟩⟩⟩⟩⟩⟩⟩⟩
theorem dX6_manyWith_17 : decode cX6_manyWith 17 = .ok (.iload_n 3, 1) := dcq_675.1
theorem dX6_manyWith_18 : decode cX6_manyWith 18 = .ok (.iload_n 1, 1) := dcq_675.2.1
theorem dX6_manyWith_19 : decode cX6_manyWith 19 = .ok (.invokevirtual 191, 3) := dcq_675.2.2.1
theorem dX6_manyWith_22 : decode cX6_manyWith 22 = .ok (.ifCond .le 7, 3) := dcq_675.2.2.2.1
theorem dX6_manyWith_25 : decode cX6_manyWith 25 = .ok (.iconst 1, 1) := dcq_675.2.2.2.2.1
theorem dX6_manyWith_26 : decode cX6_manyWith 26 = .ok (.goto 4, 3) := dcq_675.2.2.2.2.2.1
theorem dX6_manyWith_29 : decode cX6_manyWith 29 = .ok (.iconst 0, 1) := dcq_675.2.2.2.2.2.2.1
theorem dX6_manyWith_30 : decode cX6_manyWith 30 = .ok (.iadd, 1) := dcq_675.2.2.2.2.2.2.2.1
theorem dX6_manyWith_31 : decode cX6_manyWith 31 = .ok (.istore_n 2, 1) := dcq_675.2.2.2.2.2.2.2.2.1
theorem dX6_manyWith_32 : decode cX6_manyWith 32 = .ok (.iinc 3 1, 3) := dcq_675.2.2.2.2.2.2.2.2.2.1
theorem dX6_manyWith_35 : decode cX6_manyWith 35 = .ok (.goto (-31), 3) := dcq_675.2.2.2.2.2.2.2.2.2.2.1
theorem dX6_manyWith_38 : decode cX6_manyWith 38 = .ok (.iload_n 2, 1) := dcq_675.2.2.2.2.2.2.2.2.2.2.2
set_option maxRecDepth 20000 in
theorem dcb_676 : fd_B cX6_manyWith 39 [172] := fd_o cX6_manyWith 39 _ (by decide +kernel)
theorem dX6_manyWith_39 : decode cX6_manyWith 39 = .ok (.ireturn, 1) := fd_172 dcb_676
set_option maxRecDepth 20000 in
theorem dcb_677 : fd_B cX6_many 0 [27] := fd_o cX6_many 0 _ (by decide +kernel)
theorem dX6_many_0 : decode cX6_many 0 = .ok (.iload_n 1, 1) := fd_27 dcb_677
set_option maxRecDepth 20000 in
theorem dX6_many_1 : decode cX6_many 1 = .ok (.tableswitch 86 0 6 #[43, 51, 57, 63, 71, 76, 81], 43) := by decide +kernel
set_option maxRecDepth 20000 in
theorem dcb_678 : fd_B cX6_many 44 [42, 180, 0, 7, 16, 6, 46, 172, 42, 6, 182, 1, 75, 172, 42, 7, 182, 1, 75] := fd_o cX6_many 44 _ (by decide +kernel)
theorem dcq_678 : (decode cX6_many 44 = .ok (.aload_n 0, 1)) ∧ (decode cX6_many 45 = .ok (.getfield 7, 3)) ∧ (decode cX6_many 48 = .ok (.bipush 6, 2)) ∧ (decode cX6_many 50 = .ok (.iaload, 1)) ∧ (decode cX6_many 51 = .ok (.ireturn, 1)) ∧ (decode cX6_many 52 = .ok (.aload_n 0, 1)) ∧ (decode cX6_many 53 = .ok (.iconst 3, 1)) ∧ (decode cX6_many 54 = .ok (.invokevirtual 331, 3)) ∧ (decode cX6_many 57 = .ok (.ireturn, 1)) ∧ (decode cX6_many 58 = .ok (.aload_n 0, 1)) ∧ (decode cX6_many 59 = .ok (.iconst 4, 1)) ∧ (decode cX6_many 60 = .ok (.invokevirtual 331, 3)) := have h := dcb_678; ⟨fd_42 h, have h := fd_t1 h; ⟨fd_180 h rfl, have h := fd_t3 h; ⟨fd_16 h (by decide +kernel), have h := fd_t2 h; ⟨fd_46 h, have h := fd_t1 h; ⟨fd_172 h, have h := fd_t1 h; ⟨fd_42 h, have h := fd_t1 h; ⟨fd_6 h, have h := fd_t1 h; ⟨fd_182 h rfl, have h := fd_t3 h; ⟨fd_172 h, have h := fd_t1 h; ⟨fd_42 h, have h := fd_t1 h; ⟨fd_7 h, have h := fd_t1 h; fd_182 h rfl⟩⟩⟩⟩⟩⟩⟩⟩⟩⟩⟩
theorem dX6_many_44 : decode cX6_many 44 = .ok (.aload_n 0, 1) := dcq_678.1
theorem dX6_many_45 : decode cX6_many 45 = .ok (.getfield 7, 3) := dcq_678.2.1
theorem dX6_many_48 : decode cX6_many 48 = .ok (.bipush 6, 2) := dcq_678.2.2.1
theorem dX6_many_50 : decode cX6_many 50 = .ok (.iaload, 1) := dcq_678.2.2.2.1
theorem dX6_many_51 : decode cX6_many 51 = .ok (.ireturn, 1) := dcq_678.2.2.2.2.1
theorem dX6_many_52 : decode cX6_many 52 = .ok (.aload_n 0, 1) := dcq_678.2.2.2.2.2.1
theorem dX6_many_53 : decode cX6_many 53 = .ok (.iconst 3, 1) := dcq_678.2.2.2.2.2.2.1
theorem dX6_many_54 : decode cX6_many 54 = .ok (.invokevirtual 331, 3) := dcq_678.2.2.2.2.2.2.2.1
theorem dX6_many_57 : decode cX6_many 57 = .ok (.ireturn, 1) := dcq_678.2.2.2.2.2.2.2.2.1
theorem dX6_many_58 : decode cX6_many 58 = .ok (.aload_n 0, 1) := dcq_678.2.2.2.2.2.2.2.2.2.1
theorem dX6_many_59 : decode cX6_many 59 = .ok (.iconst 4, 1) := dcq_678.2.2.2.2.2.2.2.2.2.2.1
theorem dX6_many_60 : decode cX6_many 60 = .ok (.invokevirtual 331, 3) := dcq_678.2.2.2.2.2.2.2.2.2.2.2
set_option maxRecDepth 20000 in
theorem dcb_679 : fd_B cX6_many 63 [172, 42, 182, 0, 242, 184, 0, 245, 172, 42, 180, 0, 174, 172, 42, 180, 0, 64, 172, 42] := fd_o cX6_many 63 _ (by decide +kernel)
theorem dcq_679 : (decode cX6_many 63 = .ok (.ireturn, 1)) ∧ (decode cX6_many 64 = .ok (.aload_n 0, 1)) ∧ (decode cX6_many 65 = .ok (.invokevirtual 242, 3)) ∧ (decode cX6_many 68 = .ok (.invokestatic 245, 3)) ∧ (decode cX6_many 71 = .ok (.ireturn, 1)) ∧ (decode cX6_many 72 = .ok (.aload_n 0, 1)) ∧ (decode cX6_many 73 = .ok (.getfield 174, 3)) ∧ (decode cX6_many 76 = .ok (.ireturn, 1)) ∧ (decode cX6_many 77 = .ok (.aload_n 0, 1)) ∧ (decode cX6_many 78 = .ok (.getfield 64, 3)) ∧ (decode cX6_many 81 = .ok (.ireturn, 1)) ∧ (decode cX6_many 82 = .ok (.aload_n 0, 1)) := have h := dcb_679; ⟨fd_172 h, have h := fd_t1 h; ⟨fd_42 h, have h := fd_t1 h; ⟨fd_182 h rfl, have h := fd_t3 h; ⟨fd_184 h rfl, have h := fd_t3 h; ⟨fd_172 h, have h := fd_t1 h; ⟨fd_42 h, have h := fd_t1 h; ⟨fd_180 h rfl, have h := fd_t3 h; ⟨fd_172 h, have h := fd_t1 h; ⟨fd_42 h, have h := fd_t1 h; ⟨fd_180 h rfl, have h := fd_t3 h; ⟨fd_172 h, have h := fd_t1 h; fd_42 h⟩⟩⟩⟩⟩⟩⟩⟩⟩⟩⟩
theorem dX6_many_63 : decode cX6_many 63 = .ok (.ireturn, 1) := dcq_679.1
theorem dX6_many_64 : decode cX6_many 64 = .ok (.aload_n 0, 1) := dcq_679.2.1
theorem dX6_many_65 : decode cX6_many 65 = .ok (.invokevirtual 242, 3) := dcq_679.2.2.1
theorem dX6_many_68 : decode cX6_many 68 = .ok (.invokestatic 245, 3) := dcq_679.2.2.2.1
theorem dX6_many_71 : decode cX6_many 71 = .ok (.ireturn, 1) := dcq_679.2.2.2.2.1
theorem dX6_many_72 : decode cX6_many 72 = .ok (.aload_n 0, 1) := dcq_679.2.2.2.2.2.1
theorem dX6_many_73 : decode cX6_many 73 = .ok (.getfield 174, 3) := dcq_679.2.2.2.2.2.2.1
theorem dX6_many_76 : decode cX6_many 76 = .ok (.ireturn, 1) := dcq_679.2.2.2.2.2.2.2.1
theorem dX6_many_77 : decode cX6_many 77 = .ok (.aload_n 0, 1) := dcq_679.2.2.2.2.2.2.2.2.1
theorem dX6_many_78 : decode cX6_many 78 = .ok (.getfield 64, 3) := dcq_679.2.2.2.2.2.2.2.2.2.1
theorem dX6_many_81 : decode cX6_many 81 = .ok (.ireturn, 1) := dcq_679.2.2.2.2.2.2.2.2.2.2.1
theorem dX6_many_82 : decode cX6_many 82 = .ok (.aload_n 0, 1) := dcq_679.2.2.2.2.2.2.2.2.2.2.2
set_option maxRecDepth 20000 in
theorem dcb_680 : fd_B cX6_many 83 [180, 1, 30, 172, 2, 172] := fd_o cX6_many 83 _ (by decide +kernel)
theorem dcq_680 : (decode cX6_many 83 = .ok (.getfield 286, 3)) ∧ (decode cX6_many 86 = .ok (.ireturn, 1)) ∧ (decode cX6_many 87 = .ok (.iconst (-1), 1)) ∧ (decode cX6_many 88 = .ok (.ireturn, 1)) := have h := dcb_680; ⟨fd_180 h rfl, have h := fd_t3 h; ⟨fd_172 h, have h := fd_t1 h; ⟨fd_2 h, have h := fd_t1 h; fd_172 h⟩⟩⟩
theorem dX6_many_83 : decode cX6_many 83 = .ok (.getfield 286, 3) := dcq_680.1
theorem dX6_many_86 : decode cX6_many 86 = .ok (.ireturn, 1) := dcq_680.2.1
theorem dX6_many_87 : decode cX6_many 87 = .ok (.iconst (-1), 1) := dcq_680.2.2.1
theorem dX6_many_88 : decode cX6_many 88 = .ok (.ireturn, 1) := dcq_680.2.2.2
set_option maxRecDepth 20000 in
theorem dcb_681 : fd_B cX6_keep 0 [42, 180, 0, 7, 42, 180, 0, 16, 184, 0, 170, 42, 4, 181, 1, 78, 4, 172] := fd_o cX6_keep 0 _ (by decide +kernel)
theorem dcq_681 : (decode cX6_keep 0 = .ok (.aload_n 0, 1)) ∧ (decode cX6_keep 1 = .ok (.getfield 7, 3)) ∧ (decode cX6_keep 4 = .ok (.aload_n 0, 1)) ∧ (decode cX6_keep 5 = .ok (.getfield 16, 3)) ∧ (decode cX6_keep 8 = .ok (.invokestatic 170, 3)) ∧ (decode cX6_keep 11 = .ok (.aload_n 0, 1)) ∧ (decode cX6_keep 12 = .ok (.iconst 1, 1)) ∧ (decode cX6_keep 13 = .ok (.putfield 334, 3)) ∧ (decode cX6_keep 16 = .ok (.iconst 1, 1)) ∧ (decode cX6_keep 17 = .ok (.ireturn, 1)) := have h := dcb_681; ⟨fd_42 h, have h := fd_t1 h; ⟨fd_180 h rfl, have h := fd_t3 h; ⟨fd_42 h, have h := fd_t1 h; ⟨fd_180 h rfl, have h := fd_t3 h; ⟨fd_184 h rfl, have h := fd_t3 h; ⟨fd_42 h, have h := fd_t1 h; ⟨fd_4 h, have h := fd_t1 h; ⟨fd_181 h rfl, have h := fd_t3 h; ⟨fd_4 h, have h := fd_t1 h; fd_172 h⟩⟩⟩⟩⟩⟩⟩⟩⟩
theorem dX6_keep_0 : decode cX6_keep 0 = .ok (.aload_n 0, 1) := dcq_681.1
theorem dX6_keep_1 : decode cX6_keep 1 = .ok (.getfield 7, 3) := dcq_681.2.1
theorem dX6_keep_4 : decode cX6_keep 4 = .ok (.aload_n 0, 1) := dcq_681.2.2.1
theorem dX6_keep_5 : decode cX6_keep 5 = .ok (.getfield 16, 3) := dcq_681.2.2.2.1
theorem dX6_keep_8 : decode cX6_keep 8 = .ok (.invokestatic 170, 3) := dcq_681.2.2.2.2.1
theorem dX6_keep_11 : decode cX6_keep 11 = .ok (.aload_n 0, 1) := dcq_681.2.2.2.2.2.1
theorem dX6_keep_12 : decode cX6_keep 12 = .ok (.iconst 1, 1) := dcq_681.2.2.2.2.2.2.1
theorem dX6_keep_13 : decode cX6_keep 13 = .ok (.putfield 334, 3) := dcq_681.2.2.2.2.2.2.2.1
theorem dX6_keep_16 : decode cX6_keep 16 = .ok (.iconst 1, 1) := dcq_681.2.2.2.2.2.2.2.2.1
theorem dX6_keep_17 : decode cX6_keep 17 = .ok (.ireturn, 1) := dcq_681.2.2.2.2.2.2.2.2.2
set_option maxRecDepth 20000 in
theorem dcb_682 : fd_B cX6_again 0 [42, 180, 1, 78, 154, 0, 6, 16, 253, 172, 42, 180, 0, 16, 42, 180, 0, 7, 184, 0, 170, 42, 180, 0, 7] := fd_o cX6_again 0 _ (by decide +kernel)
theorem dcq_682 : (decode cX6_again 0 = .ok (.aload_n 0, 1)) ∧ (decode cX6_again 1 = .ok (.getfield 334, 3)) ∧ (decode cX6_again 4 = .ok (.ifCond .ne 6, 3)) ∧ (decode cX6_again 7 = .ok (.bipush (-3), 2)) ∧ (decode cX6_again 9 = .ok (.ireturn, 1)) ∧ (decode cX6_again 10 = .ok (.aload_n 0, 1)) ∧ (decode cX6_again 11 = .ok (.getfield 16, 3)) ∧ (decode cX6_again 14 = .ok (.aload_n 0, 1)) ∧ (decode cX6_again 15 = .ok (.getfield 7, 3)) ∧ (decode cX6_again 18 = .ok (.invokestatic 170, 3)) ∧ (decode cX6_again 21 = .ok (.aload_n 0, 1)) ∧ (decode cX6_again 22 = .ok (.getfield 7, 3)) := have h := dcb_682; ⟨fd_42 h, have h := fd_t1 h; ⟨fd_180 h rfl, have h := fd_t3 h; ⟨fd_154 h (by decide +kernel), have h := fd_t3 h; ⟨fd_16 h (by decide +kernel), have h := fd_t2 h; ⟨fd_172 h, have h := fd_t1 h; ⟨fd_42 h, have h := fd_t1 h; ⟨fd_180 h rfl, have h := fd_t3 h; ⟨fd_42 h, have h := fd_t1 h; ⟨fd_180 h rfl, have h := fd_t3 h; ⟨fd_184 h rfl, have h := fd_t3 h; ⟨fd_42 h, have h := fd_t1 h; fd_180 h rfl⟩⟩⟩⟩⟩⟩⟩⟩⟩⟩⟩
theorem dX6_again_0 : decode cX6_again 0 = .ok (.aload_n 0, 1) := dcq_682.1
theorem dX6_again_1 : decode cX6_again 1 = .ok (.getfield 334, 3) := dcq_682.2.1
theorem dX6_again_4 : decode cX6_again 4 = .ok (.ifCond .ne 6, 3) := dcq_682.2.2.1
theorem dX6_again_7 : decode cX6_again 7 = .ok (.bipush (-3), 2) := dcq_682.2.2.2.1
theorem dX6_again_9 : decode cX6_again 9 = .ok (.ireturn, 1) := dcq_682.2.2.2.2.1
theorem dX6_again_10 : decode cX6_again 10 = .ok (.aload_n 0, 1) := dcq_682.2.2.2.2.2.1
theorem dX6_again_11 : decode cX6_again 11 = .ok (.getfield 16, 3) := dcq_682.2.2.2.2.2.2.1
theorem dX6_again_14 : decode cX6_again 14 = .ok (.aload_n 0, 1) := dcq_682.2.2.2.2.2.2.2.1
theorem dX6_again_15 : decode cX6_again 15 = .ok (.getfield 7, 3) := dcq_682.2.2.2.2.2.2.2.2.1
theorem dX6_again_18 : decode cX6_again 18 = .ok (.invokestatic 170, 3) := dcq_682.2.2.2.2.2.2.2.2.2.1
theorem dX6_again_21 : decode cX6_again 21 = .ok (.aload_n 0, 1) := dcq_682.2.2.2.2.2.2.2.2.2.2.1
theorem dX6_again_22 : decode cX6_again 22 = .ok (.getfield 7, 3) := dcq_682.2.2.2.2.2.2.2.2.2.2.2
set_option maxRecDepth 20000 in
theorem dcb_683 : fd_B cX6_again 25 [16, 6, 46, 172] := fd_o cX6_again 25 _ (by decide +kernel)
theorem dcq_683 : (decode cX6_again 25 = .ok (.bipush 6, 2)) ∧ (decode cX6_again 27 = .ok (.iaload, 1)) ∧ (decode cX6_again 28 = .ok (.ireturn, 1)) := have h := dcb_683; ⟨fd_16 h (by decide +kernel), have h := fd_t2 h; ⟨fd_46 h, have h := fd_t1 h; fd_172 h⟩⟩
theorem dX6_again_25 : decode cX6_again 25 = .ok (.bipush 6, 2) := dcq_683.1
theorem dX6_again_27 : decode cX6_again 27 = .ok (.iaload, 1) := dcq_683.2.1
theorem dX6_again_28 : decode cX6_again 28 = .ok (.ireturn, 1) := dcq_683.2.2
set_option maxRecDepth 20000 in
theorem dcb_684 : fd_B cJ6_bitCount_0f7a4 0 [26, 26, 4, 124, 19, 1, 9, 126, 100, 59, 26, 19, 1, 10, 126, 26] := fd_o cJ6_bitCount_0f7a4 0 _ (by decide +kernel)
theorem dcq_684 : (decode cJ6_bitCount_0f7a4 0 = .ok (.iload_n 0, 1)) ∧ (decode cJ6_bitCount_0f7a4 1 = .ok (.iload_n 0, 1)) ∧ (decode cJ6_bitCount_0f7a4 2 = .ok (.iconst 1, 1)) ∧ (decode cJ6_bitCount_0f7a4 3 = .ok (.iushr, 1)) ∧ (decode cJ6_bitCount_0f7a4 4 = .ok (.ldc_w 265, 3)) ∧ (decode cJ6_bitCount_0f7a4 7 = .ok (.iand, 1)) ∧ (decode cJ6_bitCount_0f7a4 8 = .ok (.isub, 1)) ∧ (decode cJ6_bitCount_0f7a4 9 = .ok (.istore_n 0, 1)) ∧ (decode cJ6_bitCount_0f7a4 10 = .ok (.iload_n 0, 1)) ∧ (decode cJ6_bitCount_0f7a4 11 = .ok (.ldc_w 266, 3)) ∧ (decode cJ6_bitCount_0f7a4 14 = .ok (.iand, 1)) ∧ (decode cJ6_bitCount_0f7a4 15 = .ok (.iload_n 0, 1)) := have h := dcb_684; ⟨fd_26 h, have h := fd_t1 h; ⟨fd_26 h, have h := fd_t1 h; ⟨fd_4 h, have h := fd_t1 h; ⟨fd_124 h, have h := fd_t1 h; ⟨fd_19 h rfl, have h := fd_t3 h; ⟨fd_126 h, have h := fd_t1 h; ⟨fd_100 h, have h := fd_t1 h; ⟨fd_59 h, have h := fd_t1 h; ⟨fd_26 h, have h := fd_t1 h; ⟨fd_19 h rfl, have h := fd_t3 h; ⟨fd_126 h, have h := fd_t1 h; fd_26 h⟩⟩⟩⟩⟩⟩⟩⟩⟩⟩⟩
theorem dJ6_bitCount_0f7a4_0 : decode cJ6_bitCount_0f7a4 0 = .ok (.iload_n 0, 1) := dcq_684.1
theorem dJ6_bitCount_0f7a4_1 : decode cJ6_bitCount_0f7a4 1 = .ok (.iload_n 0, 1) := dcq_684.2.1
theorem dJ6_bitCount_0f7a4_2 : decode cJ6_bitCount_0f7a4 2 = .ok (.iconst 1, 1) := dcq_684.2.2.1
theorem dJ6_bitCount_0f7a4_3 : decode cJ6_bitCount_0f7a4 3 = .ok (.iushr, 1) := dcq_684.2.2.2.1
theorem dJ6_bitCount_0f7a4_4 : decode cJ6_bitCount_0f7a4 4 = .ok (.ldc_w 265, 3) := dcq_684.2.2.2.2.1
theorem dJ6_bitCount_0f7a4_7 : decode cJ6_bitCount_0f7a4 7 = .ok (.iand, 1) := dcq_684.2.2.2.2.2.1
theorem dJ6_bitCount_0f7a4_8 : decode cJ6_bitCount_0f7a4 8 = .ok (.isub, 1) := dcq_684.2.2.2.2.2.2.1
theorem dJ6_bitCount_0f7a4_9 : decode cJ6_bitCount_0f7a4 9 = .ok (.istore_n 0, 1) := dcq_684.2.2.2.2.2.2.2.1
theorem dJ6_bitCount_0f7a4_10 : decode cJ6_bitCount_0f7a4 10 = .ok (.iload_n 0, 1) := dcq_684.2.2.2.2.2.2.2.2.1
theorem dJ6_bitCount_0f7a4_11 : decode cJ6_bitCount_0f7a4 11 = .ok (.ldc_w 266, 3) := dcq_684.2.2.2.2.2.2.2.2.2.1
theorem dJ6_bitCount_0f7a4_14 : decode cJ6_bitCount_0f7a4 14 = .ok (.iand, 1) := dcq_684.2.2.2.2.2.2.2.2.2.2.1
theorem dJ6_bitCount_0f7a4_15 : decode cJ6_bitCount_0f7a4 15 = .ok (.iload_n 0, 1) := dcq_684.2.2.2.2.2.2.2.2.2.2.2
set_option maxRecDepth 20000 in
theorem dcb_685 : fd_B cJ6_bitCount_0f7a4 16 [5, 124, 19, 1, 10, 126, 96, 59, 26, 26, 7, 124, 96, 19, 1, 11] := fd_o cJ6_bitCount_0f7a4 16 _ (by decide +kernel)
theorem dcq_685 : (decode cJ6_bitCount_0f7a4 16 = .ok (.iconst 2, 1)) ∧ (decode cJ6_bitCount_0f7a4 17 = .ok (.iushr, 1)) ∧ (decode cJ6_bitCount_0f7a4 18 = .ok (.ldc_w 266, 3)) ∧ (decode cJ6_bitCount_0f7a4 21 = .ok (.iand, 1)) ∧ (decode cJ6_bitCount_0f7a4 22 = .ok (.iadd, 1)) ∧ (decode cJ6_bitCount_0f7a4 23 = .ok (.istore_n 0, 1)) ∧ (decode cJ6_bitCount_0f7a4 24 = .ok (.iload_n 0, 1)) ∧ (decode cJ6_bitCount_0f7a4 25 = .ok (.iload_n 0, 1)) ∧ (decode cJ6_bitCount_0f7a4 26 = .ok (.iconst 4, 1)) ∧ (decode cJ6_bitCount_0f7a4 27 = .ok (.iushr, 1)) ∧ (decode cJ6_bitCount_0f7a4 28 = .ok (.iadd, 1)) ∧ (decode cJ6_bitCount_0f7a4 29 = .ok (.ldc_w 267, 3)) := have h := dcb_685; ⟨fd_5 h, have h := fd_t1 h; ⟨fd_124 h, have h := fd_t1 h; ⟨fd_19 h rfl, have h := fd_t3 h; ⟨fd_126 h, have h := fd_t1 h; ⟨fd_96 h, have h := fd_t1 h; ⟨fd_59 h, have h := fd_t1 h; ⟨fd_26 h, have h := fd_t1 h; ⟨fd_26 h, have h := fd_t1 h; ⟨fd_7 h, have h := fd_t1 h; ⟨fd_124 h, have h := fd_t1 h; ⟨fd_96 h, have h := fd_t1 h; fd_19 h rfl⟩⟩⟩⟩⟩⟩⟩⟩⟩⟩⟩
theorem dJ6_bitCount_0f7a4_16 : decode cJ6_bitCount_0f7a4 16 = .ok (.iconst 2, 1) := dcq_685.1
theorem dJ6_bitCount_0f7a4_17 : decode cJ6_bitCount_0f7a4 17 = .ok (.iushr, 1) := dcq_685.2.1
theorem dJ6_bitCount_0f7a4_18 : decode cJ6_bitCount_0f7a4 18 = .ok (.ldc_w 266, 3) := dcq_685.2.2.1
theorem dJ6_bitCount_0f7a4_21 : decode cJ6_bitCount_0f7a4 21 = .ok (.iand, 1) := dcq_685.2.2.2.1
theorem dJ6_bitCount_0f7a4_22 : decode cJ6_bitCount_0f7a4 22 = .ok (.iadd, 1) := dcq_685.2.2.2.2.1
theorem dJ6_bitCount_0f7a4_23 : decode cJ6_bitCount_0f7a4 23 = .ok (.istore_n 0, 1) := dcq_685.2.2.2.2.2.1
theorem dJ6_bitCount_0f7a4_24 : decode cJ6_bitCount_0f7a4 24 = .ok (.iload_n 0, 1) := dcq_685.2.2.2.2.2.2.1
theorem dJ6_bitCount_0f7a4_25 : decode cJ6_bitCount_0f7a4 25 = .ok (.iload_n 0, 1) := dcq_685.2.2.2.2.2.2.2.1
theorem dJ6_bitCount_0f7a4_26 : decode cJ6_bitCount_0f7a4 26 = .ok (.iconst 4, 1) := dcq_685.2.2.2.2.2.2.2.2.1
theorem dJ6_bitCount_0f7a4_27 : decode cJ6_bitCount_0f7a4 27 = .ok (.iushr, 1) := dcq_685.2.2.2.2.2.2.2.2.2.1
theorem dJ6_bitCount_0f7a4_28 : decode cJ6_bitCount_0f7a4 28 = .ok (.iadd, 1) := dcq_685.2.2.2.2.2.2.2.2.2.2.1
theorem dJ6_bitCount_0f7a4_29 : decode cJ6_bitCount_0f7a4 29 = .ok (.ldc_w 267, 3) := dcq_685.2.2.2.2.2.2.2.2.2.2.2
set_option maxRecDepth 20000 in
theorem dcb_686 : fd_B cJ6_bitCount_0f7a4 32 [126, 59, 26, 26, 16, 8, 124, 96, 59, 26, 26, 16, 16, 124] := fd_o cJ6_bitCount_0f7a4 32 _ (by decide +kernel)
theorem dcq_686 : (decode cJ6_bitCount_0f7a4 32 = .ok (.iand, 1)) ∧ (decode cJ6_bitCount_0f7a4 33 = .ok (.istore_n 0, 1)) ∧ (decode cJ6_bitCount_0f7a4 34 = .ok (.iload_n 0, 1)) ∧ (decode cJ6_bitCount_0f7a4 35 = .ok (.iload_n 0, 1)) ∧ (decode cJ6_bitCount_0f7a4 36 = .ok (.bipush 8, 2)) ∧ (decode cJ6_bitCount_0f7a4 38 = .ok (.iushr, 1)) ∧ (decode cJ6_bitCount_0f7a4 39 = .ok (.iadd, 1)) ∧ (decode cJ6_bitCount_0f7a4 40 = .ok (.istore_n 0, 1)) ∧ (decode cJ6_bitCount_0f7a4 41 = .ok (.iload_n 0, 1)) ∧ (decode cJ6_bitCount_0f7a4 42 = .ok (.iload_n 0, 1)) ∧ (decode cJ6_bitCount_0f7a4 43 = .ok (.bipush 16, 2)) ∧ (decode cJ6_bitCount_0f7a4 45 = .ok (.iushr, 1)) := have h := dcb_686; ⟨fd_126 h, have h := fd_t1 h; ⟨fd_59 h, have h := fd_t1 h; ⟨fd_26 h, have h := fd_t1 h; ⟨fd_26 h, have h := fd_t1 h; ⟨fd_16 h (by decide +kernel), have h := fd_t2 h; ⟨fd_124 h, have h := fd_t1 h; ⟨fd_96 h, have h := fd_t1 h; ⟨fd_59 h, have h := fd_t1 h; ⟨fd_26 h, have h := fd_t1 h; ⟨fd_26 h, have h := fd_t1 h; ⟨fd_16 h (by decide +kernel), have h := fd_t2 h; fd_124 h⟩⟩⟩⟩⟩⟩⟩⟩⟩⟩⟩
theorem dJ6_bitCount_0f7a4_32 : decode cJ6_bitCount_0f7a4 32 = .ok (.iand, 1) := dcq_686.1
theorem dJ6_bitCount_0f7a4_33 : decode cJ6_bitCount_0f7a4 33 = .ok (.istore_n 0, 1) := dcq_686.2.1
theorem dJ6_bitCount_0f7a4_34 : decode cJ6_bitCount_0f7a4 34 = .ok (.iload_n 0, 1) := dcq_686.2.2.1
theorem dJ6_bitCount_0f7a4_35 : decode cJ6_bitCount_0f7a4 35 = .ok (.iload_n 0, 1) := dcq_686.2.2.2.1
theorem dJ6_bitCount_0f7a4_36 : decode cJ6_bitCount_0f7a4 36 = .ok (.bipush 8, 2) := dcq_686.2.2.2.2.1
theorem dJ6_bitCount_0f7a4_38 : decode cJ6_bitCount_0f7a4 38 = .ok (.iushr, 1) := dcq_686.2.2.2.2.2.1
theorem dJ6_bitCount_0f7a4_39 : decode cJ6_bitCount_0f7a4 39 = .ok (.iadd, 1) := dcq_686.2.2.2.2.2.2.1
theorem dJ6_bitCount_0f7a4_40 : decode cJ6_bitCount_0f7a4 40 = .ok (.istore_n 0, 1) := dcq_686.2.2.2.2.2.2.2.1
theorem dJ6_bitCount_0f7a4_41 : decode cJ6_bitCount_0f7a4 41 = .ok (.iload_n 0, 1) := dcq_686.2.2.2.2.2.2.2.2.1
theorem dJ6_bitCount_0f7a4_42 : decode cJ6_bitCount_0f7a4 42 = .ok (.iload_n 0, 1) := dcq_686.2.2.2.2.2.2.2.2.2.1
theorem dJ6_bitCount_0f7a4_43 : decode cJ6_bitCount_0f7a4 43 = .ok (.bipush 16, 2) := dcq_686.2.2.2.2.2.2.2.2.2.2.1
theorem dJ6_bitCount_0f7a4_45 : decode cJ6_bitCount_0f7a4 45 = .ok (.iushr, 1) := dcq_686.2.2.2.2.2.2.2.2.2.2.2
set_option maxRecDepth 20000 in
theorem dcb_687 : fd_B cJ6_bitCount_0f7a4 46 [96, 59, 26, 16, 63, 126, 172] := fd_o cJ6_bitCount_0f7a4 46 _ (by decide +kernel)
theorem dcq_687 : (decode cJ6_bitCount_0f7a4 46 = .ok (.iadd, 1)) ∧ (decode cJ6_bitCount_0f7a4 47 = .ok (.istore_n 0, 1)) ∧ (decode cJ6_bitCount_0f7a4 48 = .ok (.iload_n 0, 1)) ∧ (decode cJ6_bitCount_0f7a4 49 = .ok (.bipush 63, 2)) ∧ (decode cJ6_bitCount_0f7a4 51 = .ok (.iand, 1)) ∧ (decode cJ6_bitCount_0f7a4 52 = .ok (.ireturn, 1)) := have h := dcb_687; ⟨fd_96 h, have h := fd_t1 h; ⟨fd_59 h, have h := fd_t1 h; ⟨fd_26 h, have h := fd_t1 h; ⟨fd_16 h (by decide +kernel), have h := fd_t2 h; ⟨fd_126 h, have h := fd_t1 h; fd_172 h⟩⟩⟩⟩⟩
theorem dJ6_bitCount_0f7a4_46 : decode cJ6_bitCount_0f7a4 46 = .ok (.iadd, 1) := dcq_687.1
theorem dJ6_bitCount_0f7a4_47 : decode cJ6_bitCount_0f7a4 47 = .ok (.istore_n 0, 1) := dcq_687.2.1
theorem dJ6_bitCount_0f7a4_48 : decode cJ6_bitCount_0f7a4 48 = .ok (.iload_n 0, 1) := dcq_687.2.2.1
theorem dJ6_bitCount_0f7a4_49 : decode cJ6_bitCount_0f7a4 49 = .ok (.bipush 63, 2) := dcq_687.2.2.2.1
theorem dJ6_bitCount_0f7a4_51 : decode cJ6_bitCount_0f7a4 51 = .ok (.iand, 1) := dcq_687.2.2.2.2.1
theorem dJ6_bitCount_0f7a4_52 : decode cJ6_bitCount_0f7a4 52 = .ok (.ireturn, 1) := dcq_687.2.2.2.2.2
set_option maxRecDepth 20000 in
theorem dcb_688 : fd_B cJ9_max_7cf53 0 [26, 27, 161, 0, 7, 26, 167, 0, 4, 27, 172] := fd_o cJ9_max_7cf53 0 _ (by decide +kernel)
theorem dcq_688 : (decode cJ9_max_7cf53 0 = .ok (.iload_n 0, 1)) ∧ (decode cJ9_max_7cf53 1 = .ok (.iload_n 1, 1)) ∧ (decode cJ9_max_7cf53 2 = .ok (.if_icmp .lt 7, 3)) ∧ (decode cJ9_max_7cf53 5 = .ok (.iload_n 0, 1)) ∧ (decode cJ9_max_7cf53 6 = .ok (.goto 4, 3)) ∧ (decode cJ9_max_7cf53 9 = .ok (.iload_n 1, 1)) ∧ (decode cJ9_max_7cf53 10 = .ok (.ireturn, 1)) := have h := dcb_688; ⟨fd_26 h, have h := fd_t1 h; ⟨fd_27 h, have h := fd_t1 h; ⟨fd_161 h (by decide +kernel), have h := fd_t3 h; ⟨fd_26 h, have h := fd_t1 h; ⟨fd_167 h (by decide +kernel), have h := fd_t3 h; ⟨fd_27 h, have h := fd_t1 h; fd_172 h⟩⟩⟩⟩⟩⟩
theorem dJ9_max_7cf53_0 : decode cJ9_max_7cf53 0 = .ok (.iload_n 0, 1) := dcq_688.1
theorem dJ9_max_7cf53_1 : decode cJ9_max_7cf53 1 = .ok (.iload_n 1, 1) := dcq_688.2.1
theorem dJ9_max_7cf53_2 : decode cJ9_max_7cf53 2 = .ok (.if_icmp .lt 7, 3) := dcq_688.2.2.1
theorem dJ9_max_7cf53_5 : decode cJ9_max_7cf53 5 = .ok (.iload_n 0, 1) := dcq_688.2.2.2.1
theorem dJ9_max_7cf53_6 : decode cJ9_max_7cf53 6 = .ok (.goto 4, 3) := dcq_688.2.2.2.2.1
theorem dJ9_max_7cf53_9 : decode cJ9_max_7cf53 9 = .ok (.iload_n 1, 1) := dcq_688.2.2.2.2.2.1
theorem dJ9_max_7cf53_10 : decode cJ9_max_7cf53 10 = .ok (.ireturn, 1) := dcq_688.2.2.2.2.2.2
set_option maxRecDepth 20000 in
theorem dcb_689 : fd_B cJ9_min_7cf53 0 [26, 27, 163, 0, 7, 26, 167, 0, 4, 27, 172] := fd_o cJ9_min_7cf53 0 _ (by decide +kernel)
theorem dcq_689 : (decode cJ9_min_7cf53 0 = .ok (.iload_n 0, 1)) ∧ (decode cJ9_min_7cf53 1 = .ok (.iload_n 1, 1)) ∧ (decode cJ9_min_7cf53 2 = .ok (.if_icmp .gt 7, 3)) ∧ (decode cJ9_min_7cf53 5 = .ok (.iload_n 0, 1)) ∧ (decode cJ9_min_7cf53 6 = .ok (.goto 4, 3)) ∧ (decode cJ9_min_7cf53 9 = .ok (.iload_n 1, 1)) ∧ (decode cJ9_min_7cf53 10 = .ok (.ireturn, 1)) := have h := dcb_689; ⟨fd_26 h, have h := fd_t1 h; ⟨fd_27 h, have h := fd_t1 h; ⟨fd_163 h (by decide +kernel), have h := fd_t3 h; ⟨fd_26 h, have h := fd_t1 h; ⟨fd_167 h (by decide +kernel), have h := fd_t3 h; ⟨fd_27 h, have h := fd_t1 h; fd_172 h⟩⟩⟩⟩⟩⟩
theorem dJ9_min_7cf53_0 : decode cJ9_min_7cf53 0 = .ok (.iload_n 0, 1) := dcq_689.1
theorem dJ9_min_7cf53_1 : decode cJ9_min_7cf53 1 = .ok (.iload_n 1, 1) := dcq_689.2.1
theorem dJ9_min_7cf53_2 : decode cJ9_min_7cf53 2 = .ok (.if_icmp .gt 7, 3) := dcq_689.2.2.1
theorem dJ9_min_7cf53_5 : decode cJ9_min_7cf53 5 = .ok (.iload_n 0, 1) := dcq_689.2.2.2.1
theorem dJ9_min_7cf53_6 : decode cJ9_min_7cf53 6 = .ok (.goto 4, 3) := dcq_689.2.2.2.2.1
theorem dJ9_min_7cf53_9 : decode cJ9_min_7cf53 9 = .ok (.iload_n 1, 1) := dcq_689.2.2.2.2.2.1
theorem dJ9_min_7cf53_10 : decode cJ9_min_7cf53 10 = .ok (.ireturn, 1) := dcq_689.2.2.2.2.2.2
set_option maxRecDepth 20000 in
theorem dcb_690 : fd_B cJ0_length_8abf5 0 [42, 180, 0, 9, 190, 42, 182, 1, 79, 122, 172] := fd_o cJ0_length_8abf5 0 _ (by decide +kernel)
theorem dcq_690 : (decode cJ0_length_8abf5 0 = .ok (.aload_n 0, 1)) ∧ (decode cJ0_length_8abf5 1 = .ok (.getfield 9, 3)) ∧ (decode cJ0_length_8abf5 4 = .ok (.arraylength, 1)) ∧ (decode cJ0_length_8abf5 5 = .ok (.aload_n 0, 1)) ∧ (decode cJ0_length_8abf5 6 = .ok (.invokevirtual 335, 3)) ∧ (decode cJ0_length_8abf5 9 = .ok (.ishr, 1)) ∧ (decode cJ0_length_8abf5 10 = .ok (.ireturn, 1)) := have h := dcb_690; ⟨fd_42 h, have h := fd_t1 h; ⟨fd_180 h rfl, have h := fd_t3 h; ⟨fd_190 h, have h := fd_t1 h; ⟨fd_42 h, have h := fd_t1 h; ⟨fd_182 h rfl, have h := fd_t3 h; ⟨fd_122 h, have h := fd_t1 h; fd_172 h⟩⟩⟩⟩⟩⟩
theorem dJ0_length_8abf5_0 : decode cJ0_length_8abf5 0 = .ok (.aload_n 0, 1) := dcq_690.1
theorem dJ0_length_8abf5_1 : decode cJ0_length_8abf5 1 = .ok (.getfield 9, 3) := dcq_690.2.1
theorem dJ0_length_8abf5_4 : decode cJ0_length_8abf5 4 = .ok (.arraylength, 1) := dcq_690.2.2.1
theorem dJ0_length_8abf5_5 : decode cJ0_length_8abf5 5 = .ok (.aload_n 0, 1) := dcq_690.2.2.2.1
theorem dJ0_length_8abf5_6 : decode cJ0_length_8abf5 6 = .ok (.invokevirtual 335, 3) := dcq_690.2.2.2.2.1
theorem dJ0_length_8abf5_9 : decode cJ0_length_8abf5 9 = .ok (.ishr, 1) := dcq_690.2.2.2.2.2.1
theorem dJ0_length_8abf5_10 : decode cJ0_length_8abf5 10 = .ok (.ireturn, 1) := dcq_690.2.2.2.2.2.2
set_option maxRecDepth 20000 in
theorem dcb_691 : fd_B cJ0_charAt_5068e 0 [42, 182, 1, 236, 153, 0, 12, 42, 180, 0, 9, 27, 184, 1, 239, 172, 42, 180, 0, 9, 27, 184, 1, 242] := fd_o cJ0_charAt_5068e 0 _ (by decide +kernel)
theorem dcq_691 : (decode cJ0_charAt_5068e 0 = .ok (.aload_n 0, 1)) ∧ (decode cJ0_charAt_5068e 1 = .ok (.invokevirtual 492, 3)) ∧ (decode cJ0_charAt_5068e 4 = .ok (.ifCond .eq 12, 3)) ∧ (decode cJ0_charAt_5068e 7 = .ok (.aload_n 0, 1)) ∧ (decode cJ0_charAt_5068e 8 = .ok (.getfield 9, 3)) ∧ (decode cJ0_charAt_5068e 11 = .ok (.iload_n 1, 1)) ∧ (decode cJ0_charAt_5068e 12 = .ok (.invokestatic 495, 3)) ∧ (decode cJ0_charAt_5068e 15 = .ok (.ireturn, 1)) ∧ (decode cJ0_charAt_5068e 16 = .ok (.aload_n 0, 1)) ∧ (decode cJ0_charAt_5068e 17 = .ok (.getfield 9, 3)) ∧ (decode cJ0_charAt_5068e 20 = .ok (.iload_n 1, 1)) ∧ (decode cJ0_charAt_5068e 21 = .ok (.invokestatic 498, 3)) := have h := dcb_691; ⟨fd_42 h, have h := fd_t1 h; ⟨fd_182 h rfl, have h := fd_t3 h; ⟨fd_153 h (by decide +kernel), have h := fd_t3 h; ⟨fd_42 h, have h := fd_t1 h; ⟨fd_180 h rfl, have h := fd_t3 h; ⟨fd_27 h, have h := fd_t1 h; ⟨fd_184 h rfl, have h := fd_t3 h; ⟨fd_172 h, have h := fd_t1 h; ⟨fd_42 h, have h := fd_t1 h; ⟨fd_180 h rfl, have h := fd_t3 h; ⟨fd_27 h, have h := fd_t1 h; fd_184 h rfl⟩⟩⟩⟩⟩⟩⟩⟩⟩⟩⟩
theorem dJ0_charAt_5068e_0 : decode cJ0_charAt_5068e 0 = .ok (.aload_n 0, 1) := dcq_691.1
theorem dJ0_charAt_5068e_1 : decode cJ0_charAt_5068e 1 = .ok (.invokevirtual 492, 3) := dcq_691.2.1
theorem dJ0_charAt_5068e_4 : decode cJ0_charAt_5068e 4 = .ok (.ifCond .eq 12, 3) := dcq_691.2.2.1
theorem dJ0_charAt_5068e_7 : decode cJ0_charAt_5068e 7 = .ok (.aload_n 0, 1) := dcq_691.2.2.2.1
theorem dJ0_charAt_5068e_8 : decode cJ0_charAt_5068e 8 = .ok (.getfield 9, 3) := dcq_691.2.2.2.2.1
theorem dJ0_charAt_5068e_11 : decode cJ0_charAt_5068e 11 = .ok (.iload_n 1, 1) := dcq_691.2.2.2.2.2.1
theorem dJ0_charAt_5068e_12 : decode cJ0_charAt_5068e 12 = .ok (.invokestatic 495, 3) := dcq_691.2.2.2.2.2.2.1
theorem dJ0_charAt_5068e_15 : decode cJ0_charAt_5068e 15 = .ok (.ireturn, 1) := dcq_691.2.2.2.2.2.2.2.1
theorem dJ0_charAt_5068e_16 : decode cJ0_charAt_5068e 16 = .ok (.aload_n 0, 1) := dcq_691.2.2.2.2.2.2.2.2.1
theorem dJ0_charAt_5068e_17 : decode cJ0_charAt_5068e 17 = .ok (.getfield 9, 3) := dcq_691.2.2.2.2.2.2.2.2.2.1
theorem dJ0_charAt_5068e_20 : decode cJ0_charAt_5068e 20 = .ok (.iload_n 1, 1) := dcq_691.2.2.2.2.2.2.2.2.2.2.1
theorem dJ0_charAt_5068e_21 : decode cJ0_charAt_5068e 21 = .ok (.invokestatic 498, 3) := dcq_691.2.2.2.2.2.2.2.2.2.2.2
set_option maxRecDepth 20000 in
theorem dcb_692 : fd_B cJ0_charAt_5068e 24 [172] := fd_o cJ0_charAt_5068e 24 _ (by decide +kernel)
theorem dJ0_charAt_5068e_24 : decode cJ0_charAt_5068e 24 = .ok (.ireturn, 1) := fd_172 dcb_692
set_option maxRecDepth 20000 in
theorem dcb_693 : fd_B cJ0_coder_7d493 0 [178, 0, 38, 153, 0, 10, 42, 180, 0, 15, 167, 0, 4, 4, 172] := fd_o cJ0_coder_7d493 0 _ (by decide +kernel)
theorem dcq_693 : (decode cJ0_coder_7d493 0 = .ok (.getstatic 38, 3)) ∧ (decode cJ0_coder_7d493 3 = .ok (.ifCond .eq 10, 3)) ∧ (decode cJ0_coder_7d493 6 = .ok (.aload_n 0, 1)) ∧ (decode cJ0_coder_7d493 7 = .ok (.getfield 15, 3)) ∧ (decode cJ0_coder_7d493 10 = .ok (.goto 4, 3)) ∧ (decode cJ0_coder_7d493 13 = .ok (.iconst 1, 1)) ∧ (decode cJ0_coder_7d493 14 = .ok (.ireturn, 1)) := have h := dcb_693; ⟨fd_178 h rfl, have h := fd_t3 h; ⟨fd_153 h (by decide +kernel), have h := fd_t3 h; ⟨fd_42 h, have h := fd_t1 h; ⟨fd_180 h rfl, have h := fd_t3 h; ⟨fd_167 h (by decide +kernel), have h := fd_t3 h; ⟨fd_4 h, have h := fd_t1 h; fd_172 h⟩⟩⟩⟩⟩⟩
theorem dJ0_coder_7d493_0 : decode cJ0_coder_7d493 0 = .ok (.getstatic 38, 3) := dcq_693.1
theorem dJ0_coder_7d493_3 : decode cJ0_coder_7d493 3 = .ok (.ifCond .eq 10, 3) := dcq_693.2.1
theorem dJ0_coder_7d493_6 : decode cJ0_coder_7d493 6 = .ok (.aload_n 0, 1) := dcq_693.2.2.1
theorem dJ0_coder_7d493_7 : decode cJ0_coder_7d493 7 = .ok (.getfield 15, 3) := dcq_693.2.2.2.1
theorem dJ0_coder_7d493_10 : decode cJ0_coder_7d493 10 = .ok (.goto 4, 3) := dcq_693.2.2.2.2.1
theorem dJ0_coder_7d493_13 : decode cJ0_coder_7d493 13 = .ok (.iconst 1, 1) := dcq_693.2.2.2.2.2.1
theorem dJ0_coder_7d493_14 : decode cJ0_coder_7d493 14 = .ok (.ireturn, 1) := dcq_693.2.2.2.2.2.2
set_option maxRecDepth 20000 in
theorem dcb_694 : fd_B cJ0_isLatin1_aae02 0 [178, 0, 38, 153, 0, 14, 42, 180, 0, 15, 154, 0, 7, 4, 167, 0, 4, 3, 172] := fd_o cJ0_isLatin1_aae02 0 _ (by decide +kernel)
theorem dcq_694 : (decode cJ0_isLatin1_aae02 0 = .ok (.getstatic 38, 3)) ∧ (decode cJ0_isLatin1_aae02 3 = .ok (.ifCond .eq 14, 3)) ∧ (decode cJ0_isLatin1_aae02 6 = .ok (.aload_n 0, 1)) ∧ (decode cJ0_isLatin1_aae02 7 = .ok (.getfield 15, 3)) ∧ (decode cJ0_isLatin1_aae02 10 = .ok (.ifCond .ne 7, 3)) ∧ (decode cJ0_isLatin1_aae02 13 = .ok (.iconst 1, 1)) ∧ (decode cJ0_isLatin1_aae02 14 = .ok (.goto 4, 3)) ∧ (decode cJ0_isLatin1_aae02 17 = .ok (.iconst 0, 1)) ∧ (decode cJ0_isLatin1_aae02 18 = .ok (.ireturn, 1)) := have h := dcb_694; ⟨fd_178 h rfl, have h := fd_t3 h; ⟨fd_153 h (by decide +kernel), have h := fd_t3 h; ⟨fd_42 h, have h := fd_t1 h; ⟨fd_180 h rfl, have h := fd_t3 h; ⟨fd_154 h (by decide +kernel), have h := fd_t3 h; ⟨fd_4 h, have h := fd_t1 h; ⟨fd_167 h (by decide +kernel), have h := fd_t3 h; ⟨fd_3 h, have h := fd_t1 h; fd_172 h⟩⟩⟩⟩⟩⟩⟩⟩
theorem dJ0_isLatin1_aae02_0 : decode cJ0_isLatin1_aae02 0 = .ok (.getstatic 38, 3) := dcq_694.1
theorem dJ0_isLatin1_aae02_3 : decode cJ0_isLatin1_aae02 3 = .ok (.ifCond .eq 14, 3) := dcq_694.2.1
theorem dJ0_isLatin1_aae02_6 : decode cJ0_isLatin1_aae02 6 = .ok (.aload_n 0, 1) := dcq_694.2.2.1
theorem dJ0_isLatin1_aae02_7 : decode cJ0_isLatin1_aae02 7 = .ok (.getfield 15, 3) := dcq_694.2.2.2.1
theorem dJ0_isLatin1_aae02_10 : decode cJ0_isLatin1_aae02 10 = .ok (.ifCond .ne 7, 3) := dcq_694.2.2.2.2.1
theorem dJ0_isLatin1_aae02_13 : decode cJ0_isLatin1_aae02 13 = .ok (.iconst 1, 1) := dcq_694.2.2.2.2.2.1
theorem dJ0_isLatin1_aae02_14 : decode cJ0_isLatin1_aae02 14 = .ok (.goto 4, 3) := dcq_694.2.2.2.2.2.2.1
theorem dJ0_isLatin1_aae02_17 : decode cJ0_isLatin1_aae02 17 = .ok (.iconst 0, 1) := dcq_694.2.2.2.2.2.2.2.1
