-- decode rows: a program laid them
theorem dX6_weekByDraws_24 : decode cX6_weekByDraws 24 = .ok (.invokevirtual 233, 3) := dcq_495.2.2.1
theorem dX6_weekByDraws_27 : decode cX6_weekByDraws 27 = .ok (.bipush 100, 2) := dcq_495.2.2.2.1
theorem dX6_weekByDraws_29 : decode cX6_weekByDraws 29 = .ok (.irem, 1) := dcq_495.2.2.2.2.1
theorem dX6_weekByDraws_30 : decode cX6_weekByDraws 30 = .ok (.aload_n 0, 1) := dcq_495.2.2.2.2.2.1
theorem dX6_weekByDraws_31 : decode cX6_weekByDraws 31 = .ok (.getfield 7, 3) := dcq_495.2.2.2.2.2.2.1
theorem dX6_weekByDraws_34 : decode cX6_weekByDraws 34 = .ok (.iconst 3, 1) := dcq_495.2.2.2.2.2.2.2.1
theorem dX6_weekByDraws_35 : decode cX6_weekByDraws 35 = .ok (.iaload, 1) := dcq_495.2.2.2.2.2.2.2.2.1
theorem dX6_weekByDraws_36 : decode cX6_weekByDraws 36 = .ok (.if_icmp .ge 17, 3) := dcq_495.2.2.2.2.2.2.2.2.2.1
theorem dX6_weekByDraws_39 : decode cX6_weekByDraws 39 = .ok (.aload_n 0, 1) := dcq_495.2.2.2.2.2.2.2.2.2.2.1
theorem dX6_weekByDraws_40 : decode cX6_weekByDraws 40 = .ok (.iload_n 1, 1) := dcq_495.2.2.2.2.2.2.2.2.2.2.2
set_option maxRecDepth 20000 in
theorem dcb_496 : fd_B cX6_weekByDraws 41 [4, 42, 27, 4, 182, 0, 191, 5, 108, 182, 0, 184, 42, 182, 0, 226, 172] := fd_o cX6_weekByDraws 41 _ (by decide +kernel)
theorem dcq_496 : (decode cX6_weekByDraws 41 = .ok (.iconst 1, 1)) ∧ (decode cX6_weekByDraws 42 = .ok (.aload_n 0, 1)) ∧ (decode cX6_weekByDraws 43 = .ok (.iload_n 1, 1)) ∧ (decode cX6_weekByDraws 44 = .ok (.iconst 1, 1)) ∧ (decode cX6_weekByDraws 45 = .ok (.invokevirtual 191, 3)) ∧ (decode cX6_weekByDraws 48 = .ok (.iconst 2, 1)) ∧ (decode cX6_weekByDraws 49 = .ok (.idiv, 1)) ∧ (decode cX6_weekByDraws 50 = .ok (.invokevirtual 184, 3)) ∧ (decode cX6_weekByDraws 53 = .ok (.aload_n 0, 1)) ∧ (decode cX6_weekByDraws 54 = .ok (.invokevirtual 226, 3)) ∧ (decode cX6_weekByDraws 57 = .ok (.ireturn, 1)) := have h := dcb_496; ⟨fd_4 h, have h := fd_t1 h; ⟨fd_42 h, have h := fd_t1 h; ⟨fd_27 h, have h := fd_t1 h; ⟨fd_4 h, have h := fd_t1 h; ⟨fd_182 h rfl, have h := fd_t3 h; ⟨fd_5 h, have h := fd_t1 h; ⟨fd_108 h, have h := fd_t1 h; ⟨fd_182 h rfl, have h := fd_t3 h; ⟨fd_42 h, have h := fd_t1 h; ⟨fd_182 h rfl, have h := fd_t3 h; fd_172 h⟩⟩⟩⟩⟩⟩⟩⟩⟩⟩
theorem dX6_weekByDraws_41 : decode cX6_weekByDraws 41 = .ok (.iconst 1, 1) := dcq_496.1
theorem dX6_weekByDraws_42 : decode cX6_weekByDraws 42 = .ok (.aload_n 0, 1) := dcq_496.2.1
theorem dX6_weekByDraws_43 : decode cX6_weekByDraws 43 = .ok (.iload_n 1, 1) := dcq_496.2.2.1
theorem dX6_weekByDraws_44 : decode cX6_weekByDraws 44 = .ok (.iconst 1, 1) := dcq_496.2.2.2.1
theorem dX6_weekByDraws_45 : decode cX6_weekByDraws 45 = .ok (.invokevirtual 191, 3) := dcq_496.2.2.2.2.1
theorem dX6_weekByDraws_48 : decode cX6_weekByDraws 48 = .ok (.iconst 2, 1) := dcq_496.2.2.2.2.2.1
theorem dX6_weekByDraws_49 : decode cX6_weekByDraws 49 = .ok (.idiv, 1) := dcq_496.2.2.2.2.2.2.1
theorem dX6_weekByDraws_50 : decode cX6_weekByDraws 50 = .ok (.invokevirtual 184, 3) := dcq_496.2.2.2.2.2.2.2.1
theorem dX6_weekByDraws_53 : decode cX6_weekByDraws 53 = .ok (.aload_n 0, 1) := dcq_496.2.2.2.2.2.2.2.2.1
theorem dX6_weekByDraws_54 : decode cX6_weekByDraws 54 = .ok (.invokevirtual 226, 3) := dcq_496.2.2.2.2.2.2.2.2.2.1
theorem dX6_weekByDraws_57 : decode cX6_weekByDraws 57 = .ok (.ireturn, 1) := dcq_496.2.2.2.2.2.2.2.2.2.2
set_option maxRecDepth 20000 in
theorem dcb_497 : fd_B cX6_week 0 [42, 182, 0, 236, 172] := fd_o cX6_week 0 _ (by decide +kernel)
theorem dcq_497 : (decode cX6_week 0 = .ok (.aload_n 0, 1)) ∧ (decode cX6_week 1 = .ok (.invokevirtual 236, 3)) ∧ (decode cX6_week 4 = .ok (.ireturn, 1)) := have h := dcb_497; ⟨fd_42 h, have h := fd_t1 h; ⟨fd_182 h rfl, have h := fd_t3 h; fd_172 h⟩⟩
theorem dX6_week_0 : decode cX6_week 0 = .ok (.aload_n 0, 1) := dcq_497.1
theorem dX6_week_1 : decode cX6_week 1 = .ok (.invokevirtual 236, 3) := dcq_497.2.1
theorem dX6_week_4 : decode cX6_week 4 = .ok (.ireturn, 1) := dcq_497.2.2
set_option maxRecDepth 20000 in
theorem dcb_498 : fd_B cX6_poor 0 [27, 4, 16, 30, 184, 0, 60, 154, 0, 5, 2, 172, 42, 180, 0, 7, 42, 180, 0, 19, 184, 0, 170] := fd_o cX6_poor 0 _ (by decide +kernel)
theorem dcq_498 : (decode cX6_poor 0 = .ok (.iload_n 1, 1)) ∧ (decode cX6_poor 1 = .ok (.iconst 1, 1)) ∧ (decode cX6_poor 2 = .ok (.bipush 30, 2)) ∧ (decode cX6_poor 4 = .ok (.invokestatic 60, 3)) ∧ (decode cX6_poor 7 = .ok (.ifCond .ne 5, 3)) ∧ (decode cX6_poor 10 = .ok (.iconst (-1), 1)) ∧ (decode cX6_poor 11 = .ok (.ireturn, 1)) ∧ (decode cX6_poor 12 = .ok (.aload_n 0, 1)) ∧ (decode cX6_poor 13 = .ok (.getfield 7, 3)) ∧ (decode cX6_poor 16 = .ok (.aload_n 0, 1)) ∧ (decode cX6_poor 17 = .ok (.getfield 19, 3)) ∧ (decode cX6_poor 20 = .ok (.invokestatic 170, 3)) := have h := dcb_498; ⟨fd_27 h, have h := fd_t1 h; ⟨fd_4 h, have h := fd_t1 h; ⟨fd_16 h (by decide +kernel), have h := fd_t2 h; ⟨fd_184 h rfl, have h := fd_t3 h; ⟨fd_154 h (by decide +kernel), have h := fd_t3 h; ⟨fd_2 h, have h := fd_t1 h; ⟨fd_172 h, have h := fd_t1 h; ⟨fd_42 h, have h := fd_t1 h; ⟨fd_180 h rfl, have h := fd_t3 h; ⟨fd_42 h, have h := fd_t1 h; ⟨fd_180 h rfl, have h := fd_t3 h; fd_184 h rfl⟩⟩⟩⟩⟩⟩⟩⟩⟩⟩⟩
theorem dX6_poor_0 : decode cX6_poor 0 = .ok (.iload_n 1, 1) := dcq_498.1
theorem dX6_poor_1 : decode cX6_poor 1 = .ok (.iconst 1, 1) := dcq_498.2.1
theorem dX6_poor_2 : decode cX6_poor 2 = .ok (.bipush 30, 2) := dcq_498.2.2.1
theorem dX6_poor_4 : decode cX6_poor 4 = .ok (.invokestatic 60, 3) := dcq_498.2.2.2.1
theorem dX6_poor_7 : decode cX6_poor 7 = .ok (.ifCond .ne 5, 3) := dcq_498.2.2.2.2.1
theorem dX6_poor_10 : decode cX6_poor 10 = .ok (.iconst (-1), 1) := dcq_498.2.2.2.2.2.1
theorem dX6_poor_11 : decode cX6_poor 11 = .ok (.ireturn, 1) := dcq_498.2.2.2.2.2.2.1
theorem dX6_poor_12 : decode cX6_poor 12 = .ok (.aload_n 0, 1) := dcq_498.2.2.2.2.2.2.2.1
theorem dX6_poor_13 : decode cX6_poor 13 = .ok (.getfield 7, 3) := dcq_498.2.2.2.2.2.2.2.2.1
theorem dX6_poor_16 : decode cX6_poor 16 = .ok (.aload_n 0, 1) := dcq_498.2.2.2.2.2.2.2.2.2.1
theorem dX6_poor_17 : decode cX6_poor 17 = .ok (.getfield 19, 3) := dcq_498.2.2.2.2.2.2.2.2.2.2.1
theorem dX6_poor_20 : decode cX6_poor 20 = .ok (.invokestatic 170, 3) := dcq_498.2.2.2.2.2.2.2.2.2.2.2
set_option maxRecDepth 20000 in
theorem dcb_499 : fd_B cX6_poor 23 [42, 4, 182, 0, 239, 61, 42, 180, 0, 7, 16, 7, 46, 62, 3, 54, 4, 3] := fd_o cX6_poor 23 _ (by decide +kernel)
theorem dcq_499 : (decode cX6_poor 23 = .ok (.aload_n 0, 1)) ∧ (decode cX6_poor 24 = .ok (.iconst 1, 1)) ∧ (decode cX6_poor 25 = .ok (.invokevirtual 239, 3)) ∧ (decode cX6_poor 28 = .ok (.istore_n 2, 1)) ∧ (decode cX6_poor 29 = .ok (.aload_n 0, 1)) ∧ (decode cX6_poor 30 = .ok (.getfield 7, 3)) ∧ (decode cX6_poor 33 = .ok (.bipush 7, 2)) ∧ (decode cX6_poor 35 = .ok (.iaload, 1)) ∧ (decode cX6_poor 36 = .ok (.istore_n 3, 1)) ∧ (decode cX6_poor 37 = .ok (.iconst 0, 1)) ∧ (decode cX6_poor 38 = .ok (.istore 4, 2)) ∧ (decode cX6_poor 40 = .ok (.iconst 0, 1)) := have h := dcb_499; ⟨fd_42 h, have h := fd_t1 h; ⟨fd_4 h, have h := fd_t1 h; ⟨fd_182 h rfl, have h := fd_t3 h; ⟨fd_61 h, have h := fd_t1 h; ⟨fd_42 h, have h := fd_t1 h; ⟨fd_180 h rfl, have h := fd_t3 h; ⟨fd_16 h (by decide +kernel), have h := fd_t2 h; ⟨fd_46 h, have h := fd_t1 h; ⟨fd_62 h, have h := fd_t1 h; ⟨fd_3 h, have h := fd_t1 h; ⟨fd_54 h rfl, have h := fd_t2 h; fd_3 h⟩⟩⟩⟩⟩⟩⟩⟩⟩⟩⟩
theorem dX6_poor_23 : decode cX6_poor 23 = .ok (.aload_n 0, 1) := dcq_499.1
theorem dX6_poor_24 : decode cX6_poor 24 = .ok (.iconst 1, 1) := dcq_499.2.1
theorem dX6_poor_25 : decode cX6_poor 25 = .ok (.invokevirtual 239, 3) := dcq_499.2.2.1
theorem dX6_poor_28 : decode cX6_poor 28 = .ok (.istore_n 2, 1) := dcq_499.2.2.2.1
theorem dX6_poor_29 : decode cX6_poor 29 = .ok (.aload_n 0, 1) := dcq_499.2.2.2.2.1
theorem dX6_poor_30 : decode cX6_poor 30 = .ok (.getfield 7, 3) := dcq_499.2.2.2.2.2.1
theorem dX6_poor_33 : decode cX6_poor 33 = .ok (.bipush 7, 2) := dcq_499.2.2.2.2.2.2.1
theorem dX6_poor_35 : decode cX6_poor 35 = .ok (.iaload, 1) := dcq_499.2.2.2.2.2.2.2.1
theorem dX6_poor_36 : decode cX6_poor 36 = .ok (.istore_n 3, 1) := dcq_499.2.2.2.2.2.2.2.2.1
theorem dX6_poor_37 : decode cX6_poor 37 = .ok (.iconst 0, 1) := dcq_499.2.2.2.2.2.2.2.2.2.1
theorem dX6_poor_38 : decode cX6_poor 38 = .ok (.istore 4, 2) := dcq_499.2.2.2.2.2.2.2.2.2.2.1
theorem dX6_poor_40 : decode cX6_poor 40 = .ok (.iconst 0, 1) := dcq_499.2.2.2.2.2.2.2.2.2.2.2
set_option maxRecDepth 20000 in
theorem dcb_500 : fd_B cX6_poor 41 [54, 5, 21, 5, 27, 162, 0, 54, 42, 180, 0, 7, 16, 7, 29, 79, 21, 4, 42, 182, 0, 236] := fd_o cX6_poor 41 _ (by decide +kernel)
theorem dcq_500 : (decode cX6_poor 41 = .ok (.istore 5, 2)) ∧ (decode cX6_poor 43 = .ok (.iload 5, 2)) ∧ (decode cX6_poor 45 = .ok (.iload_n 1, 1)) ∧ (decode cX6_poor 46 = .ok (.if_icmp .ge 54, 3)) ∧ (decode cX6_poor 49 = .ok (.aload_n 0, 1)) ∧ (decode cX6_poor 50 = .ok (.getfield 7, 3)) ∧ (decode cX6_poor 53 = .ok (.bipush 7, 2)) ∧ (decode cX6_poor 55 = .ok (.iload_n 3, 1)) ∧ (decode cX6_poor 56 = .ok (.iastore, 1)) ∧ (decode cX6_poor 57 = .ok (.iload 4, 2)) ∧ (decode cX6_poor 59 = .ok (.aload_n 0, 1)) ∧ (decode cX6_poor 60 = .ok (.invokevirtual 236, 3)) := have h := dcb_500; ⟨fd_54 h rfl, have h := fd_t2 h; ⟨fd_21 h rfl, have h := fd_t2 h; ⟨fd_27 h, have h := fd_t1 h; ⟨fd_162 h (by decide +kernel), have h := fd_t3 h; ⟨fd_42 h, have h := fd_t1 h; ⟨fd_180 h rfl, have h := fd_t3 h; ⟨fd_16 h (by decide +kernel), have h := fd_t2 h; ⟨fd_29 h, have h := fd_t1 h; ⟨fd_79 h, have h := fd_t1 h; ⟨fd_21 h rfl, have h := fd_t2 h; ⟨fd_42 h, have h := fd_t1 h; fd_182 h rfl⟩⟩⟩⟩⟩⟩⟩⟩⟩⟩⟩
theorem dX6_poor_41 : decode cX6_poor 41 = .ok (.istore 5, 2) := dcq_500.1
theorem dX6_poor_43 : decode cX6_poor 43 = .ok (.iload 5, 2) := dcq_500.2.1
theorem dX6_poor_45 : decode cX6_poor 45 = .ok (.iload_n 1, 1) := dcq_500.2.2.1
theorem dX6_poor_46 : decode cX6_poor 46 = .ok (.if_icmp .ge 54, 3) := dcq_500.2.2.2.1
theorem dX6_poor_49 : decode cX6_poor 49 = .ok (.aload_n 0, 1) := dcq_500.2.2.2.2.1
theorem dX6_poor_50 : decode cX6_poor 50 = .ok (.getfield 7, 3) := dcq_500.2.2.2.2.2.1
theorem dX6_poor_53 : decode cX6_poor 53 = .ok (.bipush 7, 2) := dcq_500.2.2.2.2.2.2.1
theorem dX6_poor_55 : decode cX6_poor 55 = .ok (.iload_n 3, 1) := dcq_500.2.2.2.2.2.2.2.1
theorem dX6_poor_56 : decode cX6_poor 56 = .ok (.iastore, 1) := dcq_500.2.2.2.2.2.2.2.2.1
theorem dX6_poor_57 : decode cX6_poor 57 = .ok (.iload 4, 2) := dcq_500.2.2.2.2.2.2.2.2.2.1
theorem dX6_poor_59 : decode cX6_poor 59 = .ok (.aload_n 0, 1) := dcq_500.2.2.2.2.2.2.2.2.2.2.1
theorem dX6_poor_60 : decode cX6_poor 60 = .ok (.invokevirtual 236, 3) := dcq_500.2.2.2.2.2.2.2.2.2.2.2
set_option maxRecDepth 20000 in
theorem dcb_501 : fd_B cX6_poor 63 [28, 162, 0, 7, 4, 167, 0, 4, 3, 96, 54, 4, 42, 180, 0, 7, 16, 7, 46, 62] := fd_o cX6_poor 63 _ (by decide +kernel)
theorem dcq_501 : (decode cX6_poor 63 = .ok (.iload_n 2, 1)) ∧ (decode cX6_poor 64 = .ok (.if_icmp .ge 7, 3)) ∧ (decode cX6_poor 67 = .ok (.iconst 1, 1)) ∧ (decode cX6_poor 68 = .ok (.goto 4, 3)) ∧ (decode cX6_poor 71 = .ok (.iconst 0, 1)) ∧ (decode cX6_poor 72 = .ok (.iadd, 1)) ∧ (decode cX6_poor 73 = .ok (.istore 4, 2)) ∧ (decode cX6_poor 75 = .ok (.aload_n 0, 1)) ∧ (decode cX6_poor 76 = .ok (.getfield 7, 3)) ∧ (decode cX6_poor 79 = .ok (.bipush 7, 2)) ∧ (decode cX6_poor 81 = .ok (.iaload, 1)) ∧ (decode cX6_poor 82 = .ok (.istore_n 3, 1)) := have h := dcb_501; ⟨fd_28 h, have h := fd_t1 h; ⟨fd_162 h (by decide +kernel), have h := fd_t3 h; ⟨fd_4 h, have h := fd_t1 h; ⟨fd_167 h (by decide +kernel), have h := fd_t3 h; ⟨fd_3 h, have h := fd_t1 h; ⟨fd_96 h, have h := fd_t1 h; ⟨fd_54 h rfl, have h := fd_t2 h; ⟨fd_42 h, have h := fd_t1 h; ⟨fd_180 h rfl, have h := fd_t3 h; ⟨fd_16 h (by decide +kernel), have h := fd_t2 h; ⟨fd_46 h, have h := fd_t1 h; fd_62 h⟩⟩⟩⟩⟩⟩⟩⟩⟩⟩⟩
theorem dX6_poor_63 : decode cX6_poor 63 = .ok (.iload_n 2, 1) := dcq_501.1
theorem dX6_poor_64 : decode cX6_poor 64 = .ok (.if_icmp .ge 7, 3) := dcq_501.2.1
theorem dX6_poor_67 : decode cX6_poor 67 = .ok (.iconst 1, 1) := dcq_501.2.2.1
theorem dX6_poor_68 : decode cX6_poor 68 = .ok (.goto 4, 3) := dcq_501.2.2.2.1
theorem dX6_poor_71 : decode cX6_poor 71 = .ok (.iconst 0, 1) := dcq_501.2.2.2.2.1
theorem dX6_poor_72 : decode cX6_poor 72 = .ok (.iadd, 1) := dcq_501.2.2.2.2.2.1
theorem dX6_poor_73 : decode cX6_poor 73 = .ok (.istore 4, 2) := dcq_501.2.2.2.2.2.2.1
theorem dX6_poor_75 : decode cX6_poor 75 = .ok (.aload_n 0, 1) := dcq_501.2.2.2.2.2.2.2.1
theorem dX6_poor_76 : decode cX6_poor 76 = .ok (.getfield 7, 3) := dcq_501.2.2.2.2.2.2.2.2.1
theorem dX6_poor_79 : decode cX6_poor 79 = .ok (.bipush 7, 2) := dcq_501.2.2.2.2.2.2.2.2.2.1
theorem dX6_poor_81 : decode cX6_poor 81 = .ok (.iaload, 1) := dcq_501.2.2.2.2.2.2.2.2.2.2.1
theorem dX6_poor_82 : decode cX6_poor 82 = .ok (.istore_n 3, 1) := dcq_501.2.2.2.2.2.2.2.2.2.2.2
set_option maxRecDepth 20000 in
theorem dcb_502 : fd_B cX6_poor 83 [42, 180, 0, 19, 42, 180, 0, 7, 184, 0, 170, 132, 5, 1, 167, 255, 202, 21, 4, 172] := fd_o cX6_poor 83 _ (by decide +kernel)
theorem dcq_502 : (decode cX6_poor 83 = .ok (.aload_n 0, 1)) ∧ (decode cX6_poor 84 = .ok (.getfield 19, 3)) ∧ (decode cX6_poor 87 = .ok (.aload_n 0, 1)) ∧ (decode cX6_poor 88 = .ok (.getfield 7, 3)) ∧ (decode cX6_poor 91 = .ok (.invokestatic 170, 3)) ∧ (decode cX6_poor 94 = .ok (.iinc 5 1, 3)) ∧ (decode cX6_poor 97 = .ok (.goto (-54), 3)) ∧ (decode cX6_poor 100 = .ok (.iload 4, 2)) ∧ (decode cX6_poor 102 = .ok (.ireturn, 1)) := have h := dcb_502; ⟨fd_42 h, have h := fd_t1 h; ⟨fd_180 h rfl, have h := fd_t3 h; ⟨fd_42 h, have h := fd_t1 h; ⟨fd_180 h rfl, have h := fd_t3 h; ⟨fd_184 h rfl, have h := fd_t3 h; ⟨fd_132 h rfl (by decide +kernel), have h := fd_t3 h; ⟨fd_167 h (by decide +kernel), have h := fd_t3 h; ⟨fd_21 h rfl, have h := fd_t2 h; fd_172 h⟩⟩⟩⟩⟩⟩⟩⟩
theorem dX6_poor_83 : decode cX6_poor 83 = .ok (.aload_n 0, 1) := dcq_502.1
theorem dX6_poor_84 : decode cX6_poor 84 = .ok (.getfield 19, 3) := dcq_502.2.1
theorem dX6_poor_87 : decode cX6_poor 87 = .ok (.aload_n 0, 1) := dcq_502.2.2.1
theorem dX6_poor_88 : decode cX6_poor 88 = .ok (.getfield 7, 3) := dcq_502.2.2.2.1
theorem dX6_poor_91 : decode cX6_poor 91 = .ok (.invokestatic 170, 3) := dcq_502.2.2.2.2.1
theorem dX6_poor_94 : decode cX6_poor 94 = .ok (.iinc 5 1, 3) := dcq_502.2.2.2.2.2.1
theorem dX6_poor_97 : decode cX6_poor 97 = .ok (.goto (-54), 3) := dcq_502.2.2.2.2.2.2.1
theorem dX6_poor_100 : decode cX6_poor 100 = .ok (.iload 4, 2) := dcq_502.2.2.2.2.2.2.2.1
theorem dX6_poor_102 : decode cX6_poor 102 = .ok (.ireturn, 1) := dcq_502.2.2.2.2.2.2.2.2
set_option maxRecDepth 20000 in
theorem dcb_503 : fd_B cX6_state 0 [27] := fd_o cX6_state 0 _ (by decide +kernel)
theorem dX6_state_0 : decode cX6_state 0 = .ok (.iload_n 1, 1) := fd_27 dcb_503
set_option maxRecDepth 20000 in
theorem dX6_state_1 : decode cX6_state 1 = .ok (.tableswitch 76 0 5 #[39, 46, 53, 59, 65, 71], 39) := by decide +kernel
set_option maxRecDepth 20000 in
theorem dcb_504 : fd_B cX6_state 40 [42, 180, 0, 7, 7, 46, 172, 42, 180, 0, 7, 8, 46, 172, 42, 8] := fd_o cX6_state 40 _ (by decide +kernel)
theorem dcq_504 : (decode cX6_state 40 = .ok (.aload_n 0, 1)) ∧ (decode cX6_state 41 = .ok (.getfield 7, 3)) ∧ (decode cX6_state 44 = .ok (.iconst 4, 1)) ∧ (decode cX6_state 45 = .ok (.iaload, 1)) ∧ (decode cX6_state 46 = .ok (.ireturn, 1)) ∧ (decode cX6_state 47 = .ok (.aload_n 0, 1)) ∧ (decode cX6_state 48 = .ok (.getfield 7, 3)) ∧ (decode cX6_state 51 = .ok (.iconst 5, 1)) ∧ (decode cX6_state 52 = .ok (.iaload, 1)) ∧ (decode cX6_state 53 = .ok (.ireturn, 1)) ∧ (decode cX6_state 54 = .ok (.aload_n 0, 1)) ∧ (decode cX6_state 55 = .ok (.iconst 5, 1)) := have h := dcb_504; ⟨fd_42 h, have h := fd_t1 h; ⟨fd_180 h rfl, have h := fd_t3 h; ⟨fd_7 h, have h := fd_t1 h; ⟨fd_46 h, have h := fd_t1 h; ⟨fd_172 h, have h := fd_t1 h; ⟨fd_42 h, have h := fd_t1 h; ⟨fd_180 h rfl, have h := fd_t3 h; ⟨fd_8 h, have h := fd_t1 h; ⟨fd_46 h, have h := fd_t1 h; ⟨fd_172 h, have h := fd_t1 h; ⟨fd_42 h, have h := fd_t1 h; fd_8 h⟩⟩⟩⟩⟩⟩⟩⟩⟩⟩⟩
theorem dX6_state_40 : decode cX6_state 40 = .ok (.aload_n 0, 1) := dcq_504.1
theorem dX6_state_41 : decode cX6_state 41 = .ok (.getfield 7, 3) := dcq_504.2.1
theorem dX6_state_44 : decode cX6_state 44 = .ok (.iconst 4, 1) := dcq_504.2.2.1
theorem dX6_state_45 : decode cX6_state 45 = .ok (.iaload, 1) := dcq_504.2.2.2.1
theorem dX6_state_46 : decode cX6_state 46 = .ok (.ireturn, 1) := dcq_504.2.2.2.2.1
theorem dX6_state_47 : decode cX6_state 47 = .ok (.aload_n 0, 1) := dcq_504.2.2.2.2.2.1
theorem dX6_state_48 : decode cX6_state 48 = .ok (.getfield 7, 3) := dcq_504.2.2.2.2.2.2.1
theorem dX6_state_51 : decode cX6_state 51 = .ok (.iconst 5, 1) := dcq_504.2.2.2.2.2.2.2.1
theorem dX6_state_52 : decode cX6_state 52 = .ok (.iaload, 1) := dcq_504.2.2.2.2.2.2.2.2.1
theorem dX6_state_53 : decode cX6_state 53 = .ok (.ireturn, 1) := dcq_504.2.2.2.2.2.2.2.2.2.1
theorem dX6_state_54 : decode cX6_state 54 = .ok (.aload_n 0, 1) := dcq_504.2.2.2.2.2.2.2.2.2.2.1
theorem dX6_state_55 : decode cX6_state 55 = .ok (.iconst 5, 1) := dcq_504.2.2.2.2.2.2.2.2.2.2.2
set_option maxRecDepth 20000 in
theorem dcb_505 : fd_B cX6_state 56 [182, 0, 229, 172, 42, 6, 182, 0, 229, 172, 42, 4, 182, 0, 229, 172, 42, 182, 0, 242] := fd_o cX6_state 56 _ (by decide +kernel)
theorem dcq_505 : (decode cX6_state 56 = .ok (.invokevirtual 229, 3)) ∧ (decode cX6_state 59 = .ok (.ireturn, 1)) ∧ (decode cX6_state 60 = .ok (.aload_n 0, 1)) ∧ (decode cX6_state 61 = .ok (.iconst 3, 1)) ∧ (decode cX6_state 62 = .ok (.invokevirtual 229, 3)) ∧ (decode cX6_state 65 = .ok (.ireturn, 1)) ∧ (decode cX6_state 66 = .ok (.aload_n 0, 1)) ∧ (decode cX6_state 67 = .ok (.iconst 1, 1)) ∧ (decode cX6_state 68 = .ok (.invokevirtual 229, 3)) ∧ (decode cX6_state 71 = .ok (.ireturn, 1)) ∧ (decode cX6_state 72 = .ok (.aload_n 0, 1)) ∧ (decode cX6_state 73 = .ok (.invokevirtual 242, 3)) := have h := dcb_505; ⟨fd_182 h rfl, have h := fd_t3 h; ⟨fd_172 h, have h := fd_t1 h; ⟨fd_42 h, have h := fd_t1 h; ⟨fd_6 h, have h := fd_t1 h; ⟨fd_182 h rfl, have h := fd_t3 h; ⟨fd_172 h, have h := fd_t1 h; ⟨fd_42 h, have h := fd_t1 h; ⟨fd_4 h, have h := fd_t1 h; ⟨fd_182 h rfl, have h := fd_t3 h; ⟨fd_172 h, have h := fd_t1 h; ⟨fd_42 h, have h := fd_t1 h; fd_182 h rfl⟩⟩⟩⟩⟩⟩⟩⟩⟩⟩⟩
theorem dX6_state_56 : decode cX6_state 56 = .ok (.invokevirtual 229, 3) := dcq_505.1
theorem dX6_state_59 : decode cX6_state 59 = .ok (.ireturn, 1) := dcq_505.2.1
theorem dX6_state_60 : decode cX6_state 60 = .ok (.aload_n 0, 1) := dcq_505.2.2.1
theorem dX6_state_61 : decode cX6_state 61 = .ok (.iconst 3, 1) := dcq_505.2.2.2.1
theorem dX6_state_62 : decode cX6_state 62 = .ok (.invokevirtual 229, 3) := dcq_505.2.2.2.2.1
theorem dX6_state_65 : decode cX6_state 65 = .ok (.ireturn, 1) := dcq_505.2.2.2.2.2.1
theorem dX6_state_66 : decode cX6_state 66 = .ok (.aload_n 0, 1) := dcq_505.2.2.2.2.2.2.1
theorem dX6_state_67 : decode cX6_state 67 = .ok (.iconst 1, 1) := dcq_505.2.2.2.2.2.2.2.1
theorem dX6_state_68 : decode cX6_state 68 = .ok (.invokevirtual 229, 3) := dcq_505.2.2.2.2.2.2.2.2.1
theorem dX6_state_71 : decode cX6_state 71 = .ok (.ireturn, 1) := dcq_505.2.2.2.2.2.2.2.2.2.1
theorem dX6_state_72 : decode cX6_state 72 = .ok (.aload_n 0, 1) := dcq_505.2.2.2.2.2.2.2.2.2.2.1
theorem dX6_state_73 : decode cX6_state 73 = .ok (.invokevirtual 242, 3) := dcq_505.2.2.2.2.2.2.2.2.2.2.2
set_option maxRecDepth 20000 in
theorem dcb_506 : fd_B cX6_state 76 [172, 2, 172] := fd_o cX6_state 76 _ (by decide +kernel)
theorem dcq_506 : (decode cX6_state 76 = .ok (.ireturn, 1)) ∧ (decode cX6_state 77 = .ok (.iconst (-1), 1)) ∧ (decode cX6_state 78 = .ok (.ireturn, 1)) := have h := dcb_506; ⟨fd_172 h, have h := fd_t1 h; ⟨fd_2 h, have h := fd_t1 h; fd_172 h⟩⟩
theorem dX6_state_76 : decode cX6_state 76 = .ok (.ireturn, 1) := dcq_506.1
theorem dX6_state_77 : decode cX6_state 77 = .ok (.iconst (-1), 1) := dcq_506.2.1
theorem dX6_state_78 : decode cX6_state 78 = .ok (.ireturn, 1) := dcq_506.2.2
set_option maxRecDepth 20000 in
theorem dcb_507 : fd_B cX6_wordsBehind 0 [3, 61, 3, 62, 29, 27, 162, 0, 16, 28, 42, 182, 0, 226, 96, 61] := fd_o cX6_wordsBehind 0 _ (by decide +kernel)
theorem dcq_507 : (decode cX6_wordsBehind 0 = .ok (.iconst 0, 1)) ∧ (decode cX6_wordsBehind 1 = .ok (.istore_n 2, 1)) ∧ (decode cX6_wordsBehind 2 = .ok (.iconst 0, 1)) ∧ (decode cX6_wordsBehind 3 = .ok (.istore_n 3, 1)) ∧ (decode cX6_wordsBehind 4 = .ok (.iload_n 3, 1)) ∧ (decode cX6_wordsBehind 5 = .ok (.iload_n 1, 1)) ∧ (decode cX6_wordsBehind 6 = .ok (.if_icmp .ge 16, 3)) ∧ (decode cX6_wordsBehind 9 = .ok (.iload_n 2, 1)) ∧ (decode cX6_wordsBehind 10 = .ok (.aload_n 0, 1)) ∧ (decode cX6_wordsBehind 11 = .ok (.invokevirtual 226, 3)) ∧ (decode cX6_wordsBehind 14 = .ok (.iadd, 1)) ∧ (decode cX6_wordsBehind 15 = .ok (.istore_n 2, 1)) := have h := dcb_507; ⟨fd_3 h, have h := fd_t1 h; ⟨fd_61 h, have h := fd_t1 h; ⟨fd_3 h, have h := fd_t1 h; ⟨fd_62 h, have h := fd_t1 h; ⟨fd_29 h, have h := fd_t1 h; ⟨fd_27 h, have h := fd_t1 h; ⟨fd_162 h (by decide +kernel), have h := fd_t3 h; ⟨fd_28 h, have h := fd_t1 h; ⟨fd_42 h, have h := fd_t1 h; ⟨fd_182 h rfl, have h := fd_t3 h; ⟨fd_96 h, have h := fd_t1 h; fd_61 h⟩⟩⟩⟩⟩⟩⟩⟩⟩⟩⟩
theorem dX6_wordsBehind_0 : decode cX6_wordsBehind 0 = .ok (.iconst 0, 1) := dcq_507.1
theorem dX6_wordsBehind_1 : decode cX6_wordsBehind 1 = .ok (.istore_n 2, 1) := dcq_507.2.1
theorem dX6_wordsBehind_2 : decode cX6_wordsBehind 2 = .ok (.iconst 0, 1) := dcq_507.2.2.1
theorem dX6_wordsBehind_3 : decode cX6_wordsBehind 3 = .ok (.istore_n 3, 1) := dcq_507.2.2.2.1
theorem dX6_wordsBehind_4 : decode cX6_wordsBehind 4 = .ok (.iload_n 3, 1) := dcq_507.2.2.2.2.1
theorem dX6_wordsBehind_5 : decode cX6_wordsBehind 5 = .ok (.iload_n 1, 1) := dcq_507.2.2.2.2.2.1
theorem dX6_wordsBehind_6 : decode cX6_wordsBehind 6 = .ok (.if_icmp .ge 16, 3) := dcq_507.2.2.2.2.2.2.1
theorem dX6_wordsBehind_9 : decode cX6_wordsBehind 9 = .ok (.iload_n 2, 1) := dcq_507.2.2.2.2.2.2.2.1
theorem dX6_wordsBehind_10 : decode cX6_wordsBehind 10 = .ok (.aload_n 0, 1) := dcq_507.2.2.2.2.2.2.2.2.1
theorem dX6_wordsBehind_11 : decode cX6_wordsBehind 11 = .ok (.invokevirtual 226, 3) := dcq_507.2.2.2.2.2.2.2.2.2.1
theorem dX6_wordsBehind_14 : decode cX6_wordsBehind 14 = .ok (.iadd, 1) := dcq_507.2.2.2.2.2.2.2.2.2.2.1
theorem dX6_wordsBehind_15 : decode cX6_wordsBehind 15 = .ok (.istore_n 2, 1) := dcq_507.2.2.2.2.2.2.2.2.2.2.2
set_option maxRecDepth 20000 in
theorem dcb_508 : fd_B cX6_wordsBehind 16 [132, 3, 1, 167, 255, 241, 42, 180, 0, 19, 42, 180, 0, 7, 184, 0, 170, 28, 172] := fd_o cX6_wordsBehind 16 _ (by decide +kernel)
theorem dcq_508 : (decode cX6_wordsBehind 16 = .ok (.iinc 3 1, 3)) ∧ (decode cX6_wordsBehind 19 = .ok (.goto (-15), 3)) ∧ (decode cX6_wordsBehind 22 = .ok (.aload_n 0, 1)) ∧ (decode cX6_wordsBehind 23 = .ok (.getfield 19, 3)) ∧ (decode cX6_wordsBehind 26 = .ok (.aload_n 0, 1)) ∧ (decode cX6_wordsBehind 27 = .ok (.getfield 7, 3)) ∧ (decode cX6_wordsBehind 30 = .ok (.invokestatic 170, 3)) ∧ (decode cX6_wordsBehind 33 = .ok (.iload_n 2, 1)) ∧ (decode cX6_wordsBehind 34 = .ok (.ireturn, 1)) := have h := dcb_508; ⟨fd_132 h rfl (by decide +kernel), have h := fd_t3 h; ⟨fd_167 h (by decide +kernel), have h := fd_t3 h; ⟨fd_42 h, have h := fd_t1 h; ⟨fd_180 h rfl, have h := fd_t3 h; ⟨fd_42 h, have h := fd_t1 h; ⟨fd_180 h rfl, have h := fd_t3 h; ⟨fd_184 h rfl, have h := fd_t3 h; ⟨fd_28 h, have h := fd_t1 h; fd_172 h⟩⟩⟩⟩⟩⟩⟩⟩
theorem dX6_wordsBehind_16 : decode cX6_wordsBehind 16 = .ok (.iinc 3 1, 3) := dcq_508.1
theorem dX6_wordsBehind_19 : decode cX6_wordsBehind 19 = .ok (.goto (-15), 3) := dcq_508.2.1
theorem dX6_wordsBehind_22 : decode cX6_wordsBehind 22 = .ok (.aload_n 0, 1) := dcq_508.2.2.1
theorem dX6_wordsBehind_23 : decode cX6_wordsBehind 23 = .ok (.getfield 19, 3) := dcq_508.2.2.2.1
theorem dX6_wordsBehind_26 : decode cX6_wordsBehind 26 = .ok (.aload_n 0, 1) := dcq_508.2.2.2.2.1
theorem dX6_wordsBehind_27 : decode cX6_wordsBehind 27 = .ok (.getfield 7, 3) := dcq_508.2.2.2.2.2.1
theorem dX6_wordsBehind_30 : decode cX6_wordsBehind 30 = .ok (.invokestatic 170, 3) := dcq_508.2.2.2.2.2.2.1
theorem dX6_wordsBehind_33 : decode cX6_wordsBehind 33 = .ok (.iload_n 2, 1) := dcq_508.2.2.2.2.2.2.2.1
theorem dX6_wordsBehind_34 : decode cX6_wordsBehind 34 = .ok (.ireturn, 1) := dcq_508.2.2.2.2.2.2.2.2
set_option maxRecDepth 20000 in
theorem dcb_509 : fd_B cX6_words 0 [27, 3, 16, 60, 184, 0, 60, 154, 0, 5, 2, 172, 42, 180, 0, 7, 42, 180, 0, 19, 184, 0, 170] := fd_o cX6_words 0 _ (by decide +kernel)
theorem dcq_509 : (decode cX6_words 0 = .ok (.iload_n 1, 1)) ∧ (decode cX6_words 1 = .ok (.iconst 0, 1)) ∧ (decode cX6_words 2 = .ok (.bipush 60, 2)) ∧ (decode cX6_words 4 = .ok (.invokestatic 60, 3)) ∧ (decode cX6_words 7 = .ok (.ifCond .ne 5, 3)) ∧ (decode cX6_words 10 = .ok (.iconst (-1), 1)) ∧ (decode cX6_words 11 = .ok (.ireturn, 1)) ∧ (decode cX6_words 12 = .ok (.aload_n 0, 1)) ∧ (decode cX6_words 13 = .ok (.getfield 7, 3)) ∧ (decode cX6_words 16 = .ok (.aload_n 0, 1)) ∧ (decode cX6_words 17 = .ok (.getfield 19, 3)) ∧ (decode cX6_words 20 = .ok (.invokestatic 170, 3)) := have h := dcb_509; ⟨fd_27 h, have h := fd_t1 h; ⟨fd_3 h, have h := fd_t1 h; ⟨fd_16 h (by decide +kernel), have h := fd_t2 h; ⟨fd_184 h rfl, have h := fd_t3 h; ⟨fd_154 h (by decide +kernel), have h := fd_t3 h; ⟨fd_2 h, have h := fd_t1 h; ⟨fd_172 h, have h := fd_t1 h; ⟨fd_42 h, have h := fd_t1 h; ⟨fd_180 h rfl, have h := fd_t3 h; ⟨fd_42 h, have h := fd_t1 h; ⟨fd_180 h rfl, have h := fd_t3 h; fd_184 h rfl⟩⟩⟩⟩⟩⟩⟩⟩⟩⟩⟩
theorem dX6_words_0 : decode cX6_words 0 = .ok (.iload_n 1, 1) := dcq_509.1
theorem dX6_words_1 : decode cX6_words 1 = .ok (.iconst 0, 1) := dcq_509.2.1
theorem dX6_words_2 : decode cX6_words 2 = .ok (.bipush 60, 2) := dcq_509.2.2.1
theorem dX6_words_4 : decode cX6_words 4 = .ok (.invokestatic 60, 3) := dcq_509.2.2.2.1
theorem dX6_words_7 : decode cX6_words 7 = .ok (.ifCond .ne 5, 3) := dcq_509.2.2.2.2.1
theorem dX6_words_10 : decode cX6_words 10 = .ok (.iconst (-1), 1) := dcq_509.2.2.2.2.2.1
theorem dX6_words_11 : decode cX6_words 11 = .ok (.ireturn, 1) := dcq_509.2.2.2.2.2.2.1
theorem dX6_words_12 : decode cX6_words 12 = .ok (.aload_n 0, 1) := dcq_509.2.2.2.2.2.2.2.1
theorem dX6_words_13 : decode cX6_words 13 = .ok (.getfield 7, 3) := dcq_509.2.2.2.2.2.2.2.2.1
theorem dX6_words_16 : decode cX6_words 16 = .ok (.aload_n 0, 1) := dcq_509.2.2.2.2.2.2.2.2.2.1
theorem dX6_words_17 : decode cX6_words 17 = .ok (.getfield 19, 3) := dcq_509.2.2.2.2.2.2.2.2.2.2.1
theorem dX6_words_20 : decode cX6_words 20 = .ok (.invokestatic 170, 3) := dcq_509.2.2.2.2.2.2.2.2.2.2.2
set_option maxRecDepth 20000 in
theorem dcb_510 : fd_B cX6_words 23 [42, 27, 182, 0, 239, 172] := fd_o cX6_words 23 _ (by decide +kernel)
theorem dcq_510 : (decode cX6_words 23 = .ok (.aload_n 0, 1)) ∧ (decode cX6_words 24 = .ok (.iload_n 1, 1)) ∧ (decode cX6_words 25 = .ok (.invokevirtual 239, 3)) ∧ (decode cX6_words 28 = .ok (.ireturn, 1)) := have h := dcb_510; ⟨fd_42 h, have h := fd_t1 h; ⟨fd_27 h, have h := fd_t1 h; ⟨fd_182 h rfl, have h := fd_t3 h; fd_172 h⟩⟩⟩
theorem dX6_words_23 : decode cX6_words 23 = .ok (.aload_n 0, 1) := dcq_510.1
theorem dX6_words_24 : decode cX6_words 24 = .ok (.iload_n 1, 1) := dcq_510.2.1
theorem dX6_words_25 : decode cX6_words 25 = .ok (.invokevirtual 239, 3) := dcq_510.2.2.1
theorem dX6_words_28 : decode cX6_words 28 = .ok (.ireturn, 1) := dcq_510.2.2.2
set_option maxRecDepth 20000 in
theorem dcb_511 : fd_B cX6_gets 0 [42, 27, 182, 0, 188, 154, 0, 5, 2, 172, 42, 180, 0, 7, 42, 180, 0, 19, 184, 0, 170, 42] := fd_o cX6_gets 0 _ (by decide +kernel)
theorem dcq_511 : (decode cX6_gets 0 = .ok (.aload_n 0, 1)) ∧ (decode cX6_gets 1 = .ok (.iload_n 1, 1)) ∧ (decode cX6_gets 2 = .ok (.invokevirtual 188, 3)) ∧ (decode cX6_gets 5 = .ok (.ifCond .ne 5, 3)) ∧ (decode cX6_gets 8 = .ok (.iconst (-1), 1)) ∧ (decode cX6_gets 9 = .ok (.ireturn, 1)) ∧ (decode cX6_gets 10 = .ok (.aload_n 0, 1)) ∧ (decode cX6_gets 11 = .ok (.getfield 7, 3)) ∧ (decode cX6_gets 14 = .ok (.aload_n 0, 1)) ∧ (decode cX6_gets 15 = .ok (.getfield 19, 3)) ∧ (decode cX6_gets 18 = .ok (.invokestatic 170, 3)) ∧ (decode cX6_gets 21 = .ok (.aload_n 0, 1)) := have h := dcb_511; ⟨fd_42 h, have h := fd_t1 h; ⟨fd_27 h, have h := fd_t1 h; ⟨fd_182 h rfl, have h := fd_t3 h; ⟨fd_154 h (by decide +kernel), have h := fd_t3 h; ⟨fd_2 h, have h := fd_t1 h; ⟨fd_172 h, have h := fd_t1 h; ⟨fd_42 h, have h := fd_t1 h; ⟨fd_180 h rfl, have h := fd_t3 h; ⟨fd_42 h, have h := fd_t1 h; ⟨fd_180 h rfl, have h := fd_t3 h; ⟨fd_184 h rfl, have h := fd_t3 h; fd_42 h⟩⟩⟩⟩⟩⟩⟩⟩⟩⟩⟩
theorem dX6_gets_0 : decode cX6_gets 0 = .ok (.aload_n 0, 1) := dcq_511.1
theorem dX6_gets_1 : decode cX6_gets 1 = .ok (.iload_n 1, 1) := dcq_511.2.1
theorem dX6_gets_2 : decode cX6_gets 2 = .ok (.invokevirtual 188, 3) := dcq_511.2.2.1
theorem dX6_gets_5 : decode cX6_gets 5 = .ok (.ifCond .ne 5, 3) := dcq_511.2.2.2.1
theorem dX6_gets_8 : decode cX6_gets 8 = .ok (.iconst (-1), 1) := dcq_511.2.2.2.2.1
theorem dX6_gets_9 : decode cX6_gets 9 = .ok (.ireturn, 1) := dcq_511.2.2.2.2.2.1
theorem dX6_gets_10 : decode cX6_gets 10 = .ok (.aload_n 0, 1) := dcq_511.2.2.2.2.2.2.1
theorem dX6_gets_11 : decode cX6_gets 11 = .ok (.getfield 7, 3) := dcq_511.2.2.2.2.2.2.2.1
theorem dX6_gets_14 : decode cX6_gets 14 = .ok (.aload_n 0, 1) := dcq_511.2.2.2.2.2.2.2.2.1
theorem dX6_gets_15 : decode cX6_gets 15 = .ok (.getfield 19, 3) := dcq_511.2.2.2.2.2.2.2.2.2.1
theorem dX6_gets_18 : decode cX6_gets 18 = .ok (.invokestatic 170, 3) := dcq_511.2.2.2.2.2.2.2.2.2.2.1
theorem dX6_gets_21 : decode cX6_gets 21 = .ok (.aload_n 0, 1) := dcq_511.2.2.2.2.2.2.2.2.2.2.2
set_option maxRecDepth 20000 in
theorem dcb_512 : fd_B cX6_gets 22 [27, 7, 182, 0, 191, 61, 3, 62, 29, 16, 60, 163, 0, 24, 42, 27, 7] := fd_o cX6_gets 22 _ (by decide +kernel)
theorem dcq_512 : (decode cX6_gets 22 = .ok (.iload_n 1, 1)) ∧ (decode cX6_gets 23 = .ok (.iconst 4, 1)) ∧ (decode cX6_gets 24 = .ok (.invokevirtual 191, 3)) ∧ (decode cX6_gets 27 = .ok (.istore_n 2, 1)) ∧ (decode cX6_gets 28 = .ok (.iconst 0, 1)) ∧ (decode cX6_gets 29 = .ok (.istore_n 3, 1)) ∧ (decode cX6_gets 30 = .ok (.iload_n 3, 1)) ∧ (decode cX6_gets 31 = .ok (.bipush 60, 2)) ∧ (decode cX6_gets 33 = .ok (.if_icmp .gt 24, 3)) ∧ (decode cX6_gets 36 = .ok (.aload_n 0, 1)) ∧ (decode cX6_gets 37 = .ok (.iload_n 1, 1)) ∧ (decode cX6_gets 38 = .ok (.iconst 4, 1)) := have h := dcb_512; ⟨fd_27 h, have h := fd_t1 h; ⟨fd_7 h, have h := fd_t1 h; ⟨fd_182 h rfl, have h := fd_t3 h; ⟨fd_61 h, have h := fd_t1 h; ⟨fd_3 h, have h := fd_t1 h; ⟨fd_62 h, have h := fd_t1 h; ⟨fd_29 h, have h := fd_t1 h; ⟨fd_16 h (by decide +kernel), have h := fd_t2 h; ⟨fd_163 h (by decide +kernel), have h := fd_t3 h; ⟨fd_42 h, have h := fd_t1 h; ⟨fd_27 h, have h := fd_t1 h; fd_7 h⟩⟩⟩⟩⟩⟩⟩⟩⟩⟩⟩
theorem dX6_gets_22 : decode cX6_gets 22 = .ok (.iload_n 1, 1) := dcq_512.1
theorem dX6_gets_23 : decode cX6_gets 23 = .ok (.iconst 4, 1) := dcq_512.2.1
theorem dX6_gets_24 : decode cX6_gets 24 = .ok (.invokevirtual 191, 3) := dcq_512.2.2.1
theorem dX6_gets_27 : decode cX6_gets 27 = .ok (.istore_n 2, 1) := dcq_512.2.2.2.1
theorem dX6_gets_28 : decode cX6_gets 28 = .ok (.iconst 0, 1) := dcq_512.2.2.2.2.1
theorem dX6_gets_29 : decode cX6_gets 29 = .ok (.istore_n 3, 1) := dcq_512.2.2.2.2.2.1
theorem dX6_gets_30 : decode cX6_gets 30 = .ok (.iload_n 3, 1) := dcq_512.2.2.2.2.2.2.1
theorem dX6_gets_31 : decode cX6_gets 31 = .ok (.bipush 60, 2) := dcq_512.2.2.2.2.2.2.2.1
theorem dX6_gets_33 : decode cX6_gets 33 = .ok (.if_icmp .gt 24, 3) := dcq_512.2.2.2.2.2.2.2.2.1
theorem dX6_gets_36 : decode cX6_gets 36 = .ok (.aload_n 0, 1) := dcq_512.2.2.2.2.2.2.2.2.2.1
theorem dX6_gets_37 : decode cX6_gets 37 = .ok (.iload_n 1, 1) := dcq_512.2.2.2.2.2.2.2.2.2.2.1
theorem dX6_gets_38 : decode cX6_gets 38 = .ok (.iconst 4, 1) := dcq_512.2.2.2.2.2.2.2.2.2.2.2
set_option maxRecDepth 20000 in
theorem dcb_513 : fd_B cX6_gets 39 [182, 0, 191, 28, 160, 0, 14, 42, 182, 0, 226, 87, 132, 3, 1, 167, 255, 232, 42, 180, 0, 19, 42, 180, 0, 7] := fd_o cX6_gets 39 _ (by decide +kernel)
theorem dcq_513 : (decode cX6_gets 39 = .ok (.invokevirtual 191, 3)) ∧ (decode cX6_gets 42 = .ok (.iload_n 2, 1)) ∧ (decode cX6_gets 43 = .ok (.if_icmp .ne 14, 3)) ∧ (decode cX6_gets 46 = .ok (.aload_n 0, 1)) ∧ (decode cX6_gets 47 = .ok (.invokevirtual 226, 3)) ∧ (decode cX6_gets 50 = .ok (.pop, 1)) ∧ (decode cX6_gets 51 = .ok (.iinc 3 1, 3)) ∧ (decode cX6_gets 54 = .ok (.goto (-24), 3)) ∧ (decode cX6_gets 57 = .ok (.aload_n 0, 1)) ∧ (decode cX6_gets 58 = .ok (.getfield 19, 3)) ∧ (decode cX6_gets 61 = .ok (.aload_n 0, 1)) ∧ (decode cX6_gets 62 = .ok (.getfield 7, 3)) := have h := dcb_513; ⟨fd_182 h rfl, have h := fd_t3 h; ⟨fd_28 h, have h := fd_t1 h; ⟨fd_160 h (by decide +kernel), have h := fd_t3 h; ⟨fd_42 h, have h := fd_t1 h; ⟨fd_182 h rfl, have h := fd_t3 h; ⟨fd_87 h, have h := fd_t1 h; ⟨fd_132 h rfl (by decide +kernel), have h := fd_t3 h; ⟨fd_167 h (by decide +kernel), have h := fd_t3 h; ⟨fd_42 h, have h := fd_t1 h; ⟨fd_180 h rfl, have h := fd_t3 h; ⟨fd_42 h, have h := fd_t1 h; fd_180 h rfl⟩⟩⟩⟩⟩⟩⟩⟩⟩⟩⟩
theorem dX6_gets_39 : decode cX6_gets 39 = .ok (.invokevirtual 191, 3) := dcq_513.1
theorem dX6_gets_42 : decode cX6_gets 42 = .ok (.iload_n 2, 1) := dcq_513.2.1
theorem dX6_gets_43 : decode cX6_gets 43 = .ok (.if_icmp .ne 14, 3) := dcq_513.2.2.1
theorem dX6_gets_46 : decode cX6_gets 46 = .ok (.aload_n 0, 1) := dcq_513.2.2.2.1
theorem dX6_gets_47 : decode cX6_gets 47 = .ok (.invokevirtual 226, 3) := dcq_513.2.2.2.2.1
theorem dX6_gets_50 : decode cX6_gets 50 = .ok (.pop, 1) := dcq_513.2.2.2.2.2.1
theorem dX6_gets_51 : decode cX6_gets 51 = .ok (.iinc 3 1, 3) := dcq_513.2.2.2.2.2.2.1
theorem dX6_gets_54 : decode cX6_gets 54 = .ok (.goto (-24), 3) := dcq_513.2.2.2.2.2.2.2.1
theorem dX6_gets_57 : decode cX6_gets 57 = .ok (.aload_n 0, 1) := dcq_513.2.2.2.2.2.2.2.2.1
theorem dX6_gets_58 : decode cX6_gets 58 = .ok (.getfield 19, 3) := dcq_513.2.2.2.2.2.2.2.2.2.1
theorem dX6_gets_61 : decode cX6_gets 61 = .ok (.aload_n 0, 1) := dcq_513.2.2.2.2.2.2.2.2.2.2.1
theorem dX6_gets_62 : decode cX6_gets 62 = .ok (.getfield 7, 3) := dcq_513.2.2.2.2.2.2.2.2.2.2.2
set_option maxRecDepth 20000 in
theorem dcb_514 : fd_B cX6_gets 65 [184, 0, 170, 29, 16, 60, 164, 0, 8, 16, 253, 167, 0, 4, 29, 172] := fd_o cX6_gets 65 _ (by decide +kernel)
theorem dcq_514 : (decode cX6_gets 65 = .ok (.invokestatic 170, 3)) ∧ (decode cX6_gets 68 = .ok (.iload_n 3, 1)) ∧ (decode cX6_gets 69 = .ok (.bipush 60, 2)) ∧ (decode cX6_gets 71 = .ok (.if_icmp .le 8, 3)) ∧ (decode cX6_gets 74 = .ok (.bipush (-3), 2)) ∧ (decode cX6_gets 76 = .ok (.goto 4, 3)) ∧ (decode cX6_gets 79 = .ok (.iload_n 3, 1)) ∧ (decode cX6_gets 80 = .ok (.ireturn, 1)) := have h := dcb_514; ⟨fd_184 h rfl, have h := fd_t3 h; ⟨fd_29 h, have h := fd_t1 h; ⟨fd_16 h (by decide +kernel), have h := fd_t2 h; ⟨fd_164 h (by decide +kernel), have h := fd_t3 h; ⟨fd_16 h (by decide +kernel), have h := fd_t2 h; ⟨fd_167 h (by decide +kernel), have h := fd_t3 h; ⟨fd_29 h, have h := fd_t1 h; fd_172 h⟩⟩⟩⟩⟩⟩⟩
theorem dX6_gets_65 : decode cX6_gets 65 = .ok (.invokestatic 170, 3) := dcq_514.1
theorem dX6_gets_68 : decode cX6_gets 68 = .ok (.iload_n 3, 1) := dcq_514.2.1
theorem dX6_gets_69 : decode cX6_gets 69 = .ok (.bipush 60, 2) := dcq_514.2.2.1
theorem dX6_gets_71 : decode cX6_gets 71 = .ok (.if_icmp .le 8, 3) := dcq_514.2.2.2.1
theorem dX6_gets_74 : decode cX6_gets 74 = .ok (.bipush (-3), 2) := dcq_514.2.2.2.2.1
theorem dX6_gets_76 : decode cX6_gets 76 = .ok (.goto 4, 3) := dcq_514.2.2.2.2.2.1
theorem dX6_gets_79 : decode cX6_gets 79 = .ok (.iload_n 3, 1) := dcq_514.2.2.2.2.2.2.1
theorem dX6_gets_80 : decode cX6_gets 80 = .ok (.ireturn, 1) := dcq_514.2.2.2.2.2.2.2
set_option maxRecDepth 20000 in
theorem dcb_515 : fd_B cX6_idle 0 [42, 180, 0, 7, 42, 180, 0, 19, 184, 0, 170, 3, 60, 27, 16, 60, 163, 0, 22, 42, 6] := fd_o cX6_idle 0 _ (by decide +kernel)
theorem dcq_515 : (decode cX6_idle 0 = .ok (.aload_n 0, 1)) ∧ (decode cX6_idle 1 = .ok (.getfield 7, 3)) ∧ (decode cX6_idle 4 = .ok (.aload_n 0, 1)) ∧ (decode cX6_idle 5 = .ok (.getfield 19, 3)) ∧ (decode cX6_idle 8 = .ok (.invokestatic 170, 3)) ∧ (decode cX6_idle 11 = .ok (.iconst 0, 1)) ∧ (decode cX6_idle 12 = .ok (.istore_n 1, 1)) ∧ (decode cX6_idle 13 = .ok (.iload_n 1, 1)) ∧ (decode cX6_idle 14 = .ok (.bipush 60, 2)) ∧ (decode cX6_idle 16 = .ok (.if_icmp .gt 22, 3)) ∧ (decode cX6_idle 19 = .ok (.aload_n 0, 1)) ∧ (decode cX6_idle 20 = .ok (.iconst 3, 1)) := have h := dcb_515; ⟨fd_42 h, have h := fd_t1 h; ⟨fd_180 h rfl, have h := fd_t3 h; ⟨fd_42 h, have h := fd_t1 h; ⟨fd_180 h rfl, have h := fd_t3 h; ⟨fd_184 h rfl, have h := fd_t3 h; ⟨fd_3 h, have h := fd_t1 h; ⟨fd_60 h, have h := fd_t1 h; ⟨fd_27 h, have h := fd_t1 h; ⟨fd_16 h (by decide +kernel), have h := fd_t2 h; ⟨fd_163 h (by decide +kernel), have h := fd_t3 h; ⟨fd_42 h, have h := fd_t1 h; fd_6 h⟩⟩⟩⟩⟩⟩⟩⟩⟩⟩⟩
theorem dX6_idle_0 : decode cX6_idle 0 = .ok (.aload_n 0, 1) := dcq_515.1
theorem dX6_idle_1 : decode cX6_idle 1 = .ok (.getfield 7, 3) := dcq_515.2.1
theorem dX6_idle_4 : decode cX6_idle 4 = .ok (.aload_n 0, 1) := dcq_515.2.2.1
theorem dX6_idle_5 : decode cX6_idle 5 = .ok (.getfield 19, 3) := dcq_515.2.2.2.1
theorem dX6_idle_8 : decode cX6_idle 8 = .ok (.invokestatic 170, 3) := dcq_515.2.2.2.2.1
theorem dX6_idle_11 : decode cX6_idle 11 = .ok (.iconst 0, 1) := dcq_515.2.2.2.2.2.1
theorem dX6_idle_12 : decode cX6_idle 12 = .ok (.istore_n 1, 1) := dcq_515.2.2.2.2.2.2.1
theorem dX6_idle_13 : decode cX6_idle 13 = .ok (.iload_n 1, 1) := dcq_515.2.2.2.2.2.2.2.1
theorem dX6_idle_14 : decode cX6_idle 14 = .ok (.bipush 60, 2) := dcq_515.2.2.2.2.2.2.2.2.1
theorem dX6_idle_16 : decode cX6_idle 16 = .ok (.if_icmp .gt 22, 3) := dcq_515.2.2.2.2.2.2.2.2.2.1
theorem dX6_idle_19 : decode cX6_idle 19 = .ok (.aload_n 0, 1) := dcq_515.2.2.2.2.2.2.2.2.2.2.1
theorem dX6_idle_20 : decode cX6_idle 20 = .ok (.iconst 3, 1) := dcq_515.2.2.2.2.2.2.2.2.2.2.2
set_option maxRecDepth 20000 in
theorem dcb_516 : fd_B cX6_idle 21 [182, 0, 229, 158, 0, 14, 42, 182, 0, 226, 87, 132, 1, 1, 167, 255, 234, 42, 180, 0, 19, 42, 180, 0, 7, 184, 0, 170] := fd_o cX6_idle 21 _ (by decide +kernel)
theorem dcq_516 : (decode cX6_idle 21 = .ok (.invokevirtual 229, 3)) ∧ (decode cX6_idle 24 = .ok (.ifCond .le 14, 3)) ∧ (decode cX6_idle 27 = .ok (.aload_n 0, 1)) ∧ (decode cX6_idle 28 = .ok (.invokevirtual 226, 3)) ∧ (decode cX6_idle 31 = .ok (.pop, 1)) ∧ (decode cX6_idle 32 = .ok (.iinc 1 1, 3)) ∧ (decode cX6_idle 35 = .ok (.goto (-22), 3)) ∧ (decode cX6_idle 38 = .ok (.aload_n 0, 1)) ∧ (decode cX6_idle 39 = .ok (.getfield 19, 3)) ∧ (decode cX6_idle 42 = .ok (.aload_n 0, 1)) ∧ (decode cX6_idle 43 = .ok (.getfield 7, 3)) ∧ (decode cX6_idle 46 = .ok (.invokestatic 170, 3)) := have h := dcb_516; ⟨fd_182 h rfl, have h := fd_t3 h; ⟨fd_158 h (by decide +kernel), have h := fd_t3 h; ⟨fd_42 h, have h := fd_t1 h; ⟨fd_182 h rfl, have h := fd_t3 h; ⟨fd_87 h, have h := fd_t1 h; ⟨fd_132 h rfl (by decide +kernel), have h := fd_t3 h; ⟨fd_167 h (by decide +kernel), have h := fd_t3 h; ⟨fd_42 h, have h := fd_t1 h; ⟨fd_180 h rfl, have h := fd_t3 h; ⟨fd_42 h, have h := fd_t1 h; ⟨fd_180 h rfl, have h := fd_t3 h; fd_184 h rfl⟩⟩⟩⟩⟩⟩⟩⟩⟩⟩⟩
theorem dX6_idle_21 : decode cX6_idle 21 = .ok (.invokevirtual 229, 3) := dcq_516.1
theorem dX6_idle_24 : decode cX6_idle 24 = .ok (.ifCond .le 14, 3) := dcq_516.2.1
theorem dX6_idle_27 : decode cX6_idle 27 = .ok (.aload_n 0, 1) := dcq_516.2.2.1
theorem dX6_idle_28 : decode cX6_idle 28 = .ok (.invokevirtual 226, 3) := dcq_516.2.2.2.1
theorem dX6_idle_31 : decode cX6_idle 31 = .ok (.pop, 1) := dcq_516.2.2.2.2.1
theorem dX6_idle_32 : decode cX6_idle 32 = .ok (.iinc 1 1, 3) := dcq_516.2.2.2.2.2.1
theorem dX6_idle_35 : decode cX6_idle 35 = .ok (.goto (-22), 3) := dcq_516.2.2.2.2.2.2.1
theorem dX6_idle_38 : decode cX6_idle 38 = .ok (.aload_n 0, 1) := dcq_516.2.2.2.2.2.2.2.1
theorem dX6_idle_39 : decode cX6_idle 39 = .ok (.getfield 19, 3) := dcq_516.2.2.2.2.2.2.2.2.1
theorem dX6_idle_42 : decode cX6_idle 42 = .ok (.aload_n 0, 1) := dcq_516.2.2.2.2.2.2.2.2.2.1
theorem dX6_idle_43 : decode cX6_idle 43 = .ok (.getfield 7, 3) := dcq_516.2.2.2.2.2.2.2.2.2.2.1
theorem dX6_idle_46 : decode cX6_idle 46 = .ok (.invokestatic 170, 3) := dcq_516.2.2.2.2.2.2.2.2.2.2.2
set_option maxRecDepth 20000 in
theorem dcb_517 : fd_B cX6_idle 49 [27, 16, 60, 164, 0, 8, 16, 253, 167, 0, 4, 27, 172] := fd_o cX6_idle 49 _ (by decide +kernel)
theorem dcq_517 : (decode cX6_idle 49 = .ok (.iload_n 1, 1)) ∧ (decode cX6_idle 50 = .ok (.bipush 60, 2)) ∧ (decode cX6_idle 52 = .ok (.if_icmp .le 8, 3)) ∧ (decode cX6_idle 55 = .ok (.bipush (-3), 2)) ∧ (decode cX6_idle 57 = .ok (.goto 4, 3)) ∧ (decode cX6_idle 60 = .ok (.iload_n 1, 1)) ∧ (decode cX6_idle 61 = .ok (.ireturn, 1)) := have h := dcb_517; ⟨fd_27 h, have h := fd_t1 h; ⟨fd_16 h (by decide +kernel), have h := fd_t2 h; ⟨fd_164 h (by decide +kernel), have h := fd_t3 h; ⟨fd_16 h (by decide +kernel), have h := fd_t2 h; ⟨fd_167 h (by decide +kernel), have h := fd_t3 h; ⟨fd_27 h, have h := fd_t1 h; fd_172 h⟩⟩⟩⟩⟩⟩
theorem dX6_idle_49 : decode cX6_idle 49 = .ok (.iload_n 1, 1) := dcq_517.1
theorem dX6_idle_50 : decode cX6_idle 50 = .ok (.bipush 60, 2) := dcq_517.2.1
theorem dX6_idle_52 : decode cX6_idle 52 = .ok (.if_icmp .le 8, 3) := dcq_517.2.2.1
theorem dX6_idle_55 : decode cX6_idle 55 = .ok (.bipush (-3), 2) := dcq_517.2.2.2.1
theorem dX6_idle_57 : decode cX6_idle 57 = .ok (.goto 4, 3) := dcq_517.2.2.2.2.1
theorem dX6_idle_60 : decode cX6_idle 60 = .ok (.iload_n 1, 1) := dcq_517.2.2.2.2.2.1
theorem dX6_idle_61 : decode cX6_idle 61 = .ok (.ireturn, 1) := dcq_517.2.2.2.2.2.2
set_option maxRecDepth 20000 in
theorem dcb_518 : fd_B cX6_vanFor 0 [27, 4, 16, 20, 184, 0, 60, 153, 0, 14, 28, 3, 17, 39, 15, 184, 0, 60, 154, 0, 5, 2, 172] := fd_o cX6_vanFor 0 _ (by decide +kernel)
theorem dcq_518 : (decode cX6_vanFor 0 = .ok (.iload_n 1, 1)) ∧ (decode cX6_vanFor 1 = .ok (.iconst 1, 1)) ∧ (decode cX6_vanFor 2 = .ok (.bipush 20, 2)) ∧ (decode cX6_vanFor 4 = .ok (.invokestatic 60, 3)) ∧ (decode cX6_vanFor 7 = .ok (.ifCond .eq 14, 3)) ∧ (decode cX6_vanFor 10 = .ok (.iload_n 2, 1)) ∧ (decode cX6_vanFor 11 = .ok (.iconst 0, 1)) ∧ (decode cX6_vanFor 12 = .ok (.sipush 9999, 3)) ∧ (decode cX6_vanFor 15 = .ok (.invokestatic 60, 3)) ∧ (decode cX6_vanFor 18 = .ok (.ifCond .ne 5, 3)) ∧ (decode cX6_vanFor 21 = .ok (.iconst (-1), 1)) ∧ (decode cX6_vanFor 22 = .ok (.ireturn, 1)) := have h := dcb_518; ⟨fd_27 h, have h := fd_t1 h; ⟨fd_4 h, have h := fd_t1 h; ⟨fd_16 h (by decide +kernel), have h := fd_t2 h; ⟨fd_184 h rfl, have h := fd_t3 h; ⟨fd_153 h (by decide +kernel), have h := fd_t3 h; ⟨fd_28 h, have h := fd_t1 h; ⟨fd_3 h, have h := fd_t1 h; ⟨fd_17 h (by decide +kernel), have h := fd_t3 h; ⟨fd_184 h rfl, have h := fd_t3 h; ⟨fd_154 h (by decide +kernel), have h := fd_t3 h; ⟨fd_2 h, have h := fd_t1 h; fd_172 h⟩⟩⟩⟩⟩⟩⟩⟩⟩⟩⟩
theorem dX6_vanFor_0 : decode cX6_vanFor 0 = .ok (.iload_n 1, 1) := dcq_518.1
theorem dX6_vanFor_1 : decode cX6_vanFor 1 = .ok (.iconst 1, 1) := dcq_518.2.1
theorem dX6_vanFor_2 : decode cX6_vanFor 2 = .ok (.bipush 20, 2) := dcq_518.2.2.1
theorem dX6_vanFor_4 : decode cX6_vanFor 4 = .ok (.invokestatic 60, 3) := dcq_518.2.2.2.1
theorem dX6_vanFor_7 : decode cX6_vanFor 7 = .ok (.ifCond .eq 14, 3) := dcq_518.2.2.2.2.1
theorem dX6_vanFor_10 : decode cX6_vanFor 10 = .ok (.iload_n 2, 1) := dcq_518.2.2.2.2.2.1
theorem dX6_vanFor_11 : decode cX6_vanFor 11 = .ok (.iconst 0, 1) := dcq_518.2.2.2.2.2.2.1
theorem dX6_vanFor_12 : decode cX6_vanFor 12 = .ok (.sipush 9999, 3) := dcq_518.2.2.2.2.2.2.2.1
theorem dX6_vanFor_15 : decode cX6_vanFor 15 = .ok (.invokestatic 60, 3) := dcq_518.2.2.2.2.2.2.2.2.1
theorem dX6_vanFor_18 : decode cX6_vanFor 18 = .ok (.ifCond .ne 5, 3) := dcq_518.2.2.2.2.2.2.2.2.2.1
theorem dX6_vanFor_21 : decode cX6_vanFor 21 = .ok (.iconst (-1), 1) := dcq_518.2.2.2.2.2.2.2.2.2.2.1
theorem dX6_vanFor_22 : decode cX6_vanFor 22 = .ok (.ireturn, 1) := dcq_518.2.2.2.2.2.2.2.2.2.2.2
set_option maxRecDepth 20000 in
theorem dcb_519 : fd_B cX6_vanFor 23 [42, 180, 0, 7, 42, 180, 0, 19, 184, 0, 170, 2, 62, 3, 54, 4, 29, 16, 9, 162, 0, 37] := fd_o cX6_vanFor 23 _ (by decide +kernel)
theorem dcq_519 : (decode cX6_vanFor 23 = .ok (.aload_n 0, 1)) ∧ (decode cX6_vanFor 24 = .ok (.getfield 7, 3)) ∧ (decode cX6_vanFor 27 = .ok (.aload_n 0, 1)) ∧ (decode cX6_vanFor 28 = .ok (.getfield 19, 3)) ∧ (decode cX6_vanFor 31 = .ok (.invokestatic 170, 3)) ∧ (decode cX6_vanFor 34 = .ok (.iconst (-1), 1)) ∧ (decode cX6_vanFor 35 = .ok (.istore_n 3, 1)) ∧ (decode cX6_vanFor 36 = .ok (.iconst 0, 1)) ∧ (decode cX6_vanFor 37 = .ok (.istore 4, 2)) ∧ (decode cX6_vanFor 39 = .ok (.iload_n 3, 1)) ∧ (decode cX6_vanFor 40 = .ok (.bipush 9, 2)) ∧ (decode cX6_vanFor 42 = .ok (.if_icmp .ge 37, 3)) := have h := dcb_519; ⟨fd_42 h, have h := fd_t1 h; ⟨fd_180 h rfl, have h := fd_t3 h; ⟨fd_42 h, have h := fd_t1 h; ⟨fd_180 h rfl, have h := fd_t3 h; ⟨fd_184 h rfl, have h := fd_t3 h; ⟨fd_2 h, have h := fd_t1 h; ⟨fd_62 h, have h := fd_t1 h; ⟨fd_3 h, have h := fd_t1 h; ⟨fd_54 h rfl, have h := fd_t2 h; ⟨fd_29 h, have h := fd_t1 h; ⟨fd_16 h (by decide +kernel), have h := fd_t2 h; fd_162 h (by decide +kernel)⟩⟩⟩⟩⟩⟩⟩⟩⟩⟩⟩
theorem dX6_vanFor_23 : decode cX6_vanFor 23 = .ok (.aload_n 0, 1) := dcq_519.1
theorem dX6_vanFor_24 : decode cX6_vanFor 24 = .ok (.getfield 7, 3) := dcq_519.2.1
theorem dX6_vanFor_27 : decode cX6_vanFor 27 = .ok (.aload_n 0, 1) := dcq_519.2.2.1
theorem dX6_vanFor_28 : decode cX6_vanFor 28 = .ok (.getfield 19, 3) := dcq_519.2.2.2.1
theorem dX6_vanFor_31 : decode cX6_vanFor 31 = .ok (.invokestatic 170, 3) := dcq_519.2.2.2.2.1
theorem dX6_vanFor_34 : decode cX6_vanFor 34 = .ok (.iconst (-1), 1) := dcq_519.2.2.2.2.2.1
theorem dX6_vanFor_35 : decode cX6_vanFor 35 = .ok (.istore_n 3, 1) := dcq_519.2.2.2.2.2.2.1
theorem dX6_vanFor_36 : decode cX6_vanFor 36 = .ok (.iconst 0, 1) := dcq_519.2.2.2.2.2.2.2.1
theorem dX6_vanFor_37 : decode cX6_vanFor 37 = .ok (.istore 4, 2) := dcq_519.2.2.2.2.2.2.2.2.1
theorem dX6_vanFor_39 : decode cX6_vanFor 39 = .ok (.iload_n 3, 1) := dcq_519.2.2.2.2.2.2.2.2.2.1
theorem dX6_vanFor_40 : decode cX6_vanFor 40 = .ok (.bipush 9, 2) := dcq_519.2.2.2.2.2.2.2.2.2.2.1
theorem dX6_vanFor_42 : decode cX6_vanFor 42 = .ok (.if_icmp .ge 37, 3) := dcq_519.2.2.2.2.2.2.2.2.2.2.2
set_option maxRecDepth 20000 in
theorem dcb_520 : fd_B cX6_vanFor 45 [21, 4, 154, 0, 32, 132, 3, 1, 42, 180, 0, 7, 3, 29, 79, 42, 27, 182, 0, 239, 28] := fd_o cX6_vanFor 45 _ (by decide +kernel)
theorem dcq_520 : (decode cX6_vanFor 45 = .ok (.iload 4, 2)) ∧ (decode cX6_vanFor 47 = .ok (.ifCond .ne 32, 3)) ∧ (decode cX6_vanFor 50 = .ok (.iinc 3 1, 3)) ∧ (decode cX6_vanFor 53 = .ok (.aload_n 0, 1)) ∧ (decode cX6_vanFor 54 = .ok (.getfield 7, 3)) ∧ (decode cX6_vanFor 57 = .ok (.iconst 0, 1)) ∧ (decode cX6_vanFor 58 = .ok (.iload_n 3, 1)) ∧ (decode cX6_vanFor 59 = .ok (.iastore, 1)) ∧ (decode cX6_vanFor 60 = .ok (.aload_n 0, 1)) ∧ (decode cX6_vanFor 61 = .ok (.iload_n 1, 1)) ∧ (decode cX6_vanFor 62 = .ok (.invokevirtual 239, 3)) ∧ (decode cX6_vanFor 65 = .ok (.iload_n 2, 1)) := have h := dcb_520; ⟨fd_21 h rfl, have h := fd_t2 h; ⟨fd_154 h (by decide +kernel), have h := fd_t3 h; ⟨fd_132 h rfl (by decide +kernel), have h := fd_t3 h; ⟨fd_42 h, have h := fd_t1 h; ⟨fd_180 h rfl, have h := fd_t3 h; ⟨fd_3 h, have h := fd_t1 h; ⟨fd_29 h, have h := fd_t1 h; ⟨fd_79 h, have h := fd_t1 h; ⟨fd_42 h, have h := fd_t1 h; ⟨fd_27 h, have h := fd_t1 h; ⟨fd_182 h rfl, have h := fd_t3 h; fd_28 h⟩⟩⟩⟩⟩⟩⟩⟩⟩⟩⟩
theorem dX6_vanFor_45 : decode cX6_vanFor 45 = .ok (.iload 4, 2) := dcq_520.1
theorem dX6_vanFor_47 : decode cX6_vanFor 47 = .ok (.ifCond .ne 32, 3) := dcq_520.2.1
theorem dX6_vanFor_50 : decode cX6_vanFor 50 = .ok (.iinc 3 1, 3) := dcq_520.2.2.1
theorem dX6_vanFor_53 : decode cX6_vanFor 53 = .ok (.aload_n 0, 1) := dcq_520.2.2.2.1
theorem dX6_vanFor_54 : decode cX6_vanFor 54 = .ok (.getfield 7, 3) := dcq_520.2.2.2.2.1
theorem dX6_vanFor_57 : decode cX6_vanFor 57 = .ok (.iconst 0, 1) := dcq_520.2.2.2.2.2.1
theorem dX6_vanFor_58 : decode cX6_vanFor 58 = .ok (.iload_n 3, 1) := dcq_520.2.2.2.2.2.2.1
theorem dX6_vanFor_59 : decode cX6_vanFor 59 = .ok (.iastore, 1) := dcq_520.2.2.2.2.2.2.2.1
theorem dX6_vanFor_60 : decode cX6_vanFor 60 = .ok (.aload_n 0, 1) := dcq_520.2.2.2.2.2.2.2.2.1
theorem dX6_vanFor_61 : decode cX6_vanFor 61 = .ok (.iload_n 1, 1) := dcq_520.2.2.2.2.2.2.2.2.2.1
theorem dX6_vanFor_62 : decode cX6_vanFor 62 = .ok (.invokevirtual 239, 3) := dcq_520.2.2.2.2.2.2.2.2.2.2.1
theorem dX6_vanFor_65 : decode cX6_vanFor 65 = .ok (.iload_n 2, 1) := dcq_520.2.2.2.2.2.2.2.2.2.2.2
set_option maxRecDepth 20000 in
theorem dcb_521 : fd_B cX6_vanFor 66 [161, 0, 7, 4, 167, 0, 4, 3, 54, 4, 167, 255, 219, 21, 4, 153, 0, 7, 29, 167, 0, 5, 16, 253, 172] := fd_o cX6_vanFor 66 _ (by decide +kernel)
theorem dcq_521 : (decode cX6_vanFor 66 = .ok (.if_icmp .lt 7, 3)) ∧ (decode cX6_vanFor 69 = .ok (.iconst 1, 1)) ∧ (decode cX6_vanFor 70 = .ok (.goto 4, 3)) ∧ (decode cX6_vanFor 73 = .ok (.iconst 0, 1)) ∧ (decode cX6_vanFor 74 = .ok (.istore 4, 2)) ∧ (decode cX6_vanFor 76 = .ok (.goto (-37), 3)) ∧ (decode cX6_vanFor 79 = .ok (.iload 4, 2)) ∧ (decode cX6_vanFor 81 = .ok (.ifCond .eq 7, 3)) ∧ (decode cX6_vanFor 84 = .ok (.iload_n 3, 1)) ∧ (decode cX6_vanFor 85 = .ok (.goto 5, 3)) ∧ (decode cX6_vanFor 88 = .ok (.bipush (-3), 2)) ∧ (decode cX6_vanFor 90 = .ok (.ireturn, 1)) := have h := dcb_521; ⟨fd_161 h (by decide +kernel), have h := fd_t3 h; ⟨fd_4 h, have h := fd_t1 h; ⟨fd_167 h (by decide +kernel), have h := fd_t3 h; ⟨fd_3 h, have h := fd_t1 h; ⟨fd_54 h rfl, have h := fd_t2 h; ⟨fd_167 h (by decide +kernel), have h := fd_t3 h; ⟨fd_21 h rfl, have h := fd_t2 h; ⟨fd_153 h (by decide +kernel), have h := fd_t3 h; ⟨fd_29 h, have h := fd_t1 h; ⟨fd_167 h (by decide +kernel), have h := fd_t3 h; ⟨fd_16 h (by decide +kernel), have h := fd_t2 h; fd_172 h⟩⟩⟩⟩⟩⟩⟩⟩⟩⟩⟩
theorem dX6_vanFor_66 : decode cX6_vanFor 66 = .ok (.if_icmp .lt 7, 3) := dcq_521.1
theorem dX6_vanFor_69 : decode cX6_vanFor 69 = .ok (.iconst 1, 1) := dcq_521.2.1
theorem dX6_vanFor_70 : decode cX6_vanFor 70 = .ok (.goto 4, 3) := dcq_521.2.2.1
theorem dX6_vanFor_73 : decode cX6_vanFor 73 = .ok (.iconst 0, 1) := dcq_521.2.2.2.1
theorem dX6_vanFor_74 : decode cX6_vanFor 74 = .ok (.istore 4, 2) := dcq_521.2.2.2.2.1
theorem dX6_vanFor_76 : decode cX6_vanFor 76 = .ok (.goto (-37), 3) := dcq_521.2.2.2.2.2.1
theorem dX6_vanFor_79 : decode cX6_vanFor 79 = .ok (.iload 4, 2) := dcq_521.2.2.2.2.2.2.1
theorem dX6_vanFor_81 : decode cX6_vanFor 81 = .ok (.ifCond .eq 7, 3) := dcq_521.2.2.2.2.2.2.2.1
theorem dX6_vanFor_84 : decode cX6_vanFor 84 = .ok (.iload_n 3, 1) := dcq_521.2.2.2.2.2.2.2.2.1
theorem dX6_vanFor_85 : decode cX6_vanFor 85 = .ok (.goto 5, 3) := dcq_521.2.2.2.2.2.2.2.2.2.1
theorem dX6_vanFor_88 : decode cX6_vanFor 88 = .ok (.bipush (-3), 2) := dcq_521.2.2.2.2.2.2.2.2.2.2.1
theorem dX6_vanFor_90 : decode cX6_vanFor 90 = .ok (.ireturn, 1) := dcq_521.2.2.2.2.2.2.2.2.2.2.2
set_option maxRecDepth 20000 in
theorem dcb_522 : fd_B cX6_kindFor 0 [42, 27, 182, 0, 188, 153, 0, 13, 28, 4, 16, 20, 184, 0, 60, 154, 0, 5, 2, 172, 42] := fd_o cX6_kindFor 0 _ (by decide +kernel)
theorem dcq_522 : (decode cX6_kindFor 0 = .ok (.aload_n 0, 1)) ∧ (decode cX6_kindFor 1 = .ok (.iload_n 1, 1)) ∧ (decode cX6_kindFor 2 = .ok (.invokevirtual 188, 3)) ∧ (decode cX6_kindFor 5 = .ok (.ifCond .eq 13, 3)) ∧ (decode cX6_kindFor 8 = .ok (.iload_n 2, 1)) ∧ (decode cX6_kindFor 9 = .ok (.iconst 1, 1)) ∧ (decode cX6_kindFor 10 = .ok (.bipush 20, 2)) ∧ (decode cX6_kindFor 12 = .ok (.invokestatic 60, 3)) ∧ (decode cX6_kindFor 15 = .ok (.ifCond .ne 5, 3)) ∧ (decode cX6_kindFor 18 = .ok (.iconst (-1), 1)) ∧ (decode cX6_kindFor 19 = .ok (.ireturn, 1)) ∧ (decode cX6_kindFor 20 = .ok (.aload_n 0, 1)) := have h := dcb_522; ⟨fd_42 h, have h := fd_t1 h; ⟨fd_27 h, have h := fd_t1 h; ⟨fd_182 h rfl, have h := fd_t3 h; ⟨fd_153 h (by decide +kernel), have h := fd_t3 h; ⟨fd_28 h, have h := fd_t1 h; ⟨fd_4 h, have h := fd_t1 h; ⟨fd_16 h (by decide +kernel), have h := fd_t2 h; ⟨fd_184 h rfl, have h := fd_t3 h; ⟨fd_154 h (by decide +kernel), have h := fd_t3 h; ⟨fd_2 h, have h := fd_t1 h; ⟨fd_172 h, have h := fd_t1 h; fd_42 h⟩⟩⟩⟩⟩⟩⟩⟩⟩⟩⟩
theorem dX6_kindFor_0 : decode cX6_kindFor 0 = .ok (.aload_n 0, 1) := dcq_522.1
theorem dX6_kindFor_1 : decode cX6_kindFor 1 = .ok (.iload_n 1, 1) := dcq_522.2.1
theorem dX6_kindFor_2 : decode cX6_kindFor 2 = .ok (.invokevirtual 188, 3) := dcq_522.2.2.1
theorem dX6_kindFor_5 : decode cX6_kindFor 5 = .ok (.ifCond .eq 13, 3) := dcq_522.2.2.2.1
theorem dX6_kindFor_8 : decode cX6_kindFor 8 = .ok (.iload_n 2, 1) := dcq_522.2.2.2.2.1
theorem dX6_kindFor_9 : decode cX6_kindFor 9 = .ok (.iconst 1, 1) := dcq_522.2.2.2.2.2.1
theorem dX6_kindFor_10 : decode cX6_kindFor 10 = .ok (.bipush 20, 2) := dcq_522.2.2.2.2.2.2.1
theorem dX6_kindFor_12 : decode cX6_kindFor 12 = .ok (.invokestatic 60, 3) := dcq_522.2.2.2.2.2.2.2.1
theorem dX6_kindFor_15 : decode cX6_kindFor 15 = .ok (.ifCond .ne 5, 3) := dcq_522.2.2.2.2.2.2.2.2.1
theorem dX6_kindFor_18 : decode cX6_kindFor 18 = .ok (.iconst (-1), 1) := dcq_522.2.2.2.2.2.2.2.2.2.1
theorem dX6_kindFor_19 : decode cX6_kindFor 19 = .ok (.ireturn, 1) := dcq_522.2.2.2.2.2.2.2.2.2.2.1
theorem dX6_kindFor_20 : decode cX6_kindFor 20 = .ok (.aload_n 0, 1) := dcq_522.2.2.2.2.2.2.2.2.2.2.2
set_option maxRecDepth 20000 in
theorem dcb_523 : fd_B cX6_kindFor 21 [180, 0, 7, 42, 180, 0, 19, 184, 0, 170, 3, 62, 2, 54, 4, 3, 54, 5, 21, 5, 8] := fd_o cX6_kindFor 21 _ (by decide +kernel)
theorem dcq_523 : (decode cX6_kindFor 21 = .ok (.getfield 7, 3)) ∧ (decode cX6_kindFor 24 = .ok (.aload_n 0, 1)) ∧ (decode cX6_kindFor 25 = .ok (.getfield 19, 3)) ∧ (decode cX6_kindFor 28 = .ok (.invokestatic 170, 3)) ∧ (decode cX6_kindFor 31 = .ok (.iconst 0, 1)) ∧ (decode cX6_kindFor 32 = .ok (.istore_n 3, 1)) ∧ (decode cX6_kindFor 33 = .ok (.iconst (-1), 1)) ∧ (decode cX6_kindFor 34 = .ok (.istore 4, 2)) ∧ (decode cX6_kindFor 36 = .ok (.iconst 0, 1)) ∧ (decode cX6_kindFor 37 = .ok (.istore 5, 2)) ∧ (decode cX6_kindFor 39 = .ok (.iload 5, 2)) ∧ (decode cX6_kindFor 41 = .ok (.iconst 5, 1)) := have h := dcb_523; ⟨fd_180 h rfl, have h := fd_t3 h; ⟨fd_42 h, have h := fd_t1 h; ⟨fd_180 h rfl, have h := fd_t3 h; ⟨fd_184 h rfl, have h := fd_t3 h; ⟨fd_3 h, have h := fd_t1 h; ⟨fd_62 h, have h := fd_t1 h; ⟨fd_2 h, have h := fd_t1 h; ⟨fd_54 h rfl, have h := fd_t2 h; ⟨fd_3 h, have h := fd_t1 h; ⟨fd_54 h rfl, have h := fd_t2 h; ⟨fd_21 h rfl, have h := fd_t2 h; fd_8 h⟩⟩⟩⟩⟩⟩⟩⟩⟩⟩⟩
theorem dX6_kindFor_21 : decode cX6_kindFor 21 = .ok (.getfield 7, 3) := dcq_523.1
theorem dX6_kindFor_24 : decode cX6_kindFor 24 = .ok (.aload_n 0, 1) := dcq_523.2.1
theorem dX6_kindFor_25 : decode cX6_kindFor 25 = .ok (.getfield 19, 3) := dcq_523.2.2.1
theorem dX6_kindFor_28 : decode cX6_kindFor 28 = .ok (.invokestatic 170, 3) := dcq_523.2.2.2.1
theorem dX6_kindFor_31 : decode cX6_kindFor 31 = .ok (.iconst 0, 1) := dcq_523.2.2.2.2.1
theorem dX6_kindFor_32 : decode cX6_kindFor 32 = .ok (.istore_n 3, 1) := dcq_523.2.2.2.2.2.1
theorem dX6_kindFor_33 : decode cX6_kindFor 33 = .ok (.iconst (-1), 1) := dcq_523.2.2.2.2.2.2.1
theorem dX6_kindFor_34 : decode cX6_kindFor 34 = .ok (.istore 4, 2) := dcq_523.2.2.2.2.2.2.2.1
theorem dX6_kindFor_36 : decode cX6_kindFor 36 = .ok (.iconst 0, 1) := dcq_523.2.2.2.2.2.2.2.2.1
theorem dX6_kindFor_37 : decode cX6_kindFor 37 = .ok (.istore 5, 2) := dcq_523.2.2.2.2.2.2.2.2.2.1
theorem dX6_kindFor_39 : decode cX6_kindFor 39 = .ok (.iload 5, 2) := dcq_523.2.2.2.2.2.2.2.2.2.2.1
theorem dX6_kindFor_41 : decode cX6_kindFor 41 = .ok (.iconst 5, 1) := dcq_523.2.2.2.2.2.2.2.2.2.2.2
set_option maxRecDepth 20000 in
theorem dcb_524 : fd_B cX6_kindFor 42 [163, 0, 54, 42, 27, 3, 21, 5, 182, 0, 184, 42, 28, 182, 0, 239, 54, 6, 21, 6, 21, 4] := fd_o cX6_kindFor 42 _ (by decide +kernel)
theorem dcq_524 : (decode cX6_kindFor 42 = .ok (.if_icmp .gt 54, 3)) ∧ (decode cX6_kindFor 45 = .ok (.aload_n 0, 1)) ∧ (decode cX6_kindFor 46 = .ok (.iload_n 1, 1)) ∧ (decode cX6_kindFor 47 = .ok (.iconst 0, 1)) ∧ (decode cX6_kindFor 48 = .ok (.iload 5, 2)) ∧ (decode cX6_kindFor 50 = .ok (.invokevirtual 184, 3)) ∧ (decode cX6_kindFor 53 = .ok (.aload_n 0, 1)) ∧ (decode cX6_kindFor 54 = .ok (.iload_n 2, 1)) ∧ (decode cX6_kindFor 55 = .ok (.invokevirtual 239, 3)) ∧ (decode cX6_kindFor 58 = .ok (.istore 6, 2)) ∧ (decode cX6_kindFor 60 = .ok (.iload 6, 2)) ∧ (decode cX6_kindFor 62 = .ok (.iload 4, 2)) := have h := dcb_524; ⟨fd_163 h (by decide +kernel), have h := fd_t3 h; ⟨fd_42 h, have h := fd_t1 h; ⟨fd_27 h, have h := fd_t1 h; ⟨fd_3 h, have h := fd_t1 h; ⟨fd_21 h rfl, have h := fd_t2 h; ⟨fd_182 h rfl, have h := fd_t3 h; ⟨fd_42 h, have h := fd_t1 h; ⟨fd_28 h, have h := fd_t1 h; ⟨fd_182 h rfl, have h := fd_t3 h; ⟨fd_54 h rfl, have h := fd_t2 h; ⟨fd_21 h rfl, have h := fd_t2 h; fd_21 h rfl⟩⟩⟩⟩⟩⟩⟩⟩⟩⟩⟩
theorem dX6_kindFor_42 : decode cX6_kindFor 42 = .ok (.if_icmp .gt 54, 3) := dcq_524.1
theorem dX6_kindFor_45 : decode cX6_kindFor 45 = .ok (.aload_n 0, 1) := dcq_524.2.1
theorem dX6_kindFor_46 : decode cX6_kindFor 46 = .ok (.iload_n 1, 1) := dcq_524.2.2.1
theorem dX6_kindFor_47 : decode cX6_kindFor 47 = .ok (.iconst 0, 1) := dcq_524.2.2.2.1
theorem dX6_kindFor_48 : decode cX6_kindFor 48 = .ok (.iload 5, 2) := dcq_524.2.2.2.2.1
theorem dX6_kindFor_50 : decode cX6_kindFor 50 = .ok (.invokevirtual 184, 3) := dcq_524.2.2.2.2.2.1
theorem dX6_kindFor_53 : decode cX6_kindFor 53 = .ok (.aload_n 0, 1) := dcq_524.2.2.2.2.2.2.1
theorem dX6_kindFor_54 : decode cX6_kindFor 54 = .ok (.iload_n 2, 1) := dcq_524.2.2.2.2.2.2.2.1
theorem dX6_kindFor_55 : decode cX6_kindFor 55 = .ok (.invokevirtual 239, 3) := dcq_524.2.2.2.2.2.2.2.2.1
theorem dX6_kindFor_58 : decode cX6_kindFor 58 = .ok (.istore 6, 2) := dcq_524.2.2.2.2.2.2.2.2.2.1
theorem dX6_kindFor_60 : decode cX6_kindFor 60 = .ok (.iload 6, 2) := dcq_524.2.2.2.2.2.2.2.2.2.2.1
theorem dX6_kindFor_62 : decode cX6_kindFor 62 = .ok (.iload 4, 2) := dcq_524.2.2.2.2.2.2.2.2.2.2.2
set_option maxRecDepth 20000 in
theorem dcb_525 : fd_B cX6_kindFor 64 [164, 0, 8, 21, 5, 167, 0, 4, 29, 62, 21, 6, 21, 4, 164, 0, 8, 21, 6, 167, 0, 5, 21, 4, 54, 4] := fd_o cX6_kindFor 64 _ (by decide +kernel)
theorem dcq_525 : (decode cX6_kindFor 64 = .ok (.if_icmp .le 8, 3)) ∧ (decode cX6_kindFor 67 = .ok (.iload 5, 2)) ∧ (decode cX6_kindFor 69 = .ok (.goto 4, 3)) ∧ (decode cX6_kindFor 72 = .ok (.iload_n 3, 1)) ∧ (decode cX6_kindFor 73 = .ok (.istore_n 3, 1)) ∧ (decode cX6_kindFor 74 = .ok (.iload 6, 2)) ∧ (decode cX6_kindFor 76 = .ok (.iload 4, 2)) ∧ (decode cX6_kindFor 78 = .ok (.if_icmp .le 8, 3)) ∧ (decode cX6_kindFor 81 = .ok (.iload 6, 2)) ∧ (decode cX6_kindFor 83 = .ok (.goto 5, 3)) ∧ (decode cX6_kindFor 86 = .ok (.iload 4, 2)) ∧ (decode cX6_kindFor 88 = .ok (.istore 4, 2)) := have h := dcb_525; ⟨fd_164 h (by decide +kernel), have h := fd_t3 h; ⟨fd_21 h rfl, have h := fd_t2 h; ⟨fd_167 h (by decide +kernel), have h := fd_t3 h; ⟨fd_29 h, have h := fd_t1 h; ⟨fd_62 h, have h := fd_t1 h; ⟨fd_21 h rfl, have h := fd_t2 h; ⟨fd_21 h rfl, have h := fd_t2 h; ⟨fd_164 h (by decide +kernel), have h := fd_t3 h; ⟨fd_21 h rfl, have h := fd_t2 h; ⟨fd_167 h (by decide +kernel), have h := fd_t3 h; ⟨fd_21 h rfl, have h := fd_t2 h; fd_54 h rfl⟩⟩⟩⟩⟩⟩⟩⟩⟩⟩⟩
theorem dX6_kindFor_64 : decode cX6_kindFor 64 = .ok (.if_icmp .le 8, 3) := dcq_525.1
theorem dX6_kindFor_67 : decode cX6_kindFor 67 = .ok (.iload 5, 2) := dcq_525.2.1
theorem dX6_kindFor_69 : decode cX6_kindFor 69 = .ok (.goto 4, 3) := dcq_525.2.2.1
theorem dX6_kindFor_72 : decode cX6_kindFor 72 = .ok (.iload_n 3, 1) := dcq_525.2.2.2.1
theorem dX6_kindFor_73 : decode cX6_kindFor 73 = .ok (.istore_n 3, 1) := dcq_525.2.2.2.2.1
theorem dX6_kindFor_74 : decode cX6_kindFor 74 = .ok (.iload 6, 2) := dcq_525.2.2.2.2.2.1
theorem dX6_kindFor_76 : decode cX6_kindFor 76 = .ok (.iload 4, 2) := dcq_525.2.2.2.2.2.2.1
theorem dX6_kindFor_78 : decode cX6_kindFor 78 = .ok (.if_icmp .le 8, 3) := dcq_525.2.2.2.2.2.2.2.1
theorem dX6_kindFor_81 : decode cX6_kindFor 81 = .ok (.iload 6, 2) := dcq_525.2.2.2.2.2.2.2.2.1
theorem dX6_kindFor_83 : decode cX6_kindFor 83 = .ok (.goto 5, 3) := dcq_525.2.2.2.2.2.2.2.2.2.1
theorem dX6_kindFor_86 : decode cX6_kindFor 86 = .ok (.iload 4, 2) := dcq_525.2.2.2.2.2.2.2.2.2.2.1
theorem dX6_kindFor_88 : decode cX6_kindFor 88 = .ok (.istore 4, 2) := dcq_525.2.2.2.2.2.2.2.2.2.2.2
set_option maxRecDepth 20000 in
theorem dcb_526 : fd_B cX6_kindFor 90 [132, 5, 1, 167, 255, 202, 29, 172] := fd_o cX6_kindFor 90 _ (by decide +kernel)
theorem dcq_526 : (decode cX6_kindFor 90 = .ok (.iinc 5 1, 3)) ∧ (decode cX6_kindFor 93 = .ok (.goto (-54), 3)) ∧ (decode cX6_kindFor 96 = .ok (.iload_n 3, 1)) ∧ (decode cX6_kindFor 97 = .ok (.ireturn, 1)) := have h := dcb_526; ⟨fd_132 h rfl (by decide +kernel), have h := fd_t3 h; ⟨fd_167 h (by decide +kernel), have h := fd_t3 h; ⟨fd_29 h, have h := fd_t1 h; fd_172 h⟩⟩⟩
theorem dX6_kindFor_90 : decode cX6_kindFor 90 = .ok (.iinc 5 1, 3) := dcq_526.1
theorem dX6_kindFor_93 : decode cX6_kindFor 93 = .ok (.goto (-54), 3) := dcq_526.2.1
theorem dX6_kindFor_96 : decode cX6_kindFor 96 = .ok (.iload_n 3, 1) := dcq_526.2.2.1
theorem dX6_kindFor_97 : decode cX6_kindFor 97 = .ok (.ireturn, 1) := dcq_526.2.2.2
set_option maxRecDepth 20000 in
theorem dcb_527 : fd_B cX6_thoughtFor 0 [42, 27, 182, 0, 188, 153, 0, 13, 28, 4, 16, 20, 184, 0, 60, 154, 0, 5, 2, 172, 42] := fd_o cX6_thoughtFor 0 _ (by decide +kernel)
theorem dcq_527 : (decode cX6_thoughtFor 0 = .ok (.aload_n 0, 1)) ∧ (decode cX6_thoughtFor 1 = .ok (.iload_n 1, 1)) ∧ (decode cX6_thoughtFor 2 = .ok (.invokevirtual 188, 3)) ∧ (decode cX6_thoughtFor 5 = .ok (.ifCond .eq 13, 3)) ∧ (decode cX6_thoughtFor 8 = .ok (.iload_n 2, 1)) ∧ (decode cX6_thoughtFor 9 = .ok (.iconst 1, 1)) ∧ (decode cX6_thoughtFor 10 = .ok (.bipush 20, 2)) ∧ (decode cX6_thoughtFor 12 = .ok (.invokestatic 60, 3)) ∧ (decode cX6_thoughtFor 15 = .ok (.ifCond .ne 5, 3)) ∧ (decode cX6_thoughtFor 18 = .ok (.iconst (-1), 1)) ∧ (decode cX6_thoughtFor 19 = .ok (.ireturn, 1)) ∧ (decode cX6_thoughtFor 20 = .ok (.aload_n 0, 1)) := have h := dcb_527; ⟨fd_42 h, have h := fd_t1 h; ⟨fd_27 h, have h := fd_t1 h; ⟨fd_182 h rfl, have h := fd_t3 h; ⟨fd_153 h (by decide +kernel), have h := fd_t3 h; ⟨fd_28 h, have h := fd_t1 h; ⟨fd_4 h, have h := fd_t1 h; ⟨fd_16 h (by decide +kernel), have h := fd_t2 h; ⟨fd_184 h rfl, have h := fd_t3 h; ⟨fd_154 h (by decide +kernel), have h := fd_t3 h; ⟨fd_2 h, have h := fd_t1 h; ⟨fd_172 h, have h := fd_t1 h; fd_42 h⟩⟩⟩⟩⟩⟩⟩⟩⟩⟩⟩
theorem dX6_thoughtFor_0 : decode cX6_thoughtFor 0 = .ok (.aload_n 0, 1) := dcq_527.1
theorem dX6_thoughtFor_1 : decode cX6_thoughtFor 1 = .ok (.iload_n 1, 1) := dcq_527.2.1
theorem dX6_thoughtFor_2 : decode cX6_thoughtFor 2 = .ok (.invokevirtual 188, 3) := dcq_527.2.2.1
theorem dX6_thoughtFor_5 : decode cX6_thoughtFor 5 = .ok (.ifCond .eq 13, 3) := dcq_527.2.2.2.1
theorem dX6_thoughtFor_8 : decode cX6_thoughtFor 8 = .ok (.iload_n 2, 1) := dcq_527.2.2.2.2.1
theorem dX6_thoughtFor_9 : decode cX6_thoughtFor 9 = .ok (.iconst 1, 1) := dcq_527.2.2.2.2.2.1
theorem dX6_thoughtFor_10 : decode cX6_thoughtFor 10 = .ok (.bipush 20, 2) := dcq_527.2.2.2.2.2.2.1
theorem dX6_thoughtFor_12 : decode cX6_thoughtFor 12 = .ok (.invokestatic 60, 3) := dcq_527.2.2.2.2.2.2.2.1
theorem dX6_thoughtFor_15 : decode cX6_thoughtFor 15 = .ok (.ifCond .ne 5, 3) := dcq_527.2.2.2.2.2.2.2.2.1
theorem dX6_thoughtFor_18 : decode cX6_thoughtFor 18 = .ok (.iconst (-1), 1) := dcq_527.2.2.2.2.2.2.2.2.2.1
theorem dX6_thoughtFor_19 : decode cX6_thoughtFor 19 = .ok (.ireturn, 1) := dcq_527.2.2.2.2.2.2.2.2.2.2.1
theorem dX6_thoughtFor_20 : decode cX6_thoughtFor 20 = .ok (.aload_n 0, 1) := dcq_527.2.2.2.2.2.2.2.2.2.2.2
set_option maxRecDepth 20000 in
theorem dcb_528 : fd_B cX6_thoughtFor 21 [180, 0, 7, 42, 180, 0, 19, 184, 0, 170, 2, 62, 3, 54, 4, 29, 16, 99, 162, 0, 87, 21, 4] := fd_o cX6_thoughtFor 21 _ (by decide +kernel)
theorem dcq_528 : (decode cX6_thoughtFor 21 = .ok (.getfield 7, 3)) ∧ (decode cX6_thoughtFor 24 = .ok (.aload_n 0, 1)) ∧ (decode cX6_thoughtFor 25 = .ok (.getfield 19, 3)) ∧ (decode cX6_thoughtFor 28 = .ok (.invokestatic 170, 3)) ∧ (decode cX6_thoughtFor 31 = .ok (.iconst (-1), 1)) ∧ (decode cX6_thoughtFor 32 = .ok (.istore_n 3, 1)) ∧ (decode cX6_thoughtFor 33 = .ok (.iconst 0, 1)) ∧ (decode cX6_thoughtFor 34 = .ok (.istore 4, 2)) ∧ (decode cX6_thoughtFor 36 = .ok (.iload_n 3, 1)) ∧ (decode cX6_thoughtFor 37 = .ok (.bipush 99, 2)) ∧ (decode cX6_thoughtFor 39 = .ok (.if_icmp .ge 87, 3)) ∧ (decode cX6_thoughtFor 42 = .ok (.iload 4, 2)) := have h := dcb_528; ⟨fd_180 h rfl, have h := fd_t3 h; ⟨fd_42 h, have h := fd_t1 h; ⟨fd_180 h rfl, have h := fd_t3 h; ⟨fd_184 h rfl, have h := fd_t3 h; ⟨fd_2 h, have h := fd_t1 h; ⟨fd_62 h, have h := fd_t1 h; ⟨fd_3 h, have h := fd_t1 h; ⟨fd_54 h rfl, have h := fd_t2 h; ⟨fd_29 h, have h := fd_t1 h; ⟨fd_16 h (by decide +kernel), have h := fd_t2 h; ⟨fd_162 h (by decide +kernel), have h := fd_t3 h; fd_21 h rfl⟩⟩⟩⟩⟩⟩⟩⟩⟩⟩⟩
theorem dX6_thoughtFor_21 : decode cX6_thoughtFor 21 = .ok (.getfield 7, 3) := dcq_528.1
theorem dX6_thoughtFor_24 : decode cX6_thoughtFor 24 = .ok (.aload_n 0, 1) := dcq_528.2.1
theorem dX6_thoughtFor_25 : decode cX6_thoughtFor 25 = .ok (.getfield 19, 3) := dcq_528.2.2.1
theorem dX6_thoughtFor_28 : decode cX6_thoughtFor 28 = .ok (.invokestatic 170, 3) := dcq_528.2.2.2.1
theorem dX6_thoughtFor_31 : decode cX6_thoughtFor 31 = .ok (.iconst (-1), 1) := dcq_528.2.2.2.2.1
theorem dX6_thoughtFor_32 : decode cX6_thoughtFor 32 = .ok (.istore_n 3, 1) := dcq_528.2.2.2.2.2.1
theorem dX6_thoughtFor_33 : decode cX6_thoughtFor 33 = .ok (.iconst 0, 1) := dcq_528.2.2.2.2.2.2.1
theorem dX6_thoughtFor_34 : decode cX6_thoughtFor 34 = .ok (.istore 4, 2) := dcq_528.2.2.2.2.2.2.2.1
theorem dX6_thoughtFor_36 : decode cX6_thoughtFor 36 = .ok (.iload_n 3, 1) := dcq_528.2.2.2.2.2.2.2.2.1
theorem dX6_thoughtFor_37 : decode cX6_thoughtFor 37 = .ok (.bipush 99, 2) := dcq_528.2.2.2.2.2.2.2.2.2.1
theorem dX6_thoughtFor_39 : decode cX6_thoughtFor 39 = .ok (.if_icmp .ge 87, 3) := dcq_528.2.2.2.2.2.2.2.2.2.2.1
theorem dX6_thoughtFor_42 : decode cX6_thoughtFor 42 = .ok (.iload 4, 2) := dcq_528.2.2.2.2.2.2.2.2.2.2.2
set_option maxRecDepth 20000 in
theorem dcb_529 : fd_B cX6_thoughtFor 44 [154, 0, 82, 132, 3, 1, 42, 27, 4, 29, 182, 0, 184, 3, 54, 5, 21, 5, 28, 162, 0, 49] := fd_o cX6_thoughtFor 44 _ (by decide +kernel)
theorem dcq_529 : (decode cX6_thoughtFor 44 = .ok (.ifCond .ne 82, 3)) ∧ (decode cX6_thoughtFor 47 = .ok (.iinc 3 1, 3)) ∧ (decode cX6_thoughtFor 50 = .ok (.aload_n 0, 1)) ∧ (decode cX6_thoughtFor 51 = .ok (.iload_n 1, 1)) ∧ (decode cX6_thoughtFor 52 = .ok (.iconst 1, 1)) ∧ (decode cX6_thoughtFor 53 = .ok (.iload_n 3, 1)) ∧ (decode cX6_thoughtFor 54 = .ok (.invokevirtual 184, 3)) ∧ (decode cX6_thoughtFor 57 = .ok (.iconst 0, 1)) ∧ (decode cX6_thoughtFor 58 = .ok (.istore 5, 2)) ∧ (decode cX6_thoughtFor 60 = .ok (.iload 5, 2)) ∧ (decode cX6_thoughtFor 62 = .ok (.iload_n 2, 1)) ∧ (decode cX6_thoughtFor 63 = .ok (.if_icmp .ge 49, 3)) := have h := dcb_529; ⟨fd_154 h (by decide +kernel), have h := fd_t3 h; ⟨fd_132 h rfl (by decide +kernel), have h := fd_t3 h; ⟨fd_42 h, have h := fd_t1 h; ⟨fd_27 h, have h := fd_t1 h; ⟨fd_4 h, have h := fd_t1 h; ⟨fd_29 h, have h := fd_t1 h; ⟨fd_182 h rfl, have h := fd_t3 h; ⟨fd_3 h, have h := fd_t1 h; ⟨fd_54 h rfl, have h := fd_t2 h; ⟨fd_21 h rfl, have h := fd_t2 h; ⟨fd_28 h, have h := fd_t1 h; fd_162 h (by decide +kernel)⟩⟩⟩⟩⟩⟩⟩⟩⟩⟩⟩
theorem dX6_thoughtFor_44 : decode cX6_thoughtFor 44 = .ok (.ifCond .ne 82, 3) := dcq_529.1
theorem dX6_thoughtFor_47 : decode cX6_thoughtFor 47 = .ok (.iinc 3 1, 3) := dcq_529.2.1
theorem dX6_thoughtFor_50 : decode cX6_thoughtFor 50 = .ok (.aload_n 0, 1) := dcq_529.2.2.1
theorem dX6_thoughtFor_51 : decode cX6_thoughtFor 51 = .ok (.iload_n 1, 1) := dcq_529.2.2.2.1
theorem dX6_thoughtFor_52 : decode cX6_thoughtFor 52 = .ok (.iconst 1, 1) := dcq_529.2.2.2.2.1
theorem dX6_thoughtFor_53 : decode cX6_thoughtFor 53 = .ok (.iload_n 3, 1) := dcq_529.2.2.2.2.2.1
theorem dX6_thoughtFor_54 : decode cX6_thoughtFor 54 = .ok (.invokevirtual 184, 3) := dcq_529.2.2.2.2.2.2.1
theorem dX6_thoughtFor_57 : decode cX6_thoughtFor 57 = .ok (.iconst 0, 1) := dcq_529.2.2.2.2.2.2.2.1
theorem dX6_thoughtFor_58 : decode cX6_thoughtFor 58 = .ok (.istore 5, 2) := dcq_529.2.2.2.2.2.2.2.2.1
theorem dX6_thoughtFor_60 : decode cX6_thoughtFor 60 = .ok (.iload 5, 2) := dcq_529.2.2.2.2.2.2.2.2.2.1
theorem dX6_thoughtFor_62 : decode cX6_thoughtFor 62 = .ok (.iload_n 2, 1) := dcq_529.2.2.2.2.2.2.2.2.2.2.1
theorem dX6_thoughtFor_63 : decode cX6_thoughtFor 63 = .ok (.if_icmp .ge 49, 3) := dcq_529.2.2.2.2.2.2.2.2.2.2.2
set_option maxRecDepth 20000 in
theorem dcb_530 : fd_B cX6_thoughtFor 66 [21, 4, 154, 0, 44, 42, 182, 0, 226, 87, 42, 27, 7, 182, 0, 191, 42, 180, 0, 19, 16, 8] := fd_o cX6_thoughtFor 66 _ (by decide +kernel)
theorem dcq_530 : (decode cX6_thoughtFor 66 = .ok (.iload 4, 2)) ∧ (decode cX6_thoughtFor 68 = .ok (.ifCond .ne 44, 3)) ∧ (decode cX6_thoughtFor 71 = .ok (.aload_n 0, 1)) ∧ (decode cX6_thoughtFor 72 = .ok (.invokevirtual 226, 3)) ∧ (decode cX6_thoughtFor 75 = .ok (.pop, 1)) ∧ (decode cX6_thoughtFor 76 = .ok (.aload_n 0, 1)) ∧ (decode cX6_thoughtFor 77 = .ok (.iload_n 1, 1)) ∧ (decode cX6_thoughtFor 78 = .ok (.iconst 4, 1)) ∧ (decode cX6_thoughtFor 79 = .ok (.invokevirtual 191, 3)) ∧ (decode cX6_thoughtFor 82 = .ok (.aload_n 0, 1)) ∧ (decode cX6_thoughtFor 83 = .ok (.getfield 19, 3)) ∧ (decode cX6_thoughtFor 86 = .ok (.bipush 8, 2)) := have h := dcb_530; ⟨fd_21 h rfl, have h := fd_t2 h; ⟨fd_154 h (by decide +kernel), have h := fd_t3 h; ⟨fd_42 h, have h := fd_t1 h; ⟨fd_182 h rfl, have h := fd_t3 h; ⟨fd_87 h, have h := fd_t1 h; ⟨fd_42 h, have h := fd_t1 h; ⟨fd_27 h, have h := fd_t1 h; ⟨fd_7 h, have h := fd_t1 h; ⟨fd_182 h rfl, have h := fd_t3 h; ⟨fd_42 h, have h := fd_t1 h; ⟨fd_180 h rfl, have h := fd_t3 h; fd_16 h (by decide +kernel)⟩⟩⟩⟩⟩⟩⟩⟩⟩⟩⟩
theorem dX6_thoughtFor_66 : decode cX6_thoughtFor 66 = .ok (.iload 4, 2) := dcq_530.1
theorem dX6_thoughtFor_68 : decode cX6_thoughtFor 68 = .ok (.ifCond .ne 44, 3) := dcq_530.2.1
theorem dX6_thoughtFor_71 : decode cX6_thoughtFor 71 = .ok (.aload_n 0, 1) := dcq_530.2.2.1
theorem dX6_thoughtFor_72 : decode cX6_thoughtFor 72 = .ok (.invokevirtual 226, 3) := dcq_530.2.2.2.1
theorem dX6_thoughtFor_75 : decode cX6_thoughtFor 75 = .ok (.pop, 1) := dcq_530.2.2.2.2.1
theorem dX6_thoughtFor_76 : decode cX6_thoughtFor 76 = .ok (.aload_n 0, 1) := dcq_530.2.2.2.2.2.1
theorem dX6_thoughtFor_77 : decode cX6_thoughtFor 77 = .ok (.iload_n 1, 1) := dcq_530.2.2.2.2.2.2.1
theorem dX6_thoughtFor_78 : decode cX6_thoughtFor 78 = .ok (.iconst 4, 1) := dcq_530.2.2.2.2.2.2.2.1
theorem dX6_thoughtFor_79 : decode cX6_thoughtFor 79 = .ok (.invokevirtual 191, 3) := dcq_530.2.2.2.2.2.2.2.2.1
theorem dX6_thoughtFor_82 : decode cX6_thoughtFor 82 = .ok (.aload_n 0, 1) := dcq_530.2.2.2.2.2.2.2.2.2.1
theorem dX6_thoughtFor_83 : decode cX6_thoughtFor 83 = .ok (.getfield 19, 3) := dcq_530.2.2.2.2.2.2.2.2.2.2.1
theorem dX6_thoughtFor_86 : decode cX6_thoughtFor 86 = .ok (.bipush 8, 2) := dcq_530.2.2.2.2.2.2.2.2.2.2.2
set_option maxRecDepth 20000 in
theorem dcb_531 : fd_B cX6_thoughtFor 88 [16, 6, 27, 104, 96, 7, 96, 46, 164, 0, 7, 4, 167, 0, 4, 3, 54, 4] := fd_o cX6_thoughtFor 88 _ (by decide +kernel)
theorem dcq_531 : (decode cX6_thoughtFor 88 = .ok (.bipush 6, 2)) ∧ (decode cX6_thoughtFor 90 = .ok (.iload_n 1, 1)) ∧ (decode cX6_thoughtFor 91 = .ok (.imul, 1)) ∧ (decode cX6_thoughtFor 92 = .ok (.iadd, 1)) ∧ (decode cX6_thoughtFor 93 = .ok (.iconst 4, 1)) ∧ (decode cX6_thoughtFor 94 = .ok (.iadd, 1)) ∧ (decode cX6_thoughtFor 95 = .ok (.iaload, 1)) ∧ (decode cX6_thoughtFor 96 = .ok (.if_icmp .le 7, 3)) ∧ (decode cX6_thoughtFor 99 = .ok (.iconst 1, 1)) ∧ (decode cX6_thoughtFor 100 = .ok (.goto 4, 3)) ∧ (decode cX6_thoughtFor 103 = .ok (.iconst 0, 1)) ∧ (decode cX6_thoughtFor 104 = .ok (.istore 4, 2)) := have h := dcb_531; ⟨fd_16 h (by decide +kernel), have h := fd_t2 h; ⟨fd_27 h, have h := fd_t1 h; ⟨fd_104 h, have h := fd_t1 h; ⟨fd_96 h, have h := fd_t1 h; ⟨fd_7 h, have h := fd_t1 h; ⟨fd_96 h, have h := fd_t1 h; ⟨fd_46 h, have h := fd_t1 h; ⟨fd_164 h (by decide +kernel), have h := fd_t3 h; ⟨fd_4 h, have h := fd_t1 h; ⟨fd_167 h (by decide +kernel), have h := fd_t3 h; ⟨fd_3 h, have h := fd_t1 h; fd_54 h rfl⟩⟩⟩⟩⟩⟩⟩⟩⟩⟩⟩
theorem dX6_thoughtFor_88 : decode cX6_thoughtFor 88 = .ok (.bipush 6, 2) := dcq_531.1
theorem dX6_thoughtFor_90 : decode cX6_thoughtFor 90 = .ok (.iload_n 1, 1) := dcq_531.2.1
theorem dX6_thoughtFor_91 : decode cX6_thoughtFor 91 = .ok (.imul, 1) := dcq_531.2.2.1
theorem dX6_thoughtFor_92 : decode cX6_thoughtFor 92 = .ok (.iadd, 1) := dcq_531.2.2.2.1
theorem dX6_thoughtFor_93 : decode cX6_thoughtFor 93 = .ok (.iconst 4, 1) := dcq_531.2.2.2.2.1
theorem dX6_thoughtFor_94 : decode cX6_thoughtFor 94 = .ok (.iadd, 1) := dcq_531.2.2.2.2.2.1
theorem dX6_thoughtFor_95 : decode cX6_thoughtFor 95 = .ok (.iaload, 1) := dcq_531.2.2.2.2.2.2.1
theorem dX6_thoughtFor_96 : decode cX6_thoughtFor 96 = .ok (.if_icmp .le 7, 3) := dcq_531.2.2.2.2.2.2.2.1
theorem dX6_thoughtFor_99 : decode cX6_thoughtFor 99 = .ok (.iconst 1, 1) := dcq_531.2.2.2.2.2.2.2.2.1
theorem dX6_thoughtFor_100 : decode cX6_thoughtFor 100 = .ok (.goto 4, 3) := dcq_531.2.2.2.2.2.2.2.2.2.1
theorem dX6_thoughtFor_103 : decode cX6_thoughtFor 103 = .ok (.iconst 0, 1) := dcq_531.2.2.2.2.2.2.2.2.2.2.1
theorem dX6_thoughtFor_104 : decode cX6_thoughtFor 104 = .ok (.istore 4, 2) := dcq_531.2.2.2.2.2.2.2.2.2.2.2
set_option maxRecDepth 20000 in
theorem dcb_532 : fd_B cX6_thoughtFor 106 [132, 5, 1, 167, 255, 207, 42, 180, 0, 19, 42, 180, 0, 7, 184, 0, 170, 167, 255, 169, 21, 4, 153, 0, 7, 29, 167, 0, 5] := fd_o cX6_thoughtFor 106 _ (by decide +kernel)
theorem dcq_532 : (decode cX6_thoughtFor 106 = .ok (.iinc 5 1, 3)) ∧ (decode cX6_thoughtFor 109 = .ok (.goto (-49), 3)) ∧ (decode cX6_thoughtFor 112 = .ok (.aload_n 0, 1)) ∧ (decode cX6_thoughtFor 113 = .ok (.getfield 19, 3)) ∧ (decode cX6_thoughtFor 116 = .ok (.aload_n 0, 1)) ∧ (decode cX6_thoughtFor 117 = .ok (.getfield 7, 3)) ∧ (decode cX6_thoughtFor 120 = .ok (.invokestatic 170, 3)) ∧ (decode cX6_thoughtFor 123 = .ok (.goto (-87), 3)) ∧ (decode cX6_thoughtFor 126 = .ok (.iload 4, 2)) ∧ (decode cX6_thoughtFor 128 = .ok (.ifCond .eq 7, 3)) ∧ (decode cX6_thoughtFor 131 = .ok (.iload_n 3, 1)) ∧ (decode cX6_thoughtFor 132 = .ok (.goto 5, 3)) := have h := dcb_532; ⟨fd_132 h rfl (by decide +kernel), have h := fd_t3 h; ⟨fd_167 h (by decide +kernel), have h := fd_t3 h; ⟨fd_42 h, have h := fd_t1 h; ⟨fd_180 h rfl, have h := fd_t3 h; ⟨fd_42 h, have h := fd_t1 h; ⟨fd_180 h rfl, have h := fd_t3 h; ⟨fd_184 h rfl, have h := fd_t3 h; ⟨fd_167 h (by decide +kernel), have h := fd_t3 h; ⟨fd_21 h rfl, have h := fd_t2 h; ⟨fd_153 h (by decide +kernel), have h := fd_t3 h; ⟨fd_29 h, have h := fd_t1 h; fd_167 h (by decide +kernel)⟩⟩⟩⟩⟩⟩⟩⟩⟩⟩⟩
theorem dX6_thoughtFor_106 : decode cX6_thoughtFor 106 = .ok (.iinc 5 1, 3) := dcq_532.1
theorem dX6_thoughtFor_109 : decode cX6_thoughtFor 109 = .ok (.goto (-49), 3) := dcq_532.2.1
theorem dX6_thoughtFor_112 : decode cX6_thoughtFor 112 = .ok (.aload_n 0, 1) := dcq_532.2.2.1
theorem dX6_thoughtFor_113 : decode cX6_thoughtFor 113 = .ok (.getfield 19, 3) := dcq_532.2.2.2.1
theorem dX6_thoughtFor_116 : decode cX6_thoughtFor 116 = .ok (.aload_n 0, 1) := dcq_532.2.2.2.2.1
theorem dX6_thoughtFor_117 : decode cX6_thoughtFor 117 = .ok (.getfield 7, 3) := dcq_532.2.2.2.2.2.1
theorem dX6_thoughtFor_120 : decode cX6_thoughtFor 120 = .ok (.invokestatic 170, 3) := dcq_532.2.2.2.2.2.2.1
theorem dX6_thoughtFor_123 : decode cX6_thoughtFor 123 = .ok (.goto (-87), 3) := dcq_532.2.2.2.2.2.2.2.1
theorem dX6_thoughtFor_126 : decode cX6_thoughtFor 126 = .ok (.iload 4, 2) := dcq_532.2.2.2.2.2.2.2.2.1
theorem dX6_thoughtFor_128 : decode cX6_thoughtFor 128 = .ok (.ifCond .eq 7, 3) := dcq_532.2.2.2.2.2.2.2.2.2.1
theorem dX6_thoughtFor_131 : decode cX6_thoughtFor 131 = .ok (.iload_n 3, 1) := dcq_532.2.2.2.2.2.2.2.2.2.2.1
theorem dX6_thoughtFor_132 : decode cX6_thoughtFor 132 = .ok (.goto 5, 3) := dcq_532.2.2.2.2.2.2.2.2.2.2.2
set_option maxRecDepth 20000 in
theorem dcb_533 : fd_B cX6_thoughtFor 135 [16, 253, 172] := fd_o cX6_thoughtFor 135 _ (by decide +kernel)
theorem dcq_533 : (decode cX6_thoughtFor 135 = .ok (.bipush (-3), 2)) ∧ (decode cX6_thoughtFor 137 = .ok (.ireturn, 1)) := have h := dcb_533; ⟨fd_16 h (by decide +kernel), have h := fd_t2 h; fd_172 h⟩
theorem dX6_thoughtFor_135 : decode cX6_thoughtFor 135 = .ok (.bipush (-3), 2) := dcq_533.1
theorem dX6_thoughtFor_137 : decode cX6_thoughtFor 137 = .ok (.ireturn, 1) := dcq_533.2
set_option maxRecDepth 20000 in
theorem dcb_534 : fd_B cX6_needed 0 [27, 4, 16, 20, 184, 0, 60, 154, 0, 5, 2, 172, 42, 180, 0, 7, 42, 180, 0, 19, 184, 0, 170] := fd_o cX6_needed 0 _ (by decide +kernel)
theorem dcq_534 : (decode cX6_needed 0 = .ok (.iload_n 1, 1)) ∧ (decode cX6_needed 1 = .ok (.iconst 1, 1)) ∧ (decode cX6_needed 2 = .ok (.bipush 20, 2)) ∧ (decode cX6_needed 4 = .ok (.invokestatic 60, 3)) ∧ (decode cX6_needed 7 = .ok (.ifCond .ne 5, 3)) ∧ (decode cX6_needed 10 = .ok (.iconst (-1), 1)) ∧ (decode cX6_needed 11 = .ok (.ireturn, 1)) ∧ (decode cX6_needed 12 = .ok (.aload_n 0, 1)) ∧ (decode cX6_needed 13 = .ok (.getfield 7, 3)) ∧ (decode cX6_needed 16 = .ok (.aload_n 0, 1)) ∧ (decode cX6_needed 17 = .ok (.getfield 19, 3)) ∧ (decode cX6_needed 20 = .ok (.invokestatic 170, 3)) := have h := dcb_534; ⟨fd_27 h, have h := fd_t1 h; ⟨fd_4 h, have h := fd_t1 h; ⟨fd_16 h (by decide +kernel), have h := fd_t2 h; ⟨fd_184 h rfl, have h := fd_t3 h; ⟨fd_154 h (by decide +kernel), have h := fd_t3 h; ⟨fd_2 h, have h := fd_t1 h; ⟨fd_172 h, have h := fd_t1 h; ⟨fd_42 h, have h := fd_t1 h; ⟨fd_180 h rfl, have h := fd_t3 h; ⟨fd_42 h, have h := fd_t1 h; ⟨fd_180 h rfl, have h := fd_t3 h; fd_184 h rfl⟩⟩⟩⟩⟩⟩⟩⟩⟩⟩⟩
theorem dX6_needed_0 : decode cX6_needed 0 = .ok (.iload_n 1, 1) := dcq_534.1
theorem dX6_needed_1 : decode cX6_needed 1 = .ok (.iconst 1, 1) := dcq_534.2.1
theorem dX6_needed_2 : decode cX6_needed 2 = .ok (.bipush 20, 2) := dcq_534.2.2.1
theorem dX6_needed_4 : decode cX6_needed 4 = .ok (.invokestatic 60, 3) := dcq_534.2.2.2.1
theorem dX6_needed_7 : decode cX6_needed 7 = .ok (.ifCond .ne 5, 3) := dcq_534.2.2.2.2.1
theorem dX6_needed_10 : decode cX6_needed 10 = .ok (.iconst (-1), 1) := dcq_534.2.2.2.2.2.1
theorem dX6_needed_11 : decode cX6_needed 11 = .ok (.ireturn, 1) := dcq_534.2.2.2.2.2.2.1
theorem dX6_needed_12 : decode cX6_needed 12 = .ok (.aload_n 0, 1) := dcq_534.2.2.2.2.2.2.2.1
theorem dX6_needed_13 : decode cX6_needed 13 = .ok (.getfield 7, 3) := dcq_534.2.2.2.2.2.2.2.2.1
theorem dX6_needed_16 : decode cX6_needed 16 = .ok (.aload_n 0, 1) := dcq_534.2.2.2.2.2.2.2.2.2.1
theorem dX6_needed_17 : decode cX6_needed 17 = .ok (.getfield 19, 3) := dcq_534.2.2.2.2.2.2.2.2.2.2.1
theorem dX6_needed_20 : decode cX6_needed 20 = .ok (.invokestatic 170, 3) := dcq_534.2.2.2.2.2.2.2.2.2.2.2
set_option maxRecDepth 20000 in
theorem dcb_535 : fd_B cX6_needed 23 [16, 253, 61, 42, 27, 182, 0, 239, 62, 3, 54, 4, 21, 4, 42, 180, 0, 7, 16, 6] := fd_o cX6_needed 23 _ (by decide +kernel)
theorem dcq_535 : (decode cX6_needed 23 = .ok (.bipush (-3), 2)) ∧ (decode cX6_needed 25 = .ok (.istore_n 2, 1)) ∧ (decode cX6_needed 26 = .ok (.aload_n 0, 1)) ∧ (decode cX6_needed 27 = .ok (.iload_n 1, 1)) ∧ (decode cX6_needed 28 = .ok (.invokevirtual 239, 3)) ∧ (decode cX6_needed 31 = .ok (.istore_n 3, 1)) ∧ (decode cX6_needed 32 = .ok (.iconst 0, 1)) ∧ (decode cX6_needed 33 = .ok (.istore 4, 2)) ∧ (decode cX6_needed 35 = .ok (.iload 4, 2)) ∧ (decode cX6_needed 37 = .ok (.aload_n 0, 1)) ∧ (decode cX6_needed 38 = .ok (.getfield 7, 3)) ∧ (decode cX6_needed 41 = .ok (.bipush 6, 2)) := have h := dcb_535; ⟨fd_16 h (by decide +kernel), have h := fd_t2 h; ⟨fd_61 h, have h := fd_t1 h; ⟨fd_42 h, have h := fd_t1 h; ⟨fd_27 h, have h := fd_t1 h; ⟨fd_182 h rfl, have h := fd_t3 h; ⟨fd_62 h, have h := fd_t1 h; ⟨fd_3 h, have h := fd_t1 h; ⟨fd_54 h rfl, have h := fd_t2 h; ⟨fd_21 h rfl, have h := fd_t2 h; ⟨fd_42 h, have h := fd_t1 h; ⟨fd_180 h rfl, have h := fd_t3 h; fd_16 h (by decide +kernel)⟩⟩⟩⟩⟩⟩⟩⟩⟩⟩⟩
theorem dX6_needed_23 : decode cX6_needed 23 = .ok (.bipush (-3), 2) := dcq_535.1
theorem dX6_needed_25 : decode cX6_needed 25 = .ok (.istore_n 2, 1) := dcq_535.2.1
theorem dX6_needed_26 : decode cX6_needed 26 = .ok (.aload_n 0, 1) := dcq_535.2.2.1
theorem dX6_needed_27 : decode cX6_needed 27 = .ok (.iload_n 1, 1) := dcq_535.2.2.2.1
theorem dX6_needed_28 : decode cX6_needed 28 = .ok (.invokevirtual 239, 3) := dcq_535.2.2.2.2.1
theorem dX6_needed_31 : decode cX6_needed 31 = .ok (.istore_n 3, 1) := dcq_535.2.2.2.2.2.1
theorem dX6_needed_32 : decode cX6_needed 32 = .ok (.iconst 0, 1) := dcq_535.2.2.2.2.2.2.1
theorem dX6_needed_33 : decode cX6_needed 33 = .ok (.istore 4, 2) := dcq_535.2.2.2.2.2.2.2.1
theorem dX6_needed_35 : decode cX6_needed 35 = .ok (.iload 4, 2) := dcq_535.2.2.2.2.2.2.2.2.1
theorem dX6_needed_37 : decode cX6_needed 37 = .ok (.aload_n 0, 1) := dcq_535.2.2.2.2.2.2.2.2.2.1
theorem dX6_needed_38 : decode cX6_needed 38 = .ok (.getfield 7, 3) := dcq_535.2.2.2.2.2.2.2.2.2.2.1
theorem dX6_needed_41 : decode cX6_needed 41 = .ok (.bipush 6, 2) := dcq_535.2.2.2.2.2.2.2.2.2.2.2
set_option maxRecDepth 20000 in
theorem dcb_536 : fd_B cX6_needed 43 [46, 162, 0, 50, 42, 4, 21, 4, 120, 181, 0, 213, 42, 27, 182, 0, 239, 54, 5, 21, 5] := fd_o cX6_needed 43 _ (by decide +kernel)
theorem dcq_536 : (decode cX6_needed 43 = .ok (.iaload, 1)) ∧ (decode cX6_needed 44 = .ok (.if_icmp .ge 50, 3)) ∧ (decode cX6_needed 47 = .ok (.aload_n 0, 1)) ∧ (decode cX6_needed 48 = .ok (.iconst 1, 1)) ∧ (decode cX6_needed 49 = .ok (.iload 4, 2)) ∧ (decode cX6_needed 51 = .ok (.ishl, 1)) ∧ (decode cX6_needed 52 = .ok (.putfield 213, 3)) ∧ (decode cX6_needed 55 = .ok (.aload_n 0, 1)) ∧ (decode cX6_needed 56 = .ok (.iload_n 1, 1)) ∧ (decode cX6_needed 57 = .ok (.invokevirtual 239, 3)) ∧ (decode cX6_needed 60 = .ok (.istore 5, 2)) ∧ (decode cX6_needed 62 = .ok (.iload 5, 2)) := have h := dcb_536; ⟨fd_46 h, have h := fd_t1 h; ⟨fd_162 h (by decide +kernel), have h := fd_t3 h; ⟨fd_42 h, have h := fd_t1 h; ⟨fd_4 h, have h := fd_t1 h; ⟨fd_21 h rfl, have h := fd_t2 h; ⟨fd_120 h, have h := fd_t1 h; ⟨fd_181 h rfl, have h := fd_t3 h; ⟨fd_42 h, have h := fd_t1 h; ⟨fd_27 h, have h := fd_t1 h; ⟨fd_182 h rfl, have h := fd_t3 h; ⟨fd_54 h rfl, have h := fd_t2 h; fd_21 h rfl⟩⟩⟩⟩⟩⟩⟩⟩⟩⟩⟩
theorem dX6_needed_43 : decode cX6_needed 43 = .ok (.iaload, 1) := dcq_536.1
theorem dX6_needed_44 : decode cX6_needed 44 = .ok (.if_icmp .ge 50, 3) := dcq_536.2.1
theorem dX6_needed_47 : decode cX6_needed 47 = .ok (.aload_n 0, 1) := dcq_536.2.2.1
theorem dX6_needed_48 : decode cX6_needed 48 = .ok (.iconst 1, 1) := dcq_536.2.2.2.1
theorem dX6_needed_49 : decode cX6_needed 49 = .ok (.iload 4, 2) := dcq_536.2.2.2.2.1
theorem dX6_needed_51 : decode cX6_needed 51 = .ok (.ishl, 1) := dcq_536.2.2.2.2.2.1
theorem dX6_needed_52 : decode cX6_needed 52 = .ok (.putfield 213, 3) := dcq_536.2.2.2.2.2.2.1
theorem dX6_needed_55 : decode cX6_needed 55 = .ok (.aload_n 0, 1) := dcq_536.2.2.2.2.2.2.2.1
theorem dX6_needed_56 : decode cX6_needed 56 = .ok (.iload_n 1, 1) := dcq_536.2.2.2.2.2.2.2.2.1
theorem dX6_needed_57 : decode cX6_needed 57 = .ok (.invokevirtual 239, 3) := dcq_536.2.2.2.2.2.2.2.2.2.1
theorem dX6_needed_60 : decode cX6_needed 60 = .ok (.istore 5, 2) := dcq_536.2.2.2.2.2.2.2.2.2.2.1
theorem dX6_needed_62 : decode cX6_needed 62 = .ok (.iload 5, 2) := dcq_536.2.2.2.2.2.2.2.2.2.2.2
set_option maxRecDepth 20000 in
theorem dcb_537 : fd_B cX6_needed 64 [29, 162, 0, 8, 21, 4, 167, 0, 4, 28, 61, 21, 5, 29, 162, 0, 8, 21, 5, 167, 0, 4, 29] := fd_o cX6_needed 64 _ (by decide +kernel)
theorem dcq_537 : (decode cX6_needed 64 = .ok (.iload_n 3, 1)) ∧ (decode cX6_needed 65 = .ok (.if_icmp .ge 8, 3)) ∧ (decode cX6_needed 68 = .ok (.iload 4, 2)) ∧ (decode cX6_needed 70 = .ok (.goto 4, 3)) ∧ (decode cX6_needed 73 = .ok (.iload_n 2, 1)) ∧ (decode cX6_needed 74 = .ok (.istore_n 2, 1)) ∧ (decode cX6_needed 75 = .ok (.iload 5, 2)) ∧ (decode cX6_needed 77 = .ok (.iload_n 3, 1)) ∧ (decode cX6_needed 78 = .ok (.if_icmp .ge 8, 3)) ∧ (decode cX6_needed 81 = .ok (.iload 5, 2)) ∧ (decode cX6_needed 83 = .ok (.goto 4, 3)) ∧ (decode cX6_needed 86 = .ok (.iload_n 3, 1)) := have h := dcb_537; ⟨fd_29 h, have h := fd_t1 h; ⟨fd_162 h (by decide +kernel), have h := fd_t3 h; ⟨fd_21 h rfl, have h := fd_t2 h; ⟨fd_167 h (by decide +kernel), have h := fd_t3 h; ⟨fd_28 h, have h := fd_t1 h; ⟨fd_61 h, have h := fd_t1 h; ⟨fd_21 h rfl, have h := fd_t2 h; ⟨fd_29 h, have h := fd_t1 h; ⟨fd_162 h (by decide +kernel), have h := fd_t3 h; ⟨fd_21 h rfl, have h := fd_t2 h; ⟨fd_167 h (by decide +kernel), have h := fd_t3 h; fd_29 h⟩⟩⟩⟩⟩⟩⟩⟩⟩⟩⟩
theorem dX6_needed_64 : decode cX6_needed 64 = .ok (.iload_n 3, 1) := dcq_537.1
theorem dX6_needed_65 : decode cX6_needed 65 = .ok (.if_icmp .ge 8, 3) := dcq_537.2.1
theorem dX6_needed_68 : decode cX6_needed 68 = .ok (.iload 4, 2) := dcq_537.2.2.1
theorem dX6_needed_70 : decode cX6_needed 70 = .ok (.goto 4, 3) := dcq_537.2.2.2.1
theorem dX6_needed_73 : decode cX6_needed 73 = .ok (.iload_n 2, 1) := dcq_537.2.2.2.2.1
theorem dX6_needed_74 : decode cX6_needed 74 = .ok (.istore_n 2, 1) := dcq_537.2.2.2.2.2.1
theorem dX6_needed_75 : decode cX6_needed 75 = .ok (.iload 5, 2) := dcq_537.2.2.2.2.2.2.1
theorem dX6_needed_77 : decode cX6_needed 77 = .ok (.iload_n 3, 1) := dcq_537.2.2.2.2.2.2.2.1
theorem dX6_needed_78 : decode cX6_needed 78 = .ok (.if_icmp .ge 8, 3) := dcq_537.2.2.2.2.2.2.2.2.1
theorem dX6_needed_81 : decode cX6_needed 81 = .ok (.iload 5, 2) := dcq_537.2.2.2.2.2.2.2.2.2.1
theorem dX6_needed_83 : decode cX6_needed 83 = .ok (.goto 4, 3) := dcq_537.2.2.2.2.2.2.2.2.2.2.1
theorem dX6_needed_86 : decode cX6_needed 86 = .ok (.iload_n 3, 1) := dcq_537.2.2.2.2.2.2.2.2.2.2.2
set_option maxRecDepth 20000 in
theorem dcb_538 : fd_B cX6_needed 87 [62, 132, 4, 1, 167, 255, 200, 42, 3, 181, 0, 213, 28, 172] := fd_o cX6_needed 87 _ (by decide +kernel)
theorem dcq_538 : (decode cX6_needed 87 = .ok (.istore_n 3, 1)) ∧ (decode cX6_needed 88 = .ok (.iinc 4 1, 3)) ∧ (decode cX6_needed 91 = .ok (.goto (-56), 3)) ∧ (decode cX6_needed 94 = .ok (.aload_n 0, 1)) ∧ (decode cX6_needed 95 = .ok (.iconst 0, 1)) ∧ (decode cX6_needed 96 = .ok (.putfield 213, 3)) ∧ (decode cX6_needed 99 = .ok (.iload_n 2, 1)) ∧ (decode cX6_needed 100 = .ok (.ireturn, 1)) := have h := dcb_538; ⟨fd_62 h, have h := fd_t1 h; ⟨fd_132 h rfl (by decide +kernel), have h := fd_t3 h; ⟨fd_167 h (by decide +kernel), have h := fd_t3 h; ⟨fd_42 h, have h := fd_t1 h; ⟨fd_3 h, have h := fd_t1 h; ⟨fd_181 h rfl, have h := fd_t3 h; ⟨fd_28 h, have h := fd_t1 h; fd_172 h⟩⟩⟩⟩⟩⟩⟩
theorem dX6_needed_87 : decode cX6_needed 87 = .ok (.istore_n 3, 1) := dcq_538.1
theorem dX6_needed_88 : decode cX6_needed 88 = .ok (.iinc 4 1, 3) := dcq_538.2.1
theorem dX6_needed_91 : decode cX6_needed 91 = .ok (.goto (-56), 3) := dcq_538.2.2.1
theorem dX6_needed_94 : decode cX6_needed 94 = .ok (.aload_n 0, 1) := dcq_538.2.2.2.1
theorem dX6_needed_95 : decode cX6_needed 95 = .ok (.iconst 0, 1) := dcq_538.2.2.2.2.1
theorem dX6_needed_96 : decode cX6_needed 96 = .ok (.putfield 213, 3) := dcq_538.2.2.2.2.2.1
theorem dX6_needed_99 : decode cX6_needed 99 = .ok (.iload_n 2, 1) := dcq_538.2.2.2.2.2.2.1
theorem dX6_needed_100 : decode cX6_needed 100 = .ok (.ireturn, 1) := dcq_538.2.2.2.2.2.2.2
set_option maxRecDepth 20000 in
theorem dcb_539 : fd_B cX6_fewest 0 [27, 4, 16, 10, 184, 0, 60, 153, 0, 14, 28, 3, 17, 39, 15, 184, 0, 60, 154, 0, 5, 2, 172] := fd_o cX6_fewest 0 _ (by decide +kernel)
theorem dcq_539 : (decode cX6_fewest 0 = .ok (.iload_n 1, 1)) ∧ (decode cX6_fewest 1 = .ok (.iconst 1, 1)) ∧ (decode cX6_fewest 2 = .ok (.bipush 10, 2)) ∧ (decode cX6_fewest 4 = .ok (.invokestatic 60, 3)) ∧ (decode cX6_fewest 7 = .ok (.ifCond .eq 14, 3)) ∧ (decode cX6_fewest 10 = .ok (.iload_n 2, 1)) ∧ (decode cX6_fewest 11 = .ok (.iconst 0, 1)) ∧ (decode cX6_fewest 12 = .ok (.sipush 9999, 3)) ∧ (decode cX6_fewest 15 = .ok (.invokestatic 60, 3)) ∧ (decode cX6_fewest 18 = .ok (.ifCond .ne 5, 3)) ∧ (decode cX6_fewest 21 = .ok (.iconst (-1), 1)) ∧ (decode cX6_fewest 22 = .ok (.ireturn, 1)) := have h := dcb_539; ⟨fd_27 h, have h := fd_t1 h; ⟨fd_4 h, have h := fd_t1 h; ⟨fd_16 h (by decide +kernel), have h := fd_t2 h; ⟨fd_184 h rfl, have h := fd_t3 h; ⟨fd_153 h (by decide +kernel), have h := fd_t3 h; ⟨fd_28 h, have h := fd_t1 h; ⟨fd_3 h, have h := fd_t1 h; ⟨fd_17 h (by decide +kernel), have h := fd_t3 h; ⟨fd_184 h rfl, have h := fd_t3 h; ⟨fd_154 h (by decide +kernel), have h := fd_t3 h; ⟨fd_2 h, have h := fd_t1 h; fd_172 h⟩⟩⟩⟩⟩⟩⟩⟩⟩⟩⟩
theorem dX6_fewest_0 : decode cX6_fewest 0 = .ok (.iload_n 1, 1) := dcq_539.1
theorem dX6_fewest_1 : decode cX6_fewest 1 = .ok (.iconst 1, 1) := dcq_539.2.1
theorem dX6_fewest_2 : decode cX6_fewest 2 = .ok (.bipush 10, 2) := dcq_539.2.2.1
theorem dX6_fewest_4 : decode cX6_fewest 4 = .ok (.invokestatic 60, 3) := dcq_539.2.2.2.1
theorem dX6_fewest_7 : decode cX6_fewest 7 = .ok (.ifCond .eq 14, 3) := dcq_539.2.2.2.2.1
theorem dX6_fewest_10 : decode cX6_fewest 10 = .ok (.iload_n 2, 1) := dcq_539.2.2.2.2.2.1
theorem dX6_fewest_11 : decode cX6_fewest 11 = .ok (.iconst 0, 1) := dcq_539.2.2.2.2.2.2.1
theorem dX6_fewest_12 : decode cX6_fewest 12 = .ok (.sipush 9999, 3) := dcq_539.2.2.2.2.2.2.2.1
theorem dX6_fewest_15 : decode cX6_fewest 15 = .ok (.invokestatic 60, 3) := dcq_539.2.2.2.2.2.2.2.2.1
theorem dX6_fewest_18 : decode cX6_fewest 18 = .ok (.ifCond .ne 5, 3) := dcq_539.2.2.2.2.2.2.2.2.2.1
theorem dX6_fewest_21 : decode cX6_fewest 21 = .ok (.iconst (-1), 1) := dcq_539.2.2.2.2.2.2.2.2.2.2.1
theorem dX6_fewest_22 : decode cX6_fewest 22 = .ok (.ireturn, 1) := dcq_539.2.2.2.2.2.2.2.2.2.2.2
set_option maxRecDepth 20000 in
theorem dcb_540 : fd_B cX6_fewest 23 [42, 180, 0, 7, 42, 180, 0, 19, 184, 0, 170, 2, 62, 4, 42, 180, 0, 7, 16, 6, 46] := fd_o cX6_fewest 23 _ (by decide +kernel)
theorem dcq_540 : (decode cX6_fewest 23 = .ok (.aload_n 0, 1)) ∧ (decode cX6_fewest 24 = .ok (.getfield 7, 3)) ∧ (decode cX6_fewest 27 = .ok (.aload_n 0, 1)) ∧ (decode cX6_fewest 28 = .ok (.getfield 19, 3)) ∧ (decode cX6_fewest 31 = .ok (.invokestatic 170, 3)) ∧ (decode cX6_fewest 34 = .ok (.iconst (-1), 1)) ∧ (decode cX6_fewest 35 = .ok (.istore_n 3, 1)) ∧ (decode cX6_fewest 36 = .ok (.iconst 1, 1)) ∧ (decode cX6_fewest 37 = .ok (.aload_n 0, 1)) ∧ (decode cX6_fewest 38 = .ok (.getfield 7, 3)) ∧ (decode cX6_fewest 41 = .ok (.bipush 6, 2)) ∧ (decode cX6_fewest 43 = .ok (.iaload, 1)) := have h := dcb_540; ⟨fd_42 h, have h := fd_t1 h; ⟨fd_180 h rfl, have h := fd_t3 h; ⟨fd_42 h, have h := fd_t1 h; ⟨fd_180 h rfl, have h := fd_t3 h; ⟨fd_184 h rfl, have h := fd_t3 h; ⟨fd_2 h, have h := fd_t1 h; ⟨fd_62 h, have h := fd_t1 h; ⟨fd_4 h, have h := fd_t1 h; ⟨fd_42 h, have h := fd_t1 h; ⟨fd_180 h rfl, have h := fd_t3 h; ⟨fd_16 h (by decide +kernel), have h := fd_t2 h; fd_46 h⟩⟩⟩⟩⟩⟩⟩⟩⟩⟩⟩
theorem dX6_fewest_23 : decode cX6_fewest 23 = .ok (.aload_n 0, 1) := dcq_540.1
theorem dX6_fewest_24 : decode cX6_fewest 24 = .ok (.getfield 7, 3) := dcq_540.2.1
theorem dX6_fewest_27 : decode cX6_fewest 27 = .ok (.aload_n 0, 1) := dcq_540.2.2.1
theorem dX6_fewest_28 : decode cX6_fewest 28 = .ok (.getfield 19, 3) := dcq_540.2.2.2.1
theorem dX6_fewest_31 : decode cX6_fewest 31 = .ok (.invokestatic 170, 3) := dcq_540.2.2.2.2.1
theorem dX6_fewest_34 : decode cX6_fewest 34 = .ok (.iconst (-1), 1) := dcq_540.2.2.2.2.2.1
theorem dX6_fewest_35 : decode cX6_fewest 35 = .ok (.istore_n 3, 1) := dcq_540.2.2.2.2.2.2.1
theorem dX6_fewest_36 : decode cX6_fewest 36 = .ok (.iconst 1, 1) := dcq_540.2.2.2.2.2.2.2.1
theorem dX6_fewest_37 : decode cX6_fewest 37 = .ok (.aload_n 0, 1) := dcq_540.2.2.2.2.2.2.2.2.1
theorem dX6_fewest_38 : decode cX6_fewest 38 = .ok (.getfield 7, 3) := dcq_540.2.2.2.2.2.2.2.2.2.1
theorem dX6_fewest_41 : decode cX6_fewest 41 = .ok (.bipush 6, 2) := dcq_540.2.2.2.2.2.2.2.2.2.2.1
theorem dX6_fewest_43 : decode cX6_fewest 43 = .ok (.iaload, 1) := dcq_540.2.2.2.2.2.2.2.2.2.2.2
set_option maxRecDepth 20000 in
theorem dcb_541 : fd_B cX6_fewest 44 [120, 4, 100, 54, 4, 3, 54, 5, 21, 5, 21, 4, 163, 0, 52, 29, 155, 0, 15, 21, 5] := fd_o cX6_fewest 44 _ (by decide +kernel)
theorem dcq_541 : (decode cX6_fewest 44 = .ok (.ishl, 1)) ∧ (decode cX6_fewest 45 = .ok (.iconst 1, 1)) ∧ (decode cX6_fewest 46 = .ok (.isub, 1)) ∧ (decode cX6_fewest 47 = .ok (.istore 4, 2)) ∧ (decode cX6_fewest 49 = .ok (.iconst 0, 1)) ∧ (decode cX6_fewest 50 = .ok (.istore 5, 2)) ∧ (decode cX6_fewest 52 = .ok (.iload 5, 2)) ∧ (decode cX6_fewest 54 = .ok (.iload 4, 2)) ∧ (decode cX6_fewest 56 = .ok (.if_icmp .gt 52, 3)) ∧ (decode cX6_fewest 59 = .ok (.iload_n 3, 1)) ∧ (decode cX6_fewest 60 = .ok (.ifCond .lt 15, 3)) ∧ (decode cX6_fewest 63 = .ok (.iload 5, 2)) := have h := dcb_541; ⟨fd_120 h, have h := fd_t1 h; ⟨fd_4 h, have h := fd_t1 h; ⟨fd_100 h, have h := fd_t1 h; ⟨fd_54 h rfl, have h := fd_t2 h; ⟨fd_3 h, have h := fd_t1 h; ⟨fd_54 h rfl, have h := fd_t2 h; ⟨fd_21 h rfl, have h := fd_t2 h; ⟨fd_21 h rfl, have h := fd_t2 h; ⟨fd_163 h (by decide +kernel), have h := fd_t3 h; ⟨fd_29 h, have h := fd_t1 h; ⟨fd_155 h (by decide +kernel), have h := fd_t3 h; fd_21 h rfl⟩⟩⟩⟩⟩⟩⟩⟩⟩⟩⟩
theorem dX6_fewest_44 : decode cX6_fewest 44 = .ok (.ishl, 1) := dcq_541.1
theorem dX6_fewest_45 : decode cX6_fewest 45 = .ok (.iconst 1, 1) := dcq_541.2.1
theorem dX6_fewest_46 : decode cX6_fewest 46 = .ok (.isub, 1) := dcq_541.2.2.1
theorem dX6_fewest_47 : decode cX6_fewest 47 = .ok (.istore 4, 2) := dcq_541.2.2.2.1
theorem dX6_fewest_49 : decode cX6_fewest 49 = .ok (.iconst 0, 1) := dcq_541.2.2.2.2.1
theorem dX6_fewest_50 : decode cX6_fewest 50 = .ok (.istore 5, 2) := dcq_541.2.2.2.2.2.1
theorem dX6_fewest_52 : decode cX6_fewest 52 = .ok (.iload 5, 2) := dcq_541.2.2.2.2.2.2.1
theorem dX6_fewest_54 : decode cX6_fewest 54 = .ok (.iload 4, 2) := dcq_541.2.2.2.2.2.2.2.1
theorem dX6_fewest_56 : decode cX6_fewest 56 = .ok (.if_icmp .gt 52, 3) := dcq_541.2.2.2.2.2.2.2.2.1
theorem dX6_fewest_59 : decode cX6_fewest 59 = .ok (.iload_n 3, 1) := dcq_541.2.2.2.2.2.2.2.2.2.1
theorem dX6_fewest_60 : decode cX6_fewest 60 = .ok (.ifCond .lt 15, 3) := dcq_541.2.2.2.2.2.2.2.2.2.2.1
theorem dX6_fewest_63 : decode cX6_fewest 63 = .ok (.iload 5, 2) := dcq_541.2.2.2.2.2.2.2.2.2.2.2
set_option maxRecDepth 20000 in
theorem dcb_542 : fd_B cX6_fewest 65 [184, 0, 245, 29, 184, 0, 245, 162, 0, 30, 42, 21, 4, 21, 5, 2, 130, 126, 181, 0, 213, 42] := fd_o cX6_fewest 65 _ (by decide +kernel)
theorem dcq_542 : (decode cX6_fewest 65 = .ok (.invokestatic 245, 3)) ∧ (decode cX6_fewest 68 = .ok (.iload_n 3, 1)) ∧ (decode cX6_fewest 69 = .ok (.invokestatic 245, 3)) ∧ (decode cX6_fewest 72 = .ok (.if_icmp .ge 30, 3)) ∧ (decode cX6_fewest 75 = .ok (.aload_n 0, 1)) ∧ (decode cX6_fewest 76 = .ok (.iload 4, 2)) ∧ (decode cX6_fewest 78 = .ok (.iload 5, 2)) ∧ (decode cX6_fewest 80 = .ok (.iconst (-1), 1)) ∧ (decode cX6_fewest 81 = .ok (.ixor, 1)) ∧ (decode cX6_fewest 82 = .ok (.iand, 1)) ∧ (decode cX6_fewest 83 = .ok (.putfield 213, 3)) ∧ (decode cX6_fewest 86 = .ok (.aload_n 0, 1)) := have h := dcb_542; ⟨fd_184 h rfl, have h := fd_t3 h; ⟨fd_29 h, have h := fd_t1 h; ⟨fd_184 h rfl, have h := fd_t3 h; ⟨fd_162 h (by decide +kernel), have h := fd_t3 h; ⟨fd_42 h, have h := fd_t1 h; ⟨fd_21 h rfl, have h := fd_t2 h; ⟨fd_21 h rfl, have h := fd_t2 h; ⟨fd_2 h, have h := fd_t1 h; ⟨fd_130 h, have h := fd_t1 h; ⟨fd_126 h, have h := fd_t1 h; ⟨fd_181 h rfl, have h := fd_t3 h; fd_42 h⟩⟩⟩⟩⟩⟩⟩⟩⟩⟩⟩
theorem dX6_fewest_65 : decode cX6_fewest 65 = .ok (.invokestatic 245, 3) := dcq_542.1
theorem dX6_fewest_68 : decode cX6_fewest 68 = .ok (.iload_n 3, 1) := dcq_542.2.1
theorem dX6_fewest_69 : decode cX6_fewest 69 = .ok (.invokestatic 245, 3) := dcq_542.2.2.1
theorem dX6_fewest_72 : decode cX6_fewest 72 = .ok (.if_icmp .ge 30, 3) := dcq_542.2.2.2.1
theorem dX6_fewest_75 : decode cX6_fewest 75 = .ok (.aload_n 0, 1) := dcq_542.2.2.2.2.1
theorem dX6_fewest_76 : decode cX6_fewest 76 = .ok (.iload 4, 2) := dcq_542.2.2.2.2.2.1
theorem dX6_fewest_78 : decode cX6_fewest 78 = .ok (.iload 5, 2) := dcq_542.2.2.2.2.2.2.1
theorem dX6_fewest_80 : decode cX6_fewest 80 = .ok (.iconst (-1), 1) := dcq_542.2.2.2.2.2.2.2.1
theorem dX6_fewest_81 : decode cX6_fewest 81 = .ok (.ixor, 1) := dcq_542.2.2.2.2.2.2.2.2.1
theorem dX6_fewest_82 : decode cX6_fewest 82 = .ok (.iand, 1) := dcq_542.2.2.2.2.2.2.2.2.2.1
theorem dX6_fewest_83 : decode cX6_fewest 83 = .ok (.putfield 213, 3) := dcq_542.2.2.2.2.2.2.2.2.2.2.1
theorem dX6_fewest_86 : decode cX6_fewest 86 = .ok (.aload_n 0, 1) := dcq_542.2.2.2.2.2.2.2.2.2.2.2
set_option maxRecDepth 20000 in
theorem dcb_543 : fd_B cX6_fewest 87 [27, 182, 0, 239, 28, 161, 0, 8, 21, 5, 167, 0, 4, 29, 62, 132, 5, 1, 167, 255, 203, 42, 3] := fd_o cX6_fewest 87 _ (by decide +kernel)
theorem dcq_543 : (decode cX6_fewest 87 = .ok (.iload_n 1, 1)) ∧ (decode cX6_fewest 88 = .ok (.invokevirtual 239, 3)) ∧ (decode cX6_fewest 91 = .ok (.iload_n 2, 1)) ∧ (decode cX6_fewest 92 = .ok (.if_icmp .lt 8, 3)) ∧ (decode cX6_fewest 95 = .ok (.iload 5, 2)) ∧ (decode cX6_fewest 97 = .ok (.goto 4, 3)) ∧ (decode cX6_fewest 100 = .ok (.iload_n 3, 1)) ∧ (decode cX6_fewest 101 = .ok (.istore_n 3, 1)) ∧ (decode cX6_fewest 102 = .ok (.iinc 5 1, 3)) ∧ (decode cX6_fewest 105 = .ok (.goto (-53), 3)) ∧ (decode cX6_fewest 108 = .ok (.aload_n 0, 1)) ∧ (decode cX6_fewest 109 = .ok (.iconst 0, 1)) := have h := dcb_543; ⟨fd_27 h, have h := fd_t1 h; ⟨fd_182 h rfl, have h := fd_t3 h; ⟨fd_28 h, have h := fd_t1 h; ⟨fd_161 h (by decide +kernel), have h := fd_t3 h; ⟨fd_21 h rfl, have h := fd_t2 h; ⟨fd_167 h (by decide +kernel), have h := fd_t3 h; ⟨fd_29 h, have h := fd_t1 h; ⟨fd_62 h, have h := fd_t1 h; ⟨fd_132 h rfl (by decide +kernel), have h := fd_t3 h; ⟨fd_167 h (by decide +kernel), have h := fd_t3 h; ⟨fd_42 h, have h := fd_t1 h; fd_3 h⟩⟩⟩⟩⟩⟩⟩⟩⟩⟩⟩
theorem dX6_fewest_87 : decode cX6_fewest 87 = .ok (.iload_n 1, 1) := dcq_543.1
theorem dX6_fewest_88 : decode cX6_fewest 88 = .ok (.invokevirtual 239, 3) := dcq_543.2.1
theorem dX6_fewest_91 : decode cX6_fewest 91 = .ok (.iload_n 2, 1) := dcq_543.2.2.1
theorem dX6_fewest_92 : decode cX6_fewest 92 = .ok (.if_icmp .lt 8, 3) := dcq_543.2.2.2.1
theorem dX6_fewest_95 : decode cX6_fewest 95 = .ok (.iload 5, 2) := dcq_543.2.2.2.2.1
theorem dX6_fewest_97 : decode cX6_fewest 97 = .ok (.goto 4, 3) := dcq_543.2.2.2.2.2.1
theorem dX6_fewest_100 : decode cX6_fewest 100 = .ok (.iload_n 3, 1) := dcq_543.2.2.2.2.2.2.1
theorem dX6_fewest_101 : decode cX6_fewest 101 = .ok (.istore_n 3, 1) := dcq_543.2.2.2.2.2.2.2.1
theorem dX6_fewest_102 : decode cX6_fewest 102 = .ok (.iinc 5 1, 3) := dcq_543.2.2.2.2.2.2.2.2.1
theorem dX6_fewest_105 : decode cX6_fewest 105 = .ok (.goto (-53), 3) := dcq_543.2.2.2.2.2.2.2.2.2.1
theorem dX6_fewest_108 : decode cX6_fewest 108 = .ok (.aload_n 0, 1) := dcq_543.2.2.2.2.2.2.2.2.2.2.1
theorem dX6_fewest_109 : decode cX6_fewest 109 = .ok (.iconst 0, 1) := dcq_543.2.2.2.2.2.2.2.2.2.2.2
set_option maxRecDepth 20000 in
theorem dcb_544 : fd_B cX6_fewest 110 [181, 0, 213, 29, 156, 0, 8, 16, 253, 167, 0, 4, 29, 172] := fd_o cX6_fewest 110 _ (by decide +kernel)
theorem dcq_544 : (decode cX6_fewest 110 = .ok (.putfield 213, 3)) ∧ (decode cX6_fewest 113 = .ok (.iload_n 3, 1)) ∧ (decode cX6_fewest 114 = .ok (.ifCond .ge 8, 3)) ∧ (decode cX6_fewest 117 = .ok (.bipush (-3), 2)) ∧ (decode cX6_fewest 119 = .ok (.goto 4, 3)) ∧ (decode cX6_fewest 122 = .ok (.iload_n 3, 1)) ∧ (decode cX6_fewest 123 = .ok (.ireturn, 1)) := have h := dcb_544; ⟨fd_181 h rfl, have h := fd_t3 h; ⟨fd_29 h, have h := fd_t1 h; ⟨fd_156 h (by decide +kernel), have h := fd_t3 h; ⟨fd_16 h (by decide +kernel), have h := fd_t2 h; ⟨fd_167 h (by decide +kernel), have h := fd_t3 h; ⟨fd_29 h, have h := fd_t1 h; fd_172 h⟩⟩⟩⟩⟩⟩
theorem dX6_fewest_110 : decode cX6_fewest 110 = .ok (.putfield 213, 3) := dcq_544.1
theorem dX6_fewest_113 : decode cX6_fewest 113 = .ok (.iload_n 3, 1) := dcq_544.2.1
theorem dX6_fewest_114 : decode cX6_fewest 114 = .ok (.ifCond .ge 8, 3) := dcq_544.2.2.1
theorem dX6_fewest_117 : decode cX6_fewest 117 = .ok (.bipush (-3), 2) := dcq_544.2.2.2.1
theorem dX6_fewest_119 : decode cX6_fewest 119 = .ok (.goto 4, 3) := dcq_544.2.2.2.2.1
theorem dX6_fewest_122 : decode cX6_fewest 122 = .ok (.iload_n 3, 1) := dcq_544.2.2.2.2.2.1
theorem dX6_fewest_123 : decode cX6_fewest 123 = .ok (.ireturn, 1) := dcq_544.2.2.2.2.2.2
set_option maxRecDepth 20000 in
theorem dcb_545 : fd_B cX6_thoughtOf 0 [3, 61, 3, 62, 29, 42, 180, 0, 7, 16, 6, 46, 162, 0, 31, 28, 27] := fd_o cX6_thoughtOf 0 _ (by decide +kernel)
theorem dcq_545 : (decode cX6_thoughtOf 0 = .ok (.iconst 0, 1)) ∧ (decode cX6_thoughtOf 1 = .ok (.istore_n 2, 1)) ∧ (decode cX6_thoughtOf 2 = .ok (.iconst 0, 1)) ∧ (decode cX6_thoughtOf 3 = .ok (.istore_n 3, 1)) ∧ (decode cX6_thoughtOf 4 = .ok (.iload_n 3, 1)) ∧ (decode cX6_thoughtOf 5 = .ok (.aload_n 0, 1)) ∧ (decode cX6_thoughtOf 6 = .ok (.getfield 7, 3)) ∧ (decode cX6_thoughtOf 9 = .ok (.bipush 6, 2)) ∧ (decode cX6_thoughtOf 11 = .ok (.iaload, 1)) ∧ (decode cX6_thoughtOf 12 = .ok (.if_icmp .ge 31, 3)) ∧ (decode cX6_thoughtOf 15 = .ok (.iload_n 2, 1)) ∧ (decode cX6_thoughtOf 16 = .ok (.iload_n 1, 1)) := have h := dcb_545; ⟨fd_3 h, have h := fd_t1 h; ⟨fd_61 h, have h := fd_t1 h; ⟨fd_3 h, have h := fd_t1 h; ⟨fd_62 h, have h := fd_t1 h; ⟨fd_29 h, have h := fd_t1 h; ⟨fd_42 h, have h := fd_t1 h; ⟨fd_180 h rfl, have h := fd_t3 h; ⟨fd_16 h (by decide +kernel), have h := fd_t2 h; ⟨fd_46 h, have h := fd_t1 h; ⟨fd_162 h (by decide +kernel), have h := fd_t3 h; ⟨fd_28 h, have h := fd_t1 h; fd_27 h⟩⟩⟩⟩⟩⟩⟩⟩⟩⟩⟩
theorem dX6_thoughtOf_0 : decode cX6_thoughtOf 0 = .ok (.iconst 0, 1) := dcq_545.1
theorem dX6_thoughtOf_1 : decode cX6_thoughtOf 1 = .ok (.istore_n 2, 1) := dcq_545.2.1
theorem dX6_thoughtOf_2 : decode cX6_thoughtOf 2 = .ok (.iconst 0, 1) := dcq_545.2.2.1
theorem dX6_thoughtOf_3 : decode cX6_thoughtOf 3 = .ok (.istore_n 3, 1) := dcq_545.2.2.2.1
theorem dX6_thoughtOf_4 : decode cX6_thoughtOf 4 = .ok (.iload_n 3, 1) := dcq_545.2.2.2.2.1
theorem dX6_thoughtOf_5 : decode cX6_thoughtOf 5 = .ok (.aload_n 0, 1) := dcq_545.2.2.2.2.2.1
theorem dX6_thoughtOf_6 : decode cX6_thoughtOf 6 = .ok (.getfield 7, 3) := dcq_545.2.2.2.2.2.2.1
theorem dX6_thoughtOf_9 : decode cX6_thoughtOf 9 = .ok (.bipush 6, 2) := dcq_545.2.2.2.2.2.2.2.1
theorem dX6_thoughtOf_11 : decode cX6_thoughtOf 11 = .ok (.iaload, 1) := dcq_545.2.2.2.2.2.2.2.2.1
theorem dX6_thoughtOf_12 : decode cX6_thoughtOf 12 = .ok (.if_icmp .ge 31, 3) := dcq_545.2.2.2.2.2.2.2.2.2.1
theorem dX6_thoughtOf_15 : decode cX6_thoughtOf 15 = .ok (.iload_n 2, 1) := dcq_545.2.2.2.2.2.2.2.2.2.2.1
theorem dX6_thoughtOf_16 : decode cX6_thoughtOf 16 = .ok (.iload_n 1, 1) := dcq_545.2.2.2.2.2.2.2.2.2.2.2
set_option maxRecDepth 20000 in
theorem dcb_546 : fd_B cX6_thoughtOf 17 [29, 122, 4, 126, 4, 160, 0, 12, 42, 29, 4, 182, 0, 191, 167, 0, 4, 3] := fd_o cX6_thoughtOf 17 _ (by decide +kernel)
theorem dcq_546 : (decode cX6_thoughtOf 17 = .ok (.iload_n 3, 1)) ∧ (decode cX6_thoughtOf 18 = .ok (.ishr, 1)) ∧ (decode cX6_thoughtOf 19 = .ok (.iconst 1, 1)) ∧ (decode cX6_thoughtOf 20 = .ok (.iand, 1)) ∧ (decode cX6_thoughtOf 21 = .ok (.iconst 1, 1)) ∧ (decode cX6_thoughtOf 22 = .ok (.if_icmp .ne 12, 3)) ∧ (decode cX6_thoughtOf 25 = .ok (.aload_n 0, 1)) ∧ (decode cX6_thoughtOf 26 = .ok (.iload_n 3, 1)) ∧ (decode cX6_thoughtOf 27 = .ok (.iconst 1, 1)) ∧ (decode cX6_thoughtOf 28 = .ok (.invokevirtual 191, 3)) ∧ (decode cX6_thoughtOf 31 = .ok (.goto 4, 3)) ∧ (decode cX6_thoughtOf 34 = .ok (.iconst 0, 1)) := have h := dcb_546; ⟨fd_29 h, have h := fd_t1 h; ⟨fd_122 h, have h := fd_t1 h; ⟨fd_4 h, have h := fd_t1 h; ⟨fd_126 h, have h := fd_t1 h; ⟨fd_4 h, have h := fd_t1 h; ⟨fd_160 h (by decide +kernel), have h := fd_t3 h; ⟨fd_42 h, have h := fd_t1 h; ⟨fd_29 h, have h := fd_t1 h; ⟨fd_4 h, have h := fd_t1 h; ⟨fd_182 h rfl, have h := fd_t3 h; ⟨fd_167 h (by decide +kernel), have h := fd_t3 h; fd_3 h⟩⟩⟩⟩⟩⟩⟩⟩⟩⟩⟩
theorem dX6_thoughtOf_17 : decode cX6_thoughtOf 17 = .ok (.iload_n 3, 1) := dcq_546.1
theorem dX6_thoughtOf_18 : decode cX6_thoughtOf 18 = .ok (.ishr, 1) := dcq_546.2.1
theorem dX6_thoughtOf_19 : decode cX6_thoughtOf 19 = .ok (.iconst 1, 1) := dcq_546.2.2.1
theorem dX6_thoughtOf_20 : decode cX6_thoughtOf 20 = .ok (.iand, 1) := dcq_546.2.2.2.1
theorem dX6_thoughtOf_21 : decode cX6_thoughtOf 21 = .ok (.iconst 1, 1) := dcq_546.2.2.2.2.1
theorem dX6_thoughtOf_22 : decode cX6_thoughtOf 22 = .ok (.if_icmp .ne 12, 3) := dcq_546.2.2.2.2.2.1
theorem dX6_thoughtOf_25 : decode cX6_thoughtOf 25 = .ok (.aload_n 0, 1) := dcq_546.2.2.2.2.2.2.1
theorem dX6_thoughtOf_26 : decode cX6_thoughtOf 26 = .ok (.iload_n 3, 1) := dcq_546.2.2.2.2.2.2.2.1
theorem dX6_thoughtOf_27 : decode cX6_thoughtOf 27 = .ok (.iconst 1, 1) := dcq_546.2.2.2.2.2.2.2.2.1
theorem dX6_thoughtOf_28 : decode cX6_thoughtOf 28 = .ok (.invokevirtual 191, 3) := dcq_546.2.2.2.2.2.2.2.2.2.1
theorem dX6_thoughtOf_31 : decode cX6_thoughtOf 31 = .ok (.goto 4, 3) := dcq_546.2.2.2.2.2.2.2.2.2.2.1
theorem dX6_thoughtOf_34 : decode cX6_thoughtOf 34 = .ok (.iconst 0, 1) := dcq_546.2.2.2.2.2.2.2.2.2.2.2
set_option maxRecDepth 20000 in
theorem dcb_547 : fd_B cX6_thoughtOf 35 [96, 61, 132, 3, 1, 167, 255, 220, 28, 172] := fd_o cX6_thoughtOf 35 _ (by decide +kernel)
theorem dcq_547 : (decode cX6_thoughtOf 35 = .ok (.iadd, 1)) ∧ (decode cX6_thoughtOf 36 = .ok (.istore_n 2, 1)) ∧ (decode cX6_thoughtOf 37 = .ok (.iinc 3 1, 3)) ∧ (decode cX6_thoughtOf 40 = .ok (.goto (-36), 3)) ∧ (decode cX6_thoughtOf 43 = .ok (.iload_n 2, 1)) ∧ (decode cX6_thoughtOf 44 = .ok (.ireturn, 1)) := have h := dcb_547; ⟨fd_96 h, have h := fd_t1 h; ⟨fd_61 h, have h := fd_t1 h; ⟨fd_132 h rfl (by decide +kernel), have h := fd_t3 h; ⟨fd_167 h (by decide +kernel), have h := fd_t3 h; ⟨fd_28 h, have h := fd_t1 h; fd_172 h⟩⟩⟩⟩⟩
theorem dX6_thoughtOf_35 : decode cX6_thoughtOf 35 = .ok (.iadd, 1) := dcq_547.1
theorem dX6_thoughtOf_36 : decode cX6_thoughtOf 36 = .ok (.istore_n 2, 1) := dcq_547.2.1
theorem dX6_thoughtOf_37 : decode cX6_thoughtOf 37 = .ok (.iinc 3 1, 3) := dcq_547.2.2.1
theorem dX6_thoughtOf_40 : decode cX6_thoughtOf 40 = .ok (.goto (-36), 3) := dcq_547.2.2.2.1
theorem dX6_thoughtOf_43 : decode cX6_thoughtOf 43 = .ok (.iload_n 2, 1) := dcq_547.2.2.2.2.1
theorem dX6_thoughtOf_44 : decode cX6_thoughtOf 44 = .ok (.ireturn, 1) := dcq_547.2.2.2.2.2
set_option maxRecDepth 20000 in
theorem dcb_548 : fd_B cX6_packed 0 [27, 4, 16, 99, 184, 0, 60, 154, 0, 5, 2, 172, 3, 61, 3, 62, 29] := fd_o cX6_packed 0 _ (by decide +kernel)
theorem dcq_548 : (decode cX6_packed 0 = .ok (.iload_n 1, 1)) ∧ (decode cX6_packed 1 = .ok (.iconst 1, 1)) ∧ (decode cX6_packed 2 = .ok (.bipush 99, 2)) ∧ (decode cX6_packed 4 = .ok (.invokestatic 60, 3)) ∧ (decode cX6_packed 7 = .ok (.ifCond .ne 5, 3)) ∧ (decode cX6_packed 10 = .ok (.iconst (-1), 1)) ∧ (decode cX6_packed 11 = .ok (.ireturn, 1)) ∧ (decode cX6_packed 12 = .ok (.iconst 0, 1)) ∧ (decode cX6_packed 13 = .ok (.istore_n 2, 1)) ∧ (decode cX6_packed 14 = .ok (.iconst 0, 1)) ∧ (decode cX6_packed 15 = .ok (.istore_n 3, 1)) ∧ (decode cX6_packed 16 = .ok (.iload_n 3, 1)) := have h := dcb_548; ⟨fd_27 h, have h := fd_t1 h; ⟨fd_4 h, have h := fd_t1 h; ⟨fd_16 h (by decide +kernel), have h := fd_t2 h; ⟨fd_184 h rfl, have h := fd_t3 h; ⟨fd_154 h (by decide +kernel), have h := fd_t3 h; ⟨fd_2 h, have h := fd_t1 h; ⟨fd_172 h, have h := fd_t1 h; ⟨fd_3 h, have h := fd_t1 h; ⟨fd_61 h, have h := fd_t1 h; ⟨fd_3 h, have h := fd_t1 h; ⟨fd_62 h, have h := fd_t1 h; fd_29 h⟩⟩⟩⟩⟩⟩⟩⟩⟩⟩⟩
theorem dX6_packed_0 : decode cX6_packed 0 = .ok (.iload_n 1, 1) := dcq_548.1
theorem dX6_packed_1 : decode cX6_packed 1 = .ok (.iconst 1, 1) := dcq_548.2.1
theorem dX6_packed_2 : decode cX6_packed 2 = .ok (.bipush 99, 2) := dcq_548.2.2.1
theorem dX6_packed_4 : decode cX6_packed 4 = .ok (.invokestatic 60, 3) := dcq_548.2.2.2.1
theorem dX6_packed_7 : decode cX6_packed 7 = .ok (.ifCond .ne 5, 3) := dcq_548.2.2.2.2.1
theorem dX6_packed_10 : decode cX6_packed 10 = .ok (.iconst (-1), 1) := dcq_548.2.2.2.2.2.1
theorem dX6_packed_11 : decode cX6_packed 11 = .ok (.ireturn, 1) := dcq_548.2.2.2.2.2.2.1
theorem dX6_packed_12 : decode cX6_packed 12 = .ok (.iconst 0, 1) := dcq_548.2.2.2.2.2.2.2.1
theorem dX6_packed_13 : decode cX6_packed 13 = .ok (.istore_n 2, 1) := dcq_548.2.2.2.2.2.2.2.2.1
theorem dX6_packed_14 : decode cX6_packed 14 = .ok (.iconst 0, 1) := dcq_548.2.2.2.2.2.2.2.2.2.1
theorem dX6_packed_15 : decode cX6_packed 15 = .ok (.istore_n 3, 1) := dcq_548.2.2.2.2.2.2.2.2.2.2.1
theorem dX6_packed_16 : decode cX6_packed 16 = .ok (.iload_n 3, 1) := dcq_548.2.2.2.2.2.2.2.2.2.2.2
set_option maxRecDepth 20000 in
theorem dcb_549 : fd_B cX6_packed 17 [42, 180, 0, 7, 16, 6, 46, 162, 0, 41, 42, 29, 4, 182, 0, 191, 27, 164, 0, 6, 16, 253] := fd_o cX6_packed 17 _ (by decide +kernel)
theorem dcq_549 : (decode cX6_packed 17 = .ok (.aload_n 0, 1)) ∧ (decode cX6_packed 18 = .ok (.getfield 7, 3)) ∧ (decode cX6_packed 21 = .ok (.bipush 6, 2)) ∧ (decode cX6_packed 23 = .ok (.iaload, 1)) ∧ (decode cX6_packed 24 = .ok (.if_icmp .ge 41, 3)) ∧ (decode cX6_packed 27 = .ok (.aload_n 0, 1)) ∧ (decode cX6_packed 28 = .ok (.iload_n 3, 1)) ∧ (decode cX6_packed 29 = .ok (.iconst 1, 1)) ∧ (decode cX6_packed 30 = .ok (.invokevirtual 191, 3)) ∧ (decode cX6_packed 33 = .ok (.iload_n 1, 1)) ∧ (decode cX6_packed 34 = .ok (.if_icmp .le 6, 3)) ∧ (decode cX6_packed 37 = .ok (.bipush (-3), 2)) := have h := dcb_549; ⟨fd_42 h, have h := fd_t1 h; ⟨fd_180 h rfl, have h := fd_t3 h; ⟨fd_16 h (by decide +kernel), have h := fd_t2 h; ⟨fd_46 h, have h := fd_t1 h; ⟨fd_162 h (by decide +kernel), have h := fd_t3 h; ⟨fd_42 h, have h := fd_t1 h; ⟨fd_29 h, have h := fd_t1 h; ⟨fd_4 h, have h := fd_t1 h; ⟨fd_182 h rfl, have h := fd_t3 h; ⟨fd_27 h, have h := fd_t1 h; ⟨fd_164 h (by decide +kernel), have h := fd_t3 h; fd_16 h (by decide +kernel)⟩⟩⟩⟩⟩⟩⟩⟩⟩⟩⟩
theorem dX6_packed_17 : decode cX6_packed 17 = .ok (.aload_n 0, 1) := dcq_549.1
theorem dX6_packed_18 : decode cX6_packed 18 = .ok (.getfield 7, 3) := dcq_549.2.1
theorem dX6_packed_21 : decode cX6_packed 21 = .ok (.bipush 6, 2) := dcq_549.2.2.1
theorem dX6_packed_23 : decode cX6_packed 23 = .ok (.iaload, 1) := dcq_549.2.2.2.1
theorem dX6_packed_24 : decode cX6_packed 24 = .ok (.if_icmp .ge 41, 3) := dcq_549.2.2.2.2.1
theorem dX6_packed_27 : decode cX6_packed 27 = .ok (.aload_n 0, 1) := dcq_549.2.2.2.2.2.1
theorem dX6_packed_28 : decode cX6_packed 28 = .ok (.iload_n 3, 1) := dcq_549.2.2.2.2.2.2.1
theorem dX6_packed_29 : decode cX6_packed 29 = .ok (.iconst 1, 1) := dcq_549.2.2.2.2.2.2.2.1
theorem dX6_packed_30 : decode cX6_packed 30 = .ok (.invokevirtual 191, 3) := dcq_549.2.2.2.2.2.2.2.2.1
theorem dX6_packed_33 : decode cX6_packed 33 = .ok (.iload_n 1, 1) := dcq_549.2.2.2.2.2.2.2.2.2.1
theorem dX6_packed_34 : decode cX6_packed 34 = .ok (.if_icmp .le 6, 3) := dcq_549.2.2.2.2.2.2.2.2.2.2.1
theorem dX6_packed_37 : decode cX6_packed 37 = .ok (.bipush (-3), 2) := dcq_549.2.2.2.2.2.2.2.2.2.2.2
set_option maxRecDepth 20000 in
theorem dcb_550 : fd_B cX6_packed 39 [172, 28, 42, 29, 4, 182, 0, 191, 158, 0, 9, 4, 29, 120, 167, 0, 4, 3] := fd_o cX6_packed 39 _ (by decide +kernel)
theorem dcq_550 : (decode cX6_packed 39 = .ok (.ireturn, 1)) ∧ (decode cX6_packed 40 = .ok (.iload_n 2, 1)) ∧ (decode cX6_packed 41 = .ok (.aload_n 0, 1)) ∧ (decode cX6_packed 42 = .ok (.iload_n 3, 1)) ∧ (decode cX6_packed 43 = .ok (.iconst 1, 1)) ∧ (decode cX6_packed 44 = .ok (.invokevirtual 191, 3)) ∧ (decode cX6_packed 47 = .ok (.ifCond .le 9, 3)) ∧ (decode cX6_packed 50 = .ok (.iconst 1, 1)) ∧ (decode cX6_packed 51 = .ok (.iload_n 3, 1)) ∧ (decode cX6_packed 52 = .ok (.ishl, 1)) ∧ (decode cX6_packed 53 = .ok (.goto 4, 3)) ∧ (decode cX6_packed 56 = .ok (.iconst 0, 1)) := have h := dcb_550; ⟨fd_172 h, have h := fd_t1 h; ⟨fd_28 h, have h := fd_t1 h; ⟨fd_42 h, have h := fd_t1 h; ⟨fd_29 h, have h := fd_t1 h; ⟨fd_4 h, have h := fd_t1 h; ⟨fd_182 h rfl, have h := fd_t3 h; ⟨fd_158 h (by decide +kernel), have h := fd_t3 h; ⟨fd_4 h, have h := fd_t1 h; ⟨fd_29 h, have h := fd_t1 h; ⟨fd_120 h, have h := fd_t1 h; ⟨fd_167 h (by decide +kernel), have h := fd_t3 h; fd_3 h⟩⟩⟩⟩⟩⟩⟩⟩⟩⟩⟩
theorem dX6_packed_39 : decode cX6_packed 39 = .ok (.ireturn, 1) := dcq_550.1
theorem dX6_packed_40 : decode cX6_packed 40 = .ok (.iload_n 2, 1) := dcq_550.2.1
theorem dX6_packed_41 : decode cX6_packed 41 = .ok (.aload_n 0, 1) := dcq_550.2.2.1
theorem dX6_packed_42 : decode cX6_packed 42 = .ok (.iload_n 3, 1) := dcq_550.2.2.2.1
theorem dX6_packed_43 : decode cX6_packed 43 = .ok (.iconst 1, 1) := dcq_550.2.2.2.2.1
theorem dX6_packed_44 : decode cX6_packed 44 = .ok (.invokevirtual 191, 3) := dcq_550.2.2.2.2.2.1
theorem dX6_packed_47 : decode cX6_packed 47 = .ok (.ifCond .le 9, 3) := dcq_550.2.2.2.2.2.2.1
theorem dX6_packed_50 : decode cX6_packed 50 = .ok (.iconst 1, 1) := dcq_550.2.2.2.2.2.2.2.1
theorem dX6_packed_51 : decode cX6_packed 51 = .ok (.iload_n 3, 1) := dcq_550.2.2.2.2.2.2.2.2.1
theorem dX6_packed_52 : decode cX6_packed 52 = .ok (.ishl, 1) := dcq_550.2.2.2.2.2.2.2.2.2.1
theorem dX6_packed_53 : decode cX6_packed 53 = .ok (.goto 4, 3) := dcq_550.2.2.2.2.2.2.2.2.2.2.1
theorem dX6_packed_56 : decode cX6_packed 56 = .ok (.iconst 0, 1) := dcq_550.2.2.2.2.2.2.2.2.2.2.2
set_option maxRecDepth 20000 in
theorem dcb_551 : fd_B cX6_packed 57 [128, 61, 132, 3, 1, 167, 255, 210, 3, 62, 29, 28, 163, 0, 89, 42, 180, 0, 25, 29] := fd_o cX6_packed 57 _ (by decide +kernel)
theorem dcq_551 : (decode cX6_packed 57 = .ok (.ior, 1)) ∧ (decode cX6_packed 58 = .ok (.istore_n 2, 1)) ∧ (decode cX6_packed 59 = .ok (.iinc 3 1, 3)) ∧ (decode cX6_packed 62 = .ok (.goto (-46), 3)) ∧ (decode cX6_packed 65 = .ok (.iconst 0, 1)) ∧ (decode cX6_packed 66 = .ok (.istore_n 3, 1)) ∧ (decode cX6_packed 67 = .ok (.iload_n 3, 1)) ∧ (decode cX6_packed 68 = .ok (.iload_n 2, 1)) ∧ (decode cX6_packed 69 = .ok (.if_icmp .gt 89, 3)) ∧ (decode cX6_packed 72 = .ok (.aload_n 0, 1)) ∧ (decode cX6_packed 73 = .ok (.getfield 25, 3)) ∧ (decode cX6_packed 76 = .ok (.iload_n 3, 1)) := have h := dcb_551; ⟨fd_128 h, have h := fd_t1 h; ⟨fd_61 h, have h := fd_t1 h; ⟨fd_132 h rfl (by decide +kernel), have h := fd_t3 h; ⟨fd_167 h (by decide +kernel), have h := fd_t3 h; ⟨fd_3 h, have h := fd_t1 h; ⟨fd_62 h, have h := fd_t1 h; ⟨fd_29 h, have h := fd_t1 h; ⟨fd_28 h, have h := fd_t1 h; ⟨fd_163 h (by decide +kernel), have h := fd_t3 h; ⟨fd_42 h, have h := fd_t1 h; ⟨fd_180 h rfl, have h := fd_t3 h; fd_29 h⟩⟩⟩⟩⟩⟩⟩⟩⟩⟩⟩
theorem dX6_packed_57 : decode cX6_packed 57 = .ok (.ior, 1) := dcq_551.1
theorem dX6_packed_58 : decode cX6_packed 58 = .ok (.istore_n 2, 1) := dcq_551.2.1
theorem dX6_packed_59 : decode cX6_packed 59 = .ok (.iinc 3 1, 3) := dcq_551.2.2.1
theorem dX6_packed_62 : decode cX6_packed 62 = .ok (.goto (-46), 3) := dcq_551.2.2.2.1
theorem dX6_packed_65 : decode cX6_packed 65 = .ok (.iconst 0, 1) := dcq_551.2.2.2.2.1
theorem dX6_packed_66 : decode cX6_packed 66 = .ok (.istore_n 3, 1) := dcq_551.2.2.2.2.2.1
theorem dX6_packed_67 : decode cX6_packed 67 = .ok (.iload_n 3, 1) := dcq_551.2.2.2.2.2.2.1
theorem dX6_packed_68 : decode cX6_packed 68 = .ok (.iload_n 2, 1) := dcq_551.2.2.2.2.2.2.2.1
theorem dX6_packed_69 : decode cX6_packed 69 = .ok (.if_icmp .gt 89, 3) := dcq_551.2.2.2.2.2.2.2.2.1
theorem dX6_packed_72 : decode cX6_packed 72 = .ok (.aload_n 0, 1) := dcq_551.2.2.2.2.2.2.2.2.2.1
theorem dX6_packed_73 : decode cX6_packed 73 = .ok (.getfield 25, 3) := dcq_551.2.2.2.2.2.2.2.2.2.2.1
theorem dX6_packed_76 : decode cX6_packed 76 = .ok (.iload_n 3, 1) := dcq_551.2.2.2.2.2.2.2.2.2.2.2
set_option maxRecDepth 20000 in
theorem dcb_552 : fd_B cX6_packed 77 [29, 184, 0, 245, 79, 29, 54, 4, 21, 4, 158, 0, 65, 42, 21, 4, 182, 0, 248, 27, 163, 0, 44] := fd_o cX6_packed 77 _ (by decide +kernel)
theorem dcq_552 : (decode cX6_packed 77 = .ok (.iload_n 3, 1)) ∧ (decode cX6_packed 78 = .ok (.invokestatic 245, 3)) ∧ (decode cX6_packed 81 = .ok (.iastore, 1)) ∧ (decode cX6_packed 82 = .ok (.iload_n 3, 1)) ∧ (decode cX6_packed 83 = .ok (.istore 4, 2)) ∧ (decode cX6_packed 85 = .ok (.iload 4, 2)) ∧ (decode cX6_packed 87 = .ok (.ifCond .le 65, 3)) ∧ (decode cX6_packed 90 = .ok (.aload_n 0, 1)) ∧ (decode cX6_packed 91 = .ok (.iload 4, 2)) ∧ (decode cX6_packed 93 = .ok (.invokevirtual 248, 3)) ∧ (decode cX6_packed 96 = .ok (.iload_n 1, 1)) ∧ (decode cX6_packed 97 = .ok (.if_icmp .gt 44, 3)) := have h := dcb_552; ⟨fd_29 h, have h := fd_t1 h; ⟨fd_184 h rfl, have h := fd_t3 h; ⟨fd_79 h, have h := fd_t1 h; ⟨fd_29 h, have h := fd_t1 h; ⟨fd_54 h rfl, have h := fd_t2 h; ⟨fd_21 h rfl, have h := fd_t2 h; ⟨fd_158 h (by decide +kernel), have h := fd_t3 h; ⟨fd_42 h, have h := fd_t1 h; ⟨fd_21 h rfl, have h := fd_t2 h; ⟨fd_182 h rfl, have h := fd_t3 h; ⟨fd_27 h, have h := fd_t1 h; fd_163 h (by decide +kernel)⟩⟩⟩⟩⟩⟩⟩⟩⟩⟩⟩
theorem dX6_packed_77 : decode cX6_packed 77 = .ok (.iload_n 3, 1) := dcq_552.1
theorem dX6_packed_78 : decode cX6_packed 78 = .ok (.invokestatic 245, 3) := dcq_552.2.1
theorem dX6_packed_81 : decode cX6_packed 81 = .ok (.iastore, 1) := dcq_552.2.2.1
theorem dX6_packed_82 : decode cX6_packed 82 = .ok (.iload_n 3, 1) := dcq_552.2.2.2.1
theorem dX6_packed_83 : decode cX6_packed 83 = .ok (.istore 4, 2) := dcq_552.2.2.2.2.1
theorem dX6_packed_85 : decode cX6_packed 85 = .ok (.iload 4, 2) := dcq_552.2.2.2.2.2.1
theorem dX6_packed_87 : decode cX6_packed 87 = .ok (.ifCond .le 65, 3) := dcq_552.2.2.2.2.2.2.1
theorem dX6_packed_90 : decode cX6_packed 90 = .ok (.aload_n 0, 1) := dcq_552.2.2.2.2.2.2.2.1
theorem dX6_packed_91 : decode cX6_packed 91 = .ok (.iload 4, 2) := dcq_552.2.2.2.2.2.2.2.2.1
theorem dX6_packed_93 : decode cX6_packed 93 = .ok (.invokevirtual 248, 3) := dcq_552.2.2.2.2.2.2.2.2.2.1
theorem dX6_packed_96 : decode cX6_packed 96 = .ok (.iload_n 1, 1) := dcq_552.2.2.2.2.2.2.2.2.2.2.1
theorem dX6_packed_97 : decode cX6_packed 97 = .ok (.if_icmp .gt 44, 3) := dcq_552.2.2.2.2.2.2.2.2.2.2.2
set_option maxRecDepth 20000 in
theorem dcb_553 : fd_B cX6_packed 100 [42, 180, 0, 25, 29, 21, 4, 2, 130, 126, 46, 4, 96, 42, 180, 0, 25] := fd_o cX6_packed 100 _ (by decide +kernel)
theorem dcq_553 : (decode cX6_packed 100 = .ok (.aload_n 0, 1)) ∧ (decode cX6_packed 101 = .ok (.getfield 25, 3)) ∧ (decode cX6_packed 104 = .ok (.iload_n 3, 1)) ∧ (decode cX6_packed 105 = .ok (.iload 4, 2)) ∧ (decode cX6_packed 107 = .ok (.iconst (-1), 1)) ∧ (decode cX6_packed 108 = .ok (.ixor, 1)) ∧ (decode cX6_packed 109 = .ok (.iand, 1)) ∧ (decode cX6_packed 110 = .ok (.iaload, 1)) ∧ (decode cX6_packed 111 = .ok (.iconst 1, 1)) ∧ (decode cX6_packed 112 = .ok (.iadd, 1)) ∧ (decode cX6_packed 113 = .ok (.aload_n 0, 1)) ∧ (decode cX6_packed 114 = .ok (.getfield 25, 3)) := have h := dcb_553; ⟨fd_42 h, have h := fd_t1 h; ⟨fd_180 h rfl, have h := fd_t3 h; ⟨fd_29 h, have h := fd_t1 h; ⟨fd_21 h rfl, have h := fd_t2 h; ⟨fd_2 h, have h := fd_t1 h; ⟨fd_130 h, have h := fd_t1 h; ⟨fd_126 h, have h := fd_t1 h; ⟨fd_46 h, have h := fd_t1 h; ⟨fd_4 h, have h := fd_t1 h; ⟨fd_96 h, have h := fd_t1 h; ⟨fd_42 h, have h := fd_t1 h; fd_180 h rfl⟩⟩⟩⟩⟩⟩⟩⟩⟩⟩⟩
theorem dX6_packed_100 : decode cX6_packed 100 = .ok (.aload_n 0, 1) := dcq_553.1
theorem dX6_packed_101 : decode cX6_packed 101 = .ok (.getfield 25, 3) := dcq_553.2.1
theorem dX6_packed_104 : decode cX6_packed 104 = .ok (.iload_n 3, 1) := dcq_553.2.2.1
theorem dX6_packed_105 : decode cX6_packed 105 = .ok (.iload 4, 2) := dcq_553.2.2.2.1
theorem dX6_packed_107 : decode cX6_packed 107 = .ok (.iconst (-1), 1) := dcq_553.2.2.2.2.1
theorem dX6_packed_108 : decode cX6_packed 108 = .ok (.ixor, 1) := dcq_553.2.2.2.2.2.1
theorem dX6_packed_109 : decode cX6_packed 109 = .ok (.iand, 1) := dcq_553.2.2.2.2.2.2.1
theorem dX6_packed_110 : decode cX6_packed 110 = .ok (.iaload, 1) := dcq_553.2.2.2.2.2.2.2.1
theorem dX6_packed_111 : decode cX6_packed 111 = .ok (.iconst 1, 1) := dcq_553.2.2.2.2.2.2.2.2.1
theorem dX6_packed_112 : decode cX6_packed 112 = .ok (.iadd, 1) := dcq_553.2.2.2.2.2.2.2.2.2.1
theorem dX6_packed_113 : decode cX6_packed 113 = .ok (.aload_n 0, 1) := dcq_553.2.2.2.2.2.2.2.2.2.2.1
theorem dX6_packed_114 : decode cX6_packed 114 = .ok (.getfield 25, 3) := dcq_553.2.2.2.2.2.2.2.2.2.2.2
set_option maxRecDepth 20000 in
theorem dcb_554 : fd_B cX6_packed 117 [29, 46, 162, 0, 22, 42, 180, 0, 25, 29, 42, 180, 0, 25, 29, 21, 4, 2, 130] := fd_o cX6_packed 117 _ (by decide +kernel)
theorem dcq_554 : (decode cX6_packed 117 = .ok (.iload_n 3, 1)) ∧ (decode cX6_packed 118 = .ok (.iaload, 1)) ∧ (decode cX6_packed 119 = .ok (.if_icmp .ge 22, 3)) ∧ (decode cX6_packed 122 = .ok (.aload_n 0, 1)) ∧ (decode cX6_packed 123 = .ok (.getfield 25, 3)) ∧ (decode cX6_packed 126 = .ok (.iload_n 3, 1)) ∧ (decode cX6_packed 127 = .ok (.aload_n 0, 1)) ∧ (decode cX6_packed 128 = .ok (.getfield 25, 3)) ∧ (decode cX6_packed 131 = .ok (.iload_n 3, 1)) ∧ (decode cX6_packed 132 = .ok (.iload 4, 2)) ∧ (decode cX6_packed 134 = .ok (.iconst (-1), 1)) ∧ (decode cX6_packed 135 = .ok (.ixor, 1)) := have h := dcb_554; ⟨fd_29 h, have h := fd_t1 h; ⟨fd_46 h, have h := fd_t1 h; ⟨fd_162 h (by decide +kernel), have h := fd_t3 h; ⟨fd_42 h, have h := fd_t1 h; ⟨fd_180 h rfl, have h := fd_t3 h; ⟨fd_29 h, have h := fd_t1 h; ⟨fd_42 h, have h := fd_t1 h; ⟨fd_180 h rfl, have h := fd_t3 h; ⟨fd_29 h, have h := fd_t1 h; ⟨fd_21 h rfl, have h := fd_t2 h; ⟨fd_2 h, have h := fd_t1 h; fd_130 h⟩⟩⟩⟩⟩⟩⟩⟩⟩⟩⟩
theorem dX6_packed_117 : decode cX6_packed 117 = .ok (.iload_n 3, 1) := dcq_554.1
theorem dX6_packed_118 : decode cX6_packed 118 = .ok (.iaload, 1) := dcq_554.2.1
theorem dX6_packed_119 : decode cX6_packed 119 = .ok (.if_icmp .ge 22, 3) := dcq_554.2.2.1
theorem dX6_packed_122 : decode cX6_packed 122 = .ok (.aload_n 0, 1) := dcq_554.2.2.2.1
theorem dX6_packed_123 : decode cX6_packed 123 = .ok (.getfield 25, 3) := dcq_554.2.2.2.2.1
theorem dX6_packed_126 : decode cX6_packed 126 = .ok (.iload_n 3, 1) := dcq_554.2.2.2.2.2.1
theorem dX6_packed_127 : decode cX6_packed 127 = .ok (.aload_n 0, 1) := dcq_554.2.2.2.2.2.2.1
theorem dX6_packed_128 : decode cX6_packed 128 = .ok (.getfield 25, 3) := dcq_554.2.2.2.2.2.2.2.1
theorem dX6_packed_131 : decode cX6_packed 131 = .ok (.iload_n 3, 1) := dcq_554.2.2.2.2.2.2.2.2.1
theorem dX6_packed_132 : decode cX6_packed 132 = .ok (.iload 4, 2) := dcq_554.2.2.2.2.2.2.2.2.2.1
theorem dX6_packed_134 : decode cX6_packed 134 = .ok (.iconst (-1), 1) := dcq_554.2.2.2.2.2.2.2.2.2.2.1
theorem dX6_packed_135 : decode cX6_packed 135 = .ok (.ixor, 1) := dcq_554.2.2.2.2.2.2.2.2.2.2.2
set_option maxRecDepth 20000 in
theorem dcb_555 : fd_B cX6_packed 136 [126, 46, 4, 96, 79, 21, 4, 4, 100, 29, 126, 54, 4, 167, 255, 192] := fd_o cX6_packed 136 _ (by decide +kernel)
theorem dcq_555 : (decode cX6_packed 136 = .ok (.iand, 1)) ∧ (decode cX6_packed 137 = .ok (.iaload, 1)) ∧ (decode cX6_packed 138 = .ok (.iconst 1, 1)) ∧ (decode cX6_packed 139 = .ok (.iadd, 1)) ∧ (decode cX6_packed 140 = .ok (.iastore, 1)) ∧ (decode cX6_packed 141 = .ok (.iload 4, 2)) ∧ (decode cX6_packed 143 = .ok (.iconst 1, 1)) ∧ (decode cX6_packed 144 = .ok (.isub, 1)) ∧ (decode cX6_packed 145 = .ok (.iload_n 3, 1)) ∧ (decode cX6_packed 146 = .ok (.iand, 1)) ∧ (decode cX6_packed 147 = .ok (.istore 4, 2)) ∧ (decode cX6_packed 149 = .ok (.goto (-64), 3)) := have h := dcb_555; ⟨fd_126 h, have h := fd_t1 h; ⟨fd_46 h, have h := fd_t1 h; ⟨fd_4 h, have h := fd_t1 h; ⟨fd_96 h, have h := fd_t1 h; ⟨fd_79 h, have h := fd_t1 h; ⟨fd_21 h rfl, have h := fd_t2 h; ⟨fd_4 h, have h := fd_t1 h; ⟨fd_100 h, have h := fd_t1 h; ⟨fd_29 h, have h := fd_t1 h; ⟨fd_126 h, have h := fd_t1 h; ⟨fd_54 h rfl, have h := fd_t2 h; fd_167 h (by decide +kernel)⟩⟩⟩⟩⟩⟩⟩⟩⟩⟩⟩
theorem dX6_packed_136 : decode cX6_packed 136 = .ok (.iand, 1) := dcq_555.1
theorem dX6_packed_137 : decode cX6_packed 137 = .ok (.iaload, 1) := dcq_555.2.1
theorem dX6_packed_138 : decode cX6_packed 138 = .ok (.iconst 1, 1) := dcq_555.2.2.1
theorem dX6_packed_139 : decode cX6_packed 139 = .ok (.iadd, 1) := dcq_555.2.2.2.1
theorem dX6_packed_140 : decode cX6_packed 140 = .ok (.iastore, 1) := dcq_555.2.2.2.2.1
theorem dX6_packed_141 : decode cX6_packed 141 = .ok (.iload 4, 2) := dcq_555.2.2.2.2.2.1
theorem dX6_packed_143 : decode cX6_packed 143 = .ok (.iconst 1, 1) := dcq_555.2.2.2.2.2.2.1
theorem dX6_packed_144 : decode cX6_packed 144 = .ok (.isub, 1) := dcq_555.2.2.2.2.2.2.2.1
theorem dX6_packed_145 : decode cX6_packed 145 = .ok (.iload_n 3, 1) := dcq_555.2.2.2.2.2.2.2.2.1
theorem dX6_packed_146 : decode cX6_packed 146 = .ok (.iand, 1) := dcq_555.2.2.2.2.2.2.2.2.2.1
theorem dX6_packed_147 : decode cX6_packed 147 = .ok (.istore 4, 2) := dcq_555.2.2.2.2.2.2.2.2.2.2.1
theorem dX6_packed_149 : decode cX6_packed 149 = .ok (.goto (-64), 3) := dcq_555.2.2.2.2.2.2.2.2.2.2.2
set_option maxRecDepth 20000 in
theorem dcb_556 : fd_B cX6_packed 152 [132, 3, 1, 167, 255, 168, 42, 180, 0, 25, 28, 46, 172] := fd_o cX6_packed 152 _ (by decide +kernel)
theorem dcq_556 : (decode cX6_packed 152 = .ok (.iinc 3 1, 3)) ∧ (decode cX6_packed 155 = .ok (.goto (-88), 3)) ∧ (decode cX6_packed 158 = .ok (.aload_n 0, 1)) ∧ (decode cX6_packed 159 = .ok (.getfield 25, 3)) ∧ (decode cX6_packed 162 = .ok (.iload_n 2, 1)) ∧ (decode cX6_packed 163 = .ok (.iaload, 1)) ∧ (decode cX6_packed 164 = .ok (.ireturn, 1)) := have h := dcb_556; ⟨fd_132 h rfl (by decide +kernel), have h := fd_t3 h; ⟨fd_167 h (by decide +kernel), have h := fd_t3 h; ⟨fd_42 h, have h := fd_t1 h; ⟨fd_180 h rfl, have h := fd_t3 h; ⟨fd_28 h, have h := fd_t1 h; ⟨fd_46 h, have h := fd_t1 h; fd_172 h⟩⟩⟩⟩⟩⟩
theorem dX6_packed_152 : decode cX6_packed 152 = .ok (.iinc 3 1, 3) := dcq_556.1
theorem dX6_packed_155 : decode cX6_packed 155 = .ok (.goto (-88), 3) := dcq_556.2.1
theorem dX6_packed_158 : decode cX6_packed 158 = .ok (.aload_n 0, 1) := dcq_556.2.2.1
theorem dX6_packed_159 : decode cX6_packed 159 = .ok (.getfield 25, 3) := dcq_556.2.2.2.1
theorem dX6_packed_162 : decode cX6_packed 162 = .ok (.iload_n 2, 1) := dcq_556.2.2.2.2.1
theorem dX6_packed_163 : decode cX6_packed 163 = .ok (.iaload, 1) := dcq_556.2.2.2.2.2.1
theorem dX6_packed_164 : decode cX6_packed 164 = .ok (.ireturn, 1) := dcq_556.2.2.2.2.2.2
set_option maxRecDepth 20000 in
theorem dcb_557 : fd_B cX6_isSo 0 [4, 61, 3, 62, 3, 54, 4, 21, 4, 42, 180, 0, 37, 27, 46, 162, 0, 63] := fd_o cX6_isSo 0 _ (by decide +kernel)
theorem dcq_557 : (decode cX6_isSo 0 = .ok (.iconst 1, 1)) ∧ (decode cX6_isSo 1 = .ok (.istore_n 2, 1)) ∧ (decode cX6_isSo 2 = .ok (.iconst 0, 1)) ∧ (decode cX6_isSo 3 = .ok (.istore_n 3, 1)) ∧ (decode cX6_isSo 4 = .ok (.iconst 0, 1)) ∧ (decode cX6_isSo 5 = .ok (.istore 4, 2)) ∧ (decode cX6_isSo 7 = .ok (.iload 4, 2)) ∧ (decode cX6_isSo 9 = .ok (.aload_n 0, 1)) ∧ (decode cX6_isSo 10 = .ok (.getfield 37, 3)) ∧ (decode cX6_isSo 13 = .ok (.iload_n 1, 1)) ∧ (decode cX6_isSo 14 = .ok (.iaload, 1)) ∧ (decode cX6_isSo 15 = .ok (.if_icmp .ge 63, 3)) := have h := dcb_557; ⟨fd_4 h, have h := fd_t1 h; ⟨fd_61 h, have h := fd_t1 h; ⟨fd_3 h, have h := fd_t1 h; ⟨fd_62 h, have h := fd_t1 h; ⟨fd_3 h, have h := fd_t1 h; ⟨fd_54 h rfl, have h := fd_t2 h; ⟨fd_21 h rfl, have h := fd_t2 h; ⟨fd_42 h, have h := fd_t1 h; ⟨fd_180 h rfl, have h := fd_t3 h; ⟨fd_27 h, have h := fd_t1 h; ⟨fd_46 h, have h := fd_t1 h; fd_162 h (by decide +kernel)⟩⟩⟩⟩⟩⟩⟩⟩⟩⟩⟩
theorem dX6_isSo_0 : decode cX6_isSo 0 = .ok (.iconst 1, 1) := dcq_557.1
theorem dX6_isSo_1 : decode cX6_isSo 1 = .ok (.istore_n 2, 1) := dcq_557.2.1
theorem dX6_isSo_2 : decode cX6_isSo 2 = .ok (.iconst 0, 1) := dcq_557.2.2.1
theorem dX6_isSo_3 : decode cX6_isSo 3 = .ok (.istore_n 3, 1) := dcq_557.2.2.2.1
theorem dX6_isSo_4 : decode cX6_isSo 4 = .ok (.iconst 0, 1) := dcq_557.2.2.2.2.1
theorem dX6_isSo_5 : decode cX6_isSo 5 = .ok (.istore 4, 2) := dcq_557.2.2.2.2.2.1
theorem dX6_isSo_7 : decode cX6_isSo 7 = .ok (.iload 4, 2) := dcq_557.2.2.2.2.2.2.1
theorem dX6_isSo_9 : decode cX6_isSo 9 = .ok (.aload_n 0, 1) := dcq_557.2.2.2.2.2.2.2.1
theorem dX6_isSo_10 : decode cX6_isSo 10 = .ok (.getfield 37, 3) := dcq_557.2.2.2.2.2.2.2.2.1
theorem dX6_isSo_13 : decode cX6_isSo 13 = .ok (.iload_n 1, 1) := dcq_557.2.2.2.2.2.2.2.2.2.1
theorem dX6_isSo_14 : decode cX6_isSo 14 = .ok (.iaload, 1) := dcq_557.2.2.2.2.2.2.2.2.2.2.1
theorem dX6_isSo_15 : decode cX6_isSo 15 = .ok (.if_icmp .ge 63, 3) := dcq_557.2.2.2.2.2.2.2.2.2.2.2
set_option maxRecDepth 20000 in
theorem dcb_558 : fd_B cX6_isSo 18 [28, 153, 0, 59, 29, 42, 182, 0, 226, 96, 62, 42, 180, 0, 40, 16, 40, 27, 104] := fd_o cX6_isSo 18 _ (by decide +kernel)
theorem dcq_558 : (decode cX6_isSo 18 = .ok (.iload_n 2, 1)) ∧ (decode cX6_isSo 19 = .ok (.ifCond .eq 59, 3)) ∧ (decode cX6_isSo 22 = .ok (.iload_n 3, 1)) ∧ (decode cX6_isSo 23 = .ok (.aload_n 0, 1)) ∧ (decode cX6_isSo 24 = .ok (.invokevirtual 226, 3)) ∧ (decode cX6_isSo 27 = .ok (.iadd, 1)) ∧ (decode cX6_isSo 28 = .ok (.istore_n 3, 1)) ∧ (decode cX6_isSo 29 = .ok (.aload_n 0, 1)) ∧ (decode cX6_isSo 30 = .ok (.getfield 40, 3)) ∧ (decode cX6_isSo 33 = .ok (.bipush 40, 2)) ∧ (decode cX6_isSo 35 = .ok (.iload_n 1, 1)) ∧ (decode cX6_isSo 36 = .ok (.imul, 1)) := have h := dcb_558; ⟨fd_28 h, have h := fd_t1 h; ⟨fd_153 h (by decide +kernel), have h := fd_t3 h; ⟨fd_29 h, have h := fd_t1 h; ⟨fd_42 h, have h := fd_t1 h; ⟨fd_182 h rfl, have h := fd_t3 h; ⟨fd_96 h, have h := fd_t1 h; ⟨fd_62 h, have h := fd_t1 h; ⟨fd_42 h, have h := fd_t1 h; ⟨fd_180 h rfl, have h := fd_t3 h; ⟨fd_16 h (by decide +kernel), have h := fd_t2 h; ⟨fd_27 h, have h := fd_t1 h; fd_104 h⟩⟩⟩⟩⟩⟩⟩⟩⟩⟩⟩
theorem dX6_isSo_18 : decode cX6_isSo 18 = .ok (.iload_n 2, 1) := dcq_558.1
theorem dX6_isSo_19 : decode cX6_isSo 19 = .ok (.ifCond .eq 59, 3) := dcq_558.2.1
theorem dX6_isSo_22 : decode cX6_isSo 22 = .ok (.iload_n 3, 1) := dcq_558.2.2.1
theorem dX6_isSo_23 : decode cX6_isSo 23 = .ok (.aload_n 0, 1) := dcq_558.2.2.2.1
theorem dX6_isSo_24 : decode cX6_isSo 24 = .ok (.invokevirtual 226, 3) := dcq_558.2.2.2.2.1
theorem dX6_isSo_27 : decode cX6_isSo 27 = .ok (.iadd, 1) := dcq_558.2.2.2.2.2.1
theorem dX6_isSo_28 : decode cX6_isSo 28 = .ok (.istore_n 3, 1) := dcq_558.2.2.2.2.2.2.1
theorem dX6_isSo_29 : decode cX6_isSo 29 = .ok (.aload_n 0, 1) := dcq_558.2.2.2.2.2.2.2.1
theorem dX6_isSo_30 : decode cX6_isSo 30 = .ok (.getfield 40, 3) := dcq_558.2.2.2.2.2.2.2.2.1
theorem dX6_isSo_33 : decode cX6_isSo 33 = .ok (.bipush 40, 2) := dcq_558.2.2.2.2.2.2.2.2.2.1
theorem dX6_isSo_35 : decode cX6_isSo 35 = .ok (.iload_n 1, 1) := dcq_558.2.2.2.2.2.2.2.2.2.2.1
theorem dX6_isSo_36 : decode cX6_isSo 36 = .ok (.imul, 1) := dcq_558.2.2.2.2.2.2.2.2.2.2.2
set_option maxRecDepth 20000 in
theorem dcb_559 : fd_B cX6_isSo 37 [21, 4, 96, 47, 20, 0, 100, 148, 153, 0, 21, 42, 180, 0, 40, 16, 40, 27, 104, 21, 4] := fd_o cX6_isSo 37 _ (by decide +kernel)
theorem dcq_559 : (decode cX6_isSo 37 = .ok (.iload 4, 2)) ∧ (decode cX6_isSo 39 = .ok (.iadd, 1)) ∧ (decode cX6_isSo 40 = .ok (.laload, 1)) ∧ (decode cX6_isSo 41 = .ok (.ldc2_w 100, 3)) ∧ (decode cX6_isSo 44 = .ok (.lcmp, 1)) ∧ (decode cX6_isSo 45 = .ok (.ifCond .eq 21, 3)) ∧ (decode cX6_isSo 48 = .ok (.aload_n 0, 1)) ∧ (decode cX6_isSo 49 = .ok (.getfield 40, 3)) ∧ (decode cX6_isSo 52 = .ok (.bipush 40, 2)) ∧ (decode cX6_isSo 54 = .ok (.iload_n 1, 1)) ∧ (decode cX6_isSo 55 = .ok (.imul, 1)) ∧ (decode cX6_isSo 56 = .ok (.iload 4, 2)) := have h := dcb_559; ⟨fd_21 h rfl, have h := fd_t2 h; ⟨fd_96 h, have h := fd_t1 h; ⟨fd_47 h, have h := fd_t1 h; ⟨fd_20 h rfl, have h := fd_t3 h; ⟨fd_148 h, have h := fd_t1 h; ⟨fd_153 h (by decide +kernel), have h := fd_t3 h; ⟨fd_42 h, have h := fd_t1 h; ⟨fd_180 h rfl, have h := fd_t3 h; ⟨fd_16 h (by decide +kernel), have h := fd_t2 h; ⟨fd_27 h, have h := fd_t1 h; ⟨fd_104 h, have h := fd_t1 h; fd_21 h rfl⟩⟩⟩⟩⟩⟩⟩⟩⟩⟩⟩
theorem dX6_isSo_37 : decode cX6_isSo 37 = .ok (.iload 4, 2) := dcq_559.1
theorem dX6_isSo_39 : decode cX6_isSo 39 = .ok (.iadd, 1) := dcq_559.2.1
theorem dX6_isSo_40 : decode cX6_isSo 40 = .ok (.laload, 1) := dcq_559.2.2.1
theorem dX6_isSo_41 : decode cX6_isSo 41 = .ok (.ldc2_w 100, 3) := dcq_559.2.2.2.1
theorem dX6_isSo_44 : decode cX6_isSo 44 = .ok (.lcmp, 1) := dcq_559.2.2.2.2.1
theorem dX6_isSo_45 : decode cX6_isSo 45 = .ok (.ifCond .eq 21, 3) := dcq_559.2.2.2.2.2.1
theorem dX6_isSo_48 : decode cX6_isSo 48 = .ok (.aload_n 0, 1) := dcq_559.2.2.2.2.2.2.1
theorem dX6_isSo_49 : decode cX6_isSo 49 = .ok (.getfield 40, 3) := dcq_559.2.2.2.2.2.2.2.1
theorem dX6_isSo_52 : decode cX6_isSo 52 = .ok (.bipush 40, 2) := dcq_559.2.2.2.2.2.2.2.2.1
theorem dX6_isSo_54 : decode cX6_isSo 54 = .ok (.iload_n 1, 1) := dcq_559.2.2.2.2.2.2.2.2.2.1
theorem dX6_isSo_55 : decode cX6_isSo 55 = .ok (.imul, 1) := dcq_559.2.2.2.2.2.2.2.2.2.2.1
theorem dX6_isSo_56 : decode cX6_isSo 56 = .ok (.iload 4, 2) := dcq_559.2.2.2.2.2.2.2.2.2.2.2
set_option maxRecDepth 20000 in
theorem dcb_560 : fd_B cX6_isSo 58 [96, 47, 29, 133, 148, 154, 0, 7, 4, 167, 0, 4, 3, 61, 132, 4, 1, 167, 255, 188] := fd_o cX6_isSo 58 _ (by decide +kernel)
theorem dcq_560 : (decode cX6_isSo 58 = .ok (.iadd, 1)) ∧ (decode cX6_isSo 59 = .ok (.laload, 1)) ∧ (decode cX6_isSo 60 = .ok (.iload_n 3, 1)) ∧ (decode cX6_isSo 61 = .ok (.i2l, 1)) ∧ (decode cX6_isSo 62 = .ok (.lcmp, 1)) ∧ (decode cX6_isSo 63 = .ok (.ifCond .ne 7, 3)) ∧ (decode cX6_isSo 66 = .ok (.iconst 1, 1)) ∧ (decode cX6_isSo 67 = .ok (.goto 4, 3)) ∧ (decode cX6_isSo 70 = .ok (.iconst 0, 1)) ∧ (decode cX6_isSo 71 = .ok (.istore_n 2, 1)) ∧ (decode cX6_isSo 72 = .ok (.iinc 4 1, 3)) ∧ (decode cX6_isSo 75 = .ok (.goto (-68), 3)) := have h := dcb_560; ⟨fd_96 h, have h := fd_t1 h; ⟨fd_47 h, have h := fd_t1 h; ⟨fd_29 h, have h := fd_t1 h; ⟨fd_133 h, have h := fd_t1 h; ⟨fd_148 h, have h := fd_t1 h; ⟨fd_154 h (by decide +kernel), have h := fd_t3 h; ⟨fd_4 h, have h := fd_t1 h; ⟨fd_167 h (by decide +kernel), have h := fd_t3 h; ⟨fd_3 h, have h := fd_t1 h; ⟨fd_61 h, have h := fd_t1 h; ⟨fd_132 h rfl (by decide +kernel), have h := fd_t3 h; fd_167 h (by decide +kernel)⟩⟩⟩⟩⟩⟩⟩⟩⟩⟩⟩
theorem dX6_isSo_58 : decode cX6_isSo 58 = .ok (.iadd, 1) := dcq_560.1
theorem dX6_isSo_59 : decode cX6_isSo 59 = .ok (.laload, 1) := dcq_560.2.1
theorem dX6_isSo_60 : decode cX6_isSo 60 = .ok (.iload_n 3, 1) := dcq_560.2.2.1
theorem dX6_isSo_61 : decode cX6_isSo 61 = .ok (.i2l, 1) := dcq_560.2.2.2.1
theorem dX6_isSo_62 : decode cX6_isSo 62 = .ok (.lcmp, 1) := dcq_560.2.2.2.2.1
theorem dX6_isSo_63 : decode cX6_isSo 63 = .ok (.ifCond .ne 7, 3) := dcq_560.2.2.2.2.2.1
theorem dX6_isSo_66 : decode cX6_isSo 66 = .ok (.iconst 1, 1) := dcq_560.2.2.2.2.2.2.1
theorem dX6_isSo_67 : decode cX6_isSo 67 = .ok (.goto 4, 3) := dcq_560.2.2.2.2.2.2.2.1
theorem dX6_isSo_70 : decode cX6_isSo 70 = .ok (.iconst 0, 1) := dcq_560.2.2.2.2.2.2.2.2.1
theorem dX6_isSo_71 : decode cX6_isSo 71 = .ok (.istore_n 2, 1) := dcq_560.2.2.2.2.2.2.2.2.2.1
theorem dX6_isSo_72 : decode cX6_isSo 72 = .ok (.iinc 4 1, 3) := dcq_560.2.2.2.2.2.2.2.2.2.2.1
theorem dX6_isSo_75 : decode cX6_isSo 75 = .ok (.goto (-68), 3) := dcq_560.2.2.2.2.2.2.2.2.2.2.2
set_option maxRecDepth 20000 in
theorem dcb_561 : fd_B cX6_isSo 78 [42, 180, 0, 19, 42, 180, 0, 7, 184, 0, 170, 28, 172] := fd_o cX6_isSo 78 _ (by decide +kernel)
theorem dcq_561 : (decode cX6_isSo 78 = .ok (.aload_n 0, 1)) ∧ (decode cX6_isSo 79 = .ok (.getfield 19, 3)) ∧ (decode cX6_isSo 82 = .ok (.aload_n 0, 1)) ∧ (decode cX6_isSo 83 = .ok (.getfield 7, 3)) ∧ (decode cX6_isSo 86 = .ok (.invokestatic 170, 3)) ∧ (decode cX6_isSo 89 = .ok (.iload_n 2, 1)) ∧ (decode cX6_isSo 90 = .ok (.ireturn, 1)) := have h := dcb_561; ⟨fd_42 h, have h := fd_t1 h; ⟨fd_180 h rfl, have h := fd_t3 h; ⟨fd_42 h, have h := fd_t1 h; ⟨fd_180 h rfl, have h := fd_t3 h; ⟨fd_184 h rfl, have h := fd_t3 h; ⟨fd_28 h, have h := fd_t1 h; fd_172 h⟩⟩⟩⟩⟩⟩
theorem dX6_isSo_78 : decode cX6_isSo 78 = .ok (.aload_n 0, 1) := dcq_561.1
theorem dX6_isSo_79 : decode cX6_isSo 79 = .ok (.getfield 19, 3) := dcq_561.2.1
theorem dX6_isSo_82 : decode cX6_isSo 82 = .ok (.aload_n 0, 1) := dcq_561.2.2.1
theorem dX6_isSo_83 : decode cX6_isSo 83 = .ok (.getfield 7, 3) := dcq_561.2.2.2.1
theorem dX6_isSo_86 : decode cX6_isSo 86 = .ok (.invokestatic 170, 3) := dcq_561.2.2.2.2.1
theorem dX6_isSo_89 : decode cX6_isSo 89 = .ok (.iload_n 2, 1) := dcq_561.2.2.2.2.2.1
theorem dX6_isSo_90 : decode cX6_isSo 90 = .ok (.ireturn, 1) := dcq_561.2.2.2.2.2.2
set_option maxRecDepth 20000 in
theorem dcb_562 : fd_B cX6_fits 0 [27, 184, 0, 251, 153, 0, 20, 42, 28, 182, 0, 188, 153, 0, 12, 29, 3, 4, 184, 0, 60, 154, 0, 5] := fd_o cX6_fits 0 _ (by decide +kernel)
theorem dcq_562 : (decode cX6_fits 0 = .ok (.iload_n 1, 1)) ∧ (decode cX6_fits 1 = .ok (.invokestatic 251, 3)) ∧ (decode cX6_fits 4 = .ok (.ifCond .eq 20, 3)) ∧ (decode cX6_fits 7 = .ok (.aload_n 0, 1)) ∧ (decode cX6_fits 8 = .ok (.iload_n 2, 1)) ∧ (decode cX6_fits 9 = .ok (.invokevirtual 188, 3)) ∧ (decode cX6_fits 12 = .ok (.ifCond .eq 12, 3)) ∧ (decode cX6_fits 15 = .ok (.iload_n 3, 1)) ∧ (decode cX6_fits 16 = .ok (.iconst 0, 1)) ∧ (decode cX6_fits 17 = .ok (.iconst 1, 1)) ∧ (decode cX6_fits 18 = .ok (.invokestatic 60, 3)) ∧ (decode cX6_fits 21 = .ok (.ifCond .ne 5, 3)) := have h := dcb_562; ⟨fd_27 h, have h := fd_t1 h; ⟨fd_184 h rfl, have h := fd_t3 h; ⟨fd_153 h (by decide +kernel), have h := fd_t3 h; ⟨fd_42 h, have h := fd_t1 h; ⟨fd_28 h, have h := fd_t1 h; ⟨fd_182 h rfl, have h := fd_t3 h; ⟨fd_153 h (by decide +kernel), have h := fd_t3 h; ⟨fd_29 h, have h := fd_t1 h; ⟨fd_3 h, have h := fd_t1 h; ⟨fd_4 h, have h := fd_t1 h; ⟨fd_184 h rfl, have h := fd_t3 h; fd_154 h (by decide +kernel)⟩⟩⟩⟩⟩⟩⟩⟩⟩⟩⟩
theorem dX6_fits_0 : decode cX6_fits 0 = .ok (.iload_n 1, 1) := dcq_562.1
theorem dX6_fits_1 : decode cX6_fits 1 = .ok (.invokestatic 251, 3) := dcq_562.2.1
theorem dX6_fits_4 : decode cX6_fits 4 = .ok (.ifCond .eq 20, 3) := dcq_562.2.2.1
theorem dX6_fits_7 : decode cX6_fits 7 = .ok (.aload_n 0, 1) := dcq_562.2.2.2.1
theorem dX6_fits_8 : decode cX6_fits 8 = .ok (.iload_n 2, 1) := dcq_562.2.2.2.2.1
theorem dX6_fits_9 : decode cX6_fits 9 = .ok (.invokevirtual 188, 3) := dcq_562.2.2.2.2.2.1
theorem dX6_fits_12 : decode cX6_fits 12 = .ok (.ifCond .eq 12, 3) := dcq_562.2.2.2.2.2.2.1
theorem dX6_fits_15 : decode cX6_fits 15 = .ok (.iload_n 3, 1) := dcq_562.2.2.2.2.2.2.2.1
theorem dX6_fits_16 : decode cX6_fits 16 = .ok (.iconst 0, 1) := dcq_562.2.2.2.2.2.2.2.2.1
theorem dX6_fits_17 : decode cX6_fits 17 = .ok (.iconst 1, 1) := dcq_562.2.2.2.2.2.2.2.2.2.1
theorem dX6_fits_18 : decode cX6_fits 18 = .ok (.invokestatic 60, 3) := dcq_562.2.2.2.2.2.2.2.2.2.2.1
theorem dX6_fits_21 : decode cX6_fits 21 = .ok (.ifCond .ne 5, 3) := dcq_562.2.2.2.2.2.2.2.2.2.2.2
set_option maxRecDepth 20000 in
theorem dcb_563 : fd_B cX6_fits 24 [2, 172, 42, 180, 0, 34, 27, 46, 156, 0, 6, 16, 245, 172, 42, 180, 0, 7, 42] := fd_o cX6_fits 24 _ (by decide +kernel)
theorem dcq_563 : (decode cX6_fits 24 = .ok (.iconst (-1), 1)) ∧ (decode cX6_fits 25 = .ok (.ireturn, 1)) ∧ (decode cX6_fits 26 = .ok (.aload_n 0, 1)) ∧ (decode cX6_fits 27 = .ok (.getfield 34, 3)) ∧ (decode cX6_fits 30 = .ok (.iload_n 1, 1)) ∧ (decode cX6_fits 31 = .ok (.iaload, 1)) ∧ (decode cX6_fits 32 = .ok (.ifCond .ge 6, 3)) ∧ (decode cX6_fits 35 = .ok (.bipush (-11), 2)) ∧ (decode cX6_fits 37 = .ok (.ireturn, 1)) ∧ (decode cX6_fits 38 = .ok (.aload_n 0, 1)) ∧ (decode cX6_fits 39 = .ok (.getfield 7, 3)) ∧ (decode cX6_fits 42 = .ok (.aload_n 0, 1)) := have h := dcb_563; ⟨fd_2 h, have h := fd_t1 h; ⟨fd_172 h, have h := fd_t1 h; ⟨fd_42 h, have h := fd_t1 h; ⟨fd_180 h rfl, have h := fd_t3 h; ⟨fd_27 h, have h := fd_t1 h; ⟨fd_46 h, have h := fd_t1 h; ⟨fd_156 h (by decide +kernel), have h := fd_t3 h; ⟨fd_16 h (by decide +kernel), have h := fd_t2 h; ⟨fd_172 h, have h := fd_t1 h; ⟨fd_42 h, have h := fd_t1 h; ⟨fd_180 h rfl, have h := fd_t3 h; fd_42 h⟩⟩⟩⟩⟩⟩⟩⟩⟩⟩⟩
theorem dX6_fits_24 : decode cX6_fits 24 = .ok (.iconst (-1), 1) := dcq_563.1
theorem dX6_fits_25 : decode cX6_fits 25 = .ok (.ireturn, 1) := dcq_563.2.1
theorem dX6_fits_26 : decode cX6_fits 26 = .ok (.aload_n 0, 1) := dcq_563.2.2.1
theorem dX6_fits_27 : decode cX6_fits 27 = .ok (.getfield 34, 3) := dcq_563.2.2.2.1
theorem dX6_fits_30 : decode cX6_fits 30 = .ok (.iload_n 1, 1) := dcq_563.2.2.2.2.1
theorem dX6_fits_31 : decode cX6_fits 31 = .ok (.iaload, 1) := dcq_563.2.2.2.2.2.1
theorem dX6_fits_32 : decode cX6_fits 32 = .ok (.ifCond .ge 6, 3) := dcq_563.2.2.2.2.2.2.1
theorem dX6_fits_35 : decode cX6_fits 35 = .ok (.bipush (-11), 2) := dcq_563.2.2.2.2.2.2.2.1
theorem dX6_fits_37 : decode cX6_fits 37 = .ok (.ireturn, 1) := dcq_563.2.2.2.2.2.2.2.2.1
theorem dX6_fits_38 : decode cX6_fits 38 = .ok (.aload_n 0, 1) := dcq_563.2.2.2.2.2.2.2.2.2.1
theorem dX6_fits_39 : decode cX6_fits 39 = .ok (.getfield 7, 3) := dcq_563.2.2.2.2.2.2.2.2.2.2.1
theorem dX6_fits_42 : decode cX6_fits 42 = .ok (.aload_n 0, 1) := dcq_563.2.2.2.2.2.2.2.2.2.2.2
set_option maxRecDepth 20000 in
theorem dcb_564 : fd_B cX6_fits 43 [180, 0, 19, 184, 0, 170, 3, 54, 4, 16, 253, 54, 5, 16, 99, 54, 6, 21, 6, 155, 0, 53, 42, 28] := fd_o cX6_fits 43 _ (by decide +kernel)
theorem dcq_564 : (decode cX6_fits 43 = .ok (.getfield 19, 3)) ∧ (decode cX6_fits 46 = .ok (.invokestatic 170, 3)) ∧ (decode cX6_fits 49 = .ok (.iconst 0, 1)) ∧ (decode cX6_fits 50 = .ok (.istore 4, 2)) ∧ (decode cX6_fits 52 = .ok (.bipush (-3), 2)) ∧ (decode cX6_fits 54 = .ok (.istore 5, 2)) ∧ (decode cX6_fits 56 = .ok (.bipush 99, 2)) ∧ (decode cX6_fits 58 = .ok (.istore 6, 2)) ∧ (decode cX6_fits 60 = .ok (.iload 6, 2)) ∧ (decode cX6_fits 62 = .ok (.ifCond .lt 53, 3)) ∧ (decode cX6_fits 65 = .ok (.aload_n 0, 1)) ∧ (decode cX6_fits 66 = .ok (.iload_n 2, 1)) := have h := dcb_564; ⟨fd_180 h rfl, have h := fd_t3 h; ⟨fd_184 h rfl, have h := fd_t3 h; ⟨fd_3 h, have h := fd_t1 h; ⟨fd_54 h rfl, have h := fd_t2 h; ⟨fd_16 h (by decide +kernel), have h := fd_t2 h; ⟨fd_54 h rfl, have h := fd_t2 h; ⟨fd_16 h (by decide +kernel), have h := fd_t2 h; ⟨fd_54 h rfl, have h := fd_t2 h; ⟨fd_21 h rfl, have h := fd_t2 h; ⟨fd_155 h (by decide +kernel), have h := fd_t3 h; ⟨fd_42 h, have h := fd_t1 h; fd_28 h⟩⟩⟩⟩⟩⟩⟩⟩⟩⟩⟩
theorem dX6_fits_43 : decode cX6_fits 43 = .ok (.getfield 19, 3) := dcq_564.1
theorem dX6_fits_46 : decode cX6_fits 46 = .ok (.invokestatic 170, 3) := dcq_564.2.1
theorem dX6_fits_49 : decode cX6_fits 49 = .ok (.iconst 0, 1) := dcq_564.2.2.1
theorem dX6_fits_50 : decode cX6_fits 50 = .ok (.istore 4, 2) := dcq_564.2.2.2.1
theorem dX6_fits_52 : decode cX6_fits 52 = .ok (.bipush (-3), 2) := dcq_564.2.2.2.2.1
theorem dX6_fits_54 : decode cX6_fits 54 = .ok (.istore 5, 2) := dcq_564.2.2.2.2.2.1
theorem dX6_fits_56 : decode cX6_fits 56 = .ok (.bipush 99, 2) := dcq_564.2.2.2.2.2.2.1
theorem dX6_fits_58 : decode cX6_fits 58 = .ok (.istore 6, 2) := dcq_564.2.2.2.2.2.2.2.1
theorem dX6_fits_60 : decode cX6_fits 60 = .ok (.iload 6, 2) := dcq_564.2.2.2.2.2.2.2.2.1
theorem dX6_fits_62 : decode cX6_fits 62 = .ok (.ifCond .lt 53, 3) := dcq_564.2.2.2.2.2.2.2.2.2.1
theorem dX6_fits_65 : decode cX6_fits 65 = .ok (.aload_n 0, 1) := dcq_564.2.2.2.2.2.2.2.2.2.2.1
theorem dX6_fits_66 : decode cX6_fits 66 = .ok (.iload_n 2, 1) := dcq_564.2.2.2.2.2.2.2.2.2.2.2
set_option maxRecDepth 20000 in
theorem dcb_565 : fd_B cX6_fits 67 [4, 21, 6, 182, 0, 184, 42, 27, 182, 0, 254, 54, 7, 21, 4, 21, 7, 153, 0, 7, 4, 167, 0, 4] := fd_o cX6_fits 67 _ (by decide +kernel)
theorem dcq_565 : (decode cX6_fits 67 = .ok (.iconst 1, 1)) ∧ (decode cX6_fits 68 = .ok (.iload 6, 2)) ∧ (decode cX6_fits 70 = .ok (.invokevirtual 184, 3)) ∧ (decode cX6_fits 73 = .ok (.aload_n 0, 1)) ∧ (decode cX6_fits 74 = .ok (.iload_n 1, 1)) ∧ (decode cX6_fits 75 = .ok (.invokevirtual 254, 3)) ∧ (decode cX6_fits 78 = .ok (.istore 7, 2)) ∧ (decode cX6_fits 80 = .ok (.iload 4, 2)) ∧ (decode cX6_fits 82 = .ok (.iload 7, 2)) ∧ (decode cX6_fits 84 = .ok (.ifCond .eq 7, 3)) ∧ (decode cX6_fits 87 = .ok (.iconst 1, 1)) ∧ (decode cX6_fits 88 = .ok (.goto 4, 3)) := have h := dcb_565; ⟨fd_4 h, have h := fd_t1 h; ⟨fd_21 h rfl, have h := fd_t2 h; ⟨fd_182 h rfl, have h := fd_t3 h; ⟨fd_42 h, have h := fd_t1 h; ⟨fd_27 h, have h := fd_t1 h; ⟨fd_182 h rfl, have h := fd_t3 h; ⟨fd_54 h rfl, have h := fd_t2 h; ⟨fd_21 h rfl, have h := fd_t2 h; ⟨fd_21 h rfl, have h := fd_t2 h; ⟨fd_153 h (by decide +kernel), have h := fd_t3 h; ⟨fd_4 h, have h := fd_t1 h; fd_167 h (by decide +kernel)⟩⟩⟩⟩⟩⟩⟩⟩⟩⟩⟩
theorem dX6_fits_67 : decode cX6_fits 67 = .ok (.iconst 1, 1) := dcq_565.1
theorem dX6_fits_68 : decode cX6_fits 68 = .ok (.iload 6, 2) := dcq_565.2.1
theorem dX6_fits_70 : decode cX6_fits 70 = .ok (.invokevirtual 184, 3) := dcq_565.2.2.1
theorem dX6_fits_73 : decode cX6_fits 73 = .ok (.aload_n 0, 1) := dcq_565.2.2.2.1
theorem dX6_fits_74 : decode cX6_fits 74 = .ok (.iload_n 1, 1) := dcq_565.2.2.2.2.1
theorem dX6_fits_75 : decode cX6_fits 75 = .ok (.invokevirtual 254, 3) := dcq_565.2.2.2.2.2.1
theorem dX6_fits_78 : decode cX6_fits 78 = .ok (.istore 7, 2) := dcq_565.2.2.2.2.2.2.1
theorem dX6_fits_80 : decode cX6_fits 80 = .ok (.iload 4, 2) := dcq_565.2.2.2.2.2.2.2.1
theorem dX6_fits_82 : decode cX6_fits 82 = .ok (.iload 7, 2) := dcq_565.2.2.2.2.2.2.2.2.1
theorem dX6_fits_84 : decode cX6_fits 84 = .ok (.ifCond .eq 7, 3) := dcq_565.2.2.2.2.2.2.2.2.2.1
theorem dX6_fits_87 : decode cX6_fits 87 = .ok (.iconst 1, 1) := dcq_565.2.2.2.2.2.2.2.2.2.2.1
theorem dX6_fits_88 : decode cX6_fits 88 = .ok (.goto 4, 3) := dcq_565.2.2.2.2.2.2.2.2.2.2.2
set_option maxRecDepth 20000 in
theorem dcb_566 : fd_B cX6_fits 91 [3, 96, 54, 4, 21, 7, 153, 0, 8, 21, 6, 167, 0, 5, 21, 5, 54, 5, 132, 6, 255, 167, 255, 204, 29] := fd_o cX6_fits 91 _ (by decide +kernel)
theorem dcq_566 : (decode cX6_fits 91 = .ok (.iconst 0, 1)) ∧ (decode cX6_fits 92 = .ok (.iadd, 1)) ∧ (decode cX6_fits 93 = .ok (.istore 4, 2)) ∧ (decode cX6_fits 95 = .ok (.iload 7, 2)) ∧ (decode cX6_fits 97 = .ok (.ifCond .eq 8, 3)) ∧ (decode cX6_fits 100 = .ok (.iload 6, 2)) ∧ (decode cX6_fits 102 = .ok (.goto 5, 3)) ∧ (decode cX6_fits 105 = .ok (.iload 5, 2)) ∧ (decode cX6_fits 107 = .ok (.istore 5, 2)) ∧ (decode cX6_fits 109 = .ok (.iinc 6 (-1), 3)) ∧ (decode cX6_fits 112 = .ok (.goto (-52), 3)) ∧ (decode cX6_fits 115 = .ok (.iload_n 3, 1)) := have h := dcb_566; ⟨fd_3 h, have h := fd_t1 h; ⟨fd_96 h, have h := fd_t1 h; ⟨fd_54 h rfl, have h := fd_t2 h; ⟨fd_21 h rfl, have h := fd_t2 h; ⟨fd_153 h (by decide +kernel), have h := fd_t3 h; ⟨fd_21 h rfl, have h := fd_t2 h; ⟨fd_167 h (by decide +kernel), have h := fd_t3 h; ⟨fd_21 h rfl, have h := fd_t2 h; ⟨fd_54 h rfl, have h := fd_t2 h; ⟨fd_132 h rfl (by decide +kernel), have h := fd_t3 h; ⟨fd_167 h (by decide +kernel), have h := fd_t3 h; fd_29 h⟩⟩⟩⟩⟩⟩⟩⟩⟩⟩⟩
theorem dX6_fits_91 : decode cX6_fits 91 = .ok (.iconst 0, 1) := dcq_566.1
theorem dX6_fits_92 : decode cX6_fits 92 = .ok (.iadd, 1) := dcq_566.2.1
theorem dX6_fits_93 : decode cX6_fits 93 = .ok (.istore 4, 2) := dcq_566.2.2.1
theorem dX6_fits_95 : decode cX6_fits 95 = .ok (.iload 7, 2) := dcq_566.2.2.2.1
theorem dX6_fits_97 : decode cX6_fits 97 = .ok (.ifCond .eq 8, 3) := dcq_566.2.2.2.2.1
theorem dX6_fits_100 : decode cX6_fits 100 = .ok (.iload 6, 2) := dcq_566.2.2.2.2.2.1
theorem dX6_fits_102 : decode cX6_fits 102 = .ok (.goto 5, 3) := dcq_566.2.2.2.2.2.2.1
theorem dX6_fits_105 : decode cX6_fits 105 = .ok (.iload 5, 2) := dcq_566.2.2.2.2.2.2.2.1
theorem dX6_fits_107 : decode cX6_fits 107 = .ok (.istore 5, 2) := dcq_566.2.2.2.2.2.2.2.2.1
theorem dX6_fits_109 : decode cX6_fits 109 = .ok (.iinc 6 (-1), 3) := dcq_566.2.2.2.2.2.2.2.2.2.1
theorem dX6_fits_112 : decode cX6_fits 112 = .ok (.goto (-52), 3) := dcq_566.2.2.2.2.2.2.2.2.2.2.1
theorem dX6_fits_115 : decode cX6_fits 115 = .ok (.iload_n 3, 1) := dcq_566.2.2.2.2.2.2.2.2.2.2.2
set_option maxRecDepth 20000 in
theorem dcb_567 : fd_B cX6_fits 116 [154, 0, 8, 21, 4, 167, 0, 5, 21, 5, 172] := fd_o cX6_fits 116 _ (by decide +kernel)
theorem dcq_567 : (decode cX6_fits 116 = .ok (.ifCond .ne 8, 3)) ∧ (decode cX6_fits 119 = .ok (.iload 4, 2)) ∧ (decode cX6_fits 121 = .ok (.goto 5, 3)) ∧ (decode cX6_fits 124 = .ok (.iload 5, 2)) ∧ (decode cX6_fits 126 = .ok (.ireturn, 1)) := have h := dcb_567; ⟨fd_154 h (by decide +kernel), have h := fd_t3 h; ⟨fd_21 h rfl, have h := fd_t2 h; ⟨fd_167 h (by decide +kernel), have h := fd_t3 h; ⟨fd_21 h rfl, have h := fd_t2 h; fd_172 h⟩⟩⟩⟩
theorem dX6_fits_116 : decode cX6_fits 116 = .ok (.ifCond .ne 8, 3) := dcq_567.1
theorem dX6_fits_119 : decode cX6_fits 119 = .ok (.iload 4, 2) := dcq_567.2.1
theorem dX6_fits_121 : decode cX6_fits 121 = .ok (.goto 5, 3) := dcq_567.2.2.1
theorem dX6_fits_124 : decode cX6_fits 124 = .ok (.iload 5, 2) := dcq_567.2.2.2.1
theorem dX6_fits_126 : decode cX6_fits 126 = .ok (.ireturn, 1) := dcq_567.2.2.2.2
set_option maxRecDepth 20000 in
theorem dcb_568 : fd_B cX6_lowest 0 [32, 55, 5, 30, 55, 7, 22, 7, 9, 148, 153, 0, 21, 22, 5, 22, 7, 113, 55, 9] := fd_o cX6_lowest 0 _ (by decide +kernel)
theorem dcq_568 : (decode cX6_lowest 0 = .ok (.lload_n 2, 1)) ∧ (decode cX6_lowest 1 = .ok (.lstore 5, 2)) ∧ (decode cX6_lowest 3 = .ok (.lload_n 0, 1)) ∧ (decode cX6_lowest 4 = .ok (.lstore 7, 2)) ∧ (decode cX6_lowest 6 = .ok (.lload 7, 2)) ∧ (decode cX6_lowest 8 = .ok (.lconst 0, 1)) ∧ (decode cX6_lowest 9 = .ok (.lcmp, 1)) ∧ (decode cX6_lowest 10 = .ok (.ifCond .eq 21, 3)) ∧ (decode cX6_lowest 13 = .ok (.lload 5, 2)) ∧ (decode cX6_lowest 15 = .ok (.lload 7, 2)) ∧ (decode cX6_lowest 17 = .ok (.lrem, 1)) ∧ (decode cX6_lowest 18 = .ok (.lstore 9, 2)) := have h := dcb_568; ⟨fd_32 h, have h := fd_t1 h; ⟨fd_55 h rfl, have h := fd_t2 h; ⟨fd_30 h, have h := fd_t1 h; ⟨fd_55 h rfl, have h := fd_t2 h; ⟨fd_22 h rfl, have h := fd_t2 h; ⟨fd_9 h, have h := fd_t1 h; ⟨fd_148 h, have h := fd_t1 h; ⟨fd_153 h (by decide +kernel), have h := fd_t3 h; ⟨fd_22 h rfl, have h := fd_t2 h; ⟨fd_22 h rfl, have h := fd_t2 h; ⟨fd_113 h, have h := fd_t1 h; fd_55 h rfl⟩⟩⟩⟩⟩⟩⟩⟩⟩⟩⟩
theorem dX6_lowest_0 : decode cX6_lowest 0 = .ok (.lload_n 2, 1) := dcq_568.1
theorem dX6_lowest_1 : decode cX6_lowest 1 = .ok (.lstore 5, 2) := dcq_568.2.1
theorem dX6_lowest_3 : decode cX6_lowest 3 = .ok (.lload_n 0, 1) := dcq_568.2.2.1
theorem dX6_lowest_4 : decode cX6_lowest 4 = .ok (.lstore 7, 2) := dcq_568.2.2.2.1
theorem dX6_lowest_6 : decode cX6_lowest 6 = .ok (.lload 7, 2) := dcq_568.2.2.2.2.1
theorem dX6_lowest_8 : decode cX6_lowest 8 = .ok (.lconst 0, 1) := dcq_568.2.2.2.2.2.1
theorem dX6_lowest_9 : decode cX6_lowest 9 = .ok (.lcmp, 1) := dcq_568.2.2.2.2.2.2.1
theorem dX6_lowest_10 : decode cX6_lowest 10 = .ok (.ifCond .eq 21, 3) := dcq_568.2.2.2.2.2.2.2.1
theorem dX6_lowest_13 : decode cX6_lowest 13 = .ok (.lload 5, 2) := dcq_568.2.2.2.2.2.2.2.2.1
theorem dX6_lowest_15 : decode cX6_lowest 15 = .ok (.lload 7, 2) := dcq_568.2.2.2.2.2.2.2.2.2.1
theorem dX6_lowest_17 : decode cX6_lowest 17 = .ok (.lrem, 1) := dcq_568.2.2.2.2.2.2.2.2.2.2.1
theorem dX6_lowest_18 : decode cX6_lowest 18 = .ok (.lstore 9, 2) := dcq_568.2.2.2.2.2.2.2.2.2.2.2
set_option maxRecDepth 20000 in
theorem dcb_569 : fd_B cX6_lowest 20 [22, 7, 55, 5, 22, 9, 55, 7, 167, 255, 234, 21, 4, 154, 0, 10, 30, 22, 5, 109, 167, 0, 7, 32] := fd_o cX6_lowest 20 _ (by decide +kernel)
theorem dcq_569 : (decode cX6_lowest 20 = .ok (.lload 7, 2)) ∧ (decode cX6_lowest 22 = .ok (.lstore 5, 2)) ∧ (decode cX6_lowest 24 = .ok (.lload 9, 2)) ∧ (decode cX6_lowest 26 = .ok (.lstore 7, 2)) ∧ (decode cX6_lowest 28 = .ok (.goto (-22), 3)) ∧ (decode cX6_lowest 31 = .ok (.iload 4, 2)) ∧ (decode cX6_lowest 33 = .ok (.ifCond .ne 10, 3)) ∧ (decode cX6_lowest 36 = .ok (.lload_n 0, 1)) ∧ (decode cX6_lowest 37 = .ok (.lload 5, 2)) ∧ (decode cX6_lowest 39 = .ok (.ldiv, 1)) ∧ (decode cX6_lowest 40 = .ok (.goto 7, 3)) ∧ (decode cX6_lowest 43 = .ok (.lload_n 2, 1)) := have h := dcb_569; ⟨fd_22 h rfl, have h := fd_t2 h; ⟨fd_55 h rfl, have h := fd_t2 h; ⟨fd_22 h rfl, have h := fd_t2 h; ⟨fd_55 h rfl, have h := fd_t2 h; ⟨fd_167 h (by decide +kernel), have h := fd_t3 h; ⟨fd_21 h rfl, have h := fd_t2 h; ⟨fd_154 h (by decide +kernel), have h := fd_t3 h; ⟨fd_30 h, have h := fd_t1 h; ⟨fd_22 h rfl, have h := fd_t2 h; ⟨fd_109 h, have h := fd_t1 h; ⟨fd_167 h (by decide +kernel), have h := fd_t3 h; fd_32 h⟩⟩⟩⟩⟩⟩⟩⟩⟩⟩⟩
theorem dX6_lowest_20 : decode cX6_lowest 20 = .ok (.lload 7, 2) := dcq_569.1
theorem dX6_lowest_22 : decode cX6_lowest 22 = .ok (.lstore 5, 2) := dcq_569.2.1
theorem dX6_lowest_24 : decode cX6_lowest 24 = .ok (.lload 9, 2) := dcq_569.2.2.1
theorem dX6_lowest_26 : decode cX6_lowest 26 = .ok (.lstore 7, 2) := dcq_569.2.2.2.1
theorem dX6_lowest_28 : decode cX6_lowest 28 = .ok (.goto (-22), 3) := dcq_569.2.2.2.2.1
theorem dX6_lowest_31 : decode cX6_lowest 31 = .ok (.iload 4, 2) := dcq_569.2.2.2.2.2.1
theorem dX6_lowest_33 : decode cX6_lowest 33 = .ok (.ifCond .ne 10, 3) := dcq_569.2.2.2.2.2.2.1
theorem dX6_lowest_36 : decode cX6_lowest 36 = .ok (.lload_n 0, 1) := dcq_569.2.2.2.2.2.2.2.1
theorem dX6_lowest_37 : decode cX6_lowest 37 = .ok (.lload 5, 2) := dcq_569.2.2.2.2.2.2.2.2.1
theorem dX6_lowest_39 : decode cX6_lowest 39 = .ok (.ldiv, 1) := dcq_569.2.2.2.2.2.2.2.2.2.1
theorem dX6_lowest_40 : decode cX6_lowest 40 = .ok (.goto 7, 3) := dcq_569.2.2.2.2.2.2.2.2.2.2.1
theorem dX6_lowest_43 : decode cX6_lowest 43 = .ok (.lload_n 2, 1) := dcq_569.2.2.2.2.2.2.2.2.2.2.2
set_option maxRecDepth 20000 in
theorem dcb_570 : fd_B cX6_lowest 44 [22, 5, 109, 173] := fd_o cX6_lowest 44 _ (by decide +kernel)
theorem dcq_570 : (decode cX6_lowest 44 = .ok (.lload 5, 2)) ∧ (decode cX6_lowest 46 = .ok (.ldiv, 1)) ∧ (decode cX6_lowest 47 = .ok (.lreturn, 1)) := have h := dcb_570; ⟨fd_22 h rfl, have h := fd_t2 h; ⟨fd_109 h, have h := fd_t1 h; fd_173 h⟩⟩
theorem dX6_lowest_44 : decode cX6_lowest 44 = .ok (.lload 5, 2) := dcq_570.1
theorem dX6_lowest_46 : decode cX6_lowest 46 = .ok (.ldiv, 1) := dcq_570.2.1
theorem dX6_lowest_47 : decode cX6_lowest 47 = .ok (.lreturn, 1) := dcq_570.2.2
set_option maxRecDepth 20000 in
theorem dcb_571 : fd_B cX6_powerOf 0 [10, 65, 3, 54, 4, 21, 4, 27, 162, 0, 14, 32, 26, 133, 105, 65] := fd_o cX6_powerOf 0 _ (by decide +kernel)
theorem dcq_571 : (decode cX6_powerOf 0 = .ok (.lconst 1, 1)) ∧ (decode cX6_powerOf 1 = .ok (.lstore_n 2, 1)) ∧ (decode cX6_powerOf 2 = .ok (.iconst 0, 1)) ∧ (decode cX6_powerOf 3 = .ok (.istore 4, 2)) ∧ (decode cX6_powerOf 5 = .ok (.iload 4, 2)) ∧ (decode cX6_powerOf 7 = .ok (.iload_n 1, 1)) ∧ (decode cX6_powerOf 8 = .ok (.if_icmp .ge 14, 3)) ∧ (decode cX6_powerOf 11 = .ok (.lload_n 2, 1)) ∧ (decode cX6_powerOf 12 = .ok (.iload_n 0, 1)) ∧ (decode cX6_powerOf 13 = .ok (.i2l, 1)) ∧ (decode cX6_powerOf 14 = .ok (.lmul, 1)) ∧ (decode cX6_powerOf 15 = .ok (.lstore_n 2, 1)) := have h := dcb_571; ⟨fd_10 h, have h := fd_t1 h; ⟨fd_65 h, have h := fd_t1 h; ⟨fd_3 h, have h := fd_t1 h; ⟨fd_54 h rfl, have h := fd_t2 h; ⟨fd_21 h rfl, have h := fd_t2 h; ⟨fd_27 h, have h := fd_t1 h; ⟨fd_162 h (by decide +kernel), have h := fd_t3 h; ⟨fd_32 h, have h := fd_t1 h; ⟨fd_26 h, have h := fd_t1 h; ⟨fd_133 h, have h := fd_t1 h; ⟨fd_105 h, have h := fd_t1 h; fd_65 h⟩⟩⟩⟩⟩⟩⟩⟩⟩⟩⟩
theorem dX6_powerOf_0 : decode cX6_powerOf 0 = .ok (.lconst 1, 1) := dcq_571.1
theorem dX6_powerOf_1 : decode cX6_powerOf 1 = .ok (.lstore_n 2, 1) := dcq_571.2.1
theorem dX6_powerOf_2 : decode cX6_powerOf 2 = .ok (.iconst 0, 1) := dcq_571.2.2.1
theorem dX6_powerOf_3 : decode cX6_powerOf 3 = .ok (.istore 4, 2) := dcq_571.2.2.2.1
theorem dX6_powerOf_5 : decode cX6_powerOf 5 = .ok (.iload 4, 2) := dcq_571.2.2.2.2.1
theorem dX6_powerOf_7 : decode cX6_powerOf 7 = .ok (.iload_n 1, 1) := dcq_571.2.2.2.2.2.1
theorem dX6_powerOf_8 : decode cX6_powerOf 8 = .ok (.if_icmp .ge 14, 3) := dcq_571.2.2.2.2.2.2.1
theorem dX6_powerOf_11 : decode cX6_powerOf 11 = .ok (.lload_n 2, 1) := dcq_571.2.2.2.2.2.2.2.1
theorem dX6_powerOf_12 : decode cX6_powerOf 12 = .ok (.iload_n 0, 1) := dcq_571.2.2.2.2.2.2.2.2.1
theorem dX6_powerOf_13 : decode cX6_powerOf 13 = .ok (.i2l, 1) := dcq_571.2.2.2.2.2.2.2.2.2.1
theorem dX6_powerOf_14 : decode cX6_powerOf 14 = .ok (.lmul, 1) := dcq_571.2.2.2.2.2.2.2.2.2.2.1
theorem dX6_powerOf_15 : decode cX6_powerOf 15 = .ok (.lstore_n 2, 1) := dcq_571.2.2.2.2.2.2.2.2.2.2.2
set_option maxRecDepth 20000 in
theorem dcb_572 : fd_B cX6_powerOf 16 [132, 4, 1, 167, 255, 242, 32, 173] := fd_o cX6_powerOf 16 _ (by decide +kernel)
theorem dcq_572 : (decode cX6_powerOf 16 = .ok (.iinc 4 1, 3)) ∧ (decode cX6_powerOf 19 = .ok (.goto (-14), 3)) ∧ (decode cX6_powerOf 22 = .ok (.lload_n 2, 1)) ∧ (decode cX6_powerOf 23 = .ok (.lreturn, 1)) := have h := dcb_572; ⟨fd_132 h rfl (by decide +kernel), have h := fd_t3 h; ⟨fd_167 h (by decide +kernel), have h := fd_t3 h; ⟨fd_32 h, have h := fd_t1 h; fd_173 h⟩⟩⟩
theorem dX6_powerOf_16 : decode cX6_powerOf 16 = .ok (.iinc 4 1, 3) := dcq_572.1
theorem dX6_powerOf_19 : decode cX6_powerOf 19 = .ok (.goto (-14), 3) := dcq_572.2.1
theorem dX6_powerOf_22 : decode cX6_powerOf 22 = .ok (.lload_n 2, 1) := dcq_572.2.2.1
theorem dX6_powerOf_23 : decode cX6_powerOf 23 = .ok (.lreturn, 1) := dcq_572.2.2.2
set_option maxRecDepth 20000 in
theorem dcb_573 : fd_B cX6_odds 0 [27, 3, 16, 8, 184, 0, 60, 153, 0, 21, 28, 3, 27, 184, 0, 60, 153, 0, 12, 29, 3] := fd_o cX6_odds 0 _ (by decide +kernel)
theorem dcq_573 : (decode cX6_odds 0 = .ok (.iload_n 1, 1)) ∧ (decode cX6_odds 1 = .ok (.iconst 0, 1)) ∧ (decode cX6_odds 2 = .ok (.bipush 8, 2)) ∧ (decode cX6_odds 4 = .ok (.invokestatic 60, 3)) ∧ (decode cX6_odds 7 = .ok (.ifCond .eq 21, 3)) ∧ (decode cX6_odds 10 = .ok (.iload_n 2, 1)) ∧ (decode cX6_odds 11 = .ok (.iconst 0, 1)) ∧ (decode cX6_odds 12 = .ok (.iload_n 1, 1)) ∧ (decode cX6_odds 13 = .ok (.invokestatic 60, 3)) ∧ (decode cX6_odds 16 = .ok (.ifCond .eq 12, 3)) ∧ (decode cX6_odds 19 = .ok (.iload_n 3, 1)) ∧ (decode cX6_odds 20 = .ok (.iconst 0, 1)) := have h := dcb_573; ⟨fd_27 h, have h := fd_t1 h; ⟨fd_3 h, have h := fd_t1 h; ⟨fd_16 h (by decide +kernel), have h := fd_t2 h; ⟨fd_184 h rfl, have h := fd_t3 h; ⟨fd_153 h (by decide +kernel), have h := fd_t3 h; ⟨fd_28 h, have h := fd_t1 h; ⟨fd_3 h, have h := fd_t1 h; ⟨fd_27 h, have h := fd_t1 h; ⟨fd_184 h rfl, have h := fd_t3 h; ⟨fd_153 h (by decide +kernel), have h := fd_t3 h; ⟨fd_29 h, have h := fd_t1 h; fd_3 h⟩⟩⟩⟩⟩⟩⟩⟩⟩⟩⟩
theorem dX6_odds_0 : decode cX6_odds 0 = .ok (.iload_n 1, 1) := dcq_573.1
theorem dX6_odds_1 : decode cX6_odds 1 = .ok (.iconst 0, 1) := dcq_573.2.1
theorem dX6_odds_2 : decode cX6_odds 2 = .ok (.bipush 8, 2) := dcq_573.2.2.1
theorem dX6_odds_4 : decode cX6_odds 4 = .ok (.invokestatic 60, 3) := dcq_573.2.2.2.1
theorem dX6_odds_7 : decode cX6_odds 7 = .ok (.ifCond .eq 21, 3) := dcq_573.2.2.2.2.1
theorem dX6_odds_10 : decode cX6_odds 10 = .ok (.iload_n 2, 1) := dcq_573.2.2.2.2.2.1
theorem dX6_odds_11 : decode cX6_odds 11 = .ok (.iconst 0, 1) := dcq_573.2.2.2.2.2.2.1
theorem dX6_odds_12 : decode cX6_odds 12 = .ok (.iload_n 1, 1) := dcq_573.2.2.2.2.2.2.2.1
theorem dX6_odds_13 : decode cX6_odds 13 = .ok (.invokestatic 60, 3) := dcq_573.2.2.2.2.2.2.2.2.1
theorem dX6_odds_16 : decode cX6_odds 16 = .ok (.ifCond .eq 12, 3) := dcq_573.2.2.2.2.2.2.2.2.2.1
theorem dX6_odds_19 : decode cX6_odds 19 = .ok (.iload_n 3, 1) := dcq_573.2.2.2.2.2.2.2.2.2.2.1
theorem dX6_odds_20 : decode cX6_odds 20 = .ok (.iconst 0, 1) := dcq_573.2.2.2.2.2.2.2.2.2.2.2
set_option maxRecDepth 20000 in
theorem dcb_574 : fd_B cX6_odds 21 [4, 184, 0, 60, 154, 0, 7, 20, 0, 100, 173, 10, 55, 4, 3, 54, 6, 21, 6, 28, 162, 0, 25] := fd_o cX6_odds 21 _ (by decide +kernel)
theorem dcq_574 : (decode cX6_odds 21 = .ok (.iconst 1, 1)) ∧ (decode cX6_odds 22 = .ok (.invokestatic 60, 3)) ∧ (decode cX6_odds 25 = .ok (.ifCond .ne 7, 3)) ∧ (decode cX6_odds 28 = .ok (.ldc2_w 100, 3)) ∧ (decode cX6_odds 31 = .ok (.lreturn, 1)) ∧ (decode cX6_odds 32 = .ok (.lconst 1, 1)) ∧ (decode cX6_odds 33 = .ok (.lstore 4, 2)) ∧ (decode cX6_odds 35 = .ok (.iconst 0, 1)) ∧ (decode cX6_odds 36 = .ok (.istore 6, 2)) ∧ (decode cX6_odds 38 = .ok (.iload 6, 2)) ∧ (decode cX6_odds 40 = .ok (.iload_n 2, 1)) ∧ (decode cX6_odds 41 = .ok (.if_icmp .ge 25, 3)) := have h := dcb_574; ⟨fd_4 h, have h := fd_t1 h; ⟨fd_184 h rfl, have h := fd_t3 h; ⟨fd_154 h (by decide +kernel), have h := fd_t3 h; ⟨fd_20 h rfl, have h := fd_t3 h; ⟨fd_173 h, have h := fd_t1 h; ⟨fd_10 h, have h := fd_t1 h; ⟨fd_55 h rfl, have h := fd_t2 h; ⟨fd_3 h, have h := fd_t1 h; ⟨fd_54 h rfl, have h := fd_t2 h; ⟨fd_21 h rfl, have h := fd_t2 h; ⟨fd_28 h, have h := fd_t1 h; fd_162 h (by decide +kernel)⟩⟩⟩⟩⟩⟩⟩⟩⟩⟩⟩
theorem dX6_odds_21 : decode cX6_odds 21 = .ok (.iconst 1, 1) := dcq_574.1
theorem dX6_odds_22 : decode cX6_odds 22 = .ok (.invokestatic 60, 3) := dcq_574.2.1
theorem dX6_odds_25 : decode cX6_odds 25 = .ok (.ifCond .ne 7, 3) := dcq_574.2.2.1
theorem dX6_odds_28 : decode cX6_odds 28 = .ok (.ldc2_w 100, 3) := dcq_574.2.2.2.1
theorem dX6_odds_31 : decode cX6_odds 31 = .ok (.lreturn, 1) := dcq_574.2.2.2.2.1
theorem dX6_odds_32 : decode cX6_odds 32 = .ok (.lconst 1, 1) := dcq_574.2.2.2.2.2.1
theorem dX6_odds_33 : decode cX6_odds 33 = .ok (.lstore 4, 2) := dcq_574.2.2.2.2.2.2.1
theorem dX6_odds_35 : decode cX6_odds 35 = .ok (.iconst 0, 1) := dcq_574.2.2.2.2.2.2.2.1
theorem dX6_odds_36 : decode cX6_odds 36 = .ok (.istore 6, 2) := dcq_574.2.2.2.2.2.2.2.2.1
theorem dX6_odds_38 : decode cX6_odds 38 = .ok (.iload 6, 2) := dcq_574.2.2.2.2.2.2.2.2.2.1
theorem dX6_odds_40 : decode cX6_odds 40 = .ok (.iload_n 2, 1) := dcq_574.2.2.2.2.2.2.2.2.2.2.1
theorem dX6_odds_41 : decode cX6_odds 41 = .ok (.if_icmp .ge 25, 3) := dcq_574.2.2.2.2.2.2.2.2.2.2.2
set_option maxRecDepth 20000 in
theorem dcb_575 : fd_B cX6_odds 44 [22, 4, 27, 21, 6, 100, 133, 105, 21, 6, 4, 96, 133, 109, 55, 4] := fd_o cX6_odds 44 _ (by decide +kernel)
theorem dcq_575 : (decode cX6_odds 44 = .ok (.lload 4, 2)) ∧ (decode cX6_odds 46 = .ok (.iload_n 1, 1)) ∧ (decode cX6_odds 47 = .ok (.iload 6, 2)) ∧ (decode cX6_odds 49 = .ok (.isub, 1)) ∧ (decode cX6_odds 50 = .ok (.i2l, 1)) ∧ (decode cX6_odds 51 = .ok (.lmul, 1)) ∧ (decode cX6_odds 52 = .ok (.iload 6, 2)) ∧ (decode cX6_odds 54 = .ok (.iconst 1, 1)) ∧ (decode cX6_odds 55 = .ok (.iadd, 1)) ∧ (decode cX6_odds 56 = .ok (.i2l, 1)) ∧ (decode cX6_odds 57 = .ok (.ldiv, 1)) ∧ (decode cX6_odds 58 = .ok (.lstore 4, 2)) := have h := dcb_575; ⟨fd_22 h rfl, have h := fd_t2 h; ⟨fd_27 h, have h := fd_t1 h; ⟨fd_21 h rfl, have h := fd_t2 h; ⟨fd_100 h, have h := fd_t1 h; ⟨fd_133 h, have h := fd_t1 h; ⟨fd_105 h, have h := fd_t1 h; ⟨fd_21 h rfl, have h := fd_t2 h; ⟨fd_4 h, have h := fd_t1 h; ⟨fd_96 h, have h := fd_t1 h; ⟨fd_133 h, have h := fd_t1 h; ⟨fd_109 h, have h := fd_t1 h; fd_55 h rfl⟩⟩⟩⟩⟩⟩⟩⟩⟩⟩⟩
theorem dX6_odds_44 : decode cX6_odds 44 = .ok (.lload 4, 2) := dcq_575.1
theorem dX6_odds_46 : decode cX6_odds 46 = .ok (.iload_n 1, 1) := dcq_575.2.1
theorem dX6_odds_47 : decode cX6_odds 47 = .ok (.iload 6, 2) := dcq_575.2.2.1
theorem dX6_odds_49 : decode cX6_odds 49 = .ok (.isub, 1) := dcq_575.2.2.2.1
theorem dX6_odds_50 : decode cX6_odds 50 = .ok (.i2l, 1) := dcq_575.2.2.2.2.1
theorem dX6_odds_51 : decode cX6_odds 51 = .ok (.lmul, 1) := dcq_575.2.2.2.2.2.1
theorem dX6_odds_52 : decode cX6_odds 52 = .ok (.iload 6, 2) := dcq_575.2.2.2.2.2.2.1
theorem dX6_odds_54 : decode cX6_odds 54 = .ok (.iconst 1, 1) := dcq_575.2.2.2.2.2.2.2.1
theorem dX6_odds_55 : decode cX6_odds 55 = .ok (.iadd, 1) := dcq_575.2.2.2.2.2.2.2.2.1
theorem dX6_odds_56 : decode cX6_odds 56 = .ok (.i2l, 1) := dcq_575.2.2.2.2.2.2.2.2.2.1
theorem dX6_odds_57 : decode cX6_odds 57 = .ok (.ldiv, 1) := dcq_575.2.2.2.2.2.2.2.2.2.2.1
theorem dX6_odds_58 : decode cX6_odds 58 = .ok (.lstore 4, 2) := dcq_575.2.2.2.2.2.2.2.2.2.2.2
set_option maxRecDepth 20000 in
theorem dcb_576 : fd_B cX6_odds 60 [132, 6, 1, 167, 255, 231, 22, 4, 42, 180, 0, 7, 6, 46, 28, 184, 1, 1, 105, 16, 100, 42] := fd_o cX6_odds 60 _ (by decide +kernel)
theorem dcq_576 : (decode cX6_odds 60 = .ok (.iinc 6 1, 3)) ∧ (decode cX6_odds 63 = .ok (.goto (-25), 3)) ∧ (decode cX6_odds 66 = .ok (.lload 4, 2)) ∧ (decode cX6_odds 68 = .ok (.aload_n 0, 1)) ∧ (decode cX6_odds 69 = .ok (.getfield 7, 3)) ∧ (decode cX6_odds 72 = .ok (.iconst 3, 1)) ∧ (decode cX6_odds 73 = .ok (.iaload, 1)) ∧ (decode cX6_odds 74 = .ok (.iload_n 2, 1)) ∧ (decode cX6_odds 75 = .ok (.invokestatic 257, 3)) ∧ (decode cX6_odds 78 = .ok (.lmul, 1)) ∧ (decode cX6_odds 79 = .ok (.bipush 100, 2)) ∧ (decode cX6_odds 81 = .ok (.aload_n 0, 1)) := have h := dcb_576; ⟨fd_132 h rfl (by decide +kernel), have h := fd_t3 h; ⟨fd_167 h (by decide +kernel), have h := fd_t3 h; ⟨fd_22 h rfl, have h := fd_t2 h; ⟨fd_42 h, have h := fd_t1 h; ⟨fd_180 h rfl, have h := fd_t3 h; ⟨fd_6 h, have h := fd_t1 h; ⟨fd_46 h, have h := fd_t1 h; ⟨fd_28 h, have h := fd_t1 h; ⟨fd_184 h rfl, have h := fd_t3 h; ⟨fd_105 h, have h := fd_t1 h; ⟨fd_16 h (by decide +kernel), have h := fd_t2 h; fd_42 h⟩⟩⟩⟩⟩⟩⟩⟩⟩⟩⟩
theorem dX6_odds_60 : decode cX6_odds 60 = .ok (.iinc 6 1, 3) := dcq_576.1
theorem dX6_odds_63 : decode cX6_odds 63 = .ok (.goto (-25), 3) := dcq_576.2.1
theorem dX6_odds_66 : decode cX6_odds 66 = .ok (.lload 4, 2) := dcq_576.2.2.1
theorem dX6_odds_68 : decode cX6_odds 68 = .ok (.aload_n 0, 1) := dcq_576.2.2.2.1
theorem dX6_odds_69 : decode cX6_odds 69 = .ok (.getfield 7, 3) := dcq_576.2.2.2.2.1
theorem dX6_odds_72 : decode cX6_odds 72 = .ok (.iconst 3, 1) := dcq_576.2.2.2.2.2.1
theorem dX6_odds_73 : decode cX6_odds 73 = .ok (.iaload, 1) := dcq_576.2.2.2.2.2.2.1
theorem dX6_odds_74 : decode cX6_odds 74 = .ok (.iload_n 2, 1) := dcq_576.2.2.2.2.2.2.2.1
theorem dX6_odds_75 : decode cX6_odds 75 = .ok (.invokestatic 257, 3) := dcq_576.2.2.2.2.2.2.2.2.1
theorem dX6_odds_78 : decode cX6_odds 78 = .ok (.lmul, 1) := dcq_576.2.2.2.2.2.2.2.2.2.1
theorem dX6_odds_79 : decode cX6_odds 79 = .ok (.bipush 100, 2) := dcq_576.2.2.2.2.2.2.2.2.2.2.1
theorem dX6_odds_81 : decode cX6_odds 81 = .ok (.aload_n 0, 1) := dcq_576.2.2.2.2.2.2.2.2.2.2.2
set_option maxRecDepth 20000 in
theorem dcb_577 : fd_B cX6_odds 82 [180, 0, 7, 6, 46, 100, 27, 28, 100, 184, 1, 1, 105, 16, 100, 27, 184, 1, 1] := fd_o cX6_odds 82 _ (by decide +kernel)
theorem dcq_577 : (decode cX6_odds 82 = .ok (.getfield 7, 3)) ∧ (decode cX6_odds 85 = .ok (.iconst 3, 1)) ∧ (decode cX6_odds 86 = .ok (.iaload, 1)) ∧ (decode cX6_odds 87 = .ok (.isub, 1)) ∧ (decode cX6_odds 88 = .ok (.iload_n 1, 1)) ∧ (decode cX6_odds 89 = .ok (.iload_n 2, 1)) ∧ (decode cX6_odds 90 = .ok (.isub, 1)) ∧ (decode cX6_odds 91 = .ok (.invokestatic 257, 3)) ∧ (decode cX6_odds 94 = .ok (.lmul, 1)) ∧ (decode cX6_odds 95 = .ok (.bipush 100, 2)) ∧ (decode cX6_odds 97 = .ok (.iload_n 1, 1)) ∧ (decode cX6_odds 98 = .ok (.invokestatic 257, 3)) := have h := dcb_577; ⟨fd_180 h rfl, have h := fd_t3 h; ⟨fd_6 h, have h := fd_t1 h; ⟨fd_46 h, have h := fd_t1 h; ⟨fd_100 h, have h := fd_t1 h; ⟨fd_27 h, have h := fd_t1 h; ⟨fd_28 h, have h := fd_t1 h; ⟨fd_100 h, have h := fd_t1 h; ⟨fd_184 h rfl, have h := fd_t3 h; ⟨fd_105 h, have h := fd_t1 h; ⟨fd_16 h (by decide +kernel), have h := fd_t2 h; ⟨fd_27 h, have h := fd_t1 h; fd_184 h rfl⟩⟩⟩⟩⟩⟩⟩⟩⟩⟩⟩
theorem dX6_odds_82 : decode cX6_odds 82 = .ok (.getfield 7, 3) := dcq_577.1
theorem dX6_odds_85 : decode cX6_odds 85 = .ok (.iconst 3, 1) := dcq_577.2.1
theorem dX6_odds_86 : decode cX6_odds 86 = .ok (.iaload, 1) := dcq_577.2.2.1
theorem dX6_odds_87 : decode cX6_odds 87 = .ok (.isub, 1) := dcq_577.2.2.2.1
theorem dX6_odds_88 : decode cX6_odds 88 = .ok (.iload_n 1, 1) := dcq_577.2.2.2.2.1
theorem dX6_odds_89 : decode cX6_odds 89 = .ok (.iload_n 2, 1) := dcq_577.2.2.2.2.2.1
theorem dX6_odds_90 : decode cX6_odds 90 = .ok (.isub, 1) := dcq_577.2.2.2.2.2.2.1
theorem dX6_odds_91 : decode cX6_odds 91 = .ok (.invokestatic 257, 3) := dcq_577.2.2.2.2.2.2.2.1
theorem dX6_odds_94 : decode cX6_odds 94 = .ok (.lmul, 1) := dcq_577.2.2.2.2.2.2.2.2.1
theorem dX6_odds_95 : decode cX6_odds 95 = .ok (.bipush 100, 2) := dcq_577.2.2.2.2.2.2.2.2.2.1
theorem dX6_odds_97 : decode cX6_odds 97 = .ok (.iload_n 1, 1) := dcq_577.2.2.2.2.2.2.2.2.2.2.1
theorem dX6_odds_98 : decode cX6_odds 98 = .ok (.invokestatic 257, 3) := dcq_577.2.2.2.2.2.2.2.2.2.2.2
set_option maxRecDepth 20000 in
theorem dcb_578 : fd_B cX6_odds 101 [29, 184, 1, 5, 173] := fd_o cX6_odds 101 _ (by decide +kernel)
theorem dcq_578 : (decode cX6_odds 101 = .ok (.iload_n 3, 1)) ∧ (decode cX6_odds 102 = .ok (.invokestatic 261, 3)) ∧ (decode cX6_odds 105 = .ok (.lreturn, 1)) := have h := dcb_578; ⟨fd_29 h, have h := fd_t1 h; ⟨fd_184 h rfl, have h := fd_t3 h; fd_173 h⟩⟩
theorem dX6_odds_101 : decode cX6_odds 101 = .ok (.iload_n 3, 1) := dcq_578.1
theorem dX6_odds_102 : decode cX6_odds 102 = .ok (.invokestatic 261, 3) := dcq_578.2.1
theorem dX6_odds_105 : decode cX6_odds 105 = .ok (.lreturn, 1) := dcq_578.2.2
set_option maxRecDepth 20000 in
theorem dcb_579 : fd_B cX6_hope 0 [27, 3, 16, 99, 184, 0, 60, 153, 0, 32, 28, 3, 4, 184, 0, 60, 153, 0, 23, 27, 133] := fd_o cX6_hope 0 _ (by decide +kernel)
theorem dcq_579 : (decode cX6_hope 0 = .ok (.iload_n 1, 1)) ∧ (decode cX6_hope 1 = .ok (.iconst 0, 1)) ∧ (decode cX6_hope 2 = .ok (.bipush 99, 2)) ∧ (decode cX6_hope 4 = .ok (.invokestatic 60, 3)) ∧ (decode cX6_hope 7 = .ok (.ifCond .eq 32, 3)) ∧ (decode cX6_hope 10 = .ok (.iload_n 2, 1)) ∧ (decode cX6_hope 11 = .ok (.iconst 0, 1)) ∧ (decode cX6_hope 12 = .ok (.iconst 1, 1)) ∧ (decode cX6_hope 13 = .ok (.invokestatic 60, 3)) ∧ (decode cX6_hope 16 = .ok (.ifCond .eq 23, 3)) ∧ (decode cX6_hope 19 = .ok (.iload_n 1, 1)) ∧ (decode cX6_hope 20 = .ok (.i2l, 1)) := have h := dcb_579; ⟨fd_27 h, have h := fd_t1 h; ⟨fd_3 h, have h := fd_t1 h; ⟨fd_16 h (by decide +kernel), have h := fd_t2 h; ⟨fd_184 h rfl, have h := fd_t3 h; ⟨fd_153 h (by decide +kernel), have h := fd_t3 h; ⟨fd_28 h, have h := fd_t1 h; ⟨fd_3 h, have h := fd_t1 h; ⟨fd_4 h, have h := fd_t1 h; ⟨fd_184 h rfl, have h := fd_t3 h; ⟨fd_153 h (by decide +kernel), have h := fd_t3 h; ⟨fd_27 h, have h := fd_t1 h; fd_133 h⟩⟩⟩⟩⟩⟩⟩⟩⟩⟩⟩
theorem dX6_hope_0 : decode cX6_hope 0 = .ok (.iload_n 1, 1) := dcq_579.1
theorem dX6_hope_1 : decode cX6_hope 1 = .ok (.iconst 0, 1) := dcq_579.2.1
theorem dX6_hope_2 : decode cX6_hope 2 = .ok (.bipush 99, 2) := dcq_579.2.2.1
theorem dX6_hope_4 : decode cX6_hope 4 = .ok (.invokestatic 60, 3) := dcq_579.2.2.2.1
theorem dX6_hope_7 : decode cX6_hope 7 = .ok (.ifCond .eq 32, 3) := dcq_579.2.2.2.2.1
theorem dX6_hope_10 : decode cX6_hope 10 = .ok (.iload_n 2, 1) := dcq_579.2.2.2.2.2.1
theorem dX6_hope_11 : decode cX6_hope 11 = .ok (.iconst 0, 1) := dcq_579.2.2.2.2.2.2.1
theorem dX6_hope_12 : decode cX6_hope 12 = .ok (.iconst 1, 1) := dcq_579.2.2.2.2.2.2.2.1
theorem dX6_hope_13 : decode cX6_hope 13 = .ok (.invokestatic 60, 3) := dcq_579.2.2.2.2.2.2.2.2.1
theorem dX6_hope_16 : decode cX6_hope 16 = .ok (.ifCond .eq 23, 3) := dcq_579.2.2.2.2.2.2.2.2.2.1
theorem dX6_hope_19 : decode cX6_hope 19 = .ok (.iload_n 1, 1) := dcq_579.2.2.2.2.2.2.2.2.2.2.1
theorem dX6_hope_20 : decode cX6_hope 20 = .ok (.i2l, 1) := dcq_579.2.2.2.2.2.2.2.2.2.2.2
set_option maxRecDepth 20000 in
theorem dcb_580 : fd_B cX6_hope 21 [42, 180, 0, 7, 6, 46, 133, 105, 20, 1, 9, 28, 184, 1, 5, 167, 0, 6, 20, 0, 100, 173] := fd_o cX6_hope 21 _ (by decide +kernel)
theorem dcq_580 : (decode cX6_hope 21 = .ok (.aload_n 0, 1)) ∧ (decode cX6_hope 22 = .ok (.getfield 7, 3)) ∧ (decode cX6_hope 25 = .ok (.iconst 3, 1)) ∧ (decode cX6_hope 26 = .ok (.iaload, 1)) ∧ (decode cX6_hope 27 = .ok (.i2l, 1)) ∧ (decode cX6_hope 28 = .ok (.lmul, 1)) ∧ (decode cX6_hope 29 = .ok (.ldc2_w 265, 3)) ∧ (decode cX6_hope 32 = .ok (.iload_n 2, 1)) ∧ (decode cX6_hope 33 = .ok (.invokestatic 261, 3)) ∧ (decode cX6_hope 36 = .ok (.goto 6, 3)) ∧ (decode cX6_hope 39 = .ok (.ldc2_w 100, 3)) ∧ (decode cX6_hope 42 = .ok (.lreturn, 1)) := have h := dcb_580; ⟨fd_42 h, have h := fd_t1 h; ⟨fd_180 h rfl, have h := fd_t3 h; ⟨fd_6 h, have h := fd_t1 h; ⟨fd_46 h, have h := fd_t1 h; ⟨fd_133 h, have h := fd_t1 h; ⟨fd_105 h, have h := fd_t1 h; ⟨fd_20 h rfl, have h := fd_t3 h; ⟨fd_28 h, have h := fd_t1 h; ⟨fd_184 h rfl, have h := fd_t3 h; ⟨fd_167 h (by decide +kernel), have h := fd_t3 h; ⟨fd_20 h rfl, have h := fd_t3 h; fd_173 h⟩⟩⟩⟩⟩⟩⟩⟩⟩⟩⟩
theorem dX6_hope_21 : decode cX6_hope 21 = .ok (.aload_n 0, 1) := dcq_580.1
theorem dX6_hope_22 : decode cX6_hope 22 = .ok (.getfield 7, 3) := dcq_580.2.1
theorem dX6_hope_25 : decode cX6_hope 25 = .ok (.iconst 3, 1) := dcq_580.2.2.1
theorem dX6_hope_26 : decode cX6_hope 26 = .ok (.iaload, 1) := dcq_580.2.2.2.1
theorem dX6_hope_27 : decode cX6_hope 27 = .ok (.i2l, 1) := dcq_580.2.2.2.2.1
theorem dX6_hope_28 : decode cX6_hope 28 = .ok (.lmul, 1) := dcq_580.2.2.2.2.2.1
theorem dX6_hope_29 : decode cX6_hope 29 = .ok (.ldc2_w 265, 3) := dcq_580.2.2.2.2.2.2.1
theorem dX6_hope_32 : decode cX6_hope 32 = .ok (.iload_n 2, 1) := dcq_580.2.2.2.2.2.2.2.1
theorem dX6_hope_33 : decode cX6_hope 33 = .ok (.invokestatic 261, 3) := dcq_580.2.2.2.2.2.2.2.2.1
theorem dX6_hope_36 : decode cX6_hope 36 = .ok (.goto 6, 3) := dcq_580.2.2.2.2.2.2.2.2.2.1
theorem dX6_hope_39 : decode cX6_hope 39 = .ok (.ldc2_w 100, 3) := dcq_580.2.2.2.2.2.2.2.2.2.2.1
theorem dX6_hope_42 : decode cX6_hope 42 = .ok (.lreturn, 1) := dcq_580.2.2.2.2.2.2.2.2.2.2.2
set_option maxRecDepth 20000 in
theorem dcb_581 : fd_B cX6_findRows 0 [42, 180, 0, 7, 42, 180, 0, 19, 184, 0, 170, 3, 62, 29, 28, 162, 0, 57, 42, 182, 0, 226] := fd_o cX6_findRows 0 _ (by decide +kernel)
theorem dcq_581 : (decode cX6_findRows 0 = .ok (.aload_n 0, 1)) ∧ (decode cX6_findRows 1 = .ok (.getfield 7, 3)) ∧ (decode cX6_findRows 4 = .ok (.aload_n 0, 1)) ∧ (decode cX6_findRows 5 = .ok (.getfield 19, 3)) ∧ (decode cX6_findRows 8 = .ok (.invokestatic 170, 3)) ∧ (decode cX6_findRows 11 = .ok (.iconst 0, 1)) ∧ (decode cX6_findRows 12 = .ok (.istore_n 3, 1)) ∧ (decode cX6_findRows 13 = .ok (.iload_n 3, 1)) ∧ (decode cX6_findRows 14 = .ok (.iload_n 2, 1)) ∧ (decode cX6_findRows 15 = .ok (.if_icmp .ge 57, 3)) ∧ (decode cX6_findRows 18 = .ok (.aload_n 0, 1)) ∧ (decode cX6_findRows 19 = .ok (.invokevirtual 226, 3)) := have h := dcb_581; ⟨fd_42 h, have h := fd_t1 h; ⟨fd_180 h rfl, have h := fd_t3 h; ⟨fd_42 h, have h := fd_t1 h; ⟨fd_180 h rfl, have h := fd_t3 h; ⟨fd_184 h rfl, have h := fd_t3 h; ⟨fd_3 h, have h := fd_t1 h; ⟨fd_62 h, have h := fd_t1 h; ⟨fd_29 h, have h := fd_t1 h; ⟨fd_28 h, have h := fd_t1 h; ⟨fd_162 h (by decide +kernel), have h := fd_t3 h; ⟨fd_42 h, have h := fd_t1 h; fd_182 h rfl⟩⟩⟩⟩⟩⟩⟩⟩⟩⟩⟩
theorem dX6_findRows_0 : decode cX6_findRows 0 = .ok (.aload_n 0, 1) := dcq_581.1
theorem dX6_findRows_1 : decode cX6_findRows 1 = .ok (.getfield 7, 3) := dcq_581.2.1
theorem dX6_findRows_4 : decode cX6_findRows 4 = .ok (.aload_n 0, 1) := dcq_581.2.2.1
theorem dX6_findRows_5 : decode cX6_findRows 5 = .ok (.getfield 19, 3) := dcq_581.2.2.2.1
theorem dX6_findRows_8 : decode cX6_findRows 8 = .ok (.invokestatic 170, 3) := dcq_581.2.2.2.2.1
theorem dX6_findRows_11 : decode cX6_findRows 11 = .ok (.iconst 0, 1) := dcq_581.2.2.2.2.2.1
theorem dX6_findRows_12 : decode cX6_findRows 12 = .ok (.istore_n 3, 1) := dcq_581.2.2.2.2.2.2.1
theorem dX6_findRows_13 : decode cX6_findRows 13 = .ok (.iload_n 3, 1) := dcq_581.2.2.2.2.2.2.2.1
theorem dX6_findRows_14 : decode cX6_findRows 14 = .ok (.iload_n 2, 1) := dcq_581.2.2.2.2.2.2.2.2.1
theorem dX6_findRows_15 : decode cX6_findRows 15 = .ok (.if_icmp .ge 57, 3) := dcq_581.2.2.2.2.2.2.2.2.2.1
theorem dX6_findRows_18 : decode cX6_findRows 18 = .ok (.aload_n 0, 1) := dcq_581.2.2.2.2.2.2.2.2.2.2.1
theorem dX6_findRows_19 : decode cX6_findRows 19 = .ok (.invokevirtual 226, 3) := dcq_581.2.2.2.2.2.2.2.2.2.2.2
set_option maxRecDepth 20000 in
theorem dcb_582 : fd_B cX6_findRows 22 [54, 4, 42, 180, 0, 31, 6, 29, 104, 42, 27, 4, 182, 0, 191, 79, 42] := fd_o cX6_findRows 22 _ (by decide +kernel)
theorem dcq_582 : (decode cX6_findRows 22 = .ok (.istore 4, 2)) ∧ (decode cX6_findRows 24 = .ok (.aload_n 0, 1)) ∧ (decode cX6_findRows 25 = .ok (.getfield 31, 3)) ∧ (decode cX6_findRows 28 = .ok (.iconst 3, 1)) ∧ (decode cX6_findRows 29 = .ok (.iload_n 3, 1)) ∧ (decode cX6_findRows 30 = .ok (.imul, 1)) ∧ (decode cX6_findRows 31 = .ok (.aload_n 0, 1)) ∧ (decode cX6_findRows 32 = .ok (.iload_n 1, 1)) ∧ (decode cX6_findRows 33 = .ok (.iconst 1, 1)) ∧ (decode cX6_findRows 34 = .ok (.invokevirtual 191, 3)) ∧ (decode cX6_findRows 37 = .ok (.iastore, 1)) ∧ (decode cX6_findRows 38 = .ok (.aload_n 0, 1)) := have h := dcb_582; ⟨fd_54 h rfl, have h := fd_t2 h; ⟨fd_42 h, have h := fd_t1 h; ⟨fd_180 h rfl, have h := fd_t3 h; ⟨fd_6 h, have h := fd_t1 h; ⟨fd_29 h, have h := fd_t1 h; ⟨fd_104 h, have h := fd_t1 h; ⟨fd_42 h, have h := fd_t1 h; ⟨fd_27 h, have h := fd_t1 h; ⟨fd_4 h, have h := fd_t1 h; ⟨fd_182 h rfl, have h := fd_t3 h; ⟨fd_79 h, have h := fd_t1 h; fd_42 h⟩⟩⟩⟩⟩⟩⟩⟩⟩⟩⟩
theorem dX6_findRows_22 : decode cX6_findRows 22 = .ok (.istore 4, 2) := dcq_582.1
theorem dX6_findRows_24 : decode cX6_findRows 24 = .ok (.aload_n 0, 1) := dcq_582.2.1
theorem dX6_findRows_25 : decode cX6_findRows 25 = .ok (.getfield 31, 3) := dcq_582.2.2.1
theorem dX6_findRows_28 : decode cX6_findRows 28 = .ok (.iconst 3, 1) := dcq_582.2.2.2.1
theorem dX6_findRows_29 : decode cX6_findRows 29 = .ok (.iload_n 3, 1) := dcq_582.2.2.2.2.1
theorem dX6_findRows_30 : decode cX6_findRows 30 = .ok (.imul, 1) := dcq_582.2.2.2.2.2.1
theorem dX6_findRows_31 : decode cX6_findRows 31 = .ok (.aload_n 0, 1) := dcq_582.2.2.2.2.2.2.1
theorem dX6_findRows_32 : decode cX6_findRows 32 = .ok (.iload_n 1, 1) := dcq_582.2.2.2.2.2.2.2.1
theorem dX6_findRows_33 : decode cX6_findRows 33 = .ok (.iconst 1, 1) := dcq_582.2.2.2.2.2.2.2.2.1
theorem dX6_findRows_34 : decode cX6_findRows 34 = .ok (.invokevirtual 191, 3) := dcq_582.2.2.2.2.2.2.2.2.2.1
theorem dX6_findRows_37 : decode cX6_findRows 37 = .ok (.iastore, 1) := dcq_582.2.2.2.2.2.2.2.2.2.2.1
theorem dX6_findRows_38 : decode cX6_findRows 38 = .ok (.aload_n 0, 1) := dcq_582.2.2.2.2.2.2.2.2.2.2.2
set_option maxRecDepth 20000 in
theorem dcb_583 : fd_B cX6_findRows 39 [180, 0, 31, 6, 29, 104, 4, 96, 42, 27, 6, 182, 0, 191, 79, 42] := fd_o cX6_findRows 39 _ (by decide +kernel)
theorem dcq_583 : (decode cX6_findRows 39 = .ok (.getfield 31, 3)) ∧ (decode cX6_findRows 42 = .ok (.iconst 3, 1)) ∧ (decode cX6_findRows 43 = .ok (.iload_n 3, 1)) ∧ (decode cX6_findRows 44 = .ok (.imul, 1)) ∧ (decode cX6_findRows 45 = .ok (.iconst 1, 1)) ∧ (decode cX6_findRows 46 = .ok (.iadd, 1)) ∧ (decode cX6_findRows 47 = .ok (.aload_n 0, 1)) ∧ (decode cX6_findRows 48 = .ok (.iload_n 1, 1)) ∧ (decode cX6_findRows 49 = .ok (.iconst 3, 1)) ∧ (decode cX6_findRows 50 = .ok (.invokevirtual 191, 3)) ∧ (decode cX6_findRows 53 = .ok (.iastore, 1)) ∧ (decode cX6_findRows 54 = .ok (.aload_n 0, 1)) := have h := dcb_583; ⟨fd_180 h rfl, have h := fd_t3 h; ⟨fd_6 h, have h := fd_t1 h; ⟨fd_29 h, have h := fd_t1 h; ⟨fd_104 h, have h := fd_t1 h; ⟨fd_4 h, have h := fd_t1 h; ⟨fd_96 h, have h := fd_t1 h; ⟨fd_42 h, have h := fd_t1 h; ⟨fd_27 h, have h := fd_t1 h; ⟨fd_6 h, have h := fd_t1 h; ⟨fd_182 h rfl, have h := fd_t3 h; ⟨fd_79 h, have h := fd_t1 h; fd_42 h⟩⟩⟩⟩⟩⟩⟩⟩⟩⟩⟩
theorem dX6_findRows_39 : decode cX6_findRows 39 = .ok (.getfield 31, 3) := dcq_583.1
theorem dX6_findRows_42 : decode cX6_findRows 42 = .ok (.iconst 3, 1) := dcq_583.2.1
theorem dX6_findRows_43 : decode cX6_findRows 43 = .ok (.iload_n 3, 1) := dcq_583.2.2.1
theorem dX6_findRows_44 : decode cX6_findRows 44 = .ok (.imul, 1) := dcq_583.2.2.2.1
theorem dX6_findRows_45 : decode cX6_findRows 45 = .ok (.iconst 1, 1) := dcq_583.2.2.2.2.1
theorem dX6_findRows_46 : decode cX6_findRows 46 = .ok (.iadd, 1) := dcq_583.2.2.2.2.2.1
theorem dX6_findRows_47 : decode cX6_findRows 47 = .ok (.aload_n 0, 1) := dcq_583.2.2.2.2.2.2.1
theorem dX6_findRows_48 : decode cX6_findRows 48 = .ok (.iload_n 1, 1) := dcq_583.2.2.2.2.2.2.2.1
theorem dX6_findRows_49 : decode cX6_findRows 49 = .ok (.iconst 3, 1) := dcq_583.2.2.2.2.2.2.2.2.1
theorem dX6_findRows_50 : decode cX6_findRows 50 = .ok (.invokevirtual 191, 3) := dcq_583.2.2.2.2.2.2.2.2.2.1
theorem dX6_findRows_53 : decode cX6_findRows 53 = .ok (.iastore, 1) := dcq_583.2.2.2.2.2.2.2.2.2.2.1
theorem dX6_findRows_54 : decode cX6_findRows 54 = .ok (.aload_n 0, 1) := dcq_583.2.2.2.2.2.2.2.2.2.2.2
set_option maxRecDepth 20000 in
theorem dcb_584 : fd_B cX6_findRows 55 [180, 0, 31, 6, 29, 104, 5, 96, 21, 4, 79, 132, 3, 1, 167, 255, 200, 42, 180, 0, 19] := fd_o cX6_findRows 55 _ (by decide +kernel)
theorem dcq_584 : (decode cX6_findRows 55 = .ok (.getfield 31, 3)) ∧ (decode cX6_findRows 58 = .ok (.iconst 3, 1)) ∧ (decode cX6_findRows 59 = .ok (.iload_n 3, 1)) ∧ (decode cX6_findRows 60 = .ok (.imul, 1)) ∧ (decode cX6_findRows 61 = .ok (.iconst 2, 1)) ∧ (decode cX6_findRows 62 = .ok (.iadd, 1)) ∧ (decode cX6_findRows 63 = .ok (.iload 4, 2)) ∧ (decode cX6_findRows 65 = .ok (.iastore, 1)) ∧ (decode cX6_findRows 66 = .ok (.iinc 3 1, 3)) ∧ (decode cX6_findRows 69 = .ok (.goto (-56), 3)) ∧ (decode cX6_findRows 72 = .ok (.aload_n 0, 1)) ∧ (decode cX6_findRows 73 = .ok (.getfield 19, 3)) := have h := dcb_584; ⟨fd_180 h rfl, have h := fd_t3 h; ⟨fd_6 h, have h := fd_t1 h; ⟨fd_29 h, have h := fd_t1 h; ⟨fd_104 h, have h := fd_t1 h; ⟨fd_5 h, have h := fd_t1 h; ⟨fd_96 h, have h := fd_t1 h; ⟨fd_21 h rfl, have h := fd_t2 h; ⟨fd_79 h, have h := fd_t1 h; ⟨fd_132 h rfl (by decide +kernel), have h := fd_t3 h; ⟨fd_167 h (by decide +kernel), have h := fd_t3 h; ⟨fd_42 h, have h := fd_t1 h; fd_180 h rfl⟩⟩⟩⟩⟩⟩⟩⟩⟩⟩⟩
theorem dX6_findRows_55 : decode cX6_findRows 55 = .ok (.getfield 31, 3) := dcq_584.1
theorem dX6_findRows_58 : decode cX6_findRows 58 = .ok (.iconst 3, 1) := dcq_584.2.1
theorem dX6_findRows_59 : decode cX6_findRows 59 = .ok (.iload_n 3, 1) := dcq_584.2.2.1
theorem dX6_findRows_60 : decode cX6_findRows 60 = .ok (.imul, 1) := dcq_584.2.2.2.1
theorem dX6_findRows_61 : decode cX6_findRows 61 = .ok (.iconst 2, 1) := dcq_584.2.2.2.2.1
theorem dX6_findRows_62 : decode cX6_findRows 62 = .ok (.iadd, 1) := dcq_584.2.2.2.2.2.1
theorem dX6_findRows_63 : decode cX6_findRows 63 = .ok (.iload 4, 2) := dcq_584.2.2.2.2.2.2.1
theorem dX6_findRows_65 : decode cX6_findRows 65 = .ok (.iastore, 1) := dcq_584.2.2.2.2.2.2.2.1
theorem dX6_findRows_66 : decode cX6_findRows 66 = .ok (.iinc 3 1, 3) := dcq_584.2.2.2.2.2.2.2.2.1
theorem dX6_findRows_69 : decode cX6_findRows 69 = .ok (.goto (-56), 3) := dcq_584.2.2.2.2.2.2.2.2.2.1
theorem dX6_findRows_72 : decode cX6_findRows 72 = .ok (.aload_n 0, 1) := dcq_584.2.2.2.2.2.2.2.2.2.2.1
theorem dX6_findRows_73 : decode cX6_findRows 73 = .ok (.getfield 19, 3) := dcq_584.2.2.2.2.2.2.2.2.2.2.2
set_option maxRecDepth 20000 in
theorem dcb_585 : fd_B cX6_findRows 76 [42, 180, 0, 7, 184, 0, 170, 177] := fd_o cX6_findRows 76 _ (by decide +kernel)
theorem dcq_585 : (decode cX6_findRows 76 = .ok (.aload_n 0, 1)) ∧ (decode cX6_findRows 77 = .ok (.getfield 7, 3)) ∧ (decode cX6_findRows 80 = .ok (.invokestatic 170, 3)) ∧ (decode cX6_findRows 83 = .ok (.return_, 1)) := have h := dcb_585; ⟨fd_42 h, have h := fd_t1 h; ⟨fd_180 h rfl, have h := fd_t3 h; ⟨fd_184 h rfl, have h := fd_t3 h; fd_177 h⟩⟩⟩
theorem dX6_findRows_76 : decode cX6_findRows 76 = .ok (.aload_n 0, 1) := dcq_585.1
theorem dX6_findRows_77 : decode cX6_findRows 77 = .ok (.getfield 7, 3) := dcq_585.2.1
theorem dX6_findRows_80 : decode cX6_findRows 80 = .ok (.invokestatic 170, 3) := dcq_585.2.2.1
theorem dX6_findRows_83 : decode cX6_findRows 83 = .ok (.return_, 1) := dcq_585.2.2.2
set_option maxRecDepth 20000 in
theorem dcb_586 : fd_B cX6_prove 0 [42, 27, 182, 0, 188, 153, 0, 13, 28, 4, 16, 10, 184, 0, 60, 154, 0, 5, 2, 172, 42] := fd_o cX6_prove 0 _ (by decide +kernel)
theorem dcq_586 : (decode cX6_prove 0 = .ok (.aload_n 0, 1)) ∧ (decode cX6_prove 1 = .ok (.iload_n 1, 1)) ∧ (decode cX6_prove 2 = .ok (.invokevirtual 188, 3)) ∧ (decode cX6_prove 5 = .ok (.ifCond .eq 13, 3)) ∧ (decode cX6_prove 8 = .ok (.iload_n 2, 1)) ∧ (decode cX6_prove 9 = .ok (.iconst 1, 1)) ∧ (decode cX6_prove 10 = .ok (.bipush 10, 2)) ∧ (decode cX6_prove 12 = .ok (.invokestatic 60, 3)) ∧ (decode cX6_prove 15 = .ok (.ifCond .ne 5, 3)) ∧ (decode cX6_prove 18 = .ok (.iconst (-1), 1)) ∧ (decode cX6_prove 19 = .ok (.ireturn, 1)) ∧ (decode cX6_prove 20 = .ok (.aload_n 0, 1)) := have h := dcb_586; ⟨fd_42 h, have h := fd_t1 h; ⟨fd_27 h, have h := fd_t1 h; ⟨fd_182 h rfl, have h := fd_t3 h; ⟨fd_153 h (by decide +kernel), have h := fd_t3 h; ⟨fd_28 h, have h := fd_t1 h; ⟨fd_4 h, have h := fd_t1 h; ⟨fd_16 h (by decide +kernel), have h := fd_t2 h; ⟨fd_184 h rfl, have h := fd_t3 h; ⟨fd_154 h (by decide +kernel), have h := fd_t3 h; ⟨fd_2 h, have h := fd_t1 h; ⟨fd_172 h, have h := fd_t1 h; fd_42 h⟩⟩⟩⟩⟩⟩⟩⟩⟩⟩⟩
theorem dX6_prove_0 : decode cX6_prove 0 = .ok (.aload_n 0, 1) := dcq_586.1
theorem dX6_prove_1 : decode cX6_prove 1 = .ok (.iload_n 1, 1) := dcq_586.2.1
theorem dX6_prove_2 : decode cX6_prove 2 = .ok (.invokevirtual 188, 3) := dcq_586.2.2.1
theorem dX6_prove_5 : decode cX6_prove 5 = .ok (.ifCond .eq 13, 3) := dcq_586.2.2.2.1
theorem dX6_prove_8 : decode cX6_prove 8 = .ok (.iload_n 2, 1) := dcq_586.2.2.2.2.1
theorem dX6_prove_9 : decode cX6_prove 9 = .ok (.iconst 1, 1) := dcq_586.2.2.2.2.2.1
theorem dX6_prove_10 : decode cX6_prove 10 = .ok (.bipush 10, 2) := dcq_586.2.2.2.2.2.2.1
theorem dX6_prove_12 : decode cX6_prove 12 = .ok (.invokestatic 60, 3) := dcq_586.2.2.2.2.2.2.2.1
theorem dX6_prove_15 : decode cX6_prove 15 = .ok (.ifCond .ne 5, 3) := dcq_586.2.2.2.2.2.2.2.2.1
theorem dX6_prove_18 : decode cX6_prove 18 = .ok (.iconst (-1), 1) := dcq_586.2.2.2.2.2.2.2.2.2.1
theorem dX6_prove_19 : decode cX6_prove 19 = .ok (.ireturn, 1) := dcq_586.2.2.2.2.2.2.2.2.2.2.1
theorem dX6_prove_20 : decode cX6_prove 20 = .ok (.aload_n 0, 1) := dcq_586.2.2.2.2.2.2.2.2.2.2.2
set_option maxRecDepth 20000 in
theorem dcb_587 : fd_B cX6_prove 21 [27, 28, 182, 1, 11, 42, 28, 181, 0, 174, 3, 62, 29, 6, 28, 104] := fd_o cX6_prove 21 _ (by decide +kernel)
theorem dcq_587 : (decode cX6_prove 21 = .ok (.iload_n 1, 1)) ∧ (decode cX6_prove 22 = .ok (.iload_n 2, 1)) ∧ (decode cX6_prove 23 = .ok (.invokevirtual 267, 3)) ∧ (decode cX6_prove 26 = .ok (.aload_n 0, 1)) ∧ (decode cX6_prove 27 = .ok (.iload_n 2, 1)) ∧ (decode cX6_prove 28 = .ok (.putfield 174, 3)) ∧ (decode cX6_prove 31 = .ok (.iconst 0, 1)) ∧ (decode cX6_prove 32 = .ok (.istore_n 3, 1)) ∧ (decode cX6_prove 33 = .ok (.iload_n 3, 1)) ∧ (decode cX6_prove 34 = .ok (.iconst 3, 1)) ∧ (decode cX6_prove 35 = .ok (.iload_n 2, 1)) ∧ (decode cX6_prove 36 = .ok (.imul, 1)) := have h := dcb_587; ⟨fd_27 h, have h := fd_t1 h; ⟨fd_28 h, have h := fd_t1 h; ⟨fd_182 h rfl, have h := fd_t3 h; ⟨fd_42 h, have h := fd_t1 h; ⟨fd_28 h, have h := fd_t1 h; ⟨fd_181 h rfl, have h := fd_t3 h; ⟨fd_3 h, have h := fd_t1 h; ⟨fd_62 h, have h := fd_t1 h; ⟨fd_29 h, have h := fd_t1 h; ⟨fd_6 h, have h := fd_t1 h; ⟨fd_28 h, have h := fd_t1 h; fd_104 h⟩⟩⟩⟩⟩⟩⟩⟩⟩⟩⟩
theorem dX6_prove_21 : decode cX6_prove 21 = .ok (.iload_n 1, 1) := dcq_587.1
theorem dX6_prove_22 : decode cX6_prove 22 = .ok (.iload_n 2, 1) := dcq_587.2.1
theorem dX6_prove_23 : decode cX6_prove 23 = .ok (.invokevirtual 267, 3) := dcq_587.2.2.1
theorem dX6_prove_26 : decode cX6_prove 26 = .ok (.aload_n 0, 1) := dcq_587.2.2.2.1
theorem dX6_prove_27 : decode cX6_prove 27 = .ok (.iload_n 2, 1) := dcq_587.2.2.2.2.1
theorem dX6_prove_28 : decode cX6_prove 28 = .ok (.putfield 174, 3) := dcq_587.2.2.2.2.2.1
theorem dX6_prove_31 : decode cX6_prove 31 = .ok (.iconst 0, 1) := dcq_587.2.2.2.2.2.2.1
theorem dX6_prove_32 : decode cX6_prove 32 = .ok (.istore_n 3, 1) := dcq_587.2.2.2.2.2.2.2.1
theorem dX6_prove_33 : decode cX6_prove 33 = .ok (.iload_n 3, 1) := dcq_587.2.2.2.2.2.2.2.2.1
theorem dX6_prove_34 : decode cX6_prove 34 = .ok (.iconst 3, 1) := dcq_587.2.2.2.2.2.2.2.2.2.1
theorem dX6_prove_35 : decode cX6_prove 35 = .ok (.iload_n 2, 1) := dcq_587.2.2.2.2.2.2.2.2.2.2.1
theorem dX6_prove_36 : decode cX6_prove 36 = .ok (.imul, 1) := dcq_587.2.2.2.2.2.2.2.2.2.2.2
set_option maxRecDepth 20000 in
theorem dcb_588 : fd_B cX6_prove 37 [162, 0, 21, 42, 180, 0, 28, 29, 42, 180, 0, 31, 29, 46, 79, 132, 3, 1, 167, 255, 234, 28] := fd_o cX6_prove 37 _ (by decide +kernel)
theorem dcq_588 : (decode cX6_prove 37 = .ok (.if_icmp .ge 21, 3)) ∧ (decode cX6_prove 40 = .ok (.aload_n 0, 1)) ∧ (decode cX6_prove 41 = .ok (.getfield 28, 3)) ∧ (decode cX6_prove 44 = .ok (.iload_n 3, 1)) ∧ (decode cX6_prove 45 = .ok (.aload_n 0, 1)) ∧ (decode cX6_prove 46 = .ok (.getfield 31, 3)) ∧ (decode cX6_prove 49 = .ok (.iload_n 3, 1)) ∧ (decode cX6_prove 50 = .ok (.iaload, 1)) ∧ (decode cX6_prove 51 = .ok (.iastore, 1)) ∧ (decode cX6_prove 52 = .ok (.iinc 3 1, 3)) ∧ (decode cX6_prove 55 = .ok (.goto (-22), 3)) ∧ (decode cX6_prove 58 = .ok (.iload_n 2, 1)) := have h := dcb_588; ⟨fd_162 h (by decide +kernel), have h := fd_t3 h; ⟨fd_42 h, have h := fd_t1 h; ⟨fd_180 h rfl, have h := fd_t3 h; ⟨fd_29 h, have h := fd_t1 h; ⟨fd_42 h, have h := fd_t1 h; ⟨fd_180 h rfl, have h := fd_t3 h; ⟨fd_29 h, have h := fd_t1 h; ⟨fd_46 h, have h := fd_t1 h; ⟨fd_79 h, have h := fd_t1 h; ⟨fd_132 h rfl (by decide +kernel), have h := fd_t3 h; ⟨fd_167 h (by decide +kernel), have h := fd_t3 h; fd_28 h⟩⟩⟩⟩⟩⟩⟩⟩⟩⟩⟩
theorem dX6_prove_37 : decode cX6_prove 37 = .ok (.if_icmp .ge 21, 3) := dcq_588.1
theorem dX6_prove_40 : decode cX6_prove 40 = .ok (.aload_n 0, 1) := dcq_588.2.1
theorem dX6_prove_41 : decode cX6_prove 41 = .ok (.getfield 28, 3) := dcq_588.2.2.1
theorem dX6_prove_44 : decode cX6_prove 44 = .ok (.iload_n 3, 1) := dcq_588.2.2.2.1
theorem dX6_prove_45 : decode cX6_prove 45 = .ok (.aload_n 0, 1) := dcq_588.2.2.2.2.1
theorem dX6_prove_46 : decode cX6_prove 46 = .ok (.getfield 31, 3) := dcq_588.2.2.2.2.2.1
theorem dX6_prove_49 : decode cX6_prove 49 = .ok (.iload_n 3, 1) := dcq_588.2.2.2.2.2.2.1
theorem dX6_prove_50 : decode cX6_prove 50 = .ok (.iaload, 1) := dcq_588.2.2.2.2.2.2.2.1
theorem dX6_prove_51 : decode cX6_prove 51 = .ok (.iastore, 1) := dcq_588.2.2.2.2.2.2.2.2.1
theorem dX6_prove_52 : decode cX6_prove 52 = .ok (.iinc 3 1, 3) := dcq_588.2.2.2.2.2.2.2.2.2.1
theorem dX6_prove_55 : decode cX6_prove 55 = .ok (.goto (-22), 3) := dcq_588.2.2.2.2.2.2.2.2.2.2.1
theorem dX6_prove_58 : decode cX6_prove 58 = .ok (.iload_n 2, 1) := dcq_588.2.2.2.2.2.2.2.2.2.2.2
set_option maxRecDepth 20000 in
theorem dcb_589 : fd_B cX6_prove 59 [172] := fd_o cX6_prove 59 _ (by decide +kernel)
theorem dX6_prove_59 : decode cX6_prove 59 = .ok (.ireturn, 1) := fd_172 dcb_589
set_option maxRecDepth 20000 in
theorem dcb_590 : fd_B cX6_isRow 0 [27, 3, 42, 180, 0, 174, 4, 100, 184, 0, 60, 153, 0, 16, 28, 3, 5, 184, 0, 60] := fd_o cX6_isRow 0 _ (by decide +kernel)
theorem dcq_590 : (decode cX6_isRow 0 = .ok (.iload_n 1, 1)) ∧ (decode cX6_isRow 1 = .ok (.iconst 0, 1)) ∧ (decode cX6_isRow 2 = .ok (.aload_n 0, 1)) ∧ (decode cX6_isRow 3 = .ok (.getfield 174, 3)) ∧ (decode cX6_isRow 6 = .ok (.iconst 1, 1)) ∧ (decode cX6_isRow 7 = .ok (.isub, 1)) ∧ (decode cX6_isRow 8 = .ok (.invokestatic 60, 3)) ∧ (decode cX6_isRow 11 = .ok (.ifCond .eq 16, 3)) ∧ (decode cX6_isRow 14 = .ok (.iload_n 2, 1)) ∧ (decode cX6_isRow 15 = .ok (.iconst 0, 1)) ∧ (decode cX6_isRow 16 = .ok (.iconst 2, 1)) ∧ (decode cX6_isRow 17 = .ok (.invokestatic 60, 3)) := have h := dcb_590; ⟨fd_27 h, have h := fd_t1 h; ⟨fd_3 h, have h := fd_t1 h; ⟨fd_42 h, have h := fd_t1 h; ⟨fd_180 h rfl, have h := fd_t3 h; ⟨fd_4 h, have h := fd_t1 h; ⟨fd_100 h, have h := fd_t1 h; ⟨fd_184 h rfl, have h := fd_t3 h; ⟨fd_153 h (by decide +kernel), have h := fd_t3 h; ⟨fd_28 h, have h := fd_t1 h; ⟨fd_3 h, have h := fd_t1 h; ⟨fd_5 h, have h := fd_t1 h; fd_184 h rfl⟩⟩⟩⟩⟩⟩⟩⟩⟩⟩⟩
theorem dX6_isRow_0 : decode cX6_isRow 0 = .ok (.iload_n 1, 1) := dcq_590.1
theorem dX6_isRow_1 : decode cX6_isRow 1 = .ok (.iconst 0, 1) := dcq_590.2.1
theorem dX6_isRow_2 : decode cX6_isRow 2 = .ok (.aload_n 0, 1) := dcq_590.2.2.1
theorem dX6_isRow_3 : decode cX6_isRow 3 = .ok (.getfield 174, 3) := dcq_590.2.2.2.1
theorem dX6_isRow_6 : decode cX6_isRow 6 = .ok (.iconst 1, 1) := dcq_590.2.2.2.2.1
theorem dX6_isRow_7 : decode cX6_isRow 7 = .ok (.isub, 1) := dcq_590.2.2.2.2.2.1
theorem dX6_isRow_8 : decode cX6_isRow 8 = .ok (.invokestatic 60, 3) := dcq_590.2.2.2.2.2.2.1
theorem dX6_isRow_11 : decode cX6_isRow 11 = .ok (.ifCond .eq 16, 3) := dcq_590.2.2.2.2.2.2.2.1
theorem dX6_isRow_14 : decode cX6_isRow 14 = .ok (.iload_n 2, 1) := dcq_590.2.2.2.2.2.2.2.2.1
