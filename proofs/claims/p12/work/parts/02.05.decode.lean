-- decode rows: a program laid them
theorem dX6_weekByDraws_24 : decode cX6_weekByDraws 24 = .ok (.invokevirtual 233, 3) := dcq_172.2.2.2.2.2.2.2.2.2.2.2.2.2.2.1
theorem dX6_weekByDraws_27 : decode cX6_weekByDraws 27 = .ok (.bipush 100, 2) := dcq_172.2.2.2.2.2.2.2.2.2.2.2.2.2.2.2.1
theorem dX6_weekByDraws_29 : decode cX6_weekByDraws 29 = .ok (.irem, 1) := dcq_172.2.2.2.2.2.2.2.2.2.2.2.2.2.2.2.2.1
theorem dX6_weekByDraws_30 : decode cX6_weekByDraws 30 = .ok (.aload_n 0, 1) := dcq_172.2.2.2.2.2.2.2.2.2.2.2.2.2.2.2.2.2.1
theorem dX6_weekByDraws_31 : decode cX6_weekByDraws 31 = .ok (.getfield 7, 3) := dcq_172.2.2.2.2.2.2.2.2.2.2.2.2.2.2.2.2.2.2.1
theorem dX6_weekByDraws_34 : decode cX6_weekByDraws 34 = .ok (.iconst 3, 1) := dcq_172.2.2.2.2.2.2.2.2.2.2.2.2.2.2.2.2.2.2.2.1
theorem dX6_weekByDraws_35 : decode cX6_weekByDraws 35 = .ok (.iaload, 1) := dcq_172.2.2.2.2.2.2.2.2.2.2.2.2.2.2.2.2.2.2.2.2.1
theorem dX6_weekByDraws_36 : decode cX6_weekByDraws 36 = .ok (.if_icmp .ge 17, 3) := dcq_172.2.2.2.2.2.2.2.2.2.2.2.2.2.2.2.2.2.2.2.2.2.1
theorem dX6_weekByDraws_39 : decode cX6_weekByDraws 39 = .ok (.aload_n 0, 1) := dcq_172.2.2.2.2.2.2.2.2.2.2.2.2.2.2.2.2.2.2.2.2.2.2.1
theorem dX6_weekByDraws_40 : decode cX6_weekByDraws 40 = .ok (.iload_n 1, 1) := dcq_172.2.2.2.2.2.2.2.2.2.2.2.2.2.2.2.2.2.2.2.2.2.2.2.1
theorem dX6_weekByDraws_41 : decode cX6_weekByDraws 41 = .ok (.iconst 1, 1) := dcq_172.2.2.2.2.2.2.2.2.2.2.2.2.2.2.2.2.2.2.2.2.2.2.2.2.1
theorem dX6_weekByDraws_42 : decode cX6_weekByDraws 42 = .ok (.aload_n 0, 1) := dcq_172.2.2.2.2.2.2.2.2.2.2.2.2.2.2.2.2.2.2.2.2.2.2.2.2.2.1
theorem dX6_weekByDraws_43 : decode cX6_weekByDraws 43 = .ok (.iload_n 1, 1) := dcq_172.2.2.2.2.2.2.2.2.2.2.2.2.2.2.2.2.2.2.2.2.2.2.2.2.2.2.1
theorem dX6_weekByDraws_44 : decode cX6_weekByDraws 44 = .ok (.iconst 1, 1) := dcq_172.2.2.2.2.2.2.2.2.2.2.2.2.2.2.2.2.2.2.2.2.2.2.2.2.2.2.2.1
theorem dX6_weekByDraws_45 : decode cX6_weekByDraws 45 = .ok (.invokevirtual 191, 3) := dcq_172.2.2.2.2.2.2.2.2.2.2.2.2.2.2.2.2.2.2.2.2.2.2.2.2.2.2.2.2.1
theorem dX6_weekByDraws_48 : decode cX6_weekByDraws 48 = .ok (.iconst 2, 1) := dcq_172.2.2.2.2.2.2.2.2.2.2.2.2.2.2.2.2.2.2.2.2.2.2.2.2.2.2.2.2.2.1
theorem dX6_weekByDraws_49 : decode cX6_weekByDraws 49 = .ok (.idiv, 1) := dcq_172.2.2.2.2.2.2.2.2.2.2.2.2.2.2.2.2.2.2.2.2.2.2.2.2.2.2.2.2.2.2.1
theorem dX6_weekByDraws_50 : decode cX6_weekByDraws 50 = .ok (.invokevirtual 184, 3) := dcq_172.2.2.2.2.2.2.2.2.2.2.2.2.2.2.2.2.2.2.2.2.2.2.2.2.2.2.2.2.2.2.2.1
theorem dX6_weekByDraws_53 : decode cX6_weekByDraws 53 = .ok (.aload_n 0, 1) := dcq_172.2.2.2.2.2.2.2.2.2.2.2.2.2.2.2.2.2.2.2.2.2.2.2.2.2.2.2.2.2.2.2.2.1
theorem dX6_weekByDraws_54 : decode cX6_weekByDraws 54 = .ok (.invokevirtual 226, 3) := dcq_172.2.2.2.2.2.2.2.2.2.2.2.2.2.2.2.2.2.2.2.2.2.2.2.2.2.2.2.2.2.2.2.2.2.1
theorem dX6_weekByDraws_57 : decode cX6_weekByDraws 57 = .ok (.ireturn, 1) := dcq_172.2.2.2.2.2.2.2.2.2.2.2.2.2.2.2.2.2.2.2.2.2.2.2.2.2.2.2.2.2.2.2.2.2.2.1
set_option maxRecDepth 100000 in
theorem dcb_173 : dcb cX6_week [(0, (.aload_n 0, 1)), (1, (.invokevirtual 236, 3)), (4, (.ireturn, 1))] = true := by decide +kernel
set_option maxRecDepth 100000 in
theorem dcq_173 : (decode cX6_week 0 = .ok (.aload_n 0, 1)) ∧ (decode cX6_week 1 = .ok (.invokevirtual 236, 3)) ∧ (decode cX6_week 4 = .ok (.ireturn, 1)) ∧ True := have h := dcA_of dcb_173; h
theorem dX6_week_0 : decode cX6_week 0 = .ok (.aload_n 0, 1) := dcq_173.1
theorem dX6_week_1 : decode cX6_week 1 = .ok (.invokevirtual 236, 3) := dcq_173.2.1
theorem dX6_week_4 : decode cX6_week 4 = .ok (.ireturn, 1) := dcq_173.2.2.1
set_option maxRecDepth 100000 in
theorem dcb_174 : dcb cX6_poor [(0, (.iload_n 1, 1)), (1, (.iconst 1, 1)), (2, (.bipush 30, 2)), (4, (.invokestatic 60, 3)), (7, (.ifCond .ne 5, 3)), (10, (.iconst (-1), 1)), (11, (.ireturn, 1)), (12, (.aload_n 0, 1)), (13, (.getfield 7, 3)), (16, (.aload_n 0, 1)), (17, (.getfield 19, 3)), (20, (.invokestatic 170, 3)), (23, (.aload_n 0, 1)), (24, (.iconst 1, 1)), (25, (.invokevirtual 239, 3)), (28, (.istore_n 2, 1)), (29, (.aload_n 0, 1)), (30, (.getfield 7, 3)), (33, (.bipush 7, 2)), (35, (.iaload, 1)), (36, (.istore_n 3, 1)), (37, (.iconst 0, 1)), (38, (.istore 4, 2)), (40, (.iconst 0, 1)), (41, (.istore 5, 2)), (43, (.iload 5, 2)), (45, (.iload_n 1, 1)), (46, (.if_icmp .ge 54, 3)), (49, (.aload_n 0, 1)), (50, (.getfield 7, 3)), (53, (.bipush 7, 2)), (55, (.iload_n 3, 1)), (56, (.iastore, 1)), (57, (.iload 4, 2)), (59, (.aload_n 0, 1)), (60, (.invokevirtual 236, 3)), (63, (.iload_n 2, 1)), (64, (.if_icmp .ge 7, 3)), (67, (.iconst 1, 1)), (68, (.goto 4, 3)), (71, (.iconst 0, 1)), (72, (.iadd, 1)), (73, (.istore 4, 2)), (75, (.aload_n 0, 1)), (76, (.getfield 7, 3)), (79, (.bipush 7, 2)), (81, (.iaload, 1)), (82, (.istore_n 3, 1)), (83, (.aload_n 0, 1)), (84, (.getfield 19, 3)), (87, (.aload_n 0, 1)), (88, (.getfield 7, 3)), (91, (.invokestatic 170, 3)), (94, (.iinc 5 1, 3)), (97, (.goto (-54), 3)), (100, (.iload 4, 2)), (102, (.ireturn, 1))] = true := by decide +kernel
set_option maxRecDepth 100000 in
theorem dcq_174 : (decode cX6_poor 0 = .ok (.iload_n 1, 1)) ∧ (decode cX6_poor 1 = .ok (.iconst 1, 1)) ∧ (decode cX6_poor 2 = .ok (.bipush 30, 2)) ∧ (decode cX6_poor 4 = .ok (.invokestatic 60, 3)) ∧ (decode cX6_poor 7 = .ok (.ifCond .ne 5, 3)) ∧ (decode cX6_poor 10 = .ok (.iconst (-1), 1)) ∧ (decode cX6_poor 11 = .ok (.ireturn, 1)) ∧ (decode cX6_poor 12 = .ok (.aload_n 0, 1)) ∧ (decode cX6_poor 13 = .ok (.getfield 7, 3)) ∧ (decode cX6_poor 16 = .ok (.aload_n 0, 1)) ∧ (decode cX6_poor 17 = .ok (.getfield 19, 3)) ∧ (decode cX6_poor 20 = .ok (.invokestatic 170, 3)) ∧ (decode cX6_poor 23 = .ok (.aload_n 0, 1)) ∧ (decode cX6_poor 24 = .ok (.iconst 1, 1)) ∧ (decode cX6_poor 25 = .ok (.invokevirtual 239, 3)) ∧ (decode cX6_poor 28 = .ok (.istore_n 2, 1)) ∧ (decode cX6_poor 29 = .ok (.aload_n 0, 1)) ∧ (decode cX6_poor 30 = .ok (.getfield 7, 3)) ∧ (decode cX6_poor 33 = .ok (.bipush 7, 2)) ∧ (decode cX6_poor 35 = .ok (.iaload, 1)) ∧ (decode cX6_poor 36 = .ok (.istore_n 3, 1)) ∧ (decode cX6_poor 37 = .ok (.iconst 0, 1)) ∧ (decode cX6_poor 38 = .ok (.istore 4, 2)) ∧ (decode cX6_poor 40 = .ok (.iconst 0, 1)) ∧ (decode cX6_poor 41 = .ok (.istore 5, 2)) ∧ (decode cX6_poor 43 = .ok (.iload 5, 2)) ∧ (decode cX6_poor 45 = .ok (.iload_n 1, 1)) ∧ (decode cX6_poor 46 = .ok (.if_icmp .ge 54, 3)) ∧ (decode cX6_poor 49 = .ok (.aload_n 0, 1)) ∧ (decode cX6_poor 50 = .ok (.getfield 7, 3)) ∧ (decode cX6_poor 53 = .ok (.bipush 7, 2)) ∧ (decode cX6_poor 55 = .ok (.iload_n 3, 1)) ∧ (decode cX6_poor 56 = .ok (.iastore, 1)) ∧ (decode cX6_poor 57 = .ok (.iload 4, 2)) ∧ (decode cX6_poor 59 = .ok (.aload_n 0, 1)) ∧ (decode cX6_poor 60 = .ok (.invokevirtual 236, 3)) ∧ (decode cX6_poor 63 = .ok (.iload_n 2, 1)) ∧ (decode cX6_poor 64 = .ok (.if_icmp .ge 7, 3)) ∧ (decode cX6_poor 67 = .ok (.iconst 1, 1)) ∧ (decode cX6_poor 68 = .ok (.goto 4, 3)) ∧ (decode cX6_poor 71 = .ok (.iconst 0, 1)) ∧ (decode cX6_poor 72 = .ok (.iadd, 1)) ∧ (decode cX6_poor 73 = .ok (.istore 4, 2)) ∧ (decode cX6_poor 75 = .ok (.aload_n 0, 1)) ∧ (decode cX6_poor 76 = .ok (.getfield 7, 3)) ∧ (decode cX6_poor 79 = .ok (.bipush 7, 2)) ∧ (decode cX6_poor 81 = .ok (.iaload, 1)) ∧ (decode cX6_poor 82 = .ok (.istore_n 3, 1)) ∧ (decode cX6_poor 83 = .ok (.aload_n 0, 1)) ∧ (decode cX6_poor 84 = .ok (.getfield 19, 3)) ∧ (decode cX6_poor 87 = .ok (.aload_n 0, 1)) ∧ (decode cX6_poor 88 = .ok (.getfield 7, 3)) ∧ (decode cX6_poor 91 = .ok (.invokestatic 170, 3)) ∧ (decode cX6_poor 94 = .ok (.iinc 5 1, 3)) ∧ (decode cX6_poor 97 = .ok (.goto (-54), 3)) ∧ (decode cX6_poor 100 = .ok (.iload 4, 2)) ∧ (decode cX6_poor 102 = .ok (.ireturn, 1)) ∧ True := have h := dcA_of dcb_174; h
theorem dX6_poor_0 : decode cX6_poor 0 = .ok (.iload_n 1, 1) := dcq_174.1
theorem dX6_poor_1 : decode cX6_poor 1 = .ok (.iconst 1, 1) := dcq_174.2.1
theorem dX6_poor_2 : decode cX6_poor 2 = .ok (.bipush 30, 2) := dcq_174.2.2.1
theorem dX6_poor_4 : decode cX6_poor 4 = .ok (.invokestatic 60, 3) := dcq_174.2.2.2.1
theorem dX6_poor_7 : decode cX6_poor 7 = .ok (.ifCond .ne 5, 3) := dcq_174.2.2.2.2.1
theorem dX6_poor_10 : decode cX6_poor 10 = .ok (.iconst (-1), 1) := dcq_174.2.2.2.2.2.1
theorem dX6_poor_11 : decode cX6_poor 11 = .ok (.ireturn, 1) := dcq_174.2.2.2.2.2.2.1
theorem dX6_poor_12 : decode cX6_poor 12 = .ok (.aload_n 0, 1) := dcq_174.2.2.2.2.2.2.2.1
theorem dX6_poor_13 : decode cX6_poor 13 = .ok (.getfield 7, 3) := dcq_174.2.2.2.2.2.2.2.2.1
theorem dX6_poor_16 : decode cX6_poor 16 = .ok (.aload_n 0, 1) := dcq_174.2.2.2.2.2.2.2.2.2.1
theorem dX6_poor_17 : decode cX6_poor 17 = .ok (.getfield 19, 3) := dcq_174.2.2.2.2.2.2.2.2.2.2.1
theorem dX6_poor_20 : decode cX6_poor 20 = .ok (.invokestatic 170, 3) := dcq_174.2.2.2.2.2.2.2.2.2.2.2.1
theorem dX6_poor_23 : decode cX6_poor 23 = .ok (.aload_n 0, 1) := dcq_174.2.2.2.2.2.2.2.2.2.2.2.2.1
theorem dX6_poor_24 : decode cX6_poor 24 = .ok (.iconst 1, 1) := dcq_174.2.2.2.2.2.2.2.2.2.2.2.2.2.1
theorem dX6_poor_25 : decode cX6_poor 25 = .ok (.invokevirtual 239, 3) := dcq_174.2.2.2.2.2.2.2.2.2.2.2.2.2.2.1
theorem dX6_poor_28 : decode cX6_poor 28 = .ok (.istore_n 2, 1) := dcq_174.2.2.2.2.2.2.2.2.2.2.2.2.2.2.2.1
theorem dX6_poor_29 : decode cX6_poor 29 = .ok (.aload_n 0, 1) := dcq_174.2.2.2.2.2.2.2.2.2.2.2.2.2.2.2.2.1
theorem dX6_poor_30 : decode cX6_poor 30 = .ok (.getfield 7, 3) := dcq_174.2.2.2.2.2.2.2.2.2.2.2.2.2.2.2.2.2.1
theorem dX6_poor_33 : decode cX6_poor 33 = .ok (.bipush 7, 2) := dcq_174.2.2.2.2.2.2.2.2.2.2.2.2.2.2.2.2.2.2.1
theorem dX6_poor_35 : decode cX6_poor 35 = .ok (.iaload, 1) := dcq_174.2.2.2.2.2.2.2.2.2.2.2.2.2.2.2.2.2.2.2.1
theorem dX6_poor_36 : decode cX6_poor 36 = .ok (.istore_n 3, 1) := dcq_174.2.2.2.2.2.2.2.2.2.2.2.2.2.2.2.2.2.2.2.2.1
theorem dX6_poor_37 : decode cX6_poor 37 = .ok (.iconst 0, 1) := dcq_174.2.2.2.2.2.2.2.2.2.2.2.2.2.2.2.2.2.2.2.2.2.1
theorem dX6_poor_38 : decode cX6_poor 38 = .ok (.istore 4, 2) := dcq_174.2.2.2.2.2.2.2.2.2.2.2.2.2.2.2.2.2.2.2.2.2.2.1
theorem dX6_poor_40 : decode cX6_poor 40 = .ok (.iconst 0, 1) := dcq_174.2.2.2.2.2.2.2.2.2.2.2.2.2.2.2.2.2.2.2.2.2.2.2.1
theorem dX6_poor_41 : decode cX6_poor 41 = .ok (.istore 5, 2) := dcq_174.2.2.2.2.2.2.2.2.2.2.2.2.2.2.2.2.2.2.2.2.2.2.2.2.1
theorem dX6_poor_43 : decode cX6_poor 43 = .ok (.iload 5, 2) := dcq_174.2.2.2.2.2.2.2.2.2.2.2.2.2.2.2.2.2.2.2.2.2.2.2.2.2.1
theorem dX6_poor_45 : decode cX6_poor 45 = .ok (.iload_n 1, 1) := dcq_174.2.2.2.2.2.2.2.2.2.2.2.2.2.2.2.2.2.2.2.2.2.2.2.2.2.2.1
theorem dX6_poor_46 : decode cX6_poor 46 = .ok (.if_icmp .ge 54, 3) := dcq_174.2.2.2.2.2.2.2.2.2.2.2.2.2.2.2.2.2.2.2.2.2.2.2.2.2.2.2.1
theorem dX6_poor_49 : decode cX6_poor 49 = .ok (.aload_n 0, 1) := dcq_174.2.2.2.2.2.2.2.2.2.2.2.2.2.2.2.2.2.2.2.2.2.2.2.2.2.2.2.2.1
theorem dX6_poor_50 : decode cX6_poor 50 = .ok (.getfield 7, 3) := dcq_174.2.2.2.2.2.2.2.2.2.2.2.2.2.2.2.2.2.2.2.2.2.2.2.2.2.2.2.2.2.1
theorem dX6_poor_53 : decode cX6_poor 53 = .ok (.bipush 7, 2) := dcq_174.2.2.2.2.2.2.2.2.2.2.2.2.2.2.2.2.2.2.2.2.2.2.2.2.2.2.2.2.2.2.1
theorem dX6_poor_55 : decode cX6_poor 55 = .ok (.iload_n 3, 1) := dcq_174.2.2.2.2.2.2.2.2.2.2.2.2.2.2.2.2.2.2.2.2.2.2.2.2.2.2.2.2.2.2.2.1
theorem dX6_poor_56 : decode cX6_poor 56 = .ok (.iastore, 1) := dcq_174.2.2.2.2.2.2.2.2.2.2.2.2.2.2.2.2.2.2.2.2.2.2.2.2.2.2.2.2.2.2.2.2.1
theorem dX6_poor_57 : decode cX6_poor 57 = .ok (.iload 4, 2) := dcq_174.2.2.2.2.2.2.2.2.2.2.2.2.2.2.2.2.2.2.2.2.2.2.2.2.2.2.2.2.2.2.2.2.2.1
theorem dX6_poor_59 : decode cX6_poor 59 = .ok (.aload_n 0, 1) := dcq_174.2.2.2.2.2.2.2.2.2.2.2.2.2.2.2.2.2.2.2.2.2.2.2.2.2.2.2.2.2.2.2.2.2.2.1
theorem dX6_poor_60 : decode cX6_poor 60 = .ok (.invokevirtual 236, 3) := dcq_174.2.2.2.2.2.2.2.2.2.2.2.2.2.2.2.2.2.2.2.2.2.2.2.2.2.2.2.2.2.2.2.2.2.2.2.1
theorem dX6_poor_63 : decode cX6_poor 63 = .ok (.iload_n 2, 1) := dcq_174.2.2.2.2.2.2.2.2.2.2.2.2.2.2.2.2.2.2.2.2.2.2.2.2.2.2.2.2.2.2.2.2.2.2.2.2.1
theorem dX6_poor_64 : decode cX6_poor 64 = .ok (.if_icmp .ge 7, 3) := dcq_174.2.2.2.2.2.2.2.2.2.2.2.2.2.2.2.2.2.2.2.2.2.2.2.2.2.2.2.2.2.2.2.2.2.2.2.2.2.1
theorem dX6_poor_67 : decode cX6_poor 67 = .ok (.iconst 1, 1) := dcq_174.2.2.2.2.2.2.2.2.2.2.2.2.2.2.2.2.2.2.2.2.2.2.2.2.2.2.2.2.2.2.2.2.2.2.2.2.2.2.1
theorem dX6_poor_68 : decode cX6_poor 68 = .ok (.goto 4, 3) := dcq_174.2.2.2.2.2.2.2.2.2.2.2.2.2.2.2.2.2.2.2.2.2.2.2.2.2.2.2.2.2.2.2.2.2.2.2.2.2.2.2.1
theorem dX6_poor_71 : decode cX6_poor 71 = .ok (.iconst 0, 1) := dcq_174.2.2.2.2.2.2.2.2.2.2.2.2.2.2.2.2.2.2.2.2.2.2.2.2.2.2.2.2.2.2.2.2.2.2.2.2.2.2.2.2.1
theorem dX6_poor_72 : decode cX6_poor 72 = .ok (.iadd, 1) := dcq_174.2.2.2.2.2.2.2.2.2.2.2.2.2.2.2.2.2.2.2.2.2.2.2.2.2.2.2.2.2.2.2.2.2.2.2.2.2.2.2.2.2.1
theorem dX6_poor_73 : decode cX6_poor 73 = .ok (.istore 4, 2) := dcq_174.2.2.2.2.2.2.2.2.2.2.2.2.2.2.2.2.2.2.2.2.2.2.2.2.2.2.2.2.2.2.2.2.2.2.2.2.2.2.2.2.2.2.1
theorem dX6_poor_75 : decode cX6_poor 75 = .ok (.aload_n 0, 1) := dcq_174.2.2.2.2.2.2.2.2.2.2.2.2.2.2.2.2.2.2.2.2.2.2.2.2.2.2.2.2.2.2.2.2.2.2.2.2.2.2.2.2.2.2.2.1
theorem dX6_poor_76 : decode cX6_poor 76 = .ok (.getfield 7, 3) := dcq_174.2.2.2.2.2.2.2.2.2.2.2.2.2.2.2.2.2.2.2.2.2.2.2.2.2.2.2.2.2.2.2.2.2.2.2.2.2.2.2.2.2.2.2.2.1
theorem dX6_poor_79 : decode cX6_poor 79 = .ok (.bipush 7, 2) := dcq_174.2.2.2.2.2.2.2.2.2.2.2.2.2.2.2.2.2.2.2.2.2.2.2.2.2.2.2.2.2.2.2.2.2.2.2.2.2.2.2.2.2.2.2.2.2.1
theorem dX6_poor_81 : decode cX6_poor 81 = .ok (.iaload, 1) := dcq_174.2.2.2.2.2.2.2.2.2.2.2.2.2.2.2.2.2.2.2.2.2.2.2.2.2.2.2.2.2.2.2.2.2.2.2.2.2.2.2.2.2.2.2.2.2.2.1
theorem dX6_poor_82 : decode cX6_poor 82 = .ok (.istore_n 3, 1) := dcq_174.2.2.2.2.2.2.2.2.2.2.2.2.2.2.2.2.2.2.2.2.2.2.2.2.2.2.2.2.2.2.2.2.2.2.2.2.2.2.2.2.2.2.2.2.2.2.2.1
theorem dX6_poor_83 : decode cX6_poor 83 = .ok (.aload_n 0, 1) := dcq_174.2.2.2.2.2.2.2.2.2.2.2.2.2.2.2.2.2.2.2.2.2.2.2.2.2.2.2.2.2.2.2.2.2.2.2.2.2.2.2.2.2.2.2.2.2.2.2.2.1
theorem dX6_poor_84 : decode cX6_poor 84 = .ok (.getfield 19, 3) := dcq_174.2.2.2.2.2.2.2.2.2.2.2.2.2.2.2.2.2.2.2.2.2.2.2.2.2.2.2.2.2.2.2.2.2.2.2.2.2.2.2.2.2.2.2.2.2.2.2.2.2.1
theorem dX6_poor_87 : decode cX6_poor 87 = .ok (.aload_n 0, 1) := dcq_174.2.2.2.2.2.2.2.2.2.2.2.2.2.2.2.2.2.2.2.2.2.2.2.2.2.2.2.2.2.2.2.2.2.2.2.2.2.2.2.2.2.2.2.2.2.2.2.2.2.2.1
theorem dX6_poor_88 : decode cX6_poor 88 = .ok (.getfield 7, 3) := dcq_174.2.2.2.2.2.2.2.2.2.2.2.2.2.2.2.2.2.2.2.2.2.2.2.2.2.2.2.2.2.2.2.2.2.2.2.2.2.2.2.2.2.2.2.2.2.2.2.2.2.2.2.1
theorem dX6_poor_91 : decode cX6_poor 91 = .ok (.invokestatic 170, 3) := dcq_174.2.2.2.2.2.2.2.2.2.2.2.2.2.2.2.2.2.2.2.2.2.2.2.2.2.2.2.2.2.2.2.2.2.2.2.2.2.2.2.2.2.2.2.2.2.2.2.2.2.2.2.2.1
theorem dX6_poor_94 : decode cX6_poor 94 = .ok (.iinc 5 1, 3) := dcq_174.2.2.2.2.2.2.2.2.2.2.2.2.2.2.2.2.2.2.2.2.2.2.2.2.2.2.2.2.2.2.2.2.2.2.2.2.2.2.2.2.2.2.2.2.2.2.2.2.2.2.2.2.2.1
theorem dX6_poor_97 : decode cX6_poor 97 = .ok (.goto (-54), 3) := dcq_174.2.2.2.2.2.2.2.2.2.2.2.2.2.2.2.2.2.2.2.2.2.2.2.2.2.2.2.2.2.2.2.2.2.2.2.2.2.2.2.2.2.2.2.2.2.2.2.2.2.2.2.2.2.2.1
theorem dX6_poor_100 : decode cX6_poor 100 = .ok (.iload 4, 2) := dcq_174.2.2.2.2.2.2.2.2.2.2.2.2.2.2.2.2.2.2.2.2.2.2.2.2.2.2.2.2.2.2.2.2.2.2.2.2.2.2.2.2.2.2.2.2.2.2.2.2.2.2.2.2.2.2.2.1
theorem dX6_poor_102 : decode cX6_poor 102 = .ok (.ireturn, 1) := dcq_174.2.2.2.2.2.2.2.2.2.2.2.2.2.2.2.2.2.2.2.2.2.2.2.2.2.2.2.2.2.2.2.2.2.2.2.2.2.2.2.2.2.2.2.2.2.2.2.2.2.2.2.2.2.2.2.2.1
set_option maxRecDepth 100000 in
theorem dcb_175 : dcb cX6_state [(0, (.iload_n 1, 1)), (1, (.tableswitch 76 0 5 #[39, 46, 53, 59, 65, 71], 39)), (40, (.aload_n 0, 1)), (41, (.getfield 7, 3)), (44, (.iconst 4, 1)), (45, (.iaload, 1)), (46, (.ireturn, 1)), (47, (.aload_n 0, 1)), (48, (.getfield 7, 3)), (51, (.iconst 5, 1)), (52, (.iaload, 1)), (53, (.ireturn, 1)), (54, (.aload_n 0, 1)), (55, (.iconst 5, 1)), (56, (.invokevirtual 229, 3)), (59, (.ireturn, 1)), (60, (.aload_n 0, 1)), (61, (.iconst 3, 1)), (62, (.invokevirtual 229, 3)), (65, (.ireturn, 1)), (66, (.aload_n 0, 1)), (67, (.iconst 1, 1)), (68, (.invokevirtual 229, 3)), (71, (.ireturn, 1)), (72, (.aload_n 0, 1)), (73, (.invokevirtual 242, 3)), (76, (.ireturn, 1)), (77, (.iconst (-1), 1)), (78, (.ireturn, 1))] = true := by decide +kernel
set_option maxRecDepth 100000 in
theorem dcq_175 : (decode cX6_state 0 = .ok (.iload_n 1, 1)) ∧ (decode cX6_state 1 = .ok (.tableswitch 76 0 5 #[39, 46, 53, 59, 65, 71], 39)) ∧ (decode cX6_state 40 = .ok (.aload_n 0, 1)) ∧ (decode cX6_state 41 = .ok (.getfield 7, 3)) ∧ (decode cX6_state 44 = .ok (.iconst 4, 1)) ∧ (decode cX6_state 45 = .ok (.iaload, 1)) ∧ (decode cX6_state 46 = .ok (.ireturn, 1)) ∧ (decode cX6_state 47 = .ok (.aload_n 0, 1)) ∧ (decode cX6_state 48 = .ok (.getfield 7, 3)) ∧ (decode cX6_state 51 = .ok (.iconst 5, 1)) ∧ (decode cX6_state 52 = .ok (.iaload, 1)) ∧ (decode cX6_state 53 = .ok (.ireturn, 1)) ∧ (decode cX6_state 54 = .ok (.aload_n 0, 1)) ∧ (decode cX6_state 55 = .ok (.iconst 5, 1)) ∧ (decode cX6_state 56 = .ok (.invokevirtual 229, 3)) ∧ (decode cX6_state 59 = .ok (.ireturn, 1)) ∧ (decode cX6_state 60 = .ok (.aload_n 0, 1)) ∧ (decode cX6_state 61 = .ok (.iconst 3, 1)) ∧ (decode cX6_state 62 = .ok (.invokevirtual 229, 3)) ∧ (decode cX6_state 65 = .ok (.ireturn, 1)) ∧ (decode cX6_state 66 = .ok (.aload_n 0, 1)) ∧ (decode cX6_state 67 = .ok (.iconst 1, 1)) ∧ (decode cX6_state 68 = .ok (.invokevirtual 229, 3)) ∧ (decode cX6_state 71 = .ok (.ireturn, 1)) ∧ (decode cX6_state 72 = .ok (.aload_n 0, 1)) ∧ (decode cX6_state 73 = .ok (.invokevirtual 242, 3)) ∧ (decode cX6_state 76 = .ok (.ireturn, 1)) ∧ (decode cX6_state 77 = .ok (.iconst (-1), 1)) ∧ (decode cX6_state 78 = .ok (.ireturn, 1)) ∧ True := have h := dcA_of dcb_175; h
theorem dX6_state_0 : decode cX6_state 0 = .ok (.iload_n 1, 1) := dcq_175.1
theorem dX6_state_1 : decode cX6_state 1 = .ok (.tableswitch 76 0 5 #[39, 46, 53, 59, 65, 71], 39) := dcq_175.2.1
theorem dX6_state_40 : decode cX6_state 40 = .ok (.aload_n 0, 1) := dcq_175.2.2.1
theorem dX6_state_41 : decode cX6_state 41 = .ok (.getfield 7, 3) := dcq_175.2.2.2.1
theorem dX6_state_44 : decode cX6_state 44 = .ok (.iconst 4, 1) := dcq_175.2.2.2.2.1
theorem dX6_state_45 : decode cX6_state 45 = .ok (.iaload, 1) := dcq_175.2.2.2.2.2.1
theorem dX6_state_46 : decode cX6_state 46 = .ok (.ireturn, 1) := dcq_175.2.2.2.2.2.2.1
theorem dX6_state_47 : decode cX6_state 47 = .ok (.aload_n 0, 1) := dcq_175.2.2.2.2.2.2.2.1
theorem dX6_state_48 : decode cX6_state 48 = .ok (.getfield 7, 3) := dcq_175.2.2.2.2.2.2.2.2.1
theorem dX6_state_51 : decode cX6_state 51 = .ok (.iconst 5, 1) := dcq_175.2.2.2.2.2.2.2.2.2.1
theorem dX6_state_52 : decode cX6_state 52 = .ok (.iaload, 1) := dcq_175.2.2.2.2.2.2.2.2.2.2.1
theorem dX6_state_53 : decode cX6_state 53 = .ok (.ireturn, 1) := dcq_175.2.2.2.2.2.2.2.2.2.2.2.1
theorem dX6_state_54 : decode cX6_state 54 = .ok (.aload_n 0, 1) := dcq_175.2.2.2.2.2.2.2.2.2.2.2.2.1
theorem dX6_state_55 : decode cX6_state 55 = .ok (.iconst 5, 1) := dcq_175.2.2.2.2.2.2.2.2.2.2.2.2.2.1
theorem dX6_state_56 : decode cX6_state 56 = .ok (.invokevirtual 229, 3) := dcq_175.2.2.2.2.2.2.2.2.2.2.2.2.2.2.1
theorem dX6_state_59 : decode cX6_state 59 = .ok (.ireturn, 1) := dcq_175.2.2.2.2.2.2.2.2.2.2.2.2.2.2.2.1
theorem dX6_state_60 : decode cX6_state 60 = .ok (.aload_n 0, 1) := dcq_175.2.2.2.2.2.2.2.2.2.2.2.2.2.2.2.2.1
theorem dX6_state_61 : decode cX6_state 61 = .ok (.iconst 3, 1) := dcq_175.2.2.2.2.2.2.2.2.2.2.2.2.2.2.2.2.2.1
theorem dX6_state_62 : decode cX6_state 62 = .ok (.invokevirtual 229, 3) := dcq_175.2.2.2.2.2.2.2.2.2.2.2.2.2.2.2.2.2.2.1
theorem dX6_state_65 : decode cX6_state 65 = .ok (.ireturn, 1) := dcq_175.2.2.2.2.2.2.2.2.2.2.2.2.2.2.2.2.2.2.2.1
theorem dX6_state_66 : decode cX6_state 66 = .ok (.aload_n 0, 1) := dcq_175.2.2.2.2.2.2.2.2.2.2.2.2.2.2.2.2.2.2.2.2.1
theorem dX6_state_67 : decode cX6_state 67 = .ok (.iconst 1, 1) := dcq_175.2.2.2.2.2.2.2.2.2.2.2.2.2.2.2.2.2.2.2.2.2.1
theorem dX6_state_68 : decode cX6_state 68 = .ok (.invokevirtual 229, 3) := dcq_175.2.2.2.2.2.2.2.2.2.2.2.2.2.2.2.2.2.2.2.2.2.2.1
theorem dX6_state_71 : decode cX6_state 71 = .ok (.ireturn, 1) := dcq_175.2.2.2.2.2.2.2.2.2.2.2.2.2.2.2.2.2.2.2.2.2.2.2.1
theorem dX6_state_72 : decode cX6_state 72 = .ok (.aload_n 0, 1) := dcq_175.2.2.2.2.2.2.2.2.2.2.2.2.2.2.2.2.2.2.2.2.2.2.2.2.1
theorem dX6_state_73 : decode cX6_state 73 = .ok (.invokevirtual 242, 3) := dcq_175.2.2.2.2.2.2.2.2.2.2.2.2.2.2.2.2.2.2.2.2.2.2.2.2.2.1
theorem dX6_state_76 : decode cX6_state 76 = .ok (.ireturn, 1) := dcq_175.2.2.2.2.2.2.2.2.2.2.2.2.2.2.2.2.2.2.2.2.2.2.2.2.2.2.1
theorem dX6_state_77 : decode cX6_state 77 = .ok (.iconst (-1), 1) := dcq_175.2.2.2.2.2.2.2.2.2.2.2.2.2.2.2.2.2.2.2.2.2.2.2.2.2.2.2.1
theorem dX6_state_78 : decode cX6_state 78 = .ok (.ireturn, 1) := dcq_175.2.2.2.2.2.2.2.2.2.2.2.2.2.2.2.2.2.2.2.2.2.2.2.2.2.2.2.2.1
set_option maxRecDepth 100000 in
theorem dcb_176 : dcb cX6_wordsBehind [(0, (.iconst 0, 1)), (1, (.istore_n 2, 1)), (2, (.iconst 0, 1)), (3, (.istore_n 3, 1)), (4, (.iload_n 3, 1)), (5, (.iload_n 1, 1)), (6, (.if_icmp .ge 16, 3)), (9, (.iload_n 2, 1)), (10, (.aload_n 0, 1)), (11, (.invokevirtual 226, 3)), (14, (.iadd, 1)), (15, (.istore_n 2, 1)), (16, (.iinc 3 1, 3)), (19, (.goto (-15), 3)), (22, (.aload_n 0, 1)), (23, (.getfield 19, 3)), (26, (.aload_n 0, 1)), (27, (.getfield 7, 3)), (30, (.invokestatic 170, 3)), (33, (.iload_n 2, 1)), (34, (.ireturn, 1))] = true := by decide +kernel
set_option maxRecDepth 100000 in
theorem dcq_176 : (decode cX6_wordsBehind 0 = .ok (.iconst 0, 1)) ∧ (decode cX6_wordsBehind 1 = .ok (.istore_n 2, 1)) ∧ (decode cX6_wordsBehind 2 = .ok (.iconst 0, 1)) ∧ (decode cX6_wordsBehind 3 = .ok (.istore_n 3, 1)) ∧ (decode cX6_wordsBehind 4 = .ok (.iload_n 3, 1)) ∧ (decode cX6_wordsBehind 5 = .ok (.iload_n 1, 1)) ∧ (decode cX6_wordsBehind 6 = .ok (.if_icmp .ge 16, 3)) ∧ (decode cX6_wordsBehind 9 = .ok (.iload_n 2, 1)) ∧ (decode cX6_wordsBehind 10 = .ok (.aload_n 0, 1)) ∧ (decode cX6_wordsBehind 11 = .ok (.invokevirtual 226, 3)) ∧ (decode cX6_wordsBehind 14 = .ok (.iadd, 1)) ∧ (decode cX6_wordsBehind 15 = .ok (.istore_n 2, 1)) ∧ (decode cX6_wordsBehind 16 = .ok (.iinc 3 1, 3)) ∧ (decode cX6_wordsBehind 19 = .ok (.goto (-15), 3)) ∧ (decode cX6_wordsBehind 22 = .ok (.aload_n 0, 1)) ∧ (decode cX6_wordsBehind 23 = .ok (.getfield 19, 3)) ∧ (decode cX6_wordsBehind 26 = .ok (.aload_n 0, 1)) ∧ (decode cX6_wordsBehind 27 = .ok (.getfield 7, 3)) ∧ (decode cX6_wordsBehind 30 = .ok (.invokestatic 170, 3)) ∧ (decode cX6_wordsBehind 33 = .ok (.iload_n 2, 1)) ∧ (decode cX6_wordsBehind 34 = .ok (.ireturn, 1)) ∧ True := have h := dcA_of dcb_176; h
theorem dX6_wordsBehind_0 : decode cX6_wordsBehind 0 = .ok (.iconst 0, 1) := dcq_176.1
theorem dX6_wordsBehind_1 : decode cX6_wordsBehind 1 = .ok (.istore_n 2, 1) := dcq_176.2.1
theorem dX6_wordsBehind_2 : decode cX6_wordsBehind 2 = .ok (.iconst 0, 1) := dcq_176.2.2.1
theorem dX6_wordsBehind_3 : decode cX6_wordsBehind 3 = .ok (.istore_n 3, 1) := dcq_176.2.2.2.1
theorem dX6_wordsBehind_4 : decode cX6_wordsBehind 4 = .ok (.iload_n 3, 1) := dcq_176.2.2.2.2.1
theorem dX6_wordsBehind_5 : decode cX6_wordsBehind 5 = .ok (.iload_n 1, 1) := dcq_176.2.2.2.2.2.1
theorem dX6_wordsBehind_6 : decode cX6_wordsBehind 6 = .ok (.if_icmp .ge 16, 3) := dcq_176.2.2.2.2.2.2.1
theorem dX6_wordsBehind_9 : decode cX6_wordsBehind 9 = .ok (.iload_n 2, 1) := dcq_176.2.2.2.2.2.2.2.1
theorem dX6_wordsBehind_10 : decode cX6_wordsBehind 10 = .ok (.aload_n 0, 1) := dcq_176.2.2.2.2.2.2.2.2.1
theorem dX6_wordsBehind_11 : decode cX6_wordsBehind 11 = .ok (.invokevirtual 226, 3) := dcq_176.2.2.2.2.2.2.2.2.2.1
theorem dX6_wordsBehind_14 : decode cX6_wordsBehind 14 = .ok (.iadd, 1) := dcq_176.2.2.2.2.2.2.2.2.2.2.1
theorem dX6_wordsBehind_15 : decode cX6_wordsBehind 15 = .ok (.istore_n 2, 1) := dcq_176.2.2.2.2.2.2.2.2.2.2.2.1
theorem dX6_wordsBehind_16 : decode cX6_wordsBehind 16 = .ok (.iinc 3 1, 3) := dcq_176.2.2.2.2.2.2.2.2.2.2.2.2.1
theorem dX6_wordsBehind_19 : decode cX6_wordsBehind 19 = .ok (.goto (-15), 3) := dcq_176.2.2.2.2.2.2.2.2.2.2.2.2.2.1
theorem dX6_wordsBehind_22 : decode cX6_wordsBehind 22 = .ok (.aload_n 0, 1) := dcq_176.2.2.2.2.2.2.2.2.2.2.2.2.2.2.1
theorem dX6_wordsBehind_23 : decode cX6_wordsBehind 23 = .ok (.getfield 19, 3) := dcq_176.2.2.2.2.2.2.2.2.2.2.2.2.2.2.2.1
theorem dX6_wordsBehind_26 : decode cX6_wordsBehind 26 = .ok (.aload_n 0, 1) := dcq_176.2.2.2.2.2.2.2.2.2.2.2.2.2.2.2.2.1
theorem dX6_wordsBehind_27 : decode cX6_wordsBehind 27 = .ok (.getfield 7, 3) := dcq_176.2.2.2.2.2.2.2.2.2.2.2.2.2.2.2.2.2.1
theorem dX6_wordsBehind_30 : decode cX6_wordsBehind 30 = .ok (.invokestatic 170, 3) := dcq_176.2.2.2.2.2.2.2.2.2.2.2.2.2.2.2.2.2.2.1
theorem dX6_wordsBehind_33 : decode cX6_wordsBehind 33 = .ok (.iload_n 2, 1) := dcq_176.2.2.2.2.2.2.2.2.2.2.2.2.2.2.2.2.2.2.2.1
theorem dX6_wordsBehind_34 : decode cX6_wordsBehind 34 = .ok (.ireturn, 1) := dcq_176.2.2.2.2.2.2.2.2.2.2.2.2.2.2.2.2.2.2.2.2.1
set_option maxRecDepth 100000 in
theorem dcb_177 : dcb cX6_words [(0, (.iload_n 1, 1)), (1, (.iconst 0, 1)), (2, (.bipush 60, 2)), (4, (.invokestatic 60, 3)), (7, (.ifCond .ne 5, 3)), (10, (.iconst (-1), 1)), (11, (.ireturn, 1)), (12, (.aload_n 0, 1)), (13, (.getfield 7, 3)), (16, (.aload_n 0, 1)), (17, (.getfield 19, 3)), (20, (.invokestatic 170, 3)), (23, (.aload_n 0, 1)), (24, (.iload_n 1, 1)), (25, (.invokevirtual 239, 3)), (28, (.ireturn, 1))] = true := by decide +kernel
set_option maxRecDepth 100000 in
theorem dcq_177 : (decode cX6_words 0 = .ok (.iload_n 1, 1)) ∧ (decode cX6_words 1 = .ok (.iconst 0, 1)) ∧ (decode cX6_words 2 = .ok (.bipush 60, 2)) ∧ (decode cX6_words 4 = .ok (.invokestatic 60, 3)) ∧ (decode cX6_words 7 = .ok (.ifCond .ne 5, 3)) ∧ (decode cX6_words 10 = .ok (.iconst (-1), 1)) ∧ (decode cX6_words 11 = .ok (.ireturn, 1)) ∧ (decode cX6_words 12 = .ok (.aload_n 0, 1)) ∧ (decode cX6_words 13 = .ok (.getfield 7, 3)) ∧ (decode cX6_words 16 = .ok (.aload_n 0, 1)) ∧ (decode cX6_words 17 = .ok (.getfield 19, 3)) ∧ (decode cX6_words 20 = .ok (.invokestatic 170, 3)) ∧ (decode cX6_words 23 = .ok (.aload_n 0, 1)) ∧ (decode cX6_words 24 = .ok (.iload_n 1, 1)) ∧ (decode cX6_words 25 = .ok (.invokevirtual 239, 3)) ∧ (decode cX6_words 28 = .ok (.ireturn, 1)) ∧ True := have h := dcA_of dcb_177; h
theorem dX6_words_0 : decode cX6_words 0 = .ok (.iload_n 1, 1) := dcq_177.1
theorem dX6_words_1 : decode cX6_words 1 = .ok (.iconst 0, 1) := dcq_177.2.1
theorem dX6_words_2 : decode cX6_words 2 = .ok (.bipush 60, 2) := dcq_177.2.2.1
theorem dX6_words_4 : decode cX6_words 4 = .ok (.invokestatic 60, 3) := dcq_177.2.2.2.1
theorem dX6_words_7 : decode cX6_words 7 = .ok (.ifCond .ne 5, 3) := dcq_177.2.2.2.2.1
theorem dX6_words_10 : decode cX6_words 10 = .ok (.iconst (-1), 1) := dcq_177.2.2.2.2.2.1
theorem dX6_words_11 : decode cX6_words 11 = .ok (.ireturn, 1) := dcq_177.2.2.2.2.2.2.1
theorem dX6_words_12 : decode cX6_words 12 = .ok (.aload_n 0, 1) := dcq_177.2.2.2.2.2.2.2.1
theorem dX6_words_13 : decode cX6_words 13 = .ok (.getfield 7, 3) := dcq_177.2.2.2.2.2.2.2.2.1
theorem dX6_words_16 : decode cX6_words 16 = .ok (.aload_n 0, 1) := dcq_177.2.2.2.2.2.2.2.2.2.1
theorem dX6_words_17 : decode cX6_words 17 = .ok (.getfield 19, 3) := dcq_177.2.2.2.2.2.2.2.2.2.2.1
theorem dX6_words_20 : decode cX6_words 20 = .ok (.invokestatic 170, 3) := dcq_177.2.2.2.2.2.2.2.2.2.2.2.1
theorem dX6_words_23 : decode cX6_words 23 = .ok (.aload_n 0, 1) := dcq_177.2.2.2.2.2.2.2.2.2.2.2.2.1
theorem dX6_words_24 : decode cX6_words 24 = .ok (.iload_n 1, 1) := dcq_177.2.2.2.2.2.2.2.2.2.2.2.2.2.1
theorem dX6_words_25 : decode cX6_words 25 = .ok (.invokevirtual 239, 3) := dcq_177.2.2.2.2.2.2.2.2.2.2.2.2.2.2.1
theorem dX6_words_28 : decode cX6_words 28 = .ok (.ireturn, 1) := dcq_177.2.2.2.2.2.2.2.2.2.2.2.2.2.2.2.1
set_option maxRecDepth 100000 in
theorem dcb_178 : dcb cX6_gets [(0, (.aload_n 0, 1)), (1, (.iload_n 1, 1)), (2, (.invokevirtual 188, 3)), (5, (.ifCond .ne 5, 3)), (8, (.iconst (-1), 1)), (9, (.ireturn, 1)), (10, (.aload_n 0, 1)), (11, (.getfield 7, 3)), (14, (.aload_n 0, 1)), (15, (.getfield 19, 3)), (18, (.invokestatic 170, 3)), (21, (.aload_n 0, 1)), (22, (.iload_n 1, 1)), (23, (.iconst 4, 1)), (24, (.invokevirtual 191, 3)), (27, (.istore_n 2, 1)), (28, (.iconst 0, 1)), (29, (.istore_n 3, 1)), (30, (.iload_n 3, 1)), (31, (.bipush 60, 2)), (33, (.if_icmp .gt 24, 3)), (36, (.aload_n 0, 1)), (37, (.iload_n 1, 1)), (38, (.iconst 4, 1)), (39, (.invokevirtual 191, 3)), (42, (.iload_n 2, 1)), (43, (.if_icmp .ne 14, 3)), (46, (.aload_n 0, 1)), (47, (.invokevirtual 226, 3)), (50, (.pop, 1)), (51, (.iinc 3 1, 3)), (54, (.goto (-24), 3)), (57, (.aload_n 0, 1)), (58, (.getfield 19, 3)), (61, (.aload_n 0, 1)), (62, (.getfield 7, 3)), (65, (.invokestatic 170, 3)), (68, (.iload_n 3, 1)), (69, (.bipush 60, 2)), (71, (.if_icmp .le 8, 3)), (74, (.bipush (-3), 2)), (76, (.goto 4, 3)), (79, (.iload_n 3, 1)), (80, (.ireturn, 1))] = true := by decide +kernel
set_option maxRecDepth 100000 in
theorem dcq_178 : (decode cX6_gets 0 = .ok (.aload_n 0, 1)) ∧ (decode cX6_gets 1 = .ok (.iload_n 1, 1)) ∧ (decode cX6_gets 2 = .ok (.invokevirtual 188, 3)) ∧ (decode cX6_gets 5 = .ok (.ifCond .ne 5, 3)) ∧ (decode cX6_gets 8 = .ok (.iconst (-1), 1)) ∧ (decode cX6_gets 9 = .ok (.ireturn, 1)) ∧ (decode cX6_gets 10 = .ok (.aload_n 0, 1)) ∧ (decode cX6_gets 11 = .ok (.getfield 7, 3)) ∧ (decode cX6_gets 14 = .ok (.aload_n 0, 1)) ∧ (decode cX6_gets 15 = .ok (.getfield 19, 3)) ∧ (decode cX6_gets 18 = .ok (.invokestatic 170, 3)) ∧ (decode cX6_gets 21 = .ok (.aload_n 0, 1)) ∧ (decode cX6_gets 22 = .ok (.iload_n 1, 1)) ∧ (decode cX6_gets 23 = .ok (.iconst 4, 1)) ∧ (decode cX6_gets 24 = .ok (.invokevirtual 191, 3)) ∧ (decode cX6_gets 27 = .ok (.istore_n 2, 1)) ∧ (decode cX6_gets 28 = .ok (.iconst 0, 1)) ∧ (decode cX6_gets 29 = .ok (.istore_n 3, 1)) ∧ (decode cX6_gets 30 = .ok (.iload_n 3, 1)) ∧ (decode cX6_gets 31 = .ok (.bipush 60, 2)) ∧ (decode cX6_gets 33 = .ok (.if_icmp .gt 24, 3)) ∧ (decode cX6_gets 36 = .ok (.aload_n 0, 1)) ∧ (decode cX6_gets 37 = .ok (.iload_n 1, 1)) ∧ (decode cX6_gets 38 = .ok (.iconst 4, 1)) ∧ (decode cX6_gets 39 = .ok (.invokevirtual 191, 3)) ∧ (decode cX6_gets 42 = .ok (.iload_n 2, 1)) ∧ (decode cX6_gets 43 = .ok (.if_icmp .ne 14, 3)) ∧ (decode cX6_gets 46 = .ok (.aload_n 0, 1)) ∧ (decode cX6_gets 47 = .ok (.invokevirtual 226, 3)) ∧ (decode cX6_gets 50 = .ok (.pop, 1)) ∧ (decode cX6_gets 51 = .ok (.iinc 3 1, 3)) ∧ (decode cX6_gets 54 = .ok (.goto (-24), 3)) ∧ (decode cX6_gets 57 = .ok (.aload_n 0, 1)) ∧ (decode cX6_gets 58 = .ok (.getfield 19, 3)) ∧ (decode cX6_gets 61 = .ok (.aload_n 0, 1)) ∧ (decode cX6_gets 62 = .ok (.getfield 7, 3)) ∧ (decode cX6_gets 65 = .ok (.invokestatic 170, 3)) ∧ (decode cX6_gets 68 = .ok (.iload_n 3, 1)) ∧ (decode cX6_gets 69 = .ok (.bipush 60, 2)) ∧ (decode cX6_gets 71 = .ok (.if_icmp .le 8, 3)) ∧ (decode cX6_gets 74 = .ok (.bipush (-3), 2)) ∧ (decode cX6_gets 76 = .ok (.goto 4, 3)) ∧ (decode cX6_gets 79 = .ok (.iload_n 3, 1)) ∧ (decode cX6_gets 80 = .ok (.ireturn, 1)) ∧ True := have h := dcA_of dcb_178; h
theorem dX6_gets_0 : decode cX6_gets 0 = .ok (.aload_n 0, 1) := dcq_178.1
theorem dX6_gets_1 : decode cX6_gets 1 = .ok (.iload_n 1, 1) := dcq_178.2.1
theorem dX6_gets_2 : decode cX6_gets 2 = .ok (.invokevirtual 188, 3) := dcq_178.2.2.1
theorem dX6_gets_5 : decode cX6_gets 5 = .ok (.ifCond .ne 5, 3) := dcq_178.2.2.2.1
theorem dX6_gets_8 : decode cX6_gets 8 = .ok (.iconst (-1), 1) := dcq_178.2.2.2.2.1
theorem dX6_gets_9 : decode cX6_gets 9 = .ok (.ireturn, 1) := dcq_178.2.2.2.2.2.1
theorem dX6_gets_10 : decode cX6_gets 10 = .ok (.aload_n 0, 1) := dcq_178.2.2.2.2.2.2.1
theorem dX6_gets_11 : decode cX6_gets 11 = .ok (.getfield 7, 3) := dcq_178.2.2.2.2.2.2.2.1
theorem dX6_gets_14 : decode cX6_gets 14 = .ok (.aload_n 0, 1) := dcq_178.2.2.2.2.2.2.2.2.1
theorem dX6_gets_15 : decode cX6_gets 15 = .ok (.getfield 19, 3) := dcq_178.2.2.2.2.2.2.2.2.2.1
theorem dX6_gets_18 : decode cX6_gets 18 = .ok (.invokestatic 170, 3) := dcq_178.2.2.2.2.2.2.2.2.2.2.1
theorem dX6_gets_21 : decode cX6_gets 21 = .ok (.aload_n 0, 1) := dcq_178.2.2.2.2.2.2.2.2.2.2.2.1
theorem dX6_gets_22 : decode cX6_gets 22 = .ok (.iload_n 1, 1) := dcq_178.2.2.2.2.2.2.2.2.2.2.2.2.1
theorem dX6_gets_23 : decode cX6_gets 23 = .ok (.iconst 4, 1) := dcq_178.2.2.2.2.2.2.2.2.2.2.2.2.2.1
theorem dX6_gets_24 : decode cX6_gets 24 = .ok (.invokevirtual 191, 3) := dcq_178.2.2.2.2.2.2.2.2.2.2.2.2.2.2.1
theorem dX6_gets_27 : decode cX6_gets 27 = .ok (.istore_n 2, 1) := dcq_178.2.2.2.2.2.2.2.2.2.2.2.2.2.2.2.1
theorem dX6_gets_28 : decode cX6_gets 28 = .ok (.iconst 0, 1) := dcq_178.2.2.2.2.2.2.2.2.2.2.2.2.2.2.2.2.1
theorem dX6_gets_29 : decode cX6_gets 29 = .ok (.istore_n 3, 1) := dcq_178.2.2.2.2.2.2.2.2.2.2.2.2.2.2.2.2.2.1
theorem dX6_gets_30 : decode cX6_gets 30 = .ok (.iload_n 3, 1) := dcq_178.2.2.2.2.2.2.2.2.2.2.2.2.2.2.2.2.2.2.1
theorem dX6_gets_31 : decode cX6_gets 31 = .ok (.bipush 60, 2) := dcq_178.2.2.2.2.2.2.2.2.2.2.2.2.2.2.2.2.2.2.2.1
theorem dX6_gets_33 : decode cX6_gets 33 = .ok (.if_icmp .gt 24, 3) := dcq_178.2.2.2.2.2.2.2.2.2.2.2.2.2.2.2.2.2.2.2.2.1
theorem dX6_gets_36 : decode cX6_gets 36 = .ok (.aload_n 0, 1) := dcq_178.2.2.2.2.2.2.2.2.2.2.2.2.2.2.2.2.2.2.2.2.2.1
theorem dX6_gets_37 : decode cX6_gets 37 = .ok (.iload_n 1, 1) := dcq_178.2.2.2.2.2.2.2.2.2.2.2.2.2.2.2.2.2.2.2.2.2.2.1
theorem dX6_gets_38 : decode cX6_gets 38 = .ok (.iconst 4, 1) := dcq_178.2.2.2.2.2.2.2.2.2.2.2.2.2.2.2.2.2.2.2.2.2.2.2.1
theorem dX6_gets_39 : decode cX6_gets 39 = .ok (.invokevirtual 191, 3) := dcq_178.2.2.2.2.2.2.2.2.2.2.2.2.2.2.2.2.2.2.2.2.2.2.2.2.1
theorem dX6_gets_42 : decode cX6_gets 42 = .ok (.iload_n 2, 1) := dcq_178.2.2.2.2.2.2.2.2.2.2.2.2.2.2.2.2.2.2.2.2.2.2.2.2.2.1
theorem dX6_gets_43 : decode cX6_gets 43 = .ok (.if_icmp .ne 14, 3) := dcq_178.2.2.2.2.2.2.2.2.2.2.2.2.2.2.2.2.2.2.2.2.2.2.2.2.2.2.1
theorem dX6_gets_46 : decode cX6_gets 46 = .ok (.aload_n 0, 1) := dcq_178.2.2.2.2.2.2.2.2.2.2.2.2.2.2.2.2.2.2.2.2.2.2.2.2.2.2.2.1
theorem dX6_gets_47 : decode cX6_gets 47 = .ok (.invokevirtual 226, 3) := dcq_178.2.2.2.2.2.2.2.2.2.2.2.2.2.2.2.2.2.2.2.2.2.2.2.2.2.2.2.2.1
theorem dX6_gets_50 : decode cX6_gets 50 = .ok (.pop, 1) := dcq_178.2.2.2.2.2.2.2.2.2.2.2.2.2.2.2.2.2.2.2.2.2.2.2.2.2.2.2.2.2.1
theorem dX6_gets_51 : decode cX6_gets 51 = .ok (.iinc 3 1, 3) := dcq_178.2.2.2.2.2.2.2.2.2.2.2.2.2.2.2.2.2.2.2.2.2.2.2.2.2.2.2.2.2.2.1
theorem dX6_gets_54 : decode cX6_gets 54 = .ok (.goto (-24), 3) := dcq_178.2.2.2.2.2.2.2.2.2.2.2.2.2.2.2.2.2.2.2.2.2.2.2.2.2.2.2.2.2.2.2.1
theorem dX6_gets_57 : decode cX6_gets 57 = .ok (.aload_n 0, 1) := dcq_178.2.2.2.2.2.2.2.2.2.2.2.2.2.2.2.2.2.2.2.2.2.2.2.2.2.2.2.2.2.2.2.2.1
theorem dX6_gets_58 : decode cX6_gets 58 = .ok (.getfield 19, 3) := dcq_178.2.2.2.2.2.2.2.2.2.2.2.2.2.2.2.2.2.2.2.2.2.2.2.2.2.2.2.2.2.2.2.2.2.1
theorem dX6_gets_61 : decode cX6_gets 61 = .ok (.aload_n 0, 1) := dcq_178.2.2.2.2.2.2.2.2.2.2.2.2.2.2.2.2.2.2.2.2.2.2.2.2.2.2.2.2.2.2.2.2.2.2.1
theorem dX6_gets_62 : decode cX6_gets 62 = .ok (.getfield 7, 3) := dcq_178.2.2.2.2.2.2.2.2.2.2.2.2.2.2.2.2.2.2.2.2.2.2.2.2.2.2.2.2.2.2.2.2.2.2.2.1
theorem dX6_gets_65 : decode cX6_gets 65 = .ok (.invokestatic 170, 3) := dcq_178.2.2.2.2.2.2.2.2.2.2.2.2.2.2.2.2.2.2.2.2.2.2.2.2.2.2.2.2.2.2.2.2.2.2.2.2.1
theorem dX6_gets_68 : decode cX6_gets 68 = .ok (.iload_n 3, 1) := dcq_178.2.2.2.2.2.2.2.2.2.2.2.2.2.2.2.2.2.2.2.2.2.2.2.2.2.2.2.2.2.2.2.2.2.2.2.2.2.1
theorem dX6_gets_69 : decode cX6_gets 69 = .ok (.bipush 60, 2) := dcq_178.2.2.2.2.2.2.2.2.2.2.2.2.2.2.2.2.2.2.2.2.2.2.2.2.2.2.2.2.2.2.2.2.2.2.2.2.2.2.1
theorem dX6_gets_71 : decode cX6_gets 71 = .ok (.if_icmp .le 8, 3) := dcq_178.2.2.2.2.2.2.2.2.2.2.2.2.2.2.2.2.2.2.2.2.2.2.2.2.2.2.2.2.2.2.2.2.2.2.2.2.2.2.2.1
theorem dX6_gets_74 : decode cX6_gets 74 = .ok (.bipush (-3), 2) := dcq_178.2.2.2.2.2.2.2.2.2.2.2.2.2.2.2.2.2.2.2.2.2.2.2.2.2.2.2.2.2.2.2.2.2.2.2.2.2.2.2.2.1
theorem dX6_gets_76 : decode cX6_gets 76 = .ok (.goto 4, 3) := dcq_178.2.2.2.2.2.2.2.2.2.2.2.2.2.2.2.2.2.2.2.2.2.2.2.2.2.2.2.2.2.2.2.2.2.2.2.2.2.2.2.2.2.1
theorem dX6_gets_79 : decode cX6_gets 79 = .ok (.iload_n 3, 1) := dcq_178.2.2.2.2.2.2.2.2.2.2.2.2.2.2.2.2.2.2.2.2.2.2.2.2.2.2.2.2.2.2.2.2.2.2.2.2.2.2.2.2.2.2.1
theorem dX6_gets_80 : decode cX6_gets 80 = .ok (.ireturn, 1) := dcq_178.2.2.2.2.2.2.2.2.2.2.2.2.2.2.2.2.2.2.2.2.2.2.2.2.2.2.2.2.2.2.2.2.2.2.2.2.2.2.2.2.2.2.2.1
set_option maxRecDepth 100000 in
theorem dcb_179 : dcb cX6_idle [(0, (.aload_n 0, 1)), (1, (.getfield 7, 3)), (4, (.aload_n 0, 1)), (5, (.getfield 19, 3)), (8, (.invokestatic 170, 3)), (11, (.iconst 0, 1)), (12, (.istore_n 1, 1)), (13, (.iload_n 1, 1)), (14, (.bipush 60, 2)), (16, (.if_icmp .gt 22, 3)), (19, (.aload_n 0, 1)), (20, (.iconst 3, 1)), (21, (.invokevirtual 229, 3)), (24, (.ifCond .le 14, 3)), (27, (.aload_n 0, 1)), (28, (.invokevirtual 226, 3)), (31, (.pop, 1)), (32, (.iinc 1 1, 3)), (35, (.goto (-22), 3)), (38, (.aload_n 0, 1)), (39, (.getfield 19, 3)), (42, (.aload_n 0, 1)), (43, (.getfield 7, 3)), (46, (.invokestatic 170, 3)), (49, (.iload_n 1, 1)), (50, (.bipush 60, 2)), (52, (.if_icmp .le 8, 3)), (55, (.bipush (-3), 2)), (57, (.goto 4, 3)), (60, (.iload_n 1, 1)), (61, (.ireturn, 1))] = true := by decide +kernel
set_option maxRecDepth 100000 in
theorem dcq_179 : (decode cX6_idle 0 = .ok (.aload_n 0, 1)) ∧ (decode cX6_idle 1 = .ok (.getfield 7, 3)) ∧ (decode cX6_idle 4 = .ok (.aload_n 0, 1)) ∧ (decode cX6_idle 5 = .ok (.getfield 19, 3)) ∧ (decode cX6_idle 8 = .ok (.invokestatic 170, 3)) ∧ (decode cX6_idle 11 = .ok (.iconst 0, 1)) ∧ (decode cX6_idle 12 = .ok (.istore_n 1, 1)) ∧ (decode cX6_idle 13 = .ok (.iload_n 1, 1)) ∧ (decode cX6_idle 14 = .ok (.bipush 60, 2)) ∧ (decode cX6_idle 16 = .ok (.if_icmp .gt 22, 3)) ∧ (decode cX6_idle 19 = .ok (.aload_n 0, 1)) ∧ (decode cX6_idle 20 = .ok (.iconst 3, 1)) ∧ (decode cX6_idle 21 = .ok (.invokevirtual 229, 3)) ∧ (decode cX6_idle 24 = .ok (.ifCond .le 14, 3)) ∧ (decode cX6_idle 27 = .ok (.aload_n 0, 1)) ∧ (decode cX6_idle 28 = .ok (.invokevirtual 226, 3)) ∧ (decode cX6_idle 31 = .ok (.pop, 1)) ∧ (decode cX6_idle 32 = .ok (.iinc 1 1, 3)) ∧ (decode cX6_idle 35 = .ok (.goto (-22), 3)) ∧ (decode cX6_idle 38 = .ok (.aload_n 0, 1)) ∧ (decode cX6_idle 39 = .ok (.getfield 19, 3)) ∧ (decode cX6_idle 42 = .ok (.aload_n 0, 1)) ∧ (decode cX6_idle 43 = .ok (.getfield 7, 3)) ∧ (decode cX6_idle 46 = .ok (.invokestatic 170, 3)) ∧ (decode cX6_idle 49 = .ok (.iload_n 1, 1)) ∧ (decode cX6_idle 50 = .ok (.bipush 60, 2)) ∧ (decode cX6_idle 52 = .ok (.if_icmp .le 8, 3)) ∧ (decode cX6_idle 55 = .ok (.bipush (-3), 2)) ∧ (decode cX6_idle 57 = .ok (.goto 4, 3)) ∧ (decode cX6_idle 60 = .ok (.iload_n 1, 1)) ∧ (decode cX6_idle 61 = .ok (.ireturn, 1)) ∧ True := have h := dcA_of dcb_179; h
theorem dX6_idle_0 : decode cX6_idle 0 = .ok (.aload_n 0, 1) := dcq_179.1
theorem dX6_idle_1 : decode cX6_idle 1 = .ok (.getfield 7, 3) := dcq_179.2.1
theorem dX6_idle_4 : decode cX6_idle 4 = .ok (.aload_n 0, 1) := dcq_179.2.2.1
theorem dX6_idle_5 : decode cX6_idle 5 = .ok (.getfield 19, 3) := dcq_179.2.2.2.1
theorem dX6_idle_8 : decode cX6_idle 8 = .ok (.invokestatic 170, 3) := dcq_179.2.2.2.2.1
theorem dX6_idle_11 : decode cX6_idle 11 = .ok (.iconst 0, 1) := dcq_179.2.2.2.2.2.1
theorem dX6_idle_12 : decode cX6_idle 12 = .ok (.istore_n 1, 1) := dcq_179.2.2.2.2.2.2.1
theorem dX6_idle_13 : decode cX6_idle 13 = .ok (.iload_n 1, 1) := dcq_179.2.2.2.2.2.2.2.1
theorem dX6_idle_14 : decode cX6_idle 14 = .ok (.bipush 60, 2) := dcq_179.2.2.2.2.2.2.2.2.1
theorem dX6_idle_16 : decode cX6_idle 16 = .ok (.if_icmp .gt 22, 3) := dcq_179.2.2.2.2.2.2.2.2.2.1
theorem dX6_idle_19 : decode cX6_idle 19 = .ok (.aload_n 0, 1) := dcq_179.2.2.2.2.2.2.2.2.2.2.1
theorem dX6_idle_20 : decode cX6_idle 20 = .ok (.iconst 3, 1) := dcq_179.2.2.2.2.2.2.2.2.2.2.2.1
theorem dX6_idle_21 : decode cX6_idle 21 = .ok (.invokevirtual 229, 3) := dcq_179.2.2.2.2.2.2.2.2.2.2.2.2.1
theorem dX6_idle_24 : decode cX6_idle 24 = .ok (.ifCond .le 14, 3) := dcq_179.2.2.2.2.2.2.2.2.2.2.2.2.2.1
theorem dX6_idle_27 : decode cX6_idle 27 = .ok (.aload_n 0, 1) := dcq_179.2.2.2.2.2.2.2.2.2.2.2.2.2.2.1
theorem dX6_idle_28 : decode cX6_idle 28 = .ok (.invokevirtual 226, 3) := dcq_179.2.2.2.2.2.2.2.2.2.2.2.2.2.2.2.1
theorem dX6_idle_31 : decode cX6_idle 31 = .ok (.pop, 1) := dcq_179.2.2.2.2.2.2.2.2.2.2.2.2.2.2.2.2.1
theorem dX6_idle_32 : decode cX6_idle 32 = .ok (.iinc 1 1, 3) := dcq_179.2.2.2.2.2.2.2.2.2.2.2.2.2.2.2.2.2.1
theorem dX6_idle_35 : decode cX6_idle 35 = .ok (.goto (-22), 3) := dcq_179.2.2.2.2.2.2.2.2.2.2.2.2.2.2.2.2.2.2.1
theorem dX6_idle_38 : decode cX6_idle 38 = .ok (.aload_n 0, 1) := dcq_179.2.2.2.2.2.2.2.2.2.2.2.2.2.2.2.2.2.2.2.1
theorem dX6_idle_39 : decode cX6_idle 39 = .ok (.getfield 19, 3) := dcq_179.2.2.2.2.2.2.2.2.2.2.2.2.2.2.2.2.2.2.2.2.1
theorem dX6_idle_42 : decode cX6_idle 42 = .ok (.aload_n 0, 1) := dcq_179.2.2.2.2.2.2.2.2.2.2.2.2.2.2.2.2.2.2.2.2.2.1
theorem dX6_idle_43 : decode cX6_idle 43 = .ok (.getfield 7, 3) := dcq_179.2.2.2.2.2.2.2.2.2.2.2.2.2.2.2.2.2.2.2.2.2.2.1
theorem dX6_idle_46 : decode cX6_idle 46 = .ok (.invokestatic 170, 3) := dcq_179.2.2.2.2.2.2.2.2.2.2.2.2.2.2.2.2.2.2.2.2.2.2.2.1
theorem dX6_idle_49 : decode cX6_idle 49 = .ok (.iload_n 1, 1) := dcq_179.2.2.2.2.2.2.2.2.2.2.2.2.2.2.2.2.2.2.2.2.2.2.2.2.1
theorem dX6_idle_50 : decode cX6_idle 50 = .ok (.bipush 60, 2) := dcq_179.2.2.2.2.2.2.2.2.2.2.2.2.2.2.2.2.2.2.2.2.2.2.2.2.2.1
theorem dX6_idle_52 : decode cX6_idle 52 = .ok (.if_icmp .le 8, 3) := dcq_179.2.2.2.2.2.2.2.2.2.2.2.2.2.2.2.2.2.2.2.2.2.2.2.2.2.2.1
theorem dX6_idle_55 : decode cX6_idle 55 = .ok (.bipush (-3), 2) := dcq_179.2.2.2.2.2.2.2.2.2.2.2.2.2.2.2.2.2.2.2.2.2.2.2.2.2.2.2.1
theorem dX6_idle_57 : decode cX6_idle 57 = .ok (.goto 4, 3) := dcq_179.2.2.2.2.2.2.2.2.2.2.2.2.2.2.2.2.2.2.2.2.2.2.2.2.2.2.2.2.1
theorem dX6_idle_60 : decode cX6_idle 60 = .ok (.iload_n 1, 1) := dcq_179.2.2.2.2.2.2.2.2.2.2.2.2.2.2.2.2.2.2.2.2.2.2.2.2.2.2.2.2.2.1
theorem dX6_idle_61 : decode cX6_idle 61 = .ok (.ireturn, 1) := dcq_179.2.2.2.2.2.2.2.2.2.2.2.2.2.2.2.2.2.2.2.2.2.2.2.2.2.2.2.2.2.2.1
set_option maxRecDepth 100000 in
theorem dcb_180 : dcb cX6_vanFor [(0, (.iload_n 1, 1)), (1, (.iconst 1, 1)), (2, (.bipush 20, 2)), (4, (.invokestatic 60, 3)), (7, (.ifCond .eq 14, 3)), (10, (.iload_n 2, 1)), (11, (.iconst 0, 1)), (12, (.sipush 9999, 3)), (15, (.invokestatic 60, 3)), (18, (.ifCond .ne 5, 3)), (21, (.iconst (-1), 1)), (22, (.ireturn, 1)), (23, (.aload_n 0, 1)), (24, (.getfield 7, 3)), (27, (.aload_n 0, 1)), (28, (.getfield 19, 3)), (31, (.invokestatic 170, 3)), (34, (.iconst (-1), 1)), (35, (.istore_n 3, 1)), (36, (.iconst 0, 1)), (37, (.istore 4, 2)), (39, (.iload_n 3, 1)), (40, (.bipush 9, 2)), (42, (.if_icmp .ge 37, 3)), (45, (.iload 4, 2)), (47, (.ifCond .ne 32, 3)), (50, (.iinc 3 1, 3)), (53, (.aload_n 0, 1)), (54, (.getfield 7, 3)), (57, (.iconst 0, 1)), (58, (.iload_n 3, 1)), (59, (.iastore, 1)), (60, (.aload_n 0, 1)), (61, (.iload_n 1, 1)), (62, (.invokevirtual 239, 3)), (65, (.iload_n 2, 1)), (66, (.if_icmp .lt 7, 3)), (69, (.iconst 1, 1)), (70, (.goto 4, 3)), (73, (.iconst 0, 1)), (74, (.istore 4, 2)), (76, (.goto (-37), 3)), (79, (.iload 4, 2)), (81, (.ifCond .eq 7, 3)), (84, (.iload_n 3, 1)), (85, (.goto 5, 3)), (88, (.bipush (-3), 2)), (90, (.ireturn, 1))] = true := by decide +kernel
set_option maxRecDepth 100000 in
theorem dcq_180 : (decode cX6_vanFor 0 = .ok (.iload_n 1, 1)) ∧ (decode cX6_vanFor 1 = .ok (.iconst 1, 1)) ∧ (decode cX6_vanFor 2 = .ok (.bipush 20, 2)) ∧ (decode cX6_vanFor 4 = .ok (.invokestatic 60, 3)) ∧ (decode cX6_vanFor 7 = .ok (.ifCond .eq 14, 3)) ∧ (decode cX6_vanFor 10 = .ok (.iload_n 2, 1)) ∧ (decode cX6_vanFor 11 = .ok (.iconst 0, 1)) ∧ (decode cX6_vanFor 12 = .ok (.sipush 9999, 3)) ∧ (decode cX6_vanFor 15 = .ok (.invokestatic 60, 3)) ∧ (decode cX6_vanFor 18 = .ok (.ifCond .ne 5, 3)) ∧ (decode cX6_vanFor 21 = .ok (.iconst (-1), 1)) ∧ (decode cX6_vanFor 22 = .ok (.ireturn, 1)) ∧ (decode cX6_vanFor 23 = .ok (.aload_n 0, 1)) ∧ (decode cX6_vanFor 24 = .ok (.getfield 7, 3)) ∧ (decode cX6_vanFor 27 = .ok (.aload_n 0, 1)) ∧ (decode cX6_vanFor 28 = .ok (.getfield 19, 3)) ∧ (decode cX6_vanFor 31 = .ok (.invokestatic 170, 3)) ∧ (decode cX6_vanFor 34 = .ok (.iconst (-1), 1)) ∧ (decode cX6_vanFor 35 = .ok (.istore_n 3, 1)) ∧ (decode cX6_vanFor 36 = .ok (.iconst 0, 1)) ∧ (decode cX6_vanFor 37 = .ok (.istore 4, 2)) ∧ (decode cX6_vanFor 39 = .ok (.iload_n 3, 1)) ∧ (decode cX6_vanFor 40 = .ok (.bipush 9, 2)) ∧ (decode cX6_vanFor 42 = .ok (.if_icmp .ge 37, 3)) ∧ (decode cX6_vanFor 45 = .ok (.iload 4, 2)) ∧ (decode cX6_vanFor 47 = .ok (.ifCond .ne 32, 3)) ∧ (decode cX6_vanFor 50 = .ok (.iinc 3 1, 3)) ∧ (decode cX6_vanFor 53 = .ok (.aload_n 0, 1)) ∧ (decode cX6_vanFor 54 = .ok (.getfield 7, 3)) ∧ (decode cX6_vanFor 57 = .ok (.iconst 0, 1)) ∧ (decode cX6_vanFor 58 = .ok (.iload_n 3, 1)) ∧ (decode cX6_vanFor 59 = .ok (.iastore, 1)) ∧ (decode cX6_vanFor 60 = .ok (.aload_n 0, 1)) ∧ (decode cX6_vanFor 61 = .ok (.iload_n 1, 1)) ∧ (decode cX6_vanFor 62 = .ok (.invokevirtual 239, 3)) ∧ (decode cX6_vanFor 65 = .ok (.iload_n 2, 1)) ∧ (decode cX6_vanFor 66 = .ok (.if_icmp .lt 7, 3)) ∧ (decode cX6_vanFor 69 = .ok (.iconst 1, 1)) ∧ (decode cX6_vanFor 70 = .ok (.goto 4, 3)) ∧ (decode cX6_vanFor 73 = .ok (.iconst 0, 1)) ∧ (decode cX6_vanFor 74 = .ok (.istore 4, 2)) ∧ (decode cX6_vanFor 76 = .ok (.goto (-37), 3)) ∧ (decode cX6_vanFor 79 = .ok (.iload 4, 2)) ∧ (decode cX6_vanFor 81 = .ok (.ifCond .eq 7, 3)) ∧ (decode cX6_vanFor 84 = .ok (.iload_n 3, 1)) ∧ (decode cX6_vanFor 85 = .ok (.goto 5, 3)) ∧ (decode cX6_vanFor 88 = .ok (.bipush (-3), 2)) ∧ (decode cX6_vanFor 90 = .ok (.ireturn, 1)) ∧ True := have h := dcA_of dcb_180; h
theorem dX6_vanFor_0 : decode cX6_vanFor 0 = .ok (.iload_n 1, 1) := dcq_180.1
theorem dX6_vanFor_1 : decode cX6_vanFor 1 = .ok (.iconst 1, 1) := dcq_180.2.1
theorem dX6_vanFor_2 : decode cX6_vanFor 2 = .ok (.bipush 20, 2) := dcq_180.2.2.1
theorem dX6_vanFor_4 : decode cX6_vanFor 4 = .ok (.invokestatic 60, 3) := dcq_180.2.2.2.1
theorem dX6_vanFor_7 : decode cX6_vanFor 7 = .ok (.ifCond .eq 14, 3) := dcq_180.2.2.2.2.1
theorem dX6_vanFor_10 : decode cX6_vanFor 10 = .ok (.iload_n 2, 1) := dcq_180.2.2.2.2.2.1
theorem dX6_vanFor_11 : decode cX6_vanFor 11 = .ok (.iconst 0, 1) := dcq_180.2.2.2.2.2.2.1
theorem dX6_vanFor_12 : decode cX6_vanFor 12 = .ok (.sipush 9999, 3) := dcq_180.2.2.2.2.2.2.2.1
theorem dX6_vanFor_15 : decode cX6_vanFor 15 = .ok (.invokestatic 60, 3) := dcq_180.2.2.2.2.2.2.2.2.1
theorem dX6_vanFor_18 : decode cX6_vanFor 18 = .ok (.ifCond .ne 5, 3) := dcq_180.2.2.2.2.2.2.2.2.2.1
theorem dX6_vanFor_21 : decode cX6_vanFor 21 = .ok (.iconst (-1), 1) := dcq_180.2.2.2.2.2.2.2.2.2.2.1
theorem dX6_vanFor_22 : decode cX6_vanFor 22 = .ok (.ireturn, 1) := dcq_180.2.2.2.2.2.2.2.2.2.2.2.1
theorem dX6_vanFor_23 : decode cX6_vanFor 23 = .ok (.aload_n 0, 1) := dcq_180.2.2.2.2.2.2.2.2.2.2.2.2.1
theorem dX6_vanFor_24 : decode cX6_vanFor 24 = .ok (.getfield 7, 3) := dcq_180.2.2.2.2.2.2.2.2.2.2.2.2.2.1
theorem dX6_vanFor_27 : decode cX6_vanFor 27 = .ok (.aload_n 0, 1) := dcq_180.2.2.2.2.2.2.2.2.2.2.2.2.2.2.1
theorem dX6_vanFor_28 : decode cX6_vanFor 28 = .ok (.getfield 19, 3) := dcq_180.2.2.2.2.2.2.2.2.2.2.2.2.2.2.2.1
theorem dX6_vanFor_31 : decode cX6_vanFor 31 = .ok (.invokestatic 170, 3) := dcq_180.2.2.2.2.2.2.2.2.2.2.2.2.2.2.2.2.1
theorem dX6_vanFor_34 : decode cX6_vanFor 34 = .ok (.iconst (-1), 1) := dcq_180.2.2.2.2.2.2.2.2.2.2.2.2.2.2.2.2.2.1
theorem dX6_vanFor_35 : decode cX6_vanFor 35 = .ok (.istore_n 3, 1) := dcq_180.2.2.2.2.2.2.2.2.2.2.2.2.2.2.2.2.2.2.1
theorem dX6_vanFor_36 : decode cX6_vanFor 36 = .ok (.iconst 0, 1) := dcq_180.2.2.2.2.2.2.2.2.2.2.2.2.2.2.2.2.2.2.2.1
theorem dX6_vanFor_37 : decode cX6_vanFor 37 = .ok (.istore 4, 2) := dcq_180.2.2.2.2.2.2.2.2.2.2.2.2.2.2.2.2.2.2.2.2.1
theorem dX6_vanFor_39 : decode cX6_vanFor 39 = .ok (.iload_n 3, 1) := dcq_180.2.2.2.2.2.2.2.2.2.2.2.2.2.2.2.2.2.2.2.2.2.1
theorem dX6_vanFor_40 : decode cX6_vanFor 40 = .ok (.bipush 9, 2) := dcq_180.2.2.2.2.2.2.2.2.2.2.2.2.2.2.2.2.2.2.2.2.2.2.1
theorem dX6_vanFor_42 : decode cX6_vanFor 42 = .ok (.if_icmp .ge 37, 3) := dcq_180.2.2.2.2.2.2.2.2.2.2.2.2.2.2.2.2.2.2.2.2.2.2.2.1
theorem dX6_vanFor_45 : decode cX6_vanFor 45 = .ok (.iload 4, 2) := dcq_180.2.2.2.2.2.2.2.2.2.2.2.2.2.2.2.2.2.2.2.2.2.2.2.2.1
theorem dX6_vanFor_47 : decode cX6_vanFor 47 = .ok (.ifCond .ne 32, 3) := dcq_180.2.2.2.2.2.2.2.2.2.2.2.2.2.2.2.2.2.2.2.2.2.2.2.2.2.1
theorem dX6_vanFor_50 : decode cX6_vanFor 50 = .ok (.iinc 3 1, 3) := dcq_180.2.2.2.2.2.2.2.2.2.2.2.2.2.2.2.2.2.2.2.2.2.2.2.2.2.2.1
theorem dX6_vanFor_53 : decode cX6_vanFor 53 = .ok (.aload_n 0, 1) := dcq_180.2.2.2.2.2.2.2.2.2.2.2.2.2.2.2.2.2.2.2.2.2.2.2.2.2.2.2.1
theorem dX6_vanFor_54 : decode cX6_vanFor 54 = .ok (.getfield 7, 3) := dcq_180.2.2.2.2.2.2.2.2.2.2.2.2.2.2.2.2.2.2.2.2.2.2.2.2.2.2.2.2.1
theorem dX6_vanFor_57 : decode cX6_vanFor 57 = .ok (.iconst 0, 1) := dcq_180.2.2.2.2.2.2.2.2.2.2.2.2.2.2.2.2.2.2.2.2.2.2.2.2.2.2.2.2.2.1
theorem dX6_vanFor_58 : decode cX6_vanFor 58 = .ok (.iload_n 3, 1) := dcq_180.2.2.2.2.2.2.2.2.2.2.2.2.2.2.2.2.2.2.2.2.2.2.2.2.2.2.2.2.2.2.1
theorem dX6_vanFor_59 : decode cX6_vanFor 59 = .ok (.iastore, 1) := dcq_180.2.2.2.2.2.2.2.2.2.2.2.2.2.2.2.2.2.2.2.2.2.2.2.2.2.2.2.2.2.2.2.1
theorem dX6_vanFor_60 : decode cX6_vanFor 60 = .ok (.aload_n 0, 1) := dcq_180.2.2.2.2.2.2.2.2.2.2.2.2.2.2.2.2.2.2.2.2.2.2.2.2.2.2.2.2.2.2.2.2.1
theorem dX6_vanFor_61 : decode cX6_vanFor 61 = .ok (.iload_n 1, 1) := dcq_180.2.2.2.2.2.2.2.2.2.2.2.2.2.2.2.2.2.2.2.2.2.2.2.2.2.2.2.2.2.2.2.2.2.1
theorem dX6_vanFor_62 : decode cX6_vanFor 62 = .ok (.invokevirtual 239, 3) := dcq_180.2.2.2.2.2.2.2.2.2.2.2.2.2.2.2.2.2.2.2.2.2.2.2.2.2.2.2.2.2.2.2.2.2.2.1
theorem dX6_vanFor_65 : decode cX6_vanFor 65 = .ok (.iload_n 2, 1) := dcq_180.2.2.2.2.2.2.2.2.2.2.2.2.2.2.2.2.2.2.2.2.2.2.2.2.2.2.2.2.2.2.2.2.2.2.2.1
theorem dX6_vanFor_66 : decode cX6_vanFor 66 = .ok (.if_icmp .lt 7, 3) := dcq_180.2.2.2.2.2.2.2.2.2.2.2.2.2.2.2.2.2.2.2.2.2.2.2.2.2.2.2.2.2.2.2.2.2.2.2.2.1
theorem dX6_vanFor_69 : decode cX6_vanFor 69 = .ok (.iconst 1, 1) := dcq_180.2.2.2.2.2.2.2.2.2.2.2.2.2.2.2.2.2.2.2.2.2.2.2.2.2.2.2.2.2.2.2.2.2.2.2.2.2.1
theorem dX6_vanFor_70 : decode cX6_vanFor 70 = .ok (.goto 4, 3) := dcq_180.2.2.2.2.2.2.2.2.2.2.2.2.2.2.2.2.2.2.2.2.2.2.2.2.2.2.2.2.2.2.2.2.2.2.2.2.2.2.1
theorem dX6_vanFor_73 : decode cX6_vanFor 73 = .ok (.iconst 0, 1) := dcq_180.2.2.2.2.2.2.2.2.2.2.2.2.2.2.2.2.2.2.2.2.2.2.2.2.2.2.2.2.2.2.2.2.2.2.2.2.2.2.2.1
theorem dX6_vanFor_74 : decode cX6_vanFor 74 = .ok (.istore 4, 2) := dcq_180.2.2.2.2.2.2.2.2.2.2.2.2.2.2.2.2.2.2.2.2.2.2.2.2.2.2.2.2.2.2.2.2.2.2.2.2.2.2.2.2.1
theorem dX6_vanFor_76 : decode cX6_vanFor 76 = .ok (.goto (-37), 3) := dcq_180.2.2.2.2.2.2.2.2.2.2.2.2.2.2.2.2.2.2.2.2.2.2.2.2.2.2.2.2.2.2.2.2.2.2.2.2.2.2.2.2.2.1
theorem dX6_vanFor_79 : decode cX6_vanFor 79 = .ok (.iload 4, 2) := dcq_180.2.2.2.2.2.2.2.2.2.2.2.2.2.2.2.2.2.2.2.2.2.2.2.2.2.2.2.2.2.2.2.2.2.2.2.2.2.2.2.2.2.2.1
theorem dX6_vanFor_81 : decode cX6_vanFor 81 = .ok (.ifCond .eq 7, 3) := dcq_180.2.2.2.2.2.2.2.2.2.2.2.2.2.2.2.2.2.2.2.2.2.2.2.2.2.2.2.2.2.2.2.2.2.2.2.2.2.2.2.2.2.2.2.1
theorem dX6_vanFor_84 : decode cX6_vanFor 84 = .ok (.iload_n 3, 1) := dcq_180.2.2.2.2.2.2.2.2.2.2.2.2.2.2.2.2.2.2.2.2.2.2.2.2.2.2.2.2.2.2.2.2.2.2.2.2.2.2.2.2.2.2.2.2.1
theorem dX6_vanFor_85 : decode cX6_vanFor 85 = .ok (.goto 5, 3) := dcq_180.2.2.2.2.2.2.2.2.2.2.2.2.2.2.2.2.2.2.2.2.2.2.2.2.2.2.2.2.2.2.2.2.2.2.2.2.2.2.2.2.2.2.2.2.2.1
theorem dX6_vanFor_88 : decode cX6_vanFor 88 = .ok (.bipush (-3), 2) := dcq_180.2.2.2.2.2.2.2.2.2.2.2.2.2.2.2.2.2.2.2.2.2.2.2.2.2.2.2.2.2.2.2.2.2.2.2.2.2.2.2.2.2.2.2.2.2.2.1
theorem dX6_vanFor_90 : decode cX6_vanFor 90 = .ok (.ireturn, 1) := dcq_180.2.2.2.2.2.2.2.2.2.2.2.2.2.2.2.2.2.2.2.2.2.2.2.2.2.2.2.2.2.2.2.2.2.2.2.2.2.2.2.2.2.2.2.2.2.2.2.1
set_option maxRecDepth 100000 in
theorem dcb_181 : dcb cX6_kindFor [(0, (.aload_n 0, 1)), (1, (.iload_n 1, 1)), (2, (.invokevirtual 188, 3)), (5, (.ifCond .eq 13, 3)), (8, (.iload_n 2, 1)), (9, (.iconst 1, 1)), (10, (.bipush 20, 2)), (12, (.invokestatic 60, 3)), (15, (.ifCond .ne 5, 3)), (18, (.iconst (-1), 1)), (19, (.ireturn, 1)), (20, (.aload_n 0, 1)), (21, (.getfield 7, 3)), (24, (.aload_n 0, 1)), (25, (.getfield 19, 3)), (28, (.invokestatic 170, 3)), (31, (.iconst 0, 1)), (32, (.istore_n 3, 1)), (33, (.iconst (-1), 1)), (34, (.istore 4, 2)), (36, (.iconst 0, 1)), (37, (.istore 5, 2)), (39, (.iload 5, 2)), (41, (.iconst 5, 1)), (42, (.if_icmp .gt 54, 3)), (45, (.aload_n 0, 1)), (46, (.iload_n 1, 1)), (47, (.iconst 0, 1)), (48, (.iload 5, 2)), (50, (.invokevirtual 184, 3)), (53, (.aload_n 0, 1)), (54, (.iload_n 2, 1)), (55, (.invokevirtual 239, 3)), (58, (.istore 6, 2)), (60, (.iload 6, 2)), (62, (.iload 4, 2)), (64, (.if_icmp .le 8, 3)), (67, (.iload 5, 2)), (69, (.goto 4, 3)), (72, (.iload_n 3, 1)), (73, (.istore_n 3, 1)), (74, (.iload 6, 2)), (76, (.iload 4, 2)), (78, (.if_icmp .le 8, 3)), (81, (.iload 6, 2)), (83, (.goto 5, 3)), (86, (.iload 4, 2)), (88, (.istore 4, 2)), (90, (.iinc 5 1, 3)), (93, (.goto (-54), 3)), (96, (.iload_n 3, 1)), (97, (.ireturn, 1))] = true := by decide +kernel
set_option maxRecDepth 100000 in
theorem dcq_181 : (decode cX6_kindFor 0 = .ok (.aload_n 0, 1)) ∧ (decode cX6_kindFor 1 = .ok (.iload_n 1, 1)) ∧ (decode cX6_kindFor 2 = .ok (.invokevirtual 188, 3)) ∧ (decode cX6_kindFor 5 = .ok (.ifCond .eq 13, 3)) ∧ (decode cX6_kindFor 8 = .ok (.iload_n 2, 1)) ∧ (decode cX6_kindFor 9 = .ok (.iconst 1, 1)) ∧ (decode cX6_kindFor 10 = .ok (.bipush 20, 2)) ∧ (decode cX6_kindFor 12 = .ok (.invokestatic 60, 3)) ∧ (decode cX6_kindFor 15 = .ok (.ifCond .ne 5, 3)) ∧ (decode cX6_kindFor 18 = .ok (.iconst (-1), 1)) ∧ (decode cX6_kindFor 19 = .ok (.ireturn, 1)) ∧ (decode cX6_kindFor 20 = .ok (.aload_n 0, 1)) ∧ (decode cX6_kindFor 21 = .ok (.getfield 7, 3)) ∧ (decode cX6_kindFor 24 = .ok (.aload_n 0, 1)) ∧ (decode cX6_kindFor 25 = .ok (.getfield 19, 3)) ∧ (decode cX6_kindFor 28 = .ok (.invokestatic 170, 3)) ∧ (decode cX6_kindFor 31 = .ok (.iconst 0, 1)) ∧ (decode cX6_kindFor 32 = .ok (.istore_n 3, 1)) ∧ (decode cX6_kindFor 33 = .ok (.iconst (-1), 1)) ∧ (decode cX6_kindFor 34 = .ok (.istore 4, 2)) ∧ (decode cX6_kindFor 36 = .ok (.iconst 0, 1)) ∧ (decode cX6_kindFor 37 = .ok (.istore 5, 2)) ∧ (decode cX6_kindFor 39 = .ok (.iload 5, 2)) ∧ (decode cX6_kindFor 41 = .ok (.iconst 5, 1)) ∧ (decode cX6_kindFor 42 = .ok (.if_icmp .gt 54, 3)) ∧ (decode cX6_kindFor 45 = .ok (.aload_n 0, 1)) ∧ (decode cX6_kindFor 46 = .ok (.iload_n 1, 1)) ∧ (decode cX6_kindFor 47 = .ok (.iconst 0, 1)) ∧ (decode cX6_kindFor 48 = .ok (.iload 5, 2)) ∧ (decode cX6_kindFor 50 = .ok (.invokevirtual 184, 3)) ∧ (decode cX6_kindFor 53 = .ok (.aload_n 0, 1)) ∧ (decode cX6_kindFor 54 = .ok (.iload_n 2, 1)) ∧ (decode cX6_kindFor 55 = .ok (.invokevirtual 239, 3)) ∧ (decode cX6_kindFor 58 = .ok (.istore 6, 2)) ∧ (decode cX6_kindFor 60 = .ok (.iload 6, 2)) ∧ (decode cX6_kindFor 62 = .ok (.iload 4, 2)) ∧ (decode cX6_kindFor 64 = .ok (.if_icmp .le 8, 3)) ∧ (decode cX6_kindFor 67 = .ok (.iload 5, 2)) ∧ (decode cX6_kindFor 69 = .ok (.goto 4, 3)) ∧ (decode cX6_kindFor 72 = .ok (.iload_n 3, 1)) ∧ (decode cX6_kindFor 73 = .ok (.istore_n 3, 1)) ∧ (decode cX6_kindFor 74 = .ok (.iload 6, 2)) ∧ (decode cX6_kindFor 76 = .ok (.iload 4, 2)) ∧ (decode cX6_kindFor 78 = .ok (.if_icmp .le 8, 3)) ∧ (decode cX6_kindFor 81 = .ok (.iload 6, 2)) ∧ (decode cX6_kindFor 83 = .ok (.goto 5, 3)) ∧ (decode cX6_kindFor 86 = .ok (.iload 4, 2)) ∧ (decode cX6_kindFor 88 = .ok (.istore 4, 2)) ∧ (decode cX6_kindFor 90 = .ok (.iinc 5 1, 3)) ∧ (decode cX6_kindFor 93 = .ok (.goto (-54), 3)) ∧ (decode cX6_kindFor 96 = .ok (.iload_n 3, 1)) ∧ (decode cX6_kindFor 97 = .ok (.ireturn, 1)) ∧ True := have h := dcA_of dcb_181; h
theorem dX6_kindFor_0 : decode cX6_kindFor 0 = .ok (.aload_n 0, 1) := dcq_181.1
theorem dX6_kindFor_1 : decode cX6_kindFor 1 = .ok (.iload_n 1, 1) := dcq_181.2.1
theorem dX6_kindFor_2 : decode cX6_kindFor 2 = .ok (.invokevirtual 188, 3) := dcq_181.2.2.1
theorem dX6_kindFor_5 : decode cX6_kindFor 5 = .ok (.ifCond .eq 13, 3) := dcq_181.2.2.2.1
theorem dX6_kindFor_8 : decode cX6_kindFor 8 = .ok (.iload_n 2, 1) := dcq_181.2.2.2.2.1
theorem dX6_kindFor_9 : decode cX6_kindFor 9 = .ok (.iconst 1, 1) := dcq_181.2.2.2.2.2.1
theorem dX6_kindFor_10 : decode cX6_kindFor 10 = .ok (.bipush 20, 2) := dcq_181.2.2.2.2.2.2.1
theorem dX6_kindFor_12 : decode cX6_kindFor 12 = .ok (.invokestatic 60, 3) := dcq_181.2.2.2.2.2.2.2.1
theorem dX6_kindFor_15 : decode cX6_kindFor 15 = .ok (.ifCond .ne 5, 3) := dcq_181.2.2.2.2.2.2.2.2.1
theorem dX6_kindFor_18 : decode cX6_kindFor 18 = .ok (.iconst (-1), 1) := dcq_181.2.2.2.2.2.2.2.2.2.1
theorem dX6_kindFor_19 : decode cX6_kindFor 19 = .ok (.ireturn, 1) := dcq_181.2.2.2.2.2.2.2.2.2.2.1
theorem dX6_kindFor_20 : decode cX6_kindFor 20 = .ok (.aload_n 0, 1) := dcq_181.2.2.2.2.2.2.2.2.2.2.2.1
theorem dX6_kindFor_21 : decode cX6_kindFor 21 = .ok (.getfield 7, 3) := dcq_181.2.2.2.2.2.2.2.2.2.2.2.2.1
theorem dX6_kindFor_24 : decode cX6_kindFor 24 = .ok (.aload_n 0, 1) := dcq_181.2.2.2.2.2.2.2.2.2.2.2.2.2.1
theorem dX6_kindFor_25 : decode cX6_kindFor 25 = .ok (.getfield 19, 3) := dcq_181.2.2.2.2.2.2.2.2.2.2.2.2.2.2.1
theorem dX6_kindFor_28 : decode cX6_kindFor 28 = .ok (.invokestatic 170, 3) := dcq_181.2.2.2.2.2.2.2.2.2.2.2.2.2.2.2.1
theorem dX6_kindFor_31 : decode cX6_kindFor 31 = .ok (.iconst 0, 1) := dcq_181.2.2.2.2.2.2.2.2.2.2.2.2.2.2.2.2.1
theorem dX6_kindFor_32 : decode cX6_kindFor 32 = .ok (.istore_n 3, 1) := dcq_181.2.2.2.2.2.2.2.2.2.2.2.2.2.2.2.2.2.1
theorem dX6_kindFor_33 : decode cX6_kindFor 33 = .ok (.iconst (-1), 1) := dcq_181.2.2.2.2.2.2.2.2.2.2.2.2.2.2.2.2.2.2.1
theorem dX6_kindFor_34 : decode cX6_kindFor 34 = .ok (.istore 4, 2) := dcq_181.2.2.2.2.2.2.2.2.2.2.2.2.2.2.2.2.2.2.2.1
theorem dX6_kindFor_36 : decode cX6_kindFor 36 = .ok (.iconst 0, 1) := dcq_181.2.2.2.2.2.2.2.2.2.2.2.2.2.2.2.2.2.2.2.2.1
theorem dX6_kindFor_37 : decode cX6_kindFor 37 = .ok (.istore 5, 2) := dcq_181.2.2.2.2.2.2.2.2.2.2.2.2.2.2.2.2.2.2.2.2.2.1
theorem dX6_kindFor_39 : decode cX6_kindFor 39 = .ok (.iload 5, 2) := dcq_181.2.2.2.2.2.2.2.2.2.2.2.2.2.2.2.2.2.2.2.2.2.2.1
theorem dX6_kindFor_41 : decode cX6_kindFor 41 = .ok (.iconst 5, 1) := dcq_181.2.2.2.2.2.2.2.2.2.2.2.2.2.2.2.2.2.2.2.2.2.2.2.1
theorem dX6_kindFor_42 : decode cX6_kindFor 42 = .ok (.if_icmp .gt 54, 3) := dcq_181.2.2.2.2.2.2.2.2.2.2.2.2.2.2.2.2.2.2.2.2.2.2.2.2.1
theorem dX6_kindFor_45 : decode cX6_kindFor 45 = .ok (.aload_n 0, 1) := dcq_181.2.2.2.2.2.2.2.2.2.2.2.2.2.2.2.2.2.2.2.2.2.2.2.2.2.1
theorem dX6_kindFor_46 : decode cX6_kindFor 46 = .ok (.iload_n 1, 1) := dcq_181.2.2.2.2.2.2.2.2.2.2.2.2.2.2.2.2.2.2.2.2.2.2.2.2.2.2.1
theorem dX6_kindFor_47 : decode cX6_kindFor 47 = .ok (.iconst 0, 1) := dcq_181.2.2.2.2.2.2.2.2.2.2.2.2.2.2.2.2.2.2.2.2.2.2.2.2.2.2.2.1
theorem dX6_kindFor_48 : decode cX6_kindFor 48 = .ok (.iload 5, 2) := dcq_181.2.2.2.2.2.2.2.2.2.2.2.2.2.2.2.2.2.2.2.2.2.2.2.2.2.2.2.2.1
theorem dX6_kindFor_50 : decode cX6_kindFor 50 = .ok (.invokevirtual 184, 3) := dcq_181.2.2.2.2.2.2.2.2.2.2.2.2.2.2.2.2.2.2.2.2.2.2.2.2.2.2.2.2.2.1
theorem dX6_kindFor_53 : decode cX6_kindFor 53 = .ok (.aload_n 0, 1) := dcq_181.2.2.2.2.2.2.2.2.2.2.2.2.2.2.2.2.2.2.2.2.2.2.2.2.2.2.2.2.2.2.1
theorem dX6_kindFor_54 : decode cX6_kindFor 54 = .ok (.iload_n 2, 1) := dcq_181.2.2.2.2.2.2.2.2.2.2.2.2.2.2.2.2.2.2.2.2.2.2.2.2.2.2.2.2.2.2.2.1
theorem dX6_kindFor_55 : decode cX6_kindFor 55 = .ok (.invokevirtual 239, 3) := dcq_181.2.2.2.2.2.2.2.2.2.2.2.2.2.2.2.2.2.2.2.2.2.2.2.2.2.2.2.2.2.2.2.2.1
theorem dX6_kindFor_58 : decode cX6_kindFor 58 = .ok (.istore 6, 2) := dcq_181.2.2.2.2.2.2.2.2.2.2.2.2.2.2.2.2.2.2.2.2.2.2.2.2.2.2.2.2.2.2.2.2.2.1
theorem dX6_kindFor_60 : decode cX6_kindFor 60 = .ok (.iload 6, 2) := dcq_181.2.2.2.2.2.2.2.2.2.2.2.2.2.2.2.2.2.2.2.2.2.2.2.2.2.2.2.2.2.2.2.2.2.2.1
theorem dX6_kindFor_62 : decode cX6_kindFor 62 = .ok (.iload 4, 2) := dcq_181.2.2.2.2.2.2.2.2.2.2.2.2.2.2.2.2.2.2.2.2.2.2.2.2.2.2.2.2.2.2.2.2.2.2.2.1
theorem dX6_kindFor_64 : decode cX6_kindFor 64 = .ok (.if_icmp .le 8, 3) := dcq_181.2.2.2.2.2.2.2.2.2.2.2.2.2.2.2.2.2.2.2.2.2.2.2.2.2.2.2.2.2.2.2.2.2.2.2.2.1
theorem dX6_kindFor_67 : decode cX6_kindFor 67 = .ok (.iload 5, 2) := dcq_181.2.2.2.2.2.2.2.2.2.2.2.2.2.2.2.2.2.2.2.2.2.2.2.2.2.2.2.2.2.2.2.2.2.2.2.2.2.1
theorem dX6_kindFor_69 : decode cX6_kindFor 69 = .ok (.goto 4, 3) := dcq_181.2.2.2.2.2.2.2.2.2.2.2.2.2.2.2.2.2.2.2.2.2.2.2.2.2.2.2.2.2.2.2.2.2.2.2.2.2.2.1
theorem dX6_kindFor_72 : decode cX6_kindFor 72 = .ok (.iload_n 3, 1) := dcq_181.2.2.2.2.2.2.2.2.2.2.2.2.2.2.2.2.2.2.2.2.2.2.2.2.2.2.2.2.2.2.2.2.2.2.2.2.2.2.2.1
theorem dX6_kindFor_73 : decode cX6_kindFor 73 = .ok (.istore_n 3, 1) := dcq_181.2.2.2.2.2.2.2.2.2.2.2.2.2.2.2.2.2.2.2.2.2.2.2.2.2.2.2.2.2.2.2.2.2.2.2.2.2.2.2.2.1
theorem dX6_kindFor_74 : decode cX6_kindFor 74 = .ok (.iload 6, 2) := dcq_181.2.2.2.2.2.2.2.2.2.2.2.2.2.2.2.2.2.2.2.2.2.2.2.2.2.2.2.2.2.2.2.2.2.2.2.2.2.2.2.2.2.1
theorem dX6_kindFor_76 : decode cX6_kindFor 76 = .ok (.iload 4, 2) := dcq_181.2.2.2.2.2.2.2.2.2.2.2.2.2.2.2.2.2.2.2.2.2.2.2.2.2.2.2.2.2.2.2.2.2.2.2.2.2.2.2.2.2.2.1
theorem dX6_kindFor_78 : decode cX6_kindFor 78 = .ok (.if_icmp .le 8, 3) := dcq_181.2.2.2.2.2.2.2.2.2.2.2.2.2.2.2.2.2.2.2.2.2.2.2.2.2.2.2.2.2.2.2.2.2.2.2.2.2.2.2.2.2.2.2.1
theorem dX6_kindFor_81 : decode cX6_kindFor 81 = .ok (.iload 6, 2) := dcq_181.2.2.2.2.2.2.2.2.2.2.2.2.2.2.2.2.2.2.2.2.2.2.2.2.2.2.2.2.2.2.2.2.2.2.2.2.2.2.2.2.2.2.2.2.1
theorem dX6_kindFor_83 : decode cX6_kindFor 83 = .ok (.goto 5, 3) := dcq_181.2.2.2.2.2.2.2.2.2.2.2.2.2.2.2.2.2.2.2.2.2.2.2.2.2.2.2.2.2.2.2.2.2.2.2.2.2.2.2.2.2.2.2.2.2.1
theorem dX6_kindFor_86 : decode cX6_kindFor 86 = .ok (.iload 4, 2) := dcq_181.2.2.2.2.2.2.2.2.2.2.2.2.2.2.2.2.2.2.2.2.2.2.2.2.2.2.2.2.2.2.2.2.2.2.2.2.2.2.2.2.2.2.2.2.2.2.1
theorem dX6_kindFor_88 : decode cX6_kindFor 88 = .ok (.istore 4, 2) := dcq_181.2.2.2.2.2.2.2.2.2.2.2.2.2.2.2.2.2.2.2.2.2.2.2.2.2.2.2.2.2.2.2.2.2.2.2.2.2.2.2.2.2.2.2.2.2.2.2.1
theorem dX6_kindFor_90 : decode cX6_kindFor 90 = .ok (.iinc 5 1, 3) := dcq_181.2.2.2.2.2.2.2.2.2.2.2.2.2.2.2.2.2.2.2.2.2.2.2.2.2.2.2.2.2.2.2.2.2.2.2.2.2.2.2.2.2.2.2.2.2.2.2.2.1
theorem dX6_kindFor_93 : decode cX6_kindFor 93 = .ok (.goto (-54), 3) := dcq_181.2.2.2.2.2.2.2.2.2.2.2.2.2.2.2.2.2.2.2.2.2.2.2.2.2.2.2.2.2.2.2.2.2.2.2.2.2.2.2.2.2.2.2.2.2.2.2.2.2.1
theorem dX6_kindFor_96 : decode cX6_kindFor 96 = .ok (.iload_n 3, 1) := dcq_181.2.2.2.2.2.2.2.2.2.2.2.2.2.2.2.2.2.2.2.2.2.2.2.2.2.2.2.2.2.2.2.2.2.2.2.2.2.2.2.2.2.2.2.2.2.2.2.2.2.2.1
theorem dX6_kindFor_97 : decode cX6_kindFor 97 = .ok (.ireturn, 1) := dcq_181.2.2.2.2.2.2.2.2.2.2.2.2.2.2.2.2.2.2.2.2.2.2.2.2.2.2.2.2.2.2.2.2.2.2.2.2.2.2.2.2.2.2.2.2.2.2.2.2.2.2.2.1
set_option maxRecDepth 100000 in
theorem dcb_182 : dcb cX6_thoughtFor [(0, (.aload_n 0, 1)), (1, (.iload_n 1, 1)), (2, (.invokevirtual 188, 3)), (5, (.ifCond .eq 13, 3)), (8, (.iload_n 2, 1)), (9, (.iconst 1, 1)), (10, (.bipush 20, 2)), (12, (.invokestatic 60, 3)), (15, (.ifCond .ne 5, 3)), (18, (.iconst (-1), 1)), (19, (.ireturn, 1)), (20, (.aload_n 0, 1)), (21, (.getfield 7, 3)), (24, (.aload_n 0, 1)), (25, (.getfield 19, 3)), (28, (.invokestatic 170, 3)), (31, (.iconst (-1), 1)), (32, (.istore_n 3, 1)), (33, (.iconst 0, 1)), (34, (.istore 4, 2)), (36, (.iload_n 3, 1)), (37, (.bipush 99, 2)), (39, (.if_icmp .ge 87, 3)), (42, (.iload 4, 2)), (44, (.ifCond .ne 82, 3)), (47, (.iinc 3 1, 3)), (50, (.aload_n 0, 1)), (51, (.iload_n 1, 1)), (52, (.iconst 1, 1)), (53, (.iload_n 3, 1)), (54, (.invokevirtual 184, 3)), (57, (.iconst 0, 1)), (58, (.istore 5, 2)), (60, (.iload 5, 2)), (62, (.iload_n 2, 1)), (63, (.if_icmp .ge 49, 3)), (66, (.iload 4, 2)), (68, (.ifCond .ne 44, 3)), (71, (.aload_n 0, 1)), (72, (.invokevirtual 226, 3)), (75, (.pop, 1)), (76, (.aload_n 0, 1)), (77, (.iload_n 1, 1)), (78, (.iconst 4, 1)), (79, (.invokevirtual 191, 3)), (82, (.aload_n 0, 1)), (83, (.getfield 19, 3)), (86, (.bipush 8, 2)), (88, (.bipush 6, 2)), (90, (.iload_n 1, 1)), (91, (.imul, 1)), (92, (.iadd, 1)), (93, (.iconst 4, 1)), (94, (.iadd, 1)), (95, (.iaload, 1)), (96, (.if_icmp .le 7, 3)), (99, (.iconst 1, 1)), (100, (.goto 4, 3)), (103, (.iconst 0, 1)), (104, (.istore 4, 2))] = true := by decide +kernel
set_option maxRecDepth 100000 in
theorem dcq_182 : (decode cX6_thoughtFor 0 = .ok (.aload_n 0, 1)) ∧ (decode cX6_thoughtFor 1 = .ok (.iload_n 1, 1)) ∧ (decode cX6_thoughtFor 2 = .ok (.invokevirtual 188, 3)) ∧ (decode cX6_thoughtFor 5 = .ok (.ifCond .eq 13, 3)) ∧ (decode cX6_thoughtFor 8 = .ok (.iload_n 2, 1)) ∧ (decode cX6_thoughtFor 9 = .ok (.iconst 1, 1)) ∧ (decode cX6_thoughtFor 10 = .ok (.bipush 20, 2)) ∧ (decode cX6_thoughtFor 12 = .ok (.invokestatic 60, 3)) ∧ (decode cX6_thoughtFor 15 = .ok (.ifCond .ne 5, 3)) ∧ (decode cX6_thoughtFor 18 = .ok (.iconst (-1), 1)) ∧ (decode cX6_thoughtFor 19 = .ok (.ireturn, 1)) ∧ (decode cX6_thoughtFor 20 = .ok (.aload_n 0, 1)) ∧ (decode cX6_thoughtFor 21 = .ok (.getfield 7, 3)) ∧ (decode cX6_thoughtFor 24 = .ok (.aload_n 0, 1)) ∧ (decode cX6_thoughtFor 25 = .ok (.getfield 19, 3)) ∧ (decode cX6_thoughtFor 28 = .ok (.invokestatic 170, 3)) ∧ (decode cX6_thoughtFor 31 = .ok (.iconst (-1), 1)) ∧ (decode cX6_thoughtFor 32 = .ok (.istore_n 3, 1)) ∧ (decode cX6_thoughtFor 33 = .ok (.iconst 0, 1)) ∧ (decode cX6_thoughtFor 34 = .ok (.istore 4, 2)) ∧ (decode cX6_thoughtFor 36 = .ok (.iload_n 3, 1)) ∧ (decode cX6_thoughtFor 37 = .ok (.bipush 99, 2)) ∧ (decode cX6_thoughtFor 39 = .ok (.if_icmp .ge 87, 3)) ∧ (decode cX6_thoughtFor 42 = .ok (.iload 4, 2)) ∧ (decode cX6_thoughtFor 44 = .ok (.ifCond .ne 82, 3)) ∧ (decode cX6_thoughtFor 47 = .ok (.iinc 3 1, 3)) ∧ (decode cX6_thoughtFor 50 = .ok (.aload_n 0, 1)) ∧ (decode cX6_thoughtFor 51 = .ok (.iload_n 1, 1)) ∧ (decode cX6_thoughtFor 52 = .ok (.iconst 1, 1)) ∧ (decode cX6_thoughtFor 53 = .ok (.iload_n 3, 1)) ∧ (decode cX6_thoughtFor 54 = .ok (.invokevirtual 184, 3)) ∧ (decode cX6_thoughtFor 57 = .ok (.iconst 0, 1)) ∧ (decode cX6_thoughtFor 58 = .ok (.istore 5, 2)) ∧ (decode cX6_thoughtFor 60 = .ok (.iload 5, 2)) ∧ (decode cX6_thoughtFor 62 = .ok (.iload_n 2, 1)) ∧ (decode cX6_thoughtFor 63 = .ok (.if_icmp .ge 49, 3)) ∧ (decode cX6_thoughtFor 66 = .ok (.iload 4, 2)) ∧ (decode cX6_thoughtFor 68 = .ok (.ifCond .ne 44, 3)) ∧ (decode cX6_thoughtFor 71 = .ok (.aload_n 0, 1)) ∧ (decode cX6_thoughtFor 72 = .ok (.invokevirtual 226, 3)) ∧ (decode cX6_thoughtFor 75 = .ok (.pop, 1)) ∧ (decode cX6_thoughtFor 76 = .ok (.aload_n 0, 1)) ∧ (decode cX6_thoughtFor 77 = .ok (.iload_n 1, 1)) ∧ (decode cX6_thoughtFor 78 = .ok (.iconst 4, 1)) ∧ (decode cX6_thoughtFor 79 = .ok (.invokevirtual 191, 3)) ∧ (decode cX6_thoughtFor 82 = .ok (.aload_n 0, 1)) ∧ (decode cX6_thoughtFor 83 = .ok (.getfield 19, 3)) ∧ (decode cX6_thoughtFor 86 = .ok (.bipush 8, 2)) ∧ (decode cX6_thoughtFor 88 = .ok (.bipush 6, 2)) ∧ (decode cX6_thoughtFor 90 = .ok (.iload_n 1, 1)) ∧ (decode cX6_thoughtFor 91 = .ok (.imul, 1)) ∧ (decode cX6_thoughtFor 92 = .ok (.iadd, 1)) ∧ (decode cX6_thoughtFor 93 = .ok (.iconst 4, 1)) ∧ (decode cX6_thoughtFor 94 = .ok (.iadd, 1)) ∧ (decode cX6_thoughtFor 95 = .ok (.iaload, 1)) ∧ (decode cX6_thoughtFor 96 = .ok (.if_icmp .le 7, 3)) ∧ (decode cX6_thoughtFor 99 = .ok (.iconst 1, 1)) ∧ (decode cX6_thoughtFor 100 = .ok (.goto 4, 3)) ∧ (decode cX6_thoughtFor 103 = .ok (.iconst 0, 1)) ∧ (decode cX6_thoughtFor 104 = .ok (.istore 4, 2)) ∧ True := have h := dcA_of dcb_182; h
theorem dX6_thoughtFor_0 : decode cX6_thoughtFor 0 = .ok (.aload_n 0, 1) := dcq_182.1
theorem dX6_thoughtFor_1 : decode cX6_thoughtFor 1 = .ok (.iload_n 1, 1) := dcq_182.2.1
theorem dX6_thoughtFor_2 : decode cX6_thoughtFor 2 = .ok (.invokevirtual 188, 3) := dcq_182.2.2.1
theorem dX6_thoughtFor_5 : decode cX6_thoughtFor 5 = .ok (.ifCond .eq 13, 3) := dcq_182.2.2.2.1
theorem dX6_thoughtFor_8 : decode cX6_thoughtFor 8 = .ok (.iload_n 2, 1) := dcq_182.2.2.2.2.1
theorem dX6_thoughtFor_9 : decode cX6_thoughtFor 9 = .ok (.iconst 1, 1) := dcq_182.2.2.2.2.2.1
theorem dX6_thoughtFor_10 : decode cX6_thoughtFor 10 = .ok (.bipush 20, 2) := dcq_182.2.2.2.2.2.2.1
theorem dX6_thoughtFor_12 : decode cX6_thoughtFor 12 = .ok (.invokestatic 60, 3) := dcq_182.2.2.2.2.2.2.2.1
theorem dX6_thoughtFor_15 : decode cX6_thoughtFor 15 = .ok (.ifCond .ne 5, 3) := dcq_182.2.2.2.2.2.2.2.2.1
theorem dX6_thoughtFor_18 : decode cX6_thoughtFor 18 = .ok (.iconst (-1), 1) := dcq_182.2.2.2.2.2.2.2.2.2.1
theorem dX6_thoughtFor_19 : decode cX6_thoughtFor 19 = .ok (.ireturn, 1) := dcq_182.2.2.2.2.2.2.2.2.2.2.1
theorem dX6_thoughtFor_20 : decode cX6_thoughtFor 20 = .ok (.aload_n 0, 1) := dcq_182.2.2.2.2.2.2.2.2.2.2.2.1
theorem dX6_thoughtFor_21 : decode cX6_thoughtFor 21 = .ok (.getfield 7, 3) := dcq_182.2.2.2.2.2.2.2.2.2.2.2.2.1
theorem dX6_thoughtFor_24 : decode cX6_thoughtFor 24 = .ok (.aload_n 0, 1) := dcq_182.2.2.2.2.2.2.2.2.2.2.2.2.2.1
theorem dX6_thoughtFor_25 : decode cX6_thoughtFor 25 = .ok (.getfield 19, 3) := dcq_182.2.2.2.2.2.2.2.2.2.2.2.2.2.2.1
theorem dX6_thoughtFor_28 : decode cX6_thoughtFor 28 = .ok (.invokestatic 170, 3) := dcq_182.2.2.2.2.2.2.2.2.2.2.2.2.2.2.2.1
theorem dX6_thoughtFor_31 : decode cX6_thoughtFor 31 = .ok (.iconst (-1), 1) := dcq_182.2.2.2.2.2.2.2.2.2.2.2.2.2.2.2.2.1
theorem dX6_thoughtFor_32 : decode cX6_thoughtFor 32 = .ok (.istore_n 3, 1) := dcq_182.2.2.2.2.2.2.2.2.2.2.2.2.2.2.2.2.2.1
theorem dX6_thoughtFor_33 : decode cX6_thoughtFor 33 = .ok (.iconst 0, 1) := dcq_182.2.2.2.2.2.2.2.2.2.2.2.2.2.2.2.2.2.2.1
theorem dX6_thoughtFor_34 : decode cX6_thoughtFor 34 = .ok (.istore 4, 2) := dcq_182.2.2.2.2.2.2.2.2.2.2.2.2.2.2.2.2.2.2.2.1
theorem dX6_thoughtFor_36 : decode cX6_thoughtFor 36 = .ok (.iload_n 3, 1) := dcq_182.2.2.2.2.2.2.2.2.2.2.2.2.2.2.2.2.2.2.2.2.1
theorem dX6_thoughtFor_37 : decode cX6_thoughtFor 37 = .ok (.bipush 99, 2) := dcq_182.2.2.2.2.2.2.2.2.2.2.2.2.2.2.2.2.2.2.2.2.2.1
theorem dX6_thoughtFor_39 : decode cX6_thoughtFor 39 = .ok (.if_icmp .ge 87, 3) := dcq_182.2.2.2.2.2.2.2.2.2.2.2.2.2.2.2.2.2.2.2.2.2.2.1
theorem dX6_thoughtFor_42 : decode cX6_thoughtFor 42 = .ok (.iload 4, 2) := dcq_182.2.2.2.2.2.2.2.2.2.2.2.2.2.2.2.2.2.2.2.2.2.2.2.1
theorem dX6_thoughtFor_44 : decode cX6_thoughtFor 44 = .ok (.ifCond .ne 82, 3) := dcq_182.2.2.2.2.2.2.2.2.2.2.2.2.2.2.2.2.2.2.2.2.2.2.2.2.1
theorem dX6_thoughtFor_47 : decode cX6_thoughtFor 47 = .ok (.iinc 3 1, 3) := dcq_182.2.2.2.2.2.2.2.2.2.2.2.2.2.2.2.2.2.2.2.2.2.2.2.2.2.1
theorem dX6_thoughtFor_50 : decode cX6_thoughtFor 50 = .ok (.aload_n 0, 1) := dcq_182.2.2.2.2.2.2.2.2.2.2.2.2.2.2.2.2.2.2.2.2.2.2.2.2.2.2.1
theorem dX6_thoughtFor_51 : decode cX6_thoughtFor 51 = .ok (.iload_n 1, 1) := dcq_182.2.2.2.2.2.2.2.2.2.2.2.2.2.2.2.2.2.2.2.2.2.2.2.2.2.2.2.1
theorem dX6_thoughtFor_52 : decode cX6_thoughtFor 52 = .ok (.iconst 1, 1) := dcq_182.2.2.2.2.2.2.2.2.2.2.2.2.2.2.2.2.2.2.2.2.2.2.2.2.2.2.2.2.1
theorem dX6_thoughtFor_53 : decode cX6_thoughtFor 53 = .ok (.iload_n 3, 1) := dcq_182.2.2.2.2.2.2.2.2.2.2.2.2.2.2.2.2.2.2.2.2.2.2.2.2.2.2.2.2.2.1
theorem dX6_thoughtFor_54 : decode cX6_thoughtFor 54 = .ok (.invokevirtual 184, 3) := dcq_182.2.2.2.2.2.2.2.2.2.2.2.2.2.2.2.2.2.2.2.2.2.2.2.2.2.2.2.2.2.2.1
theorem dX6_thoughtFor_57 : decode cX6_thoughtFor 57 = .ok (.iconst 0, 1) := dcq_182.2.2.2.2.2.2.2.2.2.2.2.2.2.2.2.2.2.2.2.2.2.2.2.2.2.2.2.2.2.2.2.1
theorem dX6_thoughtFor_58 : decode cX6_thoughtFor 58 = .ok (.istore 5, 2) := dcq_182.2.2.2.2.2.2.2.2.2.2.2.2.2.2.2.2.2.2.2.2.2.2.2.2.2.2.2.2.2.2.2.2.1
theorem dX6_thoughtFor_60 : decode cX6_thoughtFor 60 = .ok (.iload 5, 2) := dcq_182.2.2.2.2.2.2.2.2.2.2.2.2.2.2.2.2.2.2.2.2.2.2.2.2.2.2.2.2.2.2.2.2.2.1
theorem dX6_thoughtFor_62 : decode cX6_thoughtFor 62 = .ok (.iload_n 2, 1) := dcq_182.2.2.2.2.2.2.2.2.2.2.2.2.2.2.2.2.2.2.2.2.2.2.2.2.2.2.2.2.2.2.2.2.2.2.1
theorem dX6_thoughtFor_63 : decode cX6_thoughtFor 63 = .ok (.if_icmp .ge 49, 3) := dcq_182.2.2.2.2.2.2.2.2.2.2.2.2.2.2.2.2.2.2.2.2.2.2.2.2.2.2.2.2.2.2.2.2.2.2.2.1
theorem dX6_thoughtFor_66 : decode cX6_thoughtFor 66 = .ok (.iload 4, 2) := dcq_182.2.2.2.2.2.2.2.2.2.2.2.2.2.2.2.2.2.2.2.2.2.2.2.2.2.2.2.2.2.2.2.2.2.2.2.2.1
theorem dX6_thoughtFor_68 : decode cX6_thoughtFor 68 = .ok (.ifCond .ne 44, 3) := dcq_182.2.2.2.2.2.2.2.2.2.2.2.2.2.2.2.2.2.2.2.2.2.2.2.2.2.2.2.2.2.2.2.2.2.2.2.2.2.1
theorem dX6_thoughtFor_71 : decode cX6_thoughtFor 71 = .ok (.aload_n 0, 1) := dcq_182.2.2.2.2.2.2.2.2.2.2.2.2.2.2.2.2.2.2.2.2.2.2.2.2.2.2.2.2.2.2.2.2.2.2.2.2.2.2.1
theorem dX6_thoughtFor_72 : decode cX6_thoughtFor 72 = .ok (.invokevirtual 226, 3) := dcq_182.2.2.2.2.2.2.2.2.2.2.2.2.2.2.2.2.2.2.2.2.2.2.2.2.2.2.2.2.2.2.2.2.2.2.2.2.2.2.2.1
theorem dX6_thoughtFor_75 : decode cX6_thoughtFor 75 = .ok (.pop, 1) := dcq_182.2.2.2.2.2.2.2.2.2.2.2.2.2.2.2.2.2.2.2.2.2.2.2.2.2.2.2.2.2.2.2.2.2.2.2.2.2.2.2.2.1
theorem dX6_thoughtFor_76 : decode cX6_thoughtFor 76 = .ok (.aload_n 0, 1) := dcq_182.2.2.2.2.2.2.2.2.2.2.2.2.2.2.2.2.2.2.2.2.2.2.2.2.2.2.2.2.2.2.2.2.2.2.2.2.2.2.2.2.2.1
theorem dX6_thoughtFor_77 : decode cX6_thoughtFor 77 = .ok (.iload_n 1, 1) := dcq_182.2.2.2.2.2.2.2.2.2.2.2.2.2.2.2.2.2.2.2.2.2.2.2.2.2.2.2.2.2.2.2.2.2.2.2.2.2.2.2.2.2.2.1
theorem dX6_thoughtFor_78 : decode cX6_thoughtFor 78 = .ok (.iconst 4, 1) := dcq_182.2.2.2.2.2.2.2.2.2.2.2.2.2.2.2.2.2.2.2.2.2.2.2.2.2.2.2.2.2.2.2.2.2.2.2.2.2.2.2.2.2.2.2.1
theorem dX6_thoughtFor_79 : decode cX6_thoughtFor 79 = .ok (.invokevirtual 191, 3) := dcq_182.2.2.2.2.2.2.2.2.2.2.2.2.2.2.2.2.2.2.2.2.2.2.2.2.2.2.2.2.2.2.2.2.2.2.2.2.2.2.2.2.2.2.2.2.1
theorem dX6_thoughtFor_82 : decode cX6_thoughtFor 82 = .ok (.aload_n 0, 1) := dcq_182.2.2.2.2.2.2.2.2.2.2.2.2.2.2.2.2.2.2.2.2.2.2.2.2.2.2.2.2.2.2.2.2.2.2.2.2.2.2.2.2.2.2.2.2.2.1
theorem dX6_thoughtFor_83 : decode cX6_thoughtFor 83 = .ok (.getfield 19, 3) := dcq_182.2.2.2.2.2.2.2.2.2.2.2.2.2.2.2.2.2.2.2.2.2.2.2.2.2.2.2.2.2.2.2.2.2.2.2.2.2.2.2.2.2.2.2.2.2.2.1
theorem dX6_thoughtFor_86 : decode cX6_thoughtFor 86 = .ok (.bipush 8, 2) := dcq_182.2.2.2.2.2.2.2.2.2.2.2.2.2.2.2.2.2.2.2.2.2.2.2.2.2.2.2.2.2.2.2.2.2.2.2.2.2.2.2.2.2.2.2.2.2.2.2.1
theorem dX6_thoughtFor_88 : decode cX6_thoughtFor 88 = .ok (.bipush 6, 2) := dcq_182.2.2.2.2.2.2.2.2.2.2.2.2.2.2.2.2.2.2.2.2.2.2.2.2.2.2.2.2.2.2.2.2.2.2.2.2.2.2.2.2.2.2.2.2.2.2.2.2.1
theorem dX6_thoughtFor_90 : decode cX6_thoughtFor 90 = .ok (.iload_n 1, 1) := dcq_182.2.2.2.2.2.2.2.2.2.2.2.2.2.2.2.2.2.2.2.2.2.2.2.2.2.2.2.2.2.2.2.2.2.2.2.2.2.2.2.2.2.2.2.2.2.2.2.2.2.1
theorem dX6_thoughtFor_91 : decode cX6_thoughtFor 91 = .ok (.imul, 1) := dcq_182.2.2.2.2.2.2.2.2.2.2.2.2.2.2.2.2.2.2.2.2.2.2.2.2.2.2.2.2.2.2.2.2.2.2.2.2.2.2.2.2.2.2.2.2.2.2.2.2.2.2.1
theorem dX6_thoughtFor_92 : decode cX6_thoughtFor 92 = .ok (.iadd, 1) := dcq_182.2.2.2.2.2.2.2.2.2.2.2.2.2.2.2.2.2.2.2.2.2.2.2.2.2.2.2.2.2.2.2.2.2.2.2.2.2.2.2.2.2.2.2.2.2.2.2.2.2.2.2.1
theorem dX6_thoughtFor_93 : decode cX6_thoughtFor 93 = .ok (.iconst 4, 1) := dcq_182.2.2.2.2.2.2.2.2.2.2.2.2.2.2.2.2.2.2.2.2.2.2.2.2.2.2.2.2.2.2.2.2.2.2.2.2.2.2.2.2.2.2.2.2.2.2.2.2.2.2.2.2.1
theorem dX6_thoughtFor_94 : decode cX6_thoughtFor 94 = .ok (.iadd, 1) := dcq_182.2.2.2.2.2.2.2.2.2.2.2.2.2.2.2.2.2.2.2.2.2.2.2.2.2.2.2.2.2.2.2.2.2.2.2.2.2.2.2.2.2.2.2.2.2.2.2.2.2.2.2.2.2.1
theorem dX6_thoughtFor_95 : decode cX6_thoughtFor 95 = .ok (.iaload, 1) := dcq_182.2.2.2.2.2.2.2.2.2.2.2.2.2.2.2.2.2.2.2.2.2.2.2.2.2.2.2.2.2.2.2.2.2.2.2.2.2.2.2.2.2.2.2.2.2.2.2.2.2.2.2.2.2.2.1
theorem dX6_thoughtFor_96 : decode cX6_thoughtFor 96 = .ok (.if_icmp .le 7, 3) := dcq_182.2.2.2.2.2.2.2.2.2.2.2.2.2.2.2.2.2.2.2.2.2.2.2.2.2.2.2.2.2.2.2.2.2.2.2.2.2.2.2.2.2.2.2.2.2.2.2.2.2.2.2.2.2.2.2.1
theorem dX6_thoughtFor_99 : decode cX6_thoughtFor 99 = .ok (.iconst 1, 1) := dcq_182.2.2.2.2.2.2.2.2.2.2.2.2.2.2.2.2.2.2.2.2.2.2.2.2.2.2.2.2.2.2.2.2.2.2.2.2.2.2.2.2.2.2.2.2.2.2.2.2.2.2.2.2.2.2.2.2.1
theorem dX6_thoughtFor_100 : decode cX6_thoughtFor 100 = .ok (.goto 4, 3) := dcq_182.2.2.2.2.2.2.2.2.2.2.2.2.2.2.2.2.2.2.2.2.2.2.2.2.2.2.2.2.2.2.2.2.2.2.2.2.2.2.2.2.2.2.2.2.2.2.2.2.2.2.2.2.2.2.2.2.2.1
theorem dX6_thoughtFor_103 : decode cX6_thoughtFor 103 = .ok (.iconst 0, 1) := dcq_182.2.2.2.2.2.2.2.2.2.2.2.2.2.2.2.2.2.2.2.2.2.2.2.2.2.2.2.2.2.2.2.2.2.2.2.2.2.2.2.2.2.2.2.2.2.2.2.2.2.2.2.2.2.2.2.2.2.2.1
theorem dX6_thoughtFor_104 : decode cX6_thoughtFor 104 = .ok (.istore 4, 2) := dcq_182.2.2.2.2.2.2.2.2.2.2.2.2.2.2.2.2.2.2.2.2.2.2.2.2.2.2.2.2.2.2.2.2.2.2.2.2.2.2.2.2.2.2.2.2.2.2.2.2.2.2.2.2.2.2.2.2.2.2.2.1
set_option maxRecDepth 100000 in
theorem dcb_183 : dcb cX6_thoughtFor [(106, (.iinc 5 1, 3)), (109, (.goto (-49), 3)), (112, (.aload_n 0, 1)), (113, (.getfield 19, 3)), (116, (.aload_n 0, 1)), (117, (.getfield 7, 3)), (120, (.invokestatic 170, 3)), (123, (.goto (-87), 3)), (126, (.iload 4, 2)), (128, (.ifCond .eq 7, 3)), (131, (.iload_n 3, 1)), (132, (.goto 5, 3)), (135, (.bipush (-3), 2)), (137, (.ireturn, 1))] = true := by decide +kernel
set_option maxRecDepth 100000 in
theorem dcq_183 : (decode cX6_thoughtFor 106 = .ok (.iinc 5 1, 3)) ∧ (decode cX6_thoughtFor 109 = .ok (.goto (-49), 3)) ∧ (decode cX6_thoughtFor 112 = .ok (.aload_n 0, 1)) ∧ (decode cX6_thoughtFor 113 = .ok (.getfield 19, 3)) ∧ (decode cX6_thoughtFor 116 = .ok (.aload_n 0, 1)) ∧ (decode cX6_thoughtFor 117 = .ok (.getfield 7, 3)) ∧ (decode cX6_thoughtFor 120 = .ok (.invokestatic 170, 3)) ∧ (decode cX6_thoughtFor 123 = .ok (.goto (-87), 3)) ∧ (decode cX6_thoughtFor 126 = .ok (.iload 4, 2)) ∧ (decode cX6_thoughtFor 128 = .ok (.ifCond .eq 7, 3)) ∧ (decode cX6_thoughtFor 131 = .ok (.iload_n 3, 1)) ∧ (decode cX6_thoughtFor 132 = .ok (.goto 5, 3)) ∧ (decode cX6_thoughtFor 135 = .ok (.bipush (-3), 2)) ∧ (decode cX6_thoughtFor 137 = .ok (.ireturn, 1)) ∧ True := have h := dcA_of dcb_183; h
theorem dX6_thoughtFor_106 : decode cX6_thoughtFor 106 = .ok (.iinc 5 1, 3) := dcq_183.1
theorem dX6_thoughtFor_109 : decode cX6_thoughtFor 109 = .ok (.goto (-49), 3) := dcq_183.2.1
theorem dX6_thoughtFor_112 : decode cX6_thoughtFor 112 = .ok (.aload_n 0, 1) := dcq_183.2.2.1
theorem dX6_thoughtFor_113 : decode cX6_thoughtFor 113 = .ok (.getfield 19, 3) := dcq_183.2.2.2.1
theorem dX6_thoughtFor_116 : decode cX6_thoughtFor 116 = .ok (.aload_n 0, 1) := dcq_183.2.2.2.2.1
theorem dX6_thoughtFor_117 : decode cX6_thoughtFor 117 = .ok (.getfield 7, 3) := dcq_183.2.2.2.2.2.1
theorem dX6_thoughtFor_120 : decode cX6_thoughtFor 120 = .ok (.invokestatic 170, 3) := dcq_183.2.2.2.2.2.2.1
theorem dX6_thoughtFor_123 : decode cX6_thoughtFor 123 = .ok (.goto (-87), 3) := dcq_183.2.2.2.2.2.2.2.1
theorem dX6_thoughtFor_126 : decode cX6_thoughtFor 126 = .ok (.iload 4, 2) := dcq_183.2.2.2.2.2.2.2.2.1
theorem dX6_thoughtFor_128 : decode cX6_thoughtFor 128 = .ok (.ifCond .eq 7, 3) := dcq_183.2.2.2.2.2.2.2.2.2.1
theorem dX6_thoughtFor_131 : decode cX6_thoughtFor 131 = .ok (.iload_n 3, 1) := dcq_183.2.2.2.2.2.2.2.2.2.2.1
theorem dX6_thoughtFor_132 : decode cX6_thoughtFor 132 = .ok (.goto 5, 3) := dcq_183.2.2.2.2.2.2.2.2.2.2.2.1
theorem dX6_thoughtFor_135 : decode cX6_thoughtFor 135 = .ok (.bipush (-3), 2) := dcq_183.2.2.2.2.2.2.2.2.2.2.2.2.1
theorem dX6_thoughtFor_137 : decode cX6_thoughtFor 137 = .ok (.ireturn, 1) := dcq_183.2.2.2.2.2.2.2.2.2.2.2.2.2.1
set_option maxRecDepth 100000 in
theorem dcb_184 : dcb cX6_needed [(0, (.iload_n 1, 1)), (1, (.iconst 1, 1)), (2, (.bipush 20, 2)), (4, (.invokestatic 60, 3)), (7, (.ifCond .ne 5, 3)), (10, (.iconst (-1), 1)), (11, (.ireturn, 1)), (12, (.aload_n 0, 1)), (13, (.getfield 7, 3)), (16, (.aload_n 0, 1)), (17, (.getfield 19, 3)), (20, (.invokestatic 170, 3)), (23, (.bipush (-3), 2)), (25, (.istore_n 2, 1)), (26, (.aload_n 0, 1)), (27, (.iload_n 1, 1)), (28, (.invokevirtual 239, 3)), (31, (.istore_n 3, 1)), (32, (.iconst 0, 1)), (33, (.istore 4, 2)), (35, (.iload 4, 2)), (37, (.aload_n 0, 1)), (38, (.getfield 7, 3)), (41, (.bipush 6, 2)), (43, (.iaload, 1)), (44, (.if_icmp .ge 50, 3)), (47, (.aload_n 0, 1)), (48, (.iconst 1, 1)), (49, (.iload 4, 2)), (51, (.ishl, 1)), (52, (.putfield 213, 3)), (55, (.aload_n 0, 1)), (56, (.iload_n 1, 1)), (57, (.invokevirtual 239, 3)), (60, (.istore 5, 2)), (62, (.iload 5, 2)), (64, (.iload_n 3, 1)), (65, (.if_icmp .ge 8, 3)), (68, (.iload 4, 2)), (70, (.goto 4, 3)), (73, (.iload_n 2, 1)), (74, (.istore_n 2, 1)), (75, (.iload 5, 2)), (77, (.iload_n 3, 1)), (78, (.if_icmp .ge 8, 3)), (81, (.iload 5, 2)), (83, (.goto 4, 3)), (86, (.iload_n 3, 1)), (87, (.istore_n 3, 1)), (88, (.iinc 4 1, 3)), (91, (.goto (-56), 3)), (94, (.aload_n 0, 1)), (95, (.iconst 0, 1)), (96, (.putfield 213, 3)), (99, (.iload_n 2, 1)), (100, (.ireturn, 1))] = true := by decide +kernel
set_option maxRecDepth 100000 in
theorem dcq_184 : (decode cX6_needed 0 = .ok (.iload_n 1, 1)) ∧ (decode cX6_needed 1 = .ok (.iconst 1, 1)) ∧ (decode cX6_needed 2 = .ok (.bipush 20, 2)) ∧ (decode cX6_needed 4 = .ok (.invokestatic 60, 3)) ∧ (decode cX6_needed 7 = .ok (.ifCond .ne 5, 3)) ∧ (decode cX6_needed 10 = .ok (.iconst (-1), 1)) ∧ (decode cX6_needed 11 = .ok (.ireturn, 1)) ∧ (decode cX6_needed 12 = .ok (.aload_n 0, 1)) ∧ (decode cX6_needed 13 = .ok (.getfield 7, 3)) ∧ (decode cX6_needed 16 = .ok (.aload_n 0, 1)) ∧ (decode cX6_needed 17 = .ok (.getfield 19, 3)) ∧ (decode cX6_needed 20 = .ok (.invokestatic 170, 3)) ∧ (decode cX6_needed 23 = .ok (.bipush (-3), 2)) ∧ (decode cX6_needed 25 = .ok (.istore_n 2, 1)) ∧ (decode cX6_needed 26 = .ok (.aload_n 0, 1)) ∧ (decode cX6_needed 27 = .ok (.iload_n 1, 1)) ∧ (decode cX6_needed 28 = .ok (.invokevirtual 239, 3)) ∧ (decode cX6_needed 31 = .ok (.istore_n 3, 1)) ∧ (decode cX6_needed 32 = .ok (.iconst 0, 1)) ∧ (decode cX6_needed 33 = .ok (.istore 4, 2)) ∧ (decode cX6_needed 35 = .ok (.iload 4, 2)) ∧ (decode cX6_needed 37 = .ok (.aload_n 0, 1)) ∧ (decode cX6_needed 38 = .ok (.getfield 7, 3)) ∧ (decode cX6_needed 41 = .ok (.bipush 6, 2)) ∧ (decode cX6_needed 43 = .ok (.iaload, 1)) ∧ (decode cX6_needed 44 = .ok (.if_icmp .ge 50, 3)) ∧ (decode cX6_needed 47 = .ok (.aload_n 0, 1)) ∧ (decode cX6_needed 48 = .ok (.iconst 1, 1)) ∧ (decode cX6_needed 49 = .ok (.iload 4, 2)) ∧ (decode cX6_needed 51 = .ok (.ishl, 1)) ∧ (decode cX6_needed 52 = .ok (.putfield 213, 3)) ∧ (decode cX6_needed 55 = .ok (.aload_n 0, 1)) ∧ (decode cX6_needed 56 = .ok (.iload_n 1, 1)) ∧ (decode cX6_needed 57 = .ok (.invokevirtual 239, 3)) ∧ (decode cX6_needed 60 = .ok (.istore 5, 2)) ∧ (decode cX6_needed 62 = .ok (.iload 5, 2)) ∧ (decode cX6_needed 64 = .ok (.iload_n 3, 1)) ∧ (decode cX6_needed 65 = .ok (.if_icmp .ge 8, 3)) ∧ (decode cX6_needed 68 = .ok (.iload 4, 2)) ∧ (decode cX6_needed 70 = .ok (.goto 4, 3)) ∧ (decode cX6_needed 73 = .ok (.iload_n 2, 1)) ∧ (decode cX6_needed 74 = .ok (.istore_n 2, 1)) ∧ (decode cX6_needed 75 = .ok (.iload 5, 2)) ∧ (decode cX6_needed 77 = .ok (.iload_n 3, 1)) ∧ (decode cX6_needed 78 = .ok (.if_icmp .ge 8, 3)) ∧ (decode cX6_needed 81 = .ok (.iload 5, 2)) ∧ (decode cX6_needed 83 = .ok (.goto 4, 3)) ∧ (decode cX6_needed 86 = .ok (.iload_n 3, 1)) ∧ (decode cX6_needed 87 = .ok (.istore_n 3, 1)) ∧ (decode cX6_needed 88 = .ok (.iinc 4 1, 3)) ∧ (decode cX6_needed 91 = .ok (.goto (-56), 3)) ∧ (decode cX6_needed 94 = .ok (.aload_n 0, 1)) ∧ (decode cX6_needed 95 = .ok (.iconst 0, 1)) ∧ (decode cX6_needed 96 = .ok (.putfield 213, 3)) ∧ (decode cX6_needed 99 = .ok (.iload_n 2, 1)) ∧ (decode cX6_needed 100 = .ok (.ireturn, 1)) ∧ True := have h := dcA_of dcb_184; h
theorem dX6_needed_0 : decode cX6_needed 0 = .ok (.iload_n 1, 1) := dcq_184.1
theorem dX6_needed_1 : decode cX6_needed 1 = .ok (.iconst 1, 1) := dcq_184.2.1
theorem dX6_needed_2 : decode cX6_needed 2 = .ok (.bipush 20, 2) := dcq_184.2.2.1
theorem dX6_needed_4 : decode cX6_needed 4 = .ok (.invokestatic 60, 3) := dcq_184.2.2.2.1
theorem dX6_needed_7 : decode cX6_needed 7 = .ok (.ifCond .ne 5, 3) := dcq_184.2.2.2.2.1
theorem dX6_needed_10 : decode cX6_needed 10 = .ok (.iconst (-1), 1) := dcq_184.2.2.2.2.2.1
theorem dX6_needed_11 : decode cX6_needed 11 = .ok (.ireturn, 1) := dcq_184.2.2.2.2.2.2.1
theorem dX6_needed_12 : decode cX6_needed 12 = .ok (.aload_n 0, 1) := dcq_184.2.2.2.2.2.2.2.1
theorem dX6_needed_13 : decode cX6_needed 13 = .ok (.getfield 7, 3) := dcq_184.2.2.2.2.2.2.2.2.1
theorem dX6_needed_16 : decode cX6_needed 16 = .ok (.aload_n 0, 1) := dcq_184.2.2.2.2.2.2.2.2.2.1
theorem dX6_needed_17 : decode cX6_needed 17 = .ok (.getfield 19, 3) := dcq_184.2.2.2.2.2.2.2.2.2.2.1
theorem dX6_needed_20 : decode cX6_needed 20 = .ok (.invokestatic 170, 3) := dcq_184.2.2.2.2.2.2.2.2.2.2.2.1
theorem dX6_needed_23 : decode cX6_needed 23 = .ok (.bipush (-3), 2) := dcq_184.2.2.2.2.2.2.2.2.2.2.2.2.1
theorem dX6_needed_25 : decode cX6_needed 25 = .ok (.istore_n 2, 1) := dcq_184.2.2.2.2.2.2.2.2.2.2.2.2.2.1
theorem dX6_needed_26 : decode cX6_needed 26 = .ok (.aload_n 0, 1) := dcq_184.2.2.2.2.2.2.2.2.2.2.2.2.2.2.1
theorem dX6_needed_27 : decode cX6_needed 27 = .ok (.iload_n 1, 1) := dcq_184.2.2.2.2.2.2.2.2.2.2.2.2.2.2.2.1
theorem dX6_needed_28 : decode cX6_needed 28 = .ok (.invokevirtual 239, 3) := dcq_184.2.2.2.2.2.2.2.2.2.2.2.2.2.2.2.2.1
theorem dX6_needed_31 : decode cX6_needed 31 = .ok (.istore_n 3, 1) := dcq_184.2.2.2.2.2.2.2.2.2.2.2.2.2.2.2.2.2.1
theorem dX6_needed_32 : decode cX6_needed 32 = .ok (.iconst 0, 1) := dcq_184.2.2.2.2.2.2.2.2.2.2.2.2.2.2.2.2.2.2.1
theorem dX6_needed_33 : decode cX6_needed 33 = .ok (.istore 4, 2) := dcq_184.2.2.2.2.2.2.2.2.2.2.2.2.2.2.2.2.2.2.2.1
theorem dX6_needed_35 : decode cX6_needed 35 = .ok (.iload 4, 2) := dcq_184.2.2.2.2.2.2.2.2.2.2.2.2.2.2.2.2.2.2.2.2.1
theorem dX6_needed_37 : decode cX6_needed 37 = .ok (.aload_n 0, 1) := dcq_184.2.2.2.2.2.2.2.2.2.2.2.2.2.2.2.2.2.2.2.2.2.1
theorem dX6_needed_38 : decode cX6_needed 38 = .ok (.getfield 7, 3) := dcq_184.2.2.2.2.2.2.2.2.2.2.2.2.2.2.2.2.2.2.2.2.2.2.1
theorem dX6_needed_41 : decode cX6_needed 41 = .ok (.bipush 6, 2) := dcq_184.2.2.2.2.2.2.2.2.2.2.2.2.2.2.2.2.2.2.2.2.2.2.2.1
theorem dX6_needed_43 : decode cX6_needed 43 = .ok (.iaload, 1) := dcq_184.2.2.2.2.2.2.2.2.2.2.2.2.2.2.2.2.2.2.2.2.2.2.2.2.1
theorem dX6_needed_44 : decode cX6_needed 44 = .ok (.if_icmp .ge 50, 3) := dcq_184.2.2.2.2.2.2.2.2.2.2.2.2.2.2.2.2.2.2.2.2.2.2.2.2.2.1
theorem dX6_needed_47 : decode cX6_needed 47 = .ok (.aload_n 0, 1) := dcq_184.2.2.2.2.2.2.2.2.2.2.2.2.2.2.2.2.2.2.2.2.2.2.2.2.2.2.1
theorem dX6_needed_48 : decode cX6_needed 48 = .ok (.iconst 1, 1) := dcq_184.2.2.2.2.2.2.2.2.2.2.2.2.2.2.2.2.2.2.2.2.2.2.2.2.2.2.2.1
theorem dX6_needed_49 : decode cX6_needed 49 = .ok (.iload 4, 2) := dcq_184.2.2.2.2.2.2.2.2.2.2.2.2.2.2.2.2.2.2.2.2.2.2.2.2.2.2.2.2.1
theorem dX6_needed_51 : decode cX6_needed 51 = .ok (.ishl, 1) := dcq_184.2.2.2.2.2.2.2.2.2.2.2.2.2.2.2.2.2.2.2.2.2.2.2.2.2.2.2.2.2.1
theorem dX6_needed_52 : decode cX6_needed 52 = .ok (.putfield 213, 3) := dcq_184.2.2.2.2.2.2.2.2.2.2.2.2.2.2.2.2.2.2.2.2.2.2.2.2.2.2.2.2.2.2.1
theorem dX6_needed_55 : decode cX6_needed 55 = .ok (.aload_n 0, 1) := dcq_184.2.2.2.2.2.2.2.2.2.2.2.2.2.2.2.2.2.2.2.2.2.2.2.2.2.2.2.2.2.2.2.1
theorem dX6_needed_56 : decode cX6_needed 56 = .ok (.iload_n 1, 1) := dcq_184.2.2.2.2.2.2.2.2.2.2.2.2.2.2.2.2.2.2.2.2.2.2.2.2.2.2.2.2.2.2.2.2.1
theorem dX6_needed_57 : decode cX6_needed 57 = .ok (.invokevirtual 239, 3) := dcq_184.2.2.2.2.2.2.2.2.2.2.2.2.2.2.2.2.2.2.2.2.2.2.2.2.2.2.2.2.2.2.2.2.2.1
theorem dX6_needed_60 : decode cX6_needed 60 = .ok (.istore 5, 2) := dcq_184.2.2.2.2.2.2.2.2.2.2.2.2.2.2.2.2.2.2.2.2.2.2.2.2.2.2.2.2.2.2.2.2.2.2.1
theorem dX6_needed_62 : decode cX6_needed 62 = .ok (.iload 5, 2) := dcq_184.2.2.2.2.2.2.2.2.2.2.2.2.2.2.2.2.2.2.2.2.2.2.2.2.2.2.2.2.2.2.2.2.2.2.2.1
theorem dX6_needed_64 : decode cX6_needed 64 = .ok (.iload_n 3, 1) := dcq_184.2.2.2.2.2.2.2.2.2.2.2.2.2.2.2.2.2.2.2.2.2.2.2.2.2.2.2.2.2.2.2.2.2.2.2.2.1
theorem dX6_needed_65 : decode cX6_needed 65 = .ok (.if_icmp .ge 8, 3) := dcq_184.2.2.2.2.2.2.2.2.2.2.2.2.2.2.2.2.2.2.2.2.2.2.2.2.2.2.2.2.2.2.2.2.2.2.2.2.2.1
theorem dX6_needed_68 : decode cX6_needed 68 = .ok (.iload 4, 2) := dcq_184.2.2.2.2.2.2.2.2.2.2.2.2.2.2.2.2.2.2.2.2.2.2.2.2.2.2.2.2.2.2.2.2.2.2.2.2.2.2.1
theorem dX6_needed_70 : decode cX6_needed 70 = .ok (.goto 4, 3) := dcq_184.2.2.2.2.2.2.2.2.2.2.2.2.2.2.2.2.2.2.2.2.2.2.2.2.2.2.2.2.2.2.2.2.2.2.2.2.2.2.2.1
theorem dX6_needed_73 : decode cX6_needed 73 = .ok (.iload_n 2, 1) := dcq_184.2.2.2.2.2.2.2.2.2.2.2.2.2.2.2.2.2.2.2.2.2.2.2.2.2.2.2.2.2.2.2.2.2.2.2.2.2.2.2.2.1
theorem dX6_needed_74 : decode cX6_needed 74 = .ok (.istore_n 2, 1) := dcq_184.2.2.2.2.2.2.2.2.2.2.2.2.2.2.2.2.2.2.2.2.2.2.2.2.2.2.2.2.2.2.2.2.2.2.2.2.2.2.2.2.2.1
theorem dX6_needed_75 : decode cX6_needed 75 = .ok (.iload 5, 2) := dcq_184.2.2.2.2.2.2.2.2.2.2.2.2.2.2.2.2.2.2.2.2.2.2.2.2.2.2.2.2.2.2.2.2.2.2.2.2.2.2.2.2.2.2.1
theorem dX6_needed_77 : decode cX6_needed 77 = .ok (.iload_n 3, 1) := dcq_184.2.2.2.2.2.2.2.2.2.2.2.2.2.2.2.2.2.2.2.2.2.2.2.2.2.2.2.2.2.2.2.2.2.2.2.2.2.2.2.2.2.2.2.1
theorem dX6_needed_78 : decode cX6_needed 78 = .ok (.if_icmp .ge 8, 3) := dcq_184.2.2.2.2.2.2.2.2.2.2.2.2.2.2.2.2.2.2.2.2.2.2.2.2.2.2.2.2.2.2.2.2.2.2.2.2.2.2.2.2.2.2.2.2.1
theorem dX6_needed_81 : decode cX6_needed 81 = .ok (.iload 5, 2) := dcq_184.2.2.2.2.2.2.2.2.2.2.2.2.2.2.2.2.2.2.2.2.2.2.2.2.2.2.2.2.2.2.2.2.2.2.2.2.2.2.2.2.2.2.2.2.2.1
theorem dX6_needed_83 : decode cX6_needed 83 = .ok (.goto 4, 3) := dcq_184.2.2.2.2.2.2.2.2.2.2.2.2.2.2.2.2.2.2.2.2.2.2.2.2.2.2.2.2.2.2.2.2.2.2.2.2.2.2.2.2.2.2.2.2.2.2.1
theorem dX6_needed_86 : decode cX6_needed 86 = .ok (.iload_n 3, 1) := dcq_184.2.2.2.2.2.2.2.2.2.2.2.2.2.2.2.2.2.2.2.2.2.2.2.2.2.2.2.2.2.2.2.2.2.2.2.2.2.2.2.2.2.2.2.2.2.2.2.1
theorem dX6_needed_87 : decode cX6_needed 87 = .ok (.istore_n 3, 1) := dcq_184.2.2.2.2.2.2.2.2.2.2.2.2.2.2.2.2.2.2.2.2.2.2.2.2.2.2.2.2.2.2.2.2.2.2.2.2.2.2.2.2.2.2.2.2.2.2.2.2.1
theorem dX6_needed_88 : decode cX6_needed 88 = .ok (.iinc 4 1, 3) := dcq_184.2.2.2.2.2.2.2.2.2.2.2.2.2.2.2.2.2.2.2.2.2.2.2.2.2.2.2.2.2.2.2.2.2.2.2.2.2.2.2.2.2.2.2.2.2.2.2.2.2.1
theorem dX6_needed_91 : decode cX6_needed 91 = .ok (.goto (-56), 3) := dcq_184.2.2.2.2.2.2.2.2.2.2.2.2.2.2.2.2.2.2.2.2.2.2.2.2.2.2.2.2.2.2.2.2.2.2.2.2.2.2.2.2.2.2.2.2.2.2.2.2.2.2.1
theorem dX6_needed_94 : decode cX6_needed 94 = .ok (.aload_n 0, 1) := dcq_184.2.2.2.2.2.2.2.2.2.2.2.2.2.2.2.2.2.2.2.2.2.2.2.2.2.2.2.2.2.2.2.2.2.2.2.2.2.2.2.2.2.2.2.2.2.2.2.2.2.2.2.1
theorem dX6_needed_95 : decode cX6_needed 95 = .ok (.iconst 0, 1) := dcq_184.2.2.2.2.2.2.2.2.2.2.2.2.2.2.2.2.2.2.2.2.2.2.2.2.2.2.2.2.2.2.2.2.2.2.2.2.2.2.2.2.2.2.2.2.2.2.2.2.2.2.2.2.1
theorem dX6_needed_96 : decode cX6_needed 96 = .ok (.putfield 213, 3) := dcq_184.2.2.2.2.2.2.2.2.2.2.2.2.2.2.2.2.2.2.2.2.2.2.2.2.2.2.2.2.2.2.2.2.2.2.2.2.2.2.2.2.2.2.2.2.2.2.2.2.2.2.2.2.2.1
theorem dX6_needed_99 : decode cX6_needed 99 = .ok (.iload_n 2, 1) := dcq_184.2.2.2.2.2.2.2.2.2.2.2.2.2.2.2.2.2.2.2.2.2.2.2.2.2.2.2.2.2.2.2.2.2.2.2.2.2.2.2.2.2.2.2.2.2.2.2.2.2.2.2.2.2.2.1
theorem dX6_needed_100 : decode cX6_needed 100 = .ok (.ireturn, 1) := dcq_184.2.2.2.2.2.2.2.2.2.2.2.2.2.2.2.2.2.2.2.2.2.2.2.2.2.2.2.2.2.2.2.2.2.2.2.2.2.2.2.2.2.2.2.2.2.2.2.2.2.2.2.2.2.2.2.1
set_option maxRecDepth 100000 in
theorem dcb_185 : dcb cX6_fewest [(0, (.iload_n 1, 1)), (1, (.iconst 1, 1)), (2, (.bipush 10, 2)), (4, (.invokestatic 60, 3)), (7, (.ifCond .eq 14, 3)), (10, (.iload_n 2, 1)), (11, (.iconst 0, 1)), (12, (.sipush 9999, 3)), (15, (.invokestatic 60, 3)), (18, (.ifCond .ne 5, 3)), (21, (.iconst (-1), 1)), (22, (.ireturn, 1)), (23, (.aload_n 0, 1)), (24, (.getfield 7, 3)), (27, (.aload_n 0, 1)), (28, (.getfield 19, 3)), (31, (.invokestatic 170, 3)), (34, (.iconst (-1), 1)), (35, (.istore_n 3, 1)), (36, (.iconst 1, 1)), (37, (.aload_n 0, 1)), (38, (.getfield 7, 3)), (41, (.bipush 6, 2)), (43, (.iaload, 1)), (44, (.ishl, 1)), (45, (.iconst 1, 1)), (46, (.isub, 1)), (47, (.istore 4, 2)), (49, (.iconst 0, 1)), (50, (.istore 5, 2)), (52, (.iload 5, 2)), (54, (.iload 4, 2)), (56, (.if_icmp .gt 52, 3)), (59, (.iload_n 3, 1)), (60, (.ifCond .lt 15, 3)), (63, (.iload 5, 2)), (65, (.invokestatic 245, 3)), (68, (.iload_n 3, 1)), (69, (.invokestatic 245, 3)), (72, (.if_icmp .ge 30, 3)), (75, (.aload_n 0, 1)), (76, (.iload 4, 2)), (78, (.iload 5, 2)), (80, (.iconst (-1), 1)), (81, (.ixor, 1)), (82, (.iand, 1)), (83, (.putfield 213, 3)), (86, (.aload_n 0, 1)), (87, (.iload_n 1, 1)), (88, (.invokevirtual 239, 3)), (91, (.iload_n 2, 1)), (92, (.if_icmp .lt 8, 3)), (95, (.iload 5, 2)), (97, (.goto 4, 3)), (100, (.iload_n 3, 1)), (101, (.istore_n 3, 1)), (102, (.iinc 5 1, 3)), (105, (.goto (-53), 3)), (108, (.aload_n 0, 1)), (109, (.iconst 0, 1))] = true := by decide +kernel
set_option maxRecDepth 100000 in
theorem dcq_185 : (decode cX6_fewest 0 = .ok (.iload_n 1, 1)) ∧ (decode cX6_fewest 1 = .ok (.iconst 1, 1)) ∧ (decode cX6_fewest 2 = .ok (.bipush 10, 2)) ∧ (decode cX6_fewest 4 = .ok (.invokestatic 60, 3)) ∧ (decode cX6_fewest 7 = .ok (.ifCond .eq 14, 3)) ∧ (decode cX6_fewest 10 = .ok (.iload_n 2, 1)) ∧ (decode cX6_fewest 11 = .ok (.iconst 0, 1)) ∧ (decode cX6_fewest 12 = .ok (.sipush 9999, 3)) ∧ (decode cX6_fewest 15 = .ok (.invokestatic 60, 3)) ∧ (decode cX6_fewest 18 = .ok (.ifCond .ne 5, 3)) ∧ (decode cX6_fewest 21 = .ok (.iconst (-1), 1)) ∧ (decode cX6_fewest 22 = .ok (.ireturn, 1)) ∧ (decode cX6_fewest 23 = .ok (.aload_n 0, 1)) ∧ (decode cX6_fewest 24 = .ok (.getfield 7, 3)) ∧ (decode cX6_fewest 27 = .ok (.aload_n 0, 1)) ∧ (decode cX6_fewest 28 = .ok (.getfield 19, 3)) ∧ (decode cX6_fewest 31 = .ok (.invokestatic 170, 3)) ∧ (decode cX6_fewest 34 = .ok (.iconst (-1), 1)) ∧ (decode cX6_fewest 35 = .ok (.istore_n 3, 1)) ∧ (decode cX6_fewest 36 = .ok (.iconst 1, 1)) ∧ (decode cX6_fewest 37 = .ok (.aload_n 0, 1)) ∧ (decode cX6_fewest 38 = .ok (.getfield 7, 3)) ∧ (decode cX6_fewest 41 = .ok (.bipush 6, 2)) ∧ (decode cX6_fewest 43 = .ok (.iaload, 1)) ∧ (decode cX6_fewest 44 = .ok (.ishl, 1)) ∧ (decode cX6_fewest 45 = .ok (.iconst 1, 1)) ∧ (decode cX6_fewest 46 = .ok (.isub, 1)) ∧ (decode cX6_fewest 47 = .ok (.istore 4, 2)) ∧ (decode cX6_fewest 49 = .ok (.iconst 0, 1)) ∧ (decode cX6_fewest 50 = .ok (.istore 5, 2)) ∧ (decode cX6_fewest 52 = .ok (.iload 5, 2)) ∧ (decode cX6_fewest 54 = .ok (.iload 4, 2)) ∧ (decode cX6_fewest 56 = .ok (.if_icmp .gt 52, 3)) ∧ (decode cX6_fewest 59 = .ok (.iload_n 3, 1)) ∧ (decode cX6_fewest 60 = .ok (.ifCond .lt 15, 3)) ∧ (decode cX6_fewest 63 = .ok (.iload 5, 2)) ∧ (decode cX6_fewest 65 = .ok (.invokestatic 245, 3)) ∧ (decode cX6_fewest 68 = .ok (.iload_n 3, 1)) ∧ (decode cX6_fewest 69 = .ok (.invokestatic 245, 3)) ∧ (decode cX6_fewest 72 = .ok (.if_icmp .ge 30, 3)) ∧ (decode cX6_fewest 75 = .ok (.aload_n 0, 1)) ∧ (decode cX6_fewest 76 = .ok (.iload 4, 2)) ∧ (decode cX6_fewest 78 = .ok (.iload 5, 2)) ∧ (decode cX6_fewest 80 = .ok (.iconst (-1), 1)) ∧ (decode cX6_fewest 81 = .ok (.ixor, 1)) ∧ (decode cX6_fewest 82 = .ok (.iand, 1)) ∧ (decode cX6_fewest 83 = .ok (.putfield 213, 3)) ∧ (decode cX6_fewest 86 = .ok (.aload_n 0, 1)) ∧ (decode cX6_fewest 87 = .ok (.iload_n 1, 1)) ∧ (decode cX6_fewest 88 = .ok (.invokevirtual 239, 3)) ∧ (decode cX6_fewest 91 = .ok (.iload_n 2, 1)) ∧ (decode cX6_fewest 92 = .ok (.if_icmp .lt 8, 3)) ∧ (decode cX6_fewest 95 = .ok (.iload 5, 2)) ∧ (decode cX6_fewest 97 = .ok (.goto 4, 3)) ∧ (decode cX6_fewest 100 = .ok (.iload_n 3, 1)) ∧ (decode cX6_fewest 101 = .ok (.istore_n 3, 1)) ∧ (decode cX6_fewest 102 = .ok (.iinc 5 1, 3)) ∧ (decode cX6_fewest 105 = .ok (.goto (-53), 3)) ∧ (decode cX6_fewest 108 = .ok (.aload_n 0, 1)) ∧ (decode cX6_fewest 109 = .ok (.iconst 0, 1)) ∧ True := have h := dcA_of dcb_185; h
theorem dX6_fewest_0 : decode cX6_fewest 0 = .ok (.iload_n 1, 1) := dcq_185.1
theorem dX6_fewest_1 : decode cX6_fewest 1 = .ok (.iconst 1, 1) := dcq_185.2.1
theorem dX6_fewest_2 : decode cX6_fewest 2 = .ok (.bipush 10, 2) := dcq_185.2.2.1
theorem dX6_fewest_4 : decode cX6_fewest 4 = .ok (.invokestatic 60, 3) := dcq_185.2.2.2.1
theorem dX6_fewest_7 : decode cX6_fewest 7 = .ok (.ifCond .eq 14, 3) := dcq_185.2.2.2.2.1
theorem dX6_fewest_10 : decode cX6_fewest 10 = .ok (.iload_n 2, 1) := dcq_185.2.2.2.2.2.1
theorem dX6_fewest_11 : decode cX6_fewest 11 = .ok (.iconst 0, 1) := dcq_185.2.2.2.2.2.2.1
theorem dX6_fewest_12 : decode cX6_fewest 12 = .ok (.sipush 9999, 3) := dcq_185.2.2.2.2.2.2.2.1
theorem dX6_fewest_15 : decode cX6_fewest 15 = .ok (.invokestatic 60, 3) := dcq_185.2.2.2.2.2.2.2.2.1
theorem dX6_fewest_18 : decode cX6_fewest 18 = .ok (.ifCond .ne 5, 3) := dcq_185.2.2.2.2.2.2.2.2.2.1
theorem dX6_fewest_21 : decode cX6_fewest 21 = .ok (.iconst (-1), 1) := dcq_185.2.2.2.2.2.2.2.2.2.2.1
theorem dX6_fewest_22 : decode cX6_fewest 22 = .ok (.ireturn, 1) := dcq_185.2.2.2.2.2.2.2.2.2.2.2.1
theorem dX6_fewest_23 : decode cX6_fewest 23 = .ok (.aload_n 0, 1) := dcq_185.2.2.2.2.2.2.2.2.2.2.2.2.1
theorem dX6_fewest_24 : decode cX6_fewest 24 = .ok (.getfield 7, 3) := dcq_185.2.2.2.2.2.2.2.2.2.2.2.2.2.1
theorem dX6_fewest_27 : decode cX6_fewest 27 = .ok (.aload_n 0, 1) := dcq_185.2.2.2.2.2.2.2.2.2.2.2.2.2.2.1
theorem dX6_fewest_28 : decode cX6_fewest 28 = .ok (.getfield 19, 3) := dcq_185.2.2.2.2.2.2.2.2.2.2.2.2.2.2.2.1
theorem dX6_fewest_31 : decode cX6_fewest 31 = .ok (.invokestatic 170, 3) := dcq_185.2.2.2.2.2.2.2.2.2.2.2.2.2.2.2.2.1
theorem dX6_fewest_34 : decode cX6_fewest 34 = .ok (.iconst (-1), 1) := dcq_185.2.2.2.2.2.2.2.2.2.2.2.2.2.2.2.2.2.1
theorem dX6_fewest_35 : decode cX6_fewest 35 = .ok (.istore_n 3, 1) := dcq_185.2.2.2.2.2.2.2.2.2.2.2.2.2.2.2.2.2.2.1
theorem dX6_fewest_36 : decode cX6_fewest 36 = .ok (.iconst 1, 1) := dcq_185.2.2.2.2.2.2.2.2.2.2.2.2.2.2.2.2.2.2.2.1
theorem dX6_fewest_37 : decode cX6_fewest 37 = .ok (.aload_n 0, 1) := dcq_185.2.2.2.2.2.2.2.2.2.2.2.2.2.2.2.2.2.2.2.2.1
theorem dX6_fewest_38 : decode cX6_fewest 38 = .ok (.getfield 7, 3) := dcq_185.2.2.2.2.2.2.2.2.2.2.2.2.2.2.2.2.2.2.2.2.2.1
theorem dX6_fewest_41 : decode cX6_fewest 41 = .ok (.bipush 6, 2) := dcq_185.2.2.2.2.2.2.2.2.2.2.2.2.2.2.2.2.2.2.2.2.2.2.1
theorem dX6_fewest_43 : decode cX6_fewest 43 = .ok (.iaload, 1) := dcq_185.2.2.2.2.2.2.2.2.2.2.2.2.2.2.2.2.2.2.2.2.2.2.2.1
theorem dX6_fewest_44 : decode cX6_fewest 44 = .ok (.ishl, 1) := dcq_185.2.2.2.2.2.2.2.2.2.2.2.2.2.2.2.2.2.2.2.2.2.2.2.2.1
theorem dX6_fewest_45 : decode cX6_fewest 45 = .ok (.iconst 1, 1) := dcq_185.2.2.2.2.2.2.2.2.2.2.2.2.2.2.2.2.2.2.2.2.2.2.2.2.2.1
theorem dX6_fewest_46 : decode cX6_fewest 46 = .ok (.isub, 1) := dcq_185.2.2.2.2.2.2.2.2.2.2.2.2.2.2.2.2.2.2.2.2.2.2.2.2.2.2.1
theorem dX6_fewest_47 : decode cX6_fewest 47 = .ok (.istore 4, 2) := dcq_185.2.2.2.2.2.2.2.2.2.2.2.2.2.2.2.2.2.2.2.2.2.2.2.2.2.2.2.1
theorem dX6_fewest_49 : decode cX6_fewest 49 = .ok (.iconst 0, 1) := dcq_185.2.2.2.2.2.2.2.2.2.2.2.2.2.2.2.2.2.2.2.2.2.2.2.2.2.2.2.2.1
theorem dX6_fewest_50 : decode cX6_fewest 50 = .ok (.istore 5, 2) := dcq_185.2.2.2.2.2.2.2.2.2.2.2.2.2.2.2.2.2.2.2.2.2.2.2.2.2.2.2.2.2.1
theorem dX6_fewest_52 : decode cX6_fewest 52 = .ok (.iload 5, 2) := dcq_185.2.2.2.2.2.2.2.2.2.2.2.2.2.2.2.2.2.2.2.2.2.2.2.2.2.2.2.2.2.2.1
theorem dX6_fewest_54 : decode cX6_fewest 54 = .ok (.iload 4, 2) := dcq_185.2.2.2.2.2.2.2.2.2.2.2.2.2.2.2.2.2.2.2.2.2.2.2.2.2.2.2.2.2.2.2.1
theorem dX6_fewest_56 : decode cX6_fewest 56 = .ok (.if_icmp .gt 52, 3) := dcq_185.2.2.2.2.2.2.2.2.2.2.2.2.2.2.2.2.2.2.2.2.2.2.2.2.2.2.2.2.2.2.2.2.1
theorem dX6_fewest_59 : decode cX6_fewest 59 = .ok (.iload_n 3, 1) := dcq_185.2.2.2.2.2.2.2.2.2.2.2.2.2.2.2.2.2.2.2.2.2.2.2.2.2.2.2.2.2.2.2.2.2.1
theorem dX6_fewest_60 : decode cX6_fewest 60 = .ok (.ifCond .lt 15, 3) := dcq_185.2.2.2.2.2.2.2.2.2.2.2.2.2.2.2.2.2.2.2.2.2.2.2.2.2.2.2.2.2.2.2.2.2.2.1
theorem dX6_fewest_63 : decode cX6_fewest 63 = .ok (.iload 5, 2) := dcq_185.2.2.2.2.2.2.2.2.2.2.2.2.2.2.2.2.2.2.2.2.2.2.2.2.2.2.2.2.2.2.2.2.2.2.2.1
theorem dX6_fewest_65 : decode cX6_fewest 65 = .ok (.invokestatic 245, 3) := dcq_185.2.2.2.2.2.2.2.2.2.2.2.2.2.2.2.2.2.2.2.2.2.2.2.2.2.2.2.2.2.2.2.2.2.2.2.2.1
theorem dX6_fewest_68 : decode cX6_fewest 68 = .ok (.iload_n 3, 1) := dcq_185.2.2.2.2.2.2.2.2.2.2.2.2.2.2.2.2.2.2.2.2.2.2.2.2.2.2.2.2.2.2.2.2.2.2.2.2.2.1
theorem dX6_fewest_69 : decode cX6_fewest 69 = .ok (.invokestatic 245, 3) := dcq_185.2.2.2.2.2.2.2.2.2.2.2.2.2.2.2.2.2.2.2.2.2.2.2.2.2.2.2.2.2.2.2.2.2.2.2.2.2.2.1
theorem dX6_fewest_72 : decode cX6_fewest 72 = .ok (.if_icmp .ge 30, 3) := dcq_185.2.2.2.2.2.2.2.2.2.2.2.2.2.2.2.2.2.2.2.2.2.2.2.2.2.2.2.2.2.2.2.2.2.2.2.2.2.2.2.1
theorem dX6_fewest_75 : decode cX6_fewest 75 = .ok (.aload_n 0, 1) := dcq_185.2.2.2.2.2.2.2.2.2.2.2.2.2.2.2.2.2.2.2.2.2.2.2.2.2.2.2.2.2.2.2.2.2.2.2.2.2.2.2.2.1
theorem dX6_fewest_76 : decode cX6_fewest 76 = .ok (.iload 4, 2) := dcq_185.2.2.2.2.2.2.2.2.2.2.2.2.2.2.2.2.2.2.2.2.2.2.2.2.2.2.2.2.2.2.2.2.2.2.2.2.2.2.2.2.2.1
theorem dX6_fewest_78 : decode cX6_fewest 78 = .ok (.iload 5, 2) := dcq_185.2.2.2.2.2.2.2.2.2.2.2.2.2.2.2.2.2.2.2.2.2.2.2.2.2.2.2.2.2.2.2.2.2.2.2.2.2.2.2.2.2.2.1
theorem dX6_fewest_80 : decode cX6_fewest 80 = .ok (.iconst (-1), 1) := dcq_185.2.2.2.2.2.2.2.2.2.2.2.2.2.2.2.2.2.2.2.2.2.2.2.2.2.2.2.2.2.2.2.2.2.2.2.2.2.2.2.2.2.2.2.1
theorem dX6_fewest_81 : decode cX6_fewest 81 = .ok (.ixor, 1) := dcq_185.2.2.2.2.2.2.2.2.2.2.2.2.2.2.2.2.2.2.2.2.2.2.2.2.2.2.2.2.2.2.2.2.2.2.2.2.2.2.2.2.2.2.2.2.1
theorem dX6_fewest_82 : decode cX6_fewest 82 = .ok (.iand, 1) := dcq_185.2.2.2.2.2.2.2.2.2.2.2.2.2.2.2.2.2.2.2.2.2.2.2.2.2.2.2.2.2.2.2.2.2.2.2.2.2.2.2.2.2.2.2.2.2.1
theorem dX6_fewest_83 : decode cX6_fewest 83 = .ok (.putfield 213, 3) := dcq_185.2.2.2.2.2.2.2.2.2.2.2.2.2.2.2.2.2.2.2.2.2.2.2.2.2.2.2.2.2.2.2.2.2.2.2.2.2.2.2.2.2.2.2.2.2.2.1
theorem dX6_fewest_86 : decode cX6_fewest 86 = .ok (.aload_n 0, 1) := dcq_185.2.2.2.2.2.2.2.2.2.2.2.2.2.2.2.2.2.2.2.2.2.2.2.2.2.2.2.2.2.2.2.2.2.2.2.2.2.2.2.2.2.2.2.2.2.2.2.1
theorem dX6_fewest_87 : decode cX6_fewest 87 = .ok (.iload_n 1, 1) := dcq_185.2.2.2.2.2.2.2.2.2.2.2.2.2.2.2.2.2.2.2.2.2.2.2.2.2.2.2.2.2.2.2.2.2.2.2.2.2.2.2.2.2.2.2.2.2.2.2.2.1
theorem dX6_fewest_88 : decode cX6_fewest 88 = .ok (.invokevirtual 239, 3) := dcq_185.2.2.2.2.2.2.2.2.2.2.2.2.2.2.2.2.2.2.2.2.2.2.2.2.2.2.2.2.2.2.2.2.2.2.2.2.2.2.2.2.2.2.2.2.2.2.2.2.2.1
theorem dX6_fewest_91 : decode cX6_fewest 91 = .ok (.iload_n 2, 1) := dcq_185.2.2.2.2.2.2.2.2.2.2.2.2.2.2.2.2.2.2.2.2.2.2.2.2.2.2.2.2.2.2.2.2.2.2.2.2.2.2.2.2.2.2.2.2.2.2.2.2.2.2.1
theorem dX6_fewest_92 : decode cX6_fewest 92 = .ok (.if_icmp .lt 8, 3) := dcq_185.2.2.2.2.2.2.2.2.2.2.2.2.2.2.2.2.2.2.2.2.2.2.2.2.2.2.2.2.2.2.2.2.2.2.2.2.2.2.2.2.2.2.2.2.2.2.2.2.2.2.2.1
theorem dX6_fewest_95 : decode cX6_fewest 95 = .ok (.iload 5, 2) := dcq_185.2.2.2.2.2.2.2.2.2.2.2.2.2.2.2.2.2.2.2.2.2.2.2.2.2.2.2.2.2.2.2.2.2.2.2.2.2.2.2.2.2.2.2.2.2.2.2.2.2.2.2.2.1
theorem dX6_fewest_97 : decode cX6_fewest 97 = .ok (.goto 4, 3) := dcq_185.2.2.2.2.2.2.2.2.2.2.2.2.2.2.2.2.2.2.2.2.2.2.2.2.2.2.2.2.2.2.2.2.2.2.2.2.2.2.2.2.2.2.2.2.2.2.2.2.2.2.2.2.2.1
theorem dX6_fewest_100 : decode cX6_fewest 100 = .ok (.iload_n 3, 1) := dcq_185.2.2.2.2.2.2.2.2.2.2.2.2.2.2.2.2.2.2.2.2.2.2.2.2.2.2.2.2.2.2.2.2.2.2.2.2.2.2.2.2.2.2.2.2.2.2.2.2.2.2.2.2.2.2.1
theorem dX6_fewest_101 : decode cX6_fewest 101 = .ok (.istore_n 3, 1) := dcq_185.2.2.2.2.2.2.2.2.2.2.2.2.2.2.2.2.2.2.2.2.2.2.2.2.2.2.2.2.2.2.2.2.2.2.2.2.2.2.2.2.2.2.2.2.2.2.2.2.2.2.2.2.2.2.2.1
theorem dX6_fewest_102 : decode cX6_fewest 102 = .ok (.iinc 5 1, 3) := dcq_185.2.2.2.2.2.2.2.2.2.2.2.2.2.2.2.2.2.2.2.2.2.2.2.2.2.2.2.2.2.2.2.2.2.2.2.2.2.2.2.2.2.2.2.2.2.2.2.2.2.2.2.2.2.2.2.2.1
theorem dX6_fewest_105 : decode cX6_fewest 105 = .ok (.goto (-53), 3) := dcq_185.2.2.2.2.2.2.2.2.2.2.2.2.2.2.2.2.2.2.2.2.2.2.2.2.2.2.2.2.2.2.2.2.2.2.2.2.2.2.2.2.2.2.2.2.2.2.2.2.2.2.2.2.2.2.2.2.2.1
theorem dX6_fewest_108 : decode cX6_fewest 108 = .ok (.aload_n 0, 1) := dcq_185.2.2.2.2.2.2.2.2.2.2.2.2.2.2.2.2.2.2.2.2.2.2.2.2.2.2.2.2.2.2.2.2.2.2.2.2.2.2.2.2.2.2.2.2.2.2.2.2.2.2.2.2.2.2.2.2.2.2.1
theorem dX6_fewest_109 : decode cX6_fewest 109 = .ok (.iconst 0, 1) := dcq_185.2.2.2.2.2.2.2.2.2.2.2.2.2.2.2.2.2.2.2.2.2.2.2.2.2.2.2.2.2.2.2.2.2.2.2.2.2.2.2.2.2.2.2.2.2.2.2.2.2.2.2.2.2.2.2.2.2.2.2.1
set_option maxRecDepth 100000 in
theorem dcb_186 : dcb cX6_fewest [(110, (.putfield 213, 3)), (113, (.iload_n 3, 1)), (114, (.ifCond .ge 8, 3)), (117, (.bipush (-3), 2)), (119, (.goto 4, 3)), (122, (.iload_n 3, 1)), (123, (.ireturn, 1))] = true := by decide +kernel
set_option maxRecDepth 100000 in
theorem dcq_186 : (decode cX6_fewest 110 = .ok (.putfield 213, 3)) ∧ (decode cX6_fewest 113 = .ok (.iload_n 3, 1)) ∧ (decode cX6_fewest 114 = .ok (.ifCond .ge 8, 3)) ∧ (decode cX6_fewest 117 = .ok (.bipush (-3), 2)) ∧ (decode cX6_fewest 119 = .ok (.goto 4, 3)) ∧ (decode cX6_fewest 122 = .ok (.iload_n 3, 1)) ∧ (decode cX6_fewest 123 = .ok (.ireturn, 1)) ∧ True := have h := dcA_of dcb_186; h
theorem dX6_fewest_110 : decode cX6_fewest 110 = .ok (.putfield 213, 3) := dcq_186.1
theorem dX6_fewest_113 : decode cX6_fewest 113 = .ok (.iload_n 3, 1) := dcq_186.2.1
theorem dX6_fewest_114 : decode cX6_fewest 114 = .ok (.ifCond .ge 8, 3) := dcq_186.2.2.1
theorem dX6_fewest_117 : decode cX6_fewest 117 = .ok (.bipush (-3), 2) := dcq_186.2.2.2.1
theorem dX6_fewest_119 : decode cX6_fewest 119 = .ok (.goto 4, 3) := dcq_186.2.2.2.2.1
theorem dX6_fewest_122 : decode cX6_fewest 122 = .ok (.iload_n 3, 1) := dcq_186.2.2.2.2.2.1
theorem dX6_fewest_123 : decode cX6_fewest 123 = .ok (.ireturn, 1) := dcq_186.2.2.2.2.2.2.1
set_option maxRecDepth 100000 in
theorem dcb_187 : dcb cX6_thoughtOf [(0, (.iconst 0, 1)), (1, (.istore_n 2, 1)), (2, (.iconst 0, 1)), (3, (.istore_n 3, 1)), (4, (.iload_n 3, 1)), (5, (.aload_n 0, 1)), (6, (.getfield 7, 3)), (9, (.bipush 6, 2)), (11, (.iaload, 1)), (12, (.if_icmp .ge 31, 3)), (15, (.iload_n 2, 1)), (16, (.iload_n 1, 1)), (17, (.iload_n 3, 1)), (18, (.ishr, 1)), (19, (.iconst 1, 1)), (20, (.iand, 1)), (21, (.iconst 1, 1)), (22, (.if_icmp .ne 12, 3)), (25, (.aload_n 0, 1)), (26, (.iload_n 3, 1)), (27, (.iconst 1, 1)), (28, (.invokevirtual 191, 3)), (31, (.goto 4, 3)), (34, (.iconst 0, 1)), (35, (.iadd, 1)), (36, (.istore_n 2, 1)), (37, (.iinc 3 1, 3)), (40, (.goto (-36), 3)), (43, (.iload_n 2, 1)), (44, (.ireturn, 1))] = true := by decide +kernel
set_option maxRecDepth 100000 in
theorem dcq_187 : (decode cX6_thoughtOf 0 = .ok (.iconst 0, 1)) ∧ (decode cX6_thoughtOf 1 = .ok (.istore_n 2, 1)) ∧ (decode cX6_thoughtOf 2 = .ok (.iconst 0, 1)) ∧ (decode cX6_thoughtOf 3 = .ok (.istore_n 3, 1)) ∧ (decode cX6_thoughtOf 4 = .ok (.iload_n 3, 1)) ∧ (decode cX6_thoughtOf 5 = .ok (.aload_n 0, 1)) ∧ (decode cX6_thoughtOf 6 = .ok (.getfield 7, 3)) ∧ (decode cX6_thoughtOf 9 = .ok (.bipush 6, 2)) ∧ (decode cX6_thoughtOf 11 = .ok (.iaload, 1)) ∧ (decode cX6_thoughtOf 12 = .ok (.if_icmp .ge 31, 3)) ∧ (decode cX6_thoughtOf 15 = .ok (.iload_n 2, 1)) ∧ (decode cX6_thoughtOf 16 = .ok (.iload_n 1, 1)) ∧ (decode cX6_thoughtOf 17 = .ok (.iload_n 3, 1)) ∧ (decode cX6_thoughtOf 18 = .ok (.ishr, 1)) ∧ (decode cX6_thoughtOf 19 = .ok (.iconst 1, 1)) ∧ (decode cX6_thoughtOf 20 = .ok (.iand, 1)) ∧ (decode cX6_thoughtOf 21 = .ok (.iconst 1, 1)) ∧ (decode cX6_thoughtOf 22 = .ok (.if_icmp .ne 12, 3)) ∧ (decode cX6_thoughtOf 25 = .ok (.aload_n 0, 1)) ∧ (decode cX6_thoughtOf 26 = .ok (.iload_n 3, 1)) ∧ (decode cX6_thoughtOf 27 = .ok (.iconst 1, 1)) ∧ (decode cX6_thoughtOf 28 = .ok (.invokevirtual 191, 3)) ∧ (decode cX6_thoughtOf 31 = .ok (.goto 4, 3)) ∧ (decode cX6_thoughtOf 34 = .ok (.iconst 0, 1)) ∧ (decode cX6_thoughtOf 35 = .ok (.iadd, 1)) ∧ (decode cX6_thoughtOf 36 = .ok (.istore_n 2, 1)) ∧ (decode cX6_thoughtOf 37 = .ok (.iinc 3 1, 3)) ∧ (decode cX6_thoughtOf 40 = .ok (.goto (-36), 3)) ∧ (decode cX6_thoughtOf 43 = .ok (.iload_n 2, 1)) ∧ (decode cX6_thoughtOf 44 = .ok (.ireturn, 1)) ∧ True := have h := dcA_of dcb_187; h
theorem dX6_thoughtOf_0 : decode cX6_thoughtOf 0 = .ok (.iconst 0, 1) := dcq_187.1
theorem dX6_thoughtOf_1 : decode cX6_thoughtOf 1 = .ok (.istore_n 2, 1) := dcq_187.2.1
theorem dX6_thoughtOf_2 : decode cX6_thoughtOf 2 = .ok (.iconst 0, 1) := dcq_187.2.2.1
theorem dX6_thoughtOf_3 : decode cX6_thoughtOf 3 = .ok (.istore_n 3, 1) := dcq_187.2.2.2.1
theorem dX6_thoughtOf_4 : decode cX6_thoughtOf 4 = .ok (.iload_n 3, 1) := dcq_187.2.2.2.2.1
theorem dX6_thoughtOf_5 : decode cX6_thoughtOf 5 = .ok (.aload_n 0, 1) := dcq_187.2.2.2.2.2.1
theorem dX6_thoughtOf_6 : decode cX6_thoughtOf 6 = .ok (.getfield 7, 3) := dcq_187.2.2.2.2.2.2.1
theorem dX6_thoughtOf_9 : decode cX6_thoughtOf 9 = .ok (.bipush 6, 2) := dcq_187.2.2.2.2.2.2.2.1
theorem dX6_thoughtOf_11 : decode cX6_thoughtOf 11 = .ok (.iaload, 1) := dcq_187.2.2.2.2.2.2.2.2.1
theorem dX6_thoughtOf_12 : decode cX6_thoughtOf 12 = .ok (.if_icmp .ge 31, 3) := dcq_187.2.2.2.2.2.2.2.2.2.1
theorem dX6_thoughtOf_15 : decode cX6_thoughtOf 15 = .ok (.iload_n 2, 1) := dcq_187.2.2.2.2.2.2.2.2.2.2.1
theorem dX6_thoughtOf_16 : decode cX6_thoughtOf 16 = .ok (.iload_n 1, 1) := dcq_187.2.2.2.2.2.2.2.2.2.2.2.1
theorem dX6_thoughtOf_17 : decode cX6_thoughtOf 17 = .ok (.iload_n 3, 1) := dcq_187.2.2.2.2.2.2.2.2.2.2.2.2.1
theorem dX6_thoughtOf_18 : decode cX6_thoughtOf 18 = .ok (.ishr, 1) := dcq_187.2.2.2.2.2.2.2.2.2.2.2.2.2.1
theorem dX6_thoughtOf_19 : decode cX6_thoughtOf 19 = .ok (.iconst 1, 1) := dcq_187.2.2.2.2.2.2.2.2.2.2.2.2.2.2.1
theorem dX6_thoughtOf_20 : decode cX6_thoughtOf 20 = .ok (.iand, 1) := dcq_187.2.2.2.2.2.2.2.2.2.2.2.2.2.2.2.1
theorem dX6_thoughtOf_21 : decode cX6_thoughtOf 21 = .ok (.iconst 1, 1) := dcq_187.2.2.2.2.2.2.2.2.2.2.2.2.2.2.2.2.1
theorem dX6_thoughtOf_22 : decode cX6_thoughtOf 22 = .ok (.if_icmp .ne 12, 3) := dcq_187.2.2.2.2.2.2.2.2.2.2.2.2.2.2.2.2.2.1
theorem dX6_thoughtOf_25 : decode cX6_thoughtOf 25 = .ok (.aload_n 0, 1) := dcq_187.2.2.2.2.2.2.2.2.2.2.2.2.2.2.2.2.2.2.1
theorem dX6_thoughtOf_26 : decode cX6_thoughtOf 26 = .ok (.iload_n 3, 1) := dcq_187.2.2.2.2.2.2.2.2.2.2.2.2.2.2.2.2.2.2.2.1
theorem dX6_thoughtOf_27 : decode cX6_thoughtOf 27 = .ok (.iconst 1, 1) := dcq_187.2.2.2.2.2.2.2.2.2.2.2.2.2.2.2.2.2.2.2.2.1
theorem dX6_thoughtOf_28 : decode cX6_thoughtOf 28 = .ok (.invokevirtual 191, 3) := dcq_187.2.2.2.2.2.2.2.2.2.2.2.2.2.2.2.2.2.2.2.2.2.1
theorem dX6_thoughtOf_31 : decode cX6_thoughtOf 31 = .ok (.goto 4, 3) := dcq_187.2.2.2.2.2.2.2.2.2.2.2.2.2.2.2.2.2.2.2.2.2.2.1
theorem dX6_thoughtOf_34 : decode cX6_thoughtOf 34 = .ok (.iconst 0, 1) := dcq_187.2.2.2.2.2.2.2.2.2.2.2.2.2.2.2.2.2.2.2.2.2.2.2.1
theorem dX6_thoughtOf_35 : decode cX6_thoughtOf 35 = .ok (.iadd, 1) := dcq_187.2.2.2.2.2.2.2.2.2.2.2.2.2.2.2.2.2.2.2.2.2.2.2.2.1
theorem dX6_thoughtOf_36 : decode cX6_thoughtOf 36 = .ok (.istore_n 2, 1) := dcq_187.2.2.2.2.2.2.2.2.2.2.2.2.2.2.2.2.2.2.2.2.2.2.2.2.2.1
theorem dX6_thoughtOf_37 : decode cX6_thoughtOf 37 = .ok (.iinc 3 1, 3) := dcq_187.2.2.2.2.2.2.2.2.2.2.2.2.2.2.2.2.2.2.2.2.2.2.2.2.2.2.1
theorem dX6_thoughtOf_40 : decode cX6_thoughtOf 40 = .ok (.goto (-36), 3) := dcq_187.2.2.2.2.2.2.2.2.2.2.2.2.2.2.2.2.2.2.2.2.2.2.2.2.2.2.2.1
theorem dX6_thoughtOf_43 : decode cX6_thoughtOf 43 = .ok (.iload_n 2, 1) := dcq_187.2.2.2.2.2.2.2.2.2.2.2.2.2.2.2.2.2.2.2.2.2.2.2.2.2.2.2.2.1
theorem dX6_thoughtOf_44 : decode cX6_thoughtOf 44 = .ok (.ireturn, 1) := dcq_187.2.2.2.2.2.2.2.2.2.2.2.2.2.2.2.2.2.2.2.2.2.2.2.2.2.2.2.2.2.1
set_option maxRecDepth 100000 in
theorem dcb_188 : dcb cX6_packed [(0, (.iload_n 1, 1)), (1, (.iconst 1, 1)), (2, (.bipush 99, 2)), (4, (.invokestatic 60, 3)), (7, (.ifCond .ne 5, 3)), (10, (.iconst (-1), 1)), (11, (.ireturn, 1)), (12, (.iconst 0, 1)), (13, (.istore_n 2, 1)), (14, (.iconst 0, 1)), (15, (.istore_n 3, 1)), (16, (.iload_n 3, 1)), (17, (.aload_n 0, 1)), (18, (.getfield 7, 3)), (21, (.bipush 6, 2)), (23, (.iaload, 1)), (24, (.if_icmp .ge 41, 3)), (27, (.aload_n 0, 1)), (28, (.iload_n 3, 1)), (29, (.iconst 1, 1)), (30, (.invokevirtual 191, 3)), (33, (.iload_n 1, 1)), (34, (.if_icmp .le 6, 3)), (37, (.bipush (-3), 2)), (39, (.ireturn, 1)), (40, (.iload_n 2, 1)), (41, (.aload_n 0, 1)), (42, (.iload_n 3, 1)), (43, (.iconst 1, 1)), (44, (.invokevirtual 191, 3)), (47, (.ifCond .le 9, 3)), (50, (.iconst 1, 1)), (51, (.iload_n 3, 1)), (52, (.ishl, 1)), (53, (.goto 4, 3)), (56, (.iconst 0, 1)), (57, (.ior, 1)), (58, (.istore_n 2, 1)), (59, (.iinc 3 1, 3)), (62, (.goto (-46), 3)), (65, (.iconst 0, 1)), (66, (.istore_n 3, 1)), (67, (.iload_n 3, 1)), (68, (.iload_n 2, 1)), (69, (.if_icmp .gt 89, 3)), (72, (.aload_n 0, 1)), (73, (.getfield 25, 3)), (76, (.iload_n 3, 1)), (77, (.iload_n 3, 1)), (78, (.invokestatic 245, 3)), (81, (.iastore, 1)), (82, (.iload_n 3, 1)), (83, (.istore 4, 2)), (85, (.iload 4, 2)), (87, (.ifCond .le 65, 3)), (90, (.aload_n 0, 1)), (91, (.iload 4, 2)), (93, (.invokevirtual 248, 3)), (96, (.iload_n 1, 1)), (97, (.if_icmp .gt 44, 3))] = true := by decide +kernel
set_option maxRecDepth 100000 in
theorem dcq_188 : (decode cX6_packed 0 = .ok (.iload_n 1, 1)) ∧ (decode cX6_packed 1 = .ok (.iconst 1, 1)) ∧ (decode cX6_packed 2 = .ok (.bipush 99, 2)) ∧ (decode cX6_packed 4 = .ok (.invokestatic 60, 3)) ∧ (decode cX6_packed 7 = .ok (.ifCond .ne 5, 3)) ∧ (decode cX6_packed 10 = .ok (.iconst (-1), 1)) ∧ (decode cX6_packed 11 = .ok (.ireturn, 1)) ∧ (decode cX6_packed 12 = .ok (.iconst 0, 1)) ∧ (decode cX6_packed 13 = .ok (.istore_n 2, 1)) ∧ (decode cX6_packed 14 = .ok (.iconst 0, 1)) ∧ (decode cX6_packed 15 = .ok (.istore_n 3, 1)) ∧ (decode cX6_packed 16 = .ok (.iload_n 3, 1)) ∧ (decode cX6_packed 17 = .ok (.aload_n 0, 1)) ∧ (decode cX6_packed 18 = .ok (.getfield 7, 3)) ∧ (decode cX6_packed 21 = .ok (.bipush 6, 2)) ∧ (decode cX6_packed 23 = .ok (.iaload, 1)) ∧ (decode cX6_packed 24 = .ok (.if_icmp .ge 41, 3)) ∧ (decode cX6_packed 27 = .ok (.aload_n 0, 1)) ∧ (decode cX6_packed 28 = .ok (.iload_n 3, 1)) ∧ (decode cX6_packed 29 = .ok (.iconst 1, 1)) ∧ (decode cX6_packed 30 = .ok (.invokevirtual 191, 3)) ∧ (decode cX6_packed 33 = .ok (.iload_n 1, 1)) ∧ (decode cX6_packed 34 = .ok (.if_icmp .le 6, 3)) ∧ (decode cX6_packed 37 = .ok (.bipush (-3), 2)) ∧ (decode cX6_packed 39 = .ok (.ireturn, 1)) ∧ (decode cX6_packed 40 = .ok (.iload_n 2, 1)) ∧ (decode cX6_packed 41 = .ok (.aload_n 0, 1)) ∧ (decode cX6_packed 42 = .ok (.iload_n 3, 1)) ∧ (decode cX6_packed 43 = .ok (.iconst 1, 1)) ∧ (decode cX6_packed 44 = .ok (.invokevirtual 191, 3)) ∧ (decode cX6_packed 47 = .ok (.ifCond .le 9, 3)) ∧ (decode cX6_packed 50 = .ok (.iconst 1, 1)) ∧ (decode cX6_packed 51 = .ok (.iload_n 3, 1)) ∧ (decode cX6_packed 52 = .ok (.ishl, 1)) ∧ (decode cX6_packed 53 = .ok (.goto 4, 3)) ∧ (decode cX6_packed 56 = .ok (.iconst 0, 1)) ∧ (decode cX6_packed 57 = .ok (.ior, 1)) ∧ (decode cX6_packed 58 = .ok (.istore_n 2, 1)) ∧ (decode cX6_packed 59 = .ok (.iinc 3 1, 3)) ∧ (decode cX6_packed 62 = .ok (.goto (-46), 3)) ∧ (decode cX6_packed 65 = .ok (.iconst 0, 1)) ∧ (decode cX6_packed 66 = .ok (.istore_n 3, 1)) ∧ (decode cX6_packed 67 = .ok (.iload_n 3, 1)) ∧ (decode cX6_packed 68 = .ok (.iload_n 2, 1)) ∧ (decode cX6_packed 69 = .ok (.if_icmp .gt 89, 3)) ∧ (decode cX6_packed 72 = .ok (.aload_n 0, 1)) ∧ (decode cX6_packed 73 = .ok (.getfield 25, 3)) ∧ (decode cX6_packed 76 = .ok (.iload_n 3, 1)) ∧ (decode cX6_packed 77 = .ok (.iload_n 3, 1)) ∧ (decode cX6_packed 78 = .ok (.invokestatic 245, 3)) ∧ (decode cX6_packed 81 = .ok (.iastore, 1)) ∧ (decode cX6_packed 82 = .ok (.iload_n 3, 1)) ∧ (decode cX6_packed 83 = .ok (.istore 4, 2)) ∧ (decode cX6_packed 85 = .ok (.iload 4, 2)) ∧ (decode cX6_packed 87 = .ok (.ifCond .le 65, 3)) ∧ (decode cX6_packed 90 = .ok (.aload_n 0, 1)) ∧ (decode cX6_packed 91 = .ok (.iload 4, 2)) ∧ (decode cX6_packed 93 = .ok (.invokevirtual 248, 3)) ∧ (decode cX6_packed 96 = .ok (.iload_n 1, 1)) ∧ (decode cX6_packed 97 = .ok (.if_icmp .gt 44, 3)) ∧ True := have h := dcA_of dcb_188; h
theorem dX6_packed_0 : decode cX6_packed 0 = .ok (.iload_n 1, 1) := dcq_188.1
theorem dX6_packed_1 : decode cX6_packed 1 = .ok (.iconst 1, 1) := dcq_188.2.1
theorem dX6_packed_2 : decode cX6_packed 2 = .ok (.bipush 99, 2) := dcq_188.2.2.1
theorem dX6_packed_4 : decode cX6_packed 4 = .ok (.invokestatic 60, 3) := dcq_188.2.2.2.1
theorem dX6_packed_7 : decode cX6_packed 7 = .ok (.ifCond .ne 5, 3) := dcq_188.2.2.2.2.1
theorem dX6_packed_10 : decode cX6_packed 10 = .ok (.iconst (-1), 1) := dcq_188.2.2.2.2.2.1
theorem dX6_packed_11 : decode cX6_packed 11 = .ok (.ireturn, 1) := dcq_188.2.2.2.2.2.2.1
theorem dX6_packed_12 : decode cX6_packed 12 = .ok (.iconst 0, 1) := dcq_188.2.2.2.2.2.2.2.1
theorem dX6_packed_13 : decode cX6_packed 13 = .ok (.istore_n 2, 1) := dcq_188.2.2.2.2.2.2.2.2.1
theorem dX6_packed_14 : decode cX6_packed 14 = .ok (.iconst 0, 1) := dcq_188.2.2.2.2.2.2.2.2.2.1
theorem dX6_packed_15 : decode cX6_packed 15 = .ok (.istore_n 3, 1) := dcq_188.2.2.2.2.2.2.2.2.2.2.1
theorem dX6_packed_16 : decode cX6_packed 16 = .ok (.iload_n 3, 1) := dcq_188.2.2.2.2.2.2.2.2.2.2.2.1
theorem dX6_packed_17 : decode cX6_packed 17 = .ok (.aload_n 0, 1) := dcq_188.2.2.2.2.2.2.2.2.2.2.2.2.1
theorem dX6_packed_18 : decode cX6_packed 18 = .ok (.getfield 7, 3) := dcq_188.2.2.2.2.2.2.2.2.2.2.2.2.2.1
theorem dX6_packed_21 : decode cX6_packed 21 = .ok (.bipush 6, 2) := dcq_188.2.2.2.2.2.2.2.2.2.2.2.2.2.2.1
theorem dX6_packed_23 : decode cX6_packed 23 = .ok (.iaload, 1) := dcq_188.2.2.2.2.2.2.2.2.2.2.2.2.2.2.2.1
theorem dX6_packed_24 : decode cX6_packed 24 = .ok (.if_icmp .ge 41, 3) := dcq_188.2.2.2.2.2.2.2.2.2.2.2.2.2.2.2.2.1
theorem dX6_packed_27 : decode cX6_packed 27 = .ok (.aload_n 0, 1) := dcq_188.2.2.2.2.2.2.2.2.2.2.2.2.2.2.2.2.2.1
theorem dX6_packed_28 : decode cX6_packed 28 = .ok (.iload_n 3, 1) := dcq_188.2.2.2.2.2.2.2.2.2.2.2.2.2.2.2.2.2.2.1
theorem dX6_packed_29 : decode cX6_packed 29 = .ok (.iconst 1, 1) := dcq_188.2.2.2.2.2.2.2.2.2.2.2.2.2.2.2.2.2.2.2.1
theorem dX6_packed_30 : decode cX6_packed 30 = .ok (.invokevirtual 191, 3) := dcq_188.2.2.2.2.2.2.2.2.2.2.2.2.2.2.2.2.2.2.2.2.1
theorem dX6_packed_33 : decode cX6_packed 33 = .ok (.iload_n 1, 1) := dcq_188.2.2.2.2.2.2.2.2.2.2.2.2.2.2.2.2.2.2.2.2.2.1
theorem dX6_packed_34 : decode cX6_packed 34 = .ok (.if_icmp .le 6, 3) := dcq_188.2.2.2.2.2.2.2.2.2.2.2.2.2.2.2.2.2.2.2.2.2.2.1
theorem dX6_packed_37 : decode cX6_packed 37 = .ok (.bipush (-3), 2) := dcq_188.2.2.2.2.2.2.2.2.2.2.2.2.2.2.2.2.2.2.2.2.2.2.2.1
theorem dX6_packed_39 : decode cX6_packed 39 = .ok (.ireturn, 1) := dcq_188.2.2.2.2.2.2.2.2.2.2.2.2.2.2.2.2.2.2.2.2.2.2.2.2.1
theorem dX6_packed_40 : decode cX6_packed 40 = .ok (.iload_n 2, 1) := dcq_188.2.2.2.2.2.2.2.2.2.2.2.2.2.2.2.2.2.2.2.2.2.2.2.2.2.1
theorem dX6_packed_41 : decode cX6_packed 41 = .ok (.aload_n 0, 1) := dcq_188.2.2.2.2.2.2.2.2.2.2.2.2.2.2.2.2.2.2.2.2.2.2.2.2.2.2.1
theorem dX6_packed_42 : decode cX6_packed 42 = .ok (.iload_n 3, 1) := dcq_188.2.2.2.2.2.2.2.2.2.2.2.2.2.2.2.2.2.2.2.2.2.2.2.2.2.2.2.1
theorem dX6_packed_43 : decode cX6_packed 43 = .ok (.iconst 1, 1) := dcq_188.2.2.2.2.2.2.2.2.2.2.2.2.2.2.2.2.2.2.2.2.2.2.2.2.2.2.2.2.1
theorem dX6_packed_44 : decode cX6_packed 44 = .ok (.invokevirtual 191, 3) := dcq_188.2.2.2.2.2.2.2.2.2.2.2.2.2.2.2.2.2.2.2.2.2.2.2.2.2.2.2.2.2.1
theorem dX6_packed_47 : decode cX6_packed 47 = .ok (.ifCond .le 9, 3) := dcq_188.2.2.2.2.2.2.2.2.2.2.2.2.2.2.2.2.2.2.2.2.2.2.2.2.2.2.2.2.2.2.1
theorem dX6_packed_50 : decode cX6_packed 50 = .ok (.iconst 1, 1) := dcq_188.2.2.2.2.2.2.2.2.2.2.2.2.2.2.2.2.2.2.2.2.2.2.2.2.2.2.2.2.2.2.2.1
theorem dX6_packed_51 : decode cX6_packed 51 = .ok (.iload_n 3, 1) := dcq_188.2.2.2.2.2.2.2.2.2.2.2.2.2.2.2.2.2.2.2.2.2.2.2.2.2.2.2.2.2.2.2.2.1
theorem dX6_packed_52 : decode cX6_packed 52 = .ok (.ishl, 1) := dcq_188.2.2.2.2.2.2.2.2.2.2.2.2.2.2.2.2.2.2.2.2.2.2.2.2.2.2.2.2.2.2.2.2.2.1
theorem dX6_packed_53 : decode cX6_packed 53 = .ok (.goto 4, 3) := dcq_188.2.2.2.2.2.2.2.2.2.2.2.2.2.2.2.2.2.2.2.2.2.2.2.2.2.2.2.2.2.2.2.2.2.2.1
theorem dX6_packed_56 : decode cX6_packed 56 = .ok (.iconst 0, 1) := dcq_188.2.2.2.2.2.2.2.2.2.2.2.2.2.2.2.2.2.2.2.2.2.2.2.2.2.2.2.2.2.2.2.2.2.2.2.1
theorem dX6_packed_57 : decode cX6_packed 57 = .ok (.ior, 1) := dcq_188.2.2.2.2.2.2.2.2.2.2.2.2.2.2.2.2.2.2.2.2.2.2.2.2.2.2.2.2.2.2.2.2.2.2.2.2.1
theorem dX6_packed_58 : decode cX6_packed 58 = .ok (.istore_n 2, 1) := dcq_188.2.2.2.2.2.2.2.2.2.2.2.2.2.2.2.2.2.2.2.2.2.2.2.2.2.2.2.2.2.2.2.2.2.2.2.2.2.1
theorem dX6_packed_59 : decode cX6_packed 59 = .ok (.iinc 3 1, 3) := dcq_188.2.2.2.2.2.2.2.2.2.2.2.2.2.2.2.2.2.2.2.2.2.2.2.2.2.2.2.2.2.2.2.2.2.2.2.2.2.2.1
theorem dX6_packed_62 : decode cX6_packed 62 = .ok (.goto (-46), 3) := dcq_188.2.2.2.2.2.2.2.2.2.2.2.2.2.2.2.2.2.2.2.2.2.2.2.2.2.2.2.2.2.2.2.2.2.2.2.2.2.2.2.1
theorem dX6_packed_65 : decode cX6_packed 65 = .ok (.iconst 0, 1) := dcq_188.2.2.2.2.2.2.2.2.2.2.2.2.2.2.2.2.2.2.2.2.2.2.2.2.2.2.2.2.2.2.2.2.2.2.2.2.2.2.2.2.1
theorem dX6_packed_66 : decode cX6_packed 66 = .ok (.istore_n 3, 1) := dcq_188.2.2.2.2.2.2.2.2.2.2.2.2.2.2.2.2.2.2.2.2.2.2.2.2.2.2.2.2.2.2.2.2.2.2.2.2.2.2.2.2.2.1
theorem dX6_packed_67 : decode cX6_packed 67 = .ok (.iload_n 3, 1) := dcq_188.2.2.2.2.2.2.2.2.2.2.2.2.2.2.2.2.2.2.2.2.2.2.2.2.2.2.2.2.2.2.2.2.2.2.2.2.2.2.2.2.2.2.1
theorem dX6_packed_68 : decode cX6_packed 68 = .ok (.iload_n 2, 1) := dcq_188.2.2.2.2.2.2.2.2.2.2.2.2.2.2.2.2.2.2.2.2.2.2.2.2.2.2.2.2.2.2.2.2.2.2.2.2.2.2.2.2.2.2.2.1
theorem dX6_packed_69 : decode cX6_packed 69 = .ok (.if_icmp .gt 89, 3) := dcq_188.2.2.2.2.2.2.2.2.2.2.2.2.2.2.2.2.2.2.2.2.2.2.2.2.2.2.2.2.2.2.2.2.2.2.2.2.2.2.2.2.2.2.2.2.1
theorem dX6_packed_72 : decode cX6_packed 72 = .ok (.aload_n 0, 1) := dcq_188.2.2.2.2.2.2.2.2.2.2.2.2.2.2.2.2.2.2.2.2.2.2.2.2.2.2.2.2.2.2.2.2.2.2.2.2.2.2.2.2.2.2.2.2.2.1
theorem dX6_packed_73 : decode cX6_packed 73 = .ok (.getfield 25, 3) := dcq_188.2.2.2.2.2.2.2.2.2.2.2.2.2.2.2.2.2.2.2.2.2.2.2.2.2.2.2.2.2.2.2.2.2.2.2.2.2.2.2.2.2.2.2.2.2.2.1
theorem dX6_packed_76 : decode cX6_packed 76 = .ok (.iload_n 3, 1) := dcq_188.2.2.2.2.2.2.2.2.2.2.2.2.2.2.2.2.2.2.2.2.2.2.2.2.2.2.2.2.2.2.2.2.2.2.2.2.2.2.2.2.2.2.2.2.2.2.2.1
theorem dX6_packed_77 : decode cX6_packed 77 = .ok (.iload_n 3, 1) := dcq_188.2.2.2.2.2.2.2.2.2.2.2.2.2.2.2.2.2.2.2.2.2.2.2.2.2.2.2.2.2.2.2.2.2.2.2.2.2.2.2.2.2.2.2.2.2.2.2.2.1
theorem dX6_packed_78 : decode cX6_packed 78 = .ok (.invokestatic 245, 3) := dcq_188.2.2.2.2.2.2.2.2.2.2.2.2.2.2.2.2.2.2.2.2.2.2.2.2.2.2.2.2.2.2.2.2.2.2.2.2.2.2.2.2.2.2.2.2.2.2.2.2.2.1
theorem dX6_packed_81 : decode cX6_packed 81 = .ok (.iastore, 1) := dcq_188.2.2.2.2.2.2.2.2.2.2.2.2.2.2.2.2.2.2.2.2.2.2.2.2.2.2.2.2.2.2.2.2.2.2.2.2.2.2.2.2.2.2.2.2.2.2.2.2.2.2.1
theorem dX6_packed_82 : decode cX6_packed 82 = .ok (.iload_n 3, 1) := dcq_188.2.2.2.2.2.2.2.2.2.2.2.2.2.2.2.2.2.2.2.2.2.2.2.2.2.2.2.2.2.2.2.2.2.2.2.2.2.2.2.2.2.2.2.2.2.2.2.2.2.2.2.1
theorem dX6_packed_83 : decode cX6_packed 83 = .ok (.istore 4, 2) := dcq_188.2.2.2.2.2.2.2.2.2.2.2.2.2.2.2.2.2.2.2.2.2.2.2.2.2.2.2.2.2.2.2.2.2.2.2.2.2.2.2.2.2.2.2.2.2.2.2.2.2.2.2.2.1
theorem dX6_packed_85 : decode cX6_packed 85 = .ok (.iload 4, 2) := dcq_188.2.2.2.2.2.2.2.2.2.2.2.2.2.2.2.2.2.2.2.2.2.2.2.2.2.2.2.2.2.2.2.2.2.2.2.2.2.2.2.2.2.2.2.2.2.2.2.2.2.2.2.2.2.1
theorem dX6_packed_87 : decode cX6_packed 87 = .ok (.ifCond .le 65, 3) := dcq_188.2.2.2.2.2.2.2.2.2.2.2.2.2.2.2.2.2.2.2.2.2.2.2.2.2.2.2.2.2.2.2.2.2.2.2.2.2.2.2.2.2.2.2.2.2.2.2.2.2.2.2.2.2.2.1
theorem dX6_packed_90 : decode cX6_packed 90 = .ok (.aload_n 0, 1) := dcq_188.2.2.2.2.2.2.2.2.2.2.2.2.2.2.2.2.2.2.2.2.2.2.2.2.2.2.2.2.2.2.2.2.2.2.2.2.2.2.2.2.2.2.2.2.2.2.2.2.2.2.2.2.2.2.2.1
theorem dX6_packed_91 : decode cX6_packed 91 = .ok (.iload 4, 2) := dcq_188.2.2.2.2.2.2.2.2.2.2.2.2.2.2.2.2.2.2.2.2.2.2.2.2.2.2.2.2.2.2.2.2.2.2.2.2.2.2.2.2.2.2.2.2.2.2.2.2.2.2.2.2.2.2.2.2.1
theorem dX6_packed_93 : decode cX6_packed 93 = .ok (.invokevirtual 248, 3) := dcq_188.2.2.2.2.2.2.2.2.2.2.2.2.2.2.2.2.2.2.2.2.2.2.2.2.2.2.2.2.2.2.2.2.2.2.2.2.2.2.2.2.2.2.2.2.2.2.2.2.2.2.2.2.2.2.2.2.2.1
theorem dX6_packed_96 : decode cX6_packed 96 = .ok (.iload_n 1, 1) := dcq_188.2.2.2.2.2.2.2.2.2.2.2.2.2.2.2.2.2.2.2.2.2.2.2.2.2.2.2.2.2.2.2.2.2.2.2.2.2.2.2.2.2.2.2.2.2.2.2.2.2.2.2.2.2.2.2.2.2.2.1
theorem dX6_packed_97 : decode cX6_packed 97 = .ok (.if_icmp .gt 44, 3) := dcq_188.2.2.2.2.2.2.2.2.2.2.2.2.2.2.2.2.2.2.2.2.2.2.2.2.2.2.2.2.2.2.2.2.2.2.2.2.2.2.2.2.2.2.2.2.2.2.2.2.2.2.2.2.2.2.2.2.2.2.2.1
set_option maxRecDepth 100000 in
theorem dcb_189 : dcb cX6_packed [(100, (.aload_n 0, 1)), (101, (.getfield 25, 3)), (104, (.iload_n 3, 1)), (105, (.iload 4, 2)), (107, (.iconst (-1), 1)), (108, (.ixor, 1)), (109, (.iand, 1)), (110, (.iaload, 1)), (111, (.iconst 1, 1)), (112, (.iadd, 1)), (113, (.aload_n 0, 1)), (114, (.getfield 25, 3)), (117, (.iload_n 3, 1)), (118, (.iaload, 1)), (119, (.if_icmp .ge 22, 3)), (122, (.aload_n 0, 1)), (123, (.getfield 25, 3)), (126, (.iload_n 3, 1)), (127, (.aload_n 0, 1)), (128, (.getfield 25, 3)), (131, (.iload_n 3, 1)), (132, (.iload 4, 2)), (134, (.iconst (-1), 1)), (135, (.ixor, 1)), (136, (.iand, 1)), (137, (.iaload, 1)), (138, (.iconst 1, 1)), (139, (.iadd, 1)), (140, (.iastore, 1)), (141, (.iload 4, 2)), (143, (.iconst 1, 1)), (144, (.isub, 1)), (145, (.iload_n 3, 1)), (146, (.iand, 1)), (147, (.istore 4, 2)), (149, (.goto (-64), 3)), (152, (.iinc 3 1, 3)), (155, (.goto (-88), 3)), (158, (.aload_n 0, 1)), (159, (.getfield 25, 3)), (162, (.iload_n 2, 1)), (163, (.iaload, 1)), (164, (.ireturn, 1))] = true := by decide +kernel
set_option maxRecDepth 100000 in
theorem dcq_189 : (decode cX6_packed 100 = .ok (.aload_n 0, 1)) ∧ (decode cX6_packed 101 = .ok (.getfield 25, 3)) ∧ (decode cX6_packed 104 = .ok (.iload_n 3, 1)) ∧ (decode cX6_packed 105 = .ok (.iload 4, 2)) ∧ (decode cX6_packed 107 = .ok (.iconst (-1), 1)) ∧ (decode cX6_packed 108 = .ok (.ixor, 1)) ∧ (decode cX6_packed 109 = .ok (.iand, 1)) ∧ (decode cX6_packed 110 = .ok (.iaload, 1)) ∧ (decode cX6_packed 111 = .ok (.iconst 1, 1)) ∧ (decode cX6_packed 112 = .ok (.iadd, 1)) ∧ (decode cX6_packed 113 = .ok (.aload_n 0, 1)) ∧ (decode cX6_packed 114 = .ok (.getfield 25, 3)) ∧ (decode cX6_packed 117 = .ok (.iload_n 3, 1)) ∧ (decode cX6_packed 118 = .ok (.iaload, 1)) ∧ (decode cX6_packed 119 = .ok (.if_icmp .ge 22, 3)) ∧ (decode cX6_packed 122 = .ok (.aload_n 0, 1)) ∧ (decode cX6_packed 123 = .ok (.getfield 25, 3)) ∧ (decode cX6_packed 126 = .ok (.iload_n 3, 1)) ∧ (decode cX6_packed 127 = .ok (.aload_n 0, 1)) ∧ (decode cX6_packed 128 = .ok (.getfield 25, 3)) ∧ (decode cX6_packed 131 = .ok (.iload_n 3, 1)) ∧ (decode cX6_packed 132 = .ok (.iload 4, 2)) ∧ (decode cX6_packed 134 = .ok (.iconst (-1), 1)) ∧ (decode cX6_packed 135 = .ok (.ixor, 1)) ∧ (decode cX6_packed 136 = .ok (.iand, 1)) ∧ (decode cX6_packed 137 = .ok (.iaload, 1)) ∧ (decode cX6_packed 138 = .ok (.iconst 1, 1)) ∧ (decode cX6_packed 139 = .ok (.iadd, 1)) ∧ (decode cX6_packed 140 = .ok (.iastore, 1)) ∧ (decode cX6_packed 141 = .ok (.iload 4, 2)) ∧ (decode cX6_packed 143 = .ok (.iconst 1, 1)) ∧ (decode cX6_packed 144 = .ok (.isub, 1)) ∧ (decode cX6_packed 145 = .ok (.iload_n 3, 1)) ∧ (decode cX6_packed 146 = .ok (.iand, 1)) ∧ (decode cX6_packed 147 = .ok (.istore 4, 2)) ∧ (decode cX6_packed 149 = .ok (.goto (-64), 3)) ∧ (decode cX6_packed 152 = .ok (.iinc 3 1, 3)) ∧ (decode cX6_packed 155 = .ok (.goto (-88), 3)) ∧ (decode cX6_packed 158 = .ok (.aload_n 0, 1)) ∧ (decode cX6_packed 159 = .ok (.getfield 25, 3)) ∧ (decode cX6_packed 162 = .ok (.iload_n 2, 1)) ∧ (decode cX6_packed 163 = .ok (.iaload, 1)) ∧ (decode cX6_packed 164 = .ok (.ireturn, 1)) ∧ True := have h := dcA_of dcb_189; h
theorem dX6_packed_100 : decode cX6_packed 100 = .ok (.aload_n 0, 1) := dcq_189.1
theorem dX6_packed_101 : decode cX6_packed 101 = .ok (.getfield 25, 3) := dcq_189.2.1
theorem dX6_packed_104 : decode cX6_packed 104 = .ok (.iload_n 3, 1) := dcq_189.2.2.1
theorem dX6_packed_105 : decode cX6_packed 105 = .ok (.iload 4, 2) := dcq_189.2.2.2.1
theorem dX6_packed_107 : decode cX6_packed 107 = .ok (.iconst (-1), 1) := dcq_189.2.2.2.2.1
theorem dX6_packed_108 : decode cX6_packed 108 = .ok (.ixor, 1) := dcq_189.2.2.2.2.2.1
theorem dX6_packed_109 : decode cX6_packed 109 = .ok (.iand, 1) := dcq_189.2.2.2.2.2.2.1
theorem dX6_packed_110 : decode cX6_packed 110 = .ok (.iaload, 1) := dcq_189.2.2.2.2.2.2.2.1
theorem dX6_packed_111 : decode cX6_packed 111 = .ok (.iconst 1, 1) := dcq_189.2.2.2.2.2.2.2.2.1
theorem dX6_packed_112 : decode cX6_packed 112 = .ok (.iadd, 1) := dcq_189.2.2.2.2.2.2.2.2.2.1
theorem dX6_packed_113 : decode cX6_packed 113 = .ok (.aload_n 0, 1) := dcq_189.2.2.2.2.2.2.2.2.2.2.1
theorem dX6_packed_114 : decode cX6_packed 114 = .ok (.getfield 25, 3) := dcq_189.2.2.2.2.2.2.2.2.2.2.2.1
theorem dX6_packed_117 : decode cX6_packed 117 = .ok (.iload_n 3, 1) := dcq_189.2.2.2.2.2.2.2.2.2.2.2.2.1
theorem dX6_packed_118 : decode cX6_packed 118 = .ok (.iaload, 1) := dcq_189.2.2.2.2.2.2.2.2.2.2.2.2.2.1
theorem dX6_packed_119 : decode cX6_packed 119 = .ok (.if_icmp .ge 22, 3) := dcq_189.2.2.2.2.2.2.2.2.2.2.2.2.2.2.1
theorem dX6_packed_122 : decode cX6_packed 122 = .ok (.aload_n 0, 1) := dcq_189.2.2.2.2.2.2.2.2.2.2.2.2.2.2.2.1
theorem dX6_packed_123 : decode cX6_packed 123 = .ok (.getfield 25, 3) := dcq_189.2.2.2.2.2.2.2.2.2.2.2.2.2.2.2.2.1
theorem dX6_packed_126 : decode cX6_packed 126 = .ok (.iload_n 3, 1) := dcq_189.2.2.2.2.2.2.2.2.2.2.2.2.2.2.2.2.2.1
theorem dX6_packed_127 : decode cX6_packed 127 = .ok (.aload_n 0, 1) := dcq_189.2.2.2.2.2.2.2.2.2.2.2.2.2.2.2.2.2.2.1
theorem dX6_packed_128 : decode cX6_packed 128 = .ok (.getfield 25, 3) := dcq_189.2.2.2.2.2.2.2.2.2.2.2.2.2.2.2.2.2.2.2.1
theorem dX6_packed_131 : decode cX6_packed 131 = .ok (.iload_n 3, 1) := dcq_189.2.2.2.2.2.2.2.2.2.2.2.2.2.2.2.2.2.2.2.2.1
theorem dX6_packed_132 : decode cX6_packed 132 = .ok (.iload 4, 2) := dcq_189.2.2.2.2.2.2.2.2.2.2.2.2.2.2.2.2.2.2.2.2.2.1
theorem dX6_packed_134 : decode cX6_packed 134 = .ok (.iconst (-1), 1) := dcq_189.2.2.2.2.2.2.2.2.2.2.2.2.2.2.2.2.2.2.2.2.2.2.1
theorem dX6_packed_135 : decode cX6_packed 135 = .ok (.ixor, 1) := dcq_189.2.2.2.2.2.2.2.2.2.2.2.2.2.2.2.2.2.2.2.2.2.2.2.1
theorem dX6_packed_136 : decode cX6_packed 136 = .ok (.iand, 1) := dcq_189.2.2.2.2.2.2.2.2.2.2.2.2.2.2.2.2.2.2.2.2.2.2.2.2.1
theorem dX6_packed_137 : decode cX6_packed 137 = .ok (.iaload, 1) := dcq_189.2.2.2.2.2.2.2.2.2.2.2.2.2.2.2.2.2.2.2.2.2.2.2.2.2.1
theorem dX6_packed_138 : decode cX6_packed 138 = .ok (.iconst 1, 1) := dcq_189.2.2.2.2.2.2.2.2.2.2.2.2.2.2.2.2.2.2.2.2.2.2.2.2.2.2.1
theorem dX6_packed_139 : decode cX6_packed 139 = .ok (.iadd, 1) := dcq_189.2.2.2.2.2.2.2.2.2.2.2.2.2.2.2.2.2.2.2.2.2.2.2.2.2.2.2.1
theorem dX6_packed_140 : decode cX6_packed 140 = .ok (.iastore, 1) := dcq_189.2.2.2.2.2.2.2.2.2.2.2.2.2.2.2.2.2.2.2.2.2.2.2.2.2.2.2.2.1
theorem dX6_packed_141 : decode cX6_packed 141 = .ok (.iload 4, 2) := dcq_189.2.2.2.2.2.2.2.2.2.2.2.2.2.2.2.2.2.2.2.2.2.2.2.2.2.2.2.2.2.1
theorem dX6_packed_143 : decode cX6_packed 143 = .ok (.iconst 1, 1) := dcq_189.2.2.2.2.2.2.2.2.2.2.2.2.2.2.2.2.2.2.2.2.2.2.2.2.2.2.2.2.2.2.1
theorem dX6_packed_144 : decode cX6_packed 144 = .ok (.isub, 1) := dcq_189.2.2.2.2.2.2.2.2.2.2.2.2.2.2.2.2.2.2.2.2.2.2.2.2.2.2.2.2.2.2.2.1
theorem dX6_packed_145 : decode cX6_packed 145 = .ok (.iload_n 3, 1) := dcq_189.2.2.2.2.2.2.2.2.2.2.2.2.2.2.2.2.2.2.2.2.2.2.2.2.2.2.2.2.2.2.2.2.1
theorem dX6_packed_146 : decode cX6_packed 146 = .ok (.iand, 1) := dcq_189.2.2.2.2.2.2.2.2.2.2.2.2.2.2.2.2.2.2.2.2.2.2.2.2.2.2.2.2.2.2.2.2.2.1
theorem dX6_packed_147 : decode cX6_packed 147 = .ok (.istore 4, 2) := dcq_189.2.2.2.2.2.2.2.2.2.2.2.2.2.2.2.2.2.2.2.2.2.2.2.2.2.2.2.2.2.2.2.2.2.2.1
theorem dX6_packed_149 : decode cX6_packed 149 = .ok (.goto (-64), 3) := dcq_189.2.2.2.2.2.2.2.2.2.2.2.2.2.2.2.2.2.2.2.2.2.2.2.2.2.2.2.2.2.2.2.2.2.2.2.1
theorem dX6_packed_152 : decode cX6_packed 152 = .ok (.iinc 3 1, 3) := dcq_189.2.2.2.2.2.2.2.2.2.2.2.2.2.2.2.2.2.2.2.2.2.2.2.2.2.2.2.2.2.2.2.2.2.2.2.2.1
theorem dX6_packed_155 : decode cX6_packed 155 = .ok (.goto (-88), 3) := dcq_189.2.2.2.2.2.2.2.2.2.2.2.2.2.2.2.2.2.2.2.2.2.2.2.2.2.2.2.2.2.2.2.2.2.2.2.2.2.1
theorem dX6_packed_158 : decode cX6_packed 158 = .ok (.aload_n 0, 1) := dcq_189.2.2.2.2.2.2.2.2.2.2.2.2.2.2.2.2.2.2.2.2.2.2.2.2.2.2.2.2.2.2.2.2.2.2.2.2.2.2.1
theorem dX6_packed_159 : decode cX6_packed 159 = .ok (.getfield 25, 3) := dcq_189.2.2.2.2.2.2.2.2.2.2.2.2.2.2.2.2.2.2.2.2.2.2.2.2.2.2.2.2.2.2.2.2.2.2.2.2.2.2.2.1
theorem dX6_packed_162 : decode cX6_packed 162 = .ok (.iload_n 2, 1) := dcq_189.2.2.2.2.2.2.2.2.2.2.2.2.2.2.2.2.2.2.2.2.2.2.2.2.2.2.2.2.2.2.2.2.2.2.2.2.2.2.2.2.1
theorem dX6_packed_163 : decode cX6_packed 163 = .ok (.iaload, 1) := dcq_189.2.2.2.2.2.2.2.2.2.2.2.2.2.2.2.2.2.2.2.2.2.2.2.2.2.2.2.2.2.2.2.2.2.2.2.2.2.2.2.2.2.1
theorem dX6_packed_164 : decode cX6_packed 164 = .ok (.ireturn, 1) := dcq_189.2.2.2.2.2.2.2.2.2.2.2.2.2.2.2.2.2.2.2.2.2.2.2.2.2.2.2.2.2.2.2.2.2.2.2.2.2.2.2.2.2.2.1
set_option maxRecDepth 100000 in
theorem dcb_190 : dcb cX6_isSo [(0, (.iconst 1, 1)), (1, (.istore_n 2, 1)), (2, (.iconst 0, 1)), (3, (.istore_n 3, 1)), (4, (.iconst 0, 1)), (5, (.istore 4, 2)), (7, (.iload 4, 2)), (9, (.aload_n 0, 1)), (10, (.getfield 37, 3)), (13, (.iload_n 1, 1)), (14, (.iaload, 1)), (15, (.if_icmp .ge 63, 3)), (18, (.iload_n 2, 1)), (19, (.ifCond .eq 59, 3)), (22, (.iload_n 3, 1)), (23, (.aload_n 0, 1)), (24, (.invokevirtual 226, 3)), (27, (.iadd, 1)), (28, (.istore_n 3, 1)), (29, (.aload_n 0, 1)), (30, (.getfield 40, 3)), (33, (.bipush 40, 2)), (35, (.iload_n 1, 1)), (36, (.imul, 1)), (37, (.iload 4, 2)), (39, (.iadd, 1)), (40, (.laload, 1)), (41, (.ldc2_w 100, 3)), (44, (.lcmp, 1)), (45, (.ifCond .eq 21, 3)), (48, (.aload_n 0, 1)), (49, (.getfield 40, 3)), (52, (.bipush 40, 2)), (54, (.iload_n 1, 1)), (55, (.imul, 1)), (56, (.iload 4, 2)), (58, (.iadd, 1)), (59, (.laload, 1)), (60, (.iload_n 3, 1)), (61, (.i2l, 1)), (62, (.lcmp, 1)), (63, (.ifCond .ne 7, 3)), (66, (.iconst 1, 1)), (67, (.goto 4, 3)), (70, (.iconst 0, 1)), (71, (.istore_n 2, 1)), (72, (.iinc 4 1, 3)), (75, (.goto (-68), 3)), (78, (.aload_n 0, 1)), (79, (.getfield 19, 3)), (82, (.aload_n 0, 1)), (83, (.getfield 7, 3)), (86, (.invokestatic 170, 3)), (89, (.iload_n 2, 1)), (90, (.ireturn, 1))] = true := by decide +kernel
set_option maxRecDepth 100000 in
theorem dcq_190 : (decode cX6_isSo 0 = .ok (.iconst 1, 1)) ∧ (decode cX6_isSo 1 = .ok (.istore_n 2, 1)) ∧ (decode cX6_isSo 2 = .ok (.iconst 0, 1)) ∧ (decode cX6_isSo 3 = .ok (.istore_n 3, 1)) ∧ (decode cX6_isSo 4 = .ok (.iconst 0, 1)) ∧ (decode cX6_isSo 5 = .ok (.istore 4, 2)) ∧ (decode cX6_isSo 7 = .ok (.iload 4, 2)) ∧ (decode cX6_isSo 9 = .ok (.aload_n 0, 1)) ∧ (decode cX6_isSo 10 = .ok (.getfield 37, 3)) ∧ (decode cX6_isSo 13 = .ok (.iload_n 1, 1)) ∧ (decode cX6_isSo 14 = .ok (.iaload, 1)) ∧ (decode cX6_isSo 15 = .ok (.if_icmp .ge 63, 3)) ∧ (decode cX6_isSo 18 = .ok (.iload_n 2, 1)) ∧ (decode cX6_isSo 19 = .ok (.ifCond .eq 59, 3)) ∧ (decode cX6_isSo 22 = .ok (.iload_n 3, 1)) ∧ (decode cX6_isSo 23 = .ok (.aload_n 0, 1)) ∧ (decode cX6_isSo 24 = .ok (.invokevirtual 226, 3)) ∧ (decode cX6_isSo 27 = .ok (.iadd, 1)) ∧ (decode cX6_isSo 28 = .ok (.istore_n 3, 1)) ∧ (decode cX6_isSo 29 = .ok (.aload_n 0, 1)) ∧ (decode cX6_isSo 30 = .ok (.getfield 40, 3)) ∧ (decode cX6_isSo 33 = .ok (.bipush 40, 2)) ∧ (decode cX6_isSo 35 = .ok (.iload_n 1, 1)) ∧ (decode cX6_isSo 36 = .ok (.imul, 1)) ∧ (decode cX6_isSo 37 = .ok (.iload 4, 2)) ∧ (decode cX6_isSo 39 = .ok (.iadd, 1)) ∧ (decode cX6_isSo 40 = .ok (.laload, 1)) ∧ (decode cX6_isSo 41 = .ok (.ldc2_w 100, 3)) ∧ (decode cX6_isSo 44 = .ok (.lcmp, 1)) ∧ (decode cX6_isSo 45 = .ok (.ifCond .eq 21, 3)) ∧ (decode cX6_isSo 48 = .ok (.aload_n 0, 1)) ∧ (decode cX6_isSo 49 = .ok (.getfield 40, 3)) ∧ (decode cX6_isSo 52 = .ok (.bipush 40, 2)) ∧ (decode cX6_isSo 54 = .ok (.iload_n 1, 1)) ∧ (decode cX6_isSo 55 = .ok (.imul, 1)) ∧ (decode cX6_isSo 56 = .ok (.iload 4, 2)) ∧ (decode cX6_isSo 58 = .ok (.iadd, 1)) ∧ (decode cX6_isSo 59 = .ok (.laload, 1)) ∧ (decode cX6_isSo 60 = .ok (.iload_n 3, 1)) ∧ (decode cX6_isSo 61 = .ok (.i2l, 1)) ∧ (decode cX6_isSo 62 = .ok (.lcmp, 1)) ∧ (decode cX6_isSo 63 = .ok (.ifCond .ne 7, 3)) ∧ (decode cX6_isSo 66 = .ok (.iconst 1, 1)) ∧ (decode cX6_isSo 67 = .ok (.goto 4, 3)) ∧ (decode cX6_isSo 70 = .ok (.iconst 0, 1)) ∧ (decode cX6_isSo 71 = .ok (.istore_n 2, 1)) ∧ (decode cX6_isSo 72 = .ok (.iinc 4 1, 3)) ∧ (decode cX6_isSo 75 = .ok (.goto (-68), 3)) ∧ (decode cX6_isSo 78 = .ok (.aload_n 0, 1)) ∧ (decode cX6_isSo 79 = .ok (.getfield 19, 3)) ∧ (decode cX6_isSo 82 = .ok (.aload_n 0, 1)) ∧ (decode cX6_isSo 83 = .ok (.getfield 7, 3)) ∧ (decode cX6_isSo 86 = .ok (.invokestatic 170, 3)) ∧ (decode cX6_isSo 89 = .ok (.iload_n 2, 1)) ∧ (decode cX6_isSo 90 = .ok (.ireturn, 1)) ∧ True := have h := dcA_of dcb_190; h
theorem dX6_isSo_0 : decode cX6_isSo 0 = .ok (.iconst 1, 1) := dcq_190.1
theorem dX6_isSo_1 : decode cX6_isSo 1 = .ok (.istore_n 2, 1) := dcq_190.2.1
theorem dX6_isSo_2 : decode cX6_isSo 2 = .ok (.iconst 0, 1) := dcq_190.2.2.1
theorem dX6_isSo_3 : decode cX6_isSo 3 = .ok (.istore_n 3, 1) := dcq_190.2.2.2.1
theorem dX6_isSo_4 : decode cX6_isSo 4 = .ok (.iconst 0, 1) := dcq_190.2.2.2.2.1
theorem dX6_isSo_5 : decode cX6_isSo 5 = .ok (.istore 4, 2) := dcq_190.2.2.2.2.2.1
theorem dX6_isSo_7 : decode cX6_isSo 7 = .ok (.iload 4, 2) := dcq_190.2.2.2.2.2.2.1
theorem dX6_isSo_9 : decode cX6_isSo 9 = .ok (.aload_n 0, 1) := dcq_190.2.2.2.2.2.2.2.1
theorem dX6_isSo_10 : decode cX6_isSo 10 = .ok (.getfield 37, 3) := dcq_190.2.2.2.2.2.2.2.2.1
theorem dX6_isSo_13 : decode cX6_isSo 13 = .ok (.iload_n 1, 1) := dcq_190.2.2.2.2.2.2.2.2.2.1
theorem dX6_isSo_14 : decode cX6_isSo 14 = .ok (.iaload, 1) := dcq_190.2.2.2.2.2.2.2.2.2.2.1
theorem dX6_isSo_15 : decode cX6_isSo 15 = .ok (.if_icmp .ge 63, 3) := dcq_190.2.2.2.2.2.2.2.2.2.2.2.1
theorem dX6_isSo_18 : decode cX6_isSo 18 = .ok (.iload_n 2, 1) := dcq_190.2.2.2.2.2.2.2.2.2.2.2.2.1
theorem dX6_isSo_19 : decode cX6_isSo 19 = .ok (.ifCond .eq 59, 3) := dcq_190.2.2.2.2.2.2.2.2.2.2.2.2.2.1
theorem dX6_isSo_22 : decode cX6_isSo 22 = .ok (.iload_n 3, 1) := dcq_190.2.2.2.2.2.2.2.2.2.2.2.2.2.2.1
theorem dX6_isSo_23 : decode cX6_isSo 23 = .ok (.aload_n 0, 1) := dcq_190.2.2.2.2.2.2.2.2.2.2.2.2.2.2.2.1
theorem dX6_isSo_24 : decode cX6_isSo 24 = .ok (.invokevirtual 226, 3) := dcq_190.2.2.2.2.2.2.2.2.2.2.2.2.2.2.2.2.1
theorem dX6_isSo_27 : decode cX6_isSo 27 = .ok (.iadd, 1) := dcq_190.2.2.2.2.2.2.2.2.2.2.2.2.2.2.2.2.2.1
theorem dX6_isSo_28 : decode cX6_isSo 28 = .ok (.istore_n 3, 1) := dcq_190.2.2.2.2.2.2.2.2.2.2.2.2.2.2.2.2.2.2.1
theorem dX6_isSo_29 : decode cX6_isSo 29 = .ok (.aload_n 0, 1) := dcq_190.2.2.2.2.2.2.2.2.2.2.2.2.2.2.2.2.2.2.2.1
theorem dX6_isSo_30 : decode cX6_isSo 30 = .ok (.getfield 40, 3) := dcq_190.2.2.2.2.2.2.2.2.2.2.2.2.2.2.2.2.2.2.2.2.1
theorem dX6_isSo_33 : decode cX6_isSo 33 = .ok (.bipush 40, 2) := dcq_190.2.2.2.2.2.2.2.2.2.2.2.2.2.2.2.2.2.2.2.2.2.1
theorem dX6_isSo_35 : decode cX6_isSo 35 = .ok (.iload_n 1, 1) := dcq_190.2.2.2.2.2.2.2.2.2.2.2.2.2.2.2.2.2.2.2.2.2.2.1
theorem dX6_isSo_36 : decode cX6_isSo 36 = .ok (.imul, 1) := dcq_190.2.2.2.2.2.2.2.2.2.2.2.2.2.2.2.2.2.2.2.2.2.2.2.1
theorem dX6_isSo_37 : decode cX6_isSo 37 = .ok (.iload 4, 2) := dcq_190.2.2.2.2.2.2.2.2.2.2.2.2.2.2.2.2.2.2.2.2.2.2.2.2.1
theorem dX6_isSo_39 : decode cX6_isSo 39 = .ok (.iadd, 1) := dcq_190.2.2.2.2.2.2.2.2.2.2.2.2.2.2.2.2.2.2.2.2.2.2.2.2.2.1
theorem dX6_isSo_40 : decode cX6_isSo 40 = .ok (.laload, 1) := dcq_190.2.2.2.2.2.2.2.2.2.2.2.2.2.2.2.2.2.2.2.2.2.2.2.2.2.2.1
theorem dX6_isSo_41 : decode cX6_isSo 41 = .ok (.ldc2_w 100, 3) := dcq_190.2.2.2.2.2.2.2.2.2.2.2.2.2.2.2.2.2.2.2.2.2.2.2.2.2.2.2.1
theorem dX6_isSo_44 : decode cX6_isSo 44 = .ok (.lcmp, 1) := dcq_190.2.2.2.2.2.2.2.2.2.2.2.2.2.2.2.2.2.2.2.2.2.2.2.2.2.2.2.2.1
theorem dX6_isSo_45 : decode cX6_isSo 45 = .ok (.ifCond .eq 21, 3) := dcq_190.2.2.2.2.2.2.2.2.2.2.2.2.2.2.2.2.2.2.2.2.2.2.2.2.2.2.2.2.2.1
theorem dX6_isSo_48 : decode cX6_isSo 48 = .ok (.aload_n 0, 1) := dcq_190.2.2.2.2.2.2.2.2.2.2.2.2.2.2.2.2.2.2.2.2.2.2.2.2.2.2.2.2.2.2.1
theorem dX6_isSo_49 : decode cX6_isSo 49 = .ok (.getfield 40, 3) := dcq_190.2.2.2.2.2.2.2.2.2.2.2.2.2.2.2.2.2.2.2.2.2.2.2.2.2.2.2.2.2.2.2.1
theorem dX6_isSo_52 : decode cX6_isSo 52 = .ok (.bipush 40, 2) := dcq_190.2.2.2.2.2.2.2.2.2.2.2.2.2.2.2.2.2.2.2.2.2.2.2.2.2.2.2.2.2.2.2.2.1
theorem dX6_isSo_54 : decode cX6_isSo 54 = .ok (.iload_n 1, 1) := dcq_190.2.2.2.2.2.2.2.2.2.2.2.2.2.2.2.2.2.2.2.2.2.2.2.2.2.2.2.2.2.2.2.2.2.1
theorem dX6_isSo_55 : decode cX6_isSo 55 = .ok (.imul, 1) := dcq_190.2.2.2.2.2.2.2.2.2.2.2.2.2.2.2.2.2.2.2.2.2.2.2.2.2.2.2.2.2.2.2.2.2.2.1
theorem dX6_isSo_56 : decode cX6_isSo 56 = .ok (.iload 4, 2) := dcq_190.2.2.2.2.2.2.2.2.2.2.2.2.2.2.2.2.2.2.2.2.2.2.2.2.2.2.2.2.2.2.2.2.2.2.2.1
theorem dX6_isSo_58 : decode cX6_isSo 58 = .ok (.iadd, 1) := dcq_190.2.2.2.2.2.2.2.2.2.2.2.2.2.2.2.2.2.2.2.2.2.2.2.2.2.2.2.2.2.2.2.2.2.2.2.2.1
theorem dX6_isSo_59 : decode cX6_isSo 59 = .ok (.laload, 1) := dcq_190.2.2.2.2.2.2.2.2.2.2.2.2.2.2.2.2.2.2.2.2.2.2.2.2.2.2.2.2.2.2.2.2.2.2.2.2.2.1
theorem dX6_isSo_60 : decode cX6_isSo 60 = .ok (.iload_n 3, 1) := dcq_190.2.2.2.2.2.2.2.2.2.2.2.2.2.2.2.2.2.2.2.2.2.2.2.2.2.2.2.2.2.2.2.2.2.2.2.2.2.2.1
theorem dX6_isSo_61 : decode cX6_isSo 61 = .ok (.i2l, 1) := dcq_190.2.2.2.2.2.2.2.2.2.2.2.2.2.2.2.2.2.2.2.2.2.2.2.2.2.2.2.2.2.2.2.2.2.2.2.2.2.2.2.1
theorem dX6_isSo_62 : decode cX6_isSo 62 = .ok (.lcmp, 1) := dcq_190.2.2.2.2.2.2.2.2.2.2.2.2.2.2.2.2.2.2.2.2.2.2.2.2.2.2.2.2.2.2.2.2.2.2.2.2.2.2.2.2.1
theorem dX6_isSo_63 : decode cX6_isSo 63 = .ok (.ifCond .ne 7, 3) := dcq_190.2.2.2.2.2.2.2.2.2.2.2.2.2.2.2.2.2.2.2.2.2.2.2.2.2.2.2.2.2.2.2.2.2.2.2.2.2.2.2.2.2.1
theorem dX6_isSo_66 : decode cX6_isSo 66 = .ok (.iconst 1, 1) := dcq_190.2.2.2.2.2.2.2.2.2.2.2.2.2.2.2.2.2.2.2.2.2.2.2.2.2.2.2.2.2.2.2.2.2.2.2.2.2.2.2.2.2.2.1
theorem dX6_isSo_67 : decode cX6_isSo 67 = .ok (.goto 4, 3) := dcq_190.2.2.2.2.2.2.2.2.2.2.2.2.2.2.2.2.2.2.2.2.2.2.2.2.2.2.2.2.2.2.2.2.2.2.2.2.2.2.2.2.2.2.2.1
theorem dX6_isSo_70 : decode cX6_isSo 70 = .ok (.iconst 0, 1) := dcq_190.2.2.2.2.2.2.2.2.2.2.2.2.2.2.2.2.2.2.2.2.2.2.2.2.2.2.2.2.2.2.2.2.2.2.2.2.2.2.2.2.2.2.2.2.1
theorem dX6_isSo_71 : decode cX6_isSo 71 = .ok (.istore_n 2, 1) := dcq_190.2.2.2.2.2.2.2.2.2.2.2.2.2.2.2.2.2.2.2.2.2.2.2.2.2.2.2.2.2.2.2.2.2.2.2.2.2.2.2.2.2.2.2.2.2.1
theorem dX6_isSo_72 : decode cX6_isSo 72 = .ok (.iinc 4 1, 3) := dcq_190.2.2.2.2.2.2.2.2.2.2.2.2.2.2.2.2.2.2.2.2.2.2.2.2.2.2.2.2.2.2.2.2.2.2.2.2.2.2.2.2.2.2.2.2.2.2.1
theorem dX6_isSo_75 : decode cX6_isSo 75 = .ok (.goto (-68), 3) := dcq_190.2.2.2.2.2.2.2.2.2.2.2.2.2.2.2.2.2.2.2.2.2.2.2.2.2.2.2.2.2.2.2.2.2.2.2.2.2.2.2.2.2.2.2.2.2.2.2.1
theorem dX6_isSo_78 : decode cX6_isSo 78 = .ok (.aload_n 0, 1) := dcq_190.2.2.2.2.2.2.2.2.2.2.2.2.2.2.2.2.2.2.2.2.2.2.2.2.2.2.2.2.2.2.2.2.2.2.2.2.2.2.2.2.2.2.2.2.2.2.2.2.1
theorem dX6_isSo_79 : decode cX6_isSo 79 = .ok (.getfield 19, 3) := dcq_190.2.2.2.2.2.2.2.2.2.2.2.2.2.2.2.2.2.2.2.2.2.2.2.2.2.2.2.2.2.2.2.2.2.2.2.2.2.2.2.2.2.2.2.2.2.2.2.2.2.1
theorem dX6_isSo_82 : decode cX6_isSo 82 = .ok (.aload_n 0, 1) := dcq_190.2.2.2.2.2.2.2.2.2.2.2.2.2.2.2.2.2.2.2.2.2.2.2.2.2.2.2.2.2.2.2.2.2.2.2.2.2.2.2.2.2.2.2.2.2.2.2.2.2.2.1
theorem dX6_isSo_83 : decode cX6_isSo 83 = .ok (.getfield 7, 3) := dcq_190.2.2.2.2.2.2.2.2.2.2.2.2.2.2.2.2.2.2.2.2.2.2.2.2.2.2.2.2.2.2.2.2.2.2.2.2.2.2.2.2.2.2.2.2.2.2.2.2.2.2.2.1
theorem dX6_isSo_86 : decode cX6_isSo 86 = .ok (.invokestatic 170, 3) := dcq_190.2.2.2.2.2.2.2.2.2.2.2.2.2.2.2.2.2.2.2.2.2.2.2.2.2.2.2.2.2.2.2.2.2.2.2.2.2.2.2.2.2.2.2.2.2.2.2.2.2.2.2.2.1
theorem dX6_isSo_89 : decode cX6_isSo 89 = .ok (.iload_n 2, 1) := dcq_190.2.2.2.2.2.2.2.2.2.2.2.2.2.2.2.2.2.2.2.2.2.2.2.2.2.2.2.2.2.2.2.2.2.2.2.2.2.2.2.2.2.2.2.2.2.2.2.2.2.2.2.2.2.1
theorem dX6_isSo_90 : decode cX6_isSo 90 = .ok (.ireturn, 1) := dcq_190.2.2.2.2.2.2.2.2.2.2.2.2.2.2.2.2.2.2.2.2.2.2.2.2.2.2.2.2.2.2.2.2.2.2.2.2.2.2.2.2.2.2.2.2.2.2.2.2.2.2.2.2.2.2.1
set_option maxRecDepth 100000 in
theorem dcb_191 : dcb cX6_fits [(0, (.iload_n 1, 1)), (1, (.invokestatic 251, 3)), (4, (.ifCond .eq 20, 3)), (7, (.aload_n 0, 1)), (8, (.iload_n 2, 1)), (9, (.invokevirtual 188, 3)), (12, (.ifCond .eq 12, 3)), (15, (.iload_n 3, 1)), (16, (.iconst 0, 1)), (17, (.iconst 1, 1)), (18, (.invokestatic 60, 3)), (21, (.ifCond .ne 5, 3)), (24, (.iconst (-1), 1)), (25, (.ireturn, 1)), (26, (.aload_n 0, 1)), (27, (.getfield 34, 3)), (30, (.iload_n 1, 1)), (31, (.iaload, 1)), (32, (.ifCond .ge 6, 3)), (35, (.bipush (-11), 2)), (37, (.ireturn, 1)), (38, (.aload_n 0, 1)), (39, (.getfield 7, 3)), (42, (.aload_n 0, 1)), (43, (.getfield 19, 3)), (46, (.invokestatic 170, 3)), (49, (.iconst 0, 1)), (50, (.istore 4, 2)), (52, (.bipush (-3), 2)), (54, (.istore 5, 2)), (56, (.bipush 99, 2)), (58, (.istore 6, 2)), (60, (.iload 6, 2)), (62, (.ifCond .lt 53, 3)), (65, (.aload_n 0, 1)), (66, (.iload_n 2, 1)), (67, (.iconst 1, 1)), (68, (.iload 6, 2)), (70, (.invokevirtual 184, 3)), (73, (.aload_n 0, 1)), (74, (.iload_n 1, 1)), (75, (.invokevirtual 254, 3)), (78, (.istore 7, 2)), (80, (.iload 4, 2)), (82, (.iload 7, 2)), (84, (.ifCond .eq 7, 3)), (87, (.iconst 1, 1)), (88, (.goto 4, 3)), (91, (.iconst 0, 1)), (92, (.iadd, 1)), (93, (.istore 4, 2)), (95, (.iload 7, 2)), (97, (.ifCond .eq 8, 3)), (100, (.iload 6, 2)), (102, (.goto 5, 3)), (105, (.iload 5, 2)), (107, (.istore 5, 2)), (109, (.iinc 6 (-1), 3)), (112, (.goto (-52), 3)), (115, (.iload_n 3, 1))] = true := by decide +kernel
set_option maxRecDepth 100000 in
theorem dcq_191 : (decode cX6_fits 0 = .ok (.iload_n 1, 1)) ∧ (decode cX6_fits 1 = .ok (.invokestatic 251, 3)) ∧ (decode cX6_fits 4 = .ok (.ifCond .eq 20, 3)) ∧ (decode cX6_fits 7 = .ok (.aload_n 0, 1)) ∧ (decode cX6_fits 8 = .ok (.iload_n 2, 1)) ∧ (decode cX6_fits 9 = .ok (.invokevirtual 188, 3)) ∧ (decode cX6_fits 12 = .ok (.ifCond .eq 12, 3)) ∧ (decode cX6_fits 15 = .ok (.iload_n 3, 1)) ∧ (decode cX6_fits 16 = .ok (.iconst 0, 1)) ∧ (decode cX6_fits 17 = .ok (.iconst 1, 1)) ∧ (decode cX6_fits 18 = .ok (.invokestatic 60, 3)) ∧ (decode cX6_fits 21 = .ok (.ifCond .ne 5, 3)) ∧ (decode cX6_fits 24 = .ok (.iconst (-1), 1)) ∧ (decode cX6_fits 25 = .ok (.ireturn, 1)) ∧ (decode cX6_fits 26 = .ok (.aload_n 0, 1)) ∧ (decode cX6_fits 27 = .ok (.getfield 34, 3)) ∧ (decode cX6_fits 30 = .ok (.iload_n 1, 1)) ∧ (decode cX6_fits 31 = .ok (.iaload, 1)) ∧ (decode cX6_fits 32 = .ok (.ifCond .ge 6, 3)) ∧ (decode cX6_fits 35 = .ok (.bipush (-11), 2)) ∧ (decode cX6_fits 37 = .ok (.ireturn, 1)) ∧ (decode cX6_fits 38 = .ok (.aload_n 0, 1)) ∧ (decode cX6_fits 39 = .ok (.getfield 7, 3)) ∧ (decode cX6_fits 42 = .ok (.aload_n 0, 1)) ∧ (decode cX6_fits 43 = .ok (.getfield 19, 3)) ∧ (decode cX6_fits 46 = .ok (.invokestatic 170, 3)) ∧ (decode cX6_fits 49 = .ok (.iconst 0, 1)) ∧ (decode cX6_fits 50 = .ok (.istore 4, 2)) ∧ (decode cX6_fits 52 = .ok (.bipush (-3), 2)) ∧ (decode cX6_fits 54 = .ok (.istore 5, 2)) ∧ (decode cX6_fits 56 = .ok (.bipush 99, 2)) ∧ (decode cX6_fits 58 = .ok (.istore 6, 2)) ∧ (decode cX6_fits 60 = .ok (.iload 6, 2)) ∧ (decode cX6_fits 62 = .ok (.ifCond .lt 53, 3)) ∧ (decode cX6_fits 65 = .ok (.aload_n 0, 1)) ∧ (decode cX6_fits 66 = .ok (.iload_n 2, 1)) ∧ (decode cX6_fits 67 = .ok (.iconst 1, 1)) ∧ (decode cX6_fits 68 = .ok (.iload 6, 2)) ∧ (decode cX6_fits 70 = .ok (.invokevirtual 184, 3)) ∧ (decode cX6_fits 73 = .ok (.aload_n 0, 1)) ∧ (decode cX6_fits 74 = .ok (.iload_n 1, 1)) ∧ (decode cX6_fits 75 = .ok (.invokevirtual 254, 3)) ∧ (decode cX6_fits 78 = .ok (.istore 7, 2)) ∧ (decode cX6_fits 80 = .ok (.iload 4, 2)) ∧ (decode cX6_fits 82 = .ok (.iload 7, 2)) ∧ (decode cX6_fits 84 = .ok (.ifCond .eq 7, 3)) ∧ (decode cX6_fits 87 = .ok (.iconst 1, 1)) ∧ (decode cX6_fits 88 = .ok (.goto 4, 3)) ∧ (decode cX6_fits 91 = .ok (.iconst 0, 1)) ∧ (decode cX6_fits 92 = .ok (.iadd, 1)) ∧ (decode cX6_fits 93 = .ok (.istore 4, 2)) ∧ (decode cX6_fits 95 = .ok (.iload 7, 2)) ∧ (decode cX6_fits 97 = .ok (.ifCond .eq 8, 3)) ∧ (decode cX6_fits 100 = .ok (.iload 6, 2)) ∧ (decode cX6_fits 102 = .ok (.goto 5, 3)) ∧ (decode cX6_fits 105 = .ok (.iload 5, 2)) ∧ (decode cX6_fits 107 = .ok (.istore 5, 2)) ∧ (decode cX6_fits 109 = .ok (.iinc 6 (-1), 3)) ∧ (decode cX6_fits 112 = .ok (.goto (-52), 3)) ∧ (decode cX6_fits 115 = .ok (.iload_n 3, 1)) ∧ True := have h := dcA_of dcb_191; h
theorem dX6_fits_0 : decode cX6_fits 0 = .ok (.iload_n 1, 1) := dcq_191.1
theorem dX6_fits_1 : decode cX6_fits 1 = .ok (.invokestatic 251, 3) := dcq_191.2.1
theorem dX6_fits_4 : decode cX6_fits 4 = .ok (.ifCond .eq 20, 3) := dcq_191.2.2.1
theorem dX6_fits_7 : decode cX6_fits 7 = .ok (.aload_n 0, 1) := dcq_191.2.2.2.1
theorem dX6_fits_8 : decode cX6_fits 8 = .ok (.iload_n 2, 1) := dcq_191.2.2.2.2.1
theorem dX6_fits_9 : decode cX6_fits 9 = .ok (.invokevirtual 188, 3) := dcq_191.2.2.2.2.2.1
theorem dX6_fits_12 : decode cX6_fits 12 = .ok (.ifCond .eq 12, 3) := dcq_191.2.2.2.2.2.2.1
theorem dX6_fits_15 : decode cX6_fits 15 = .ok (.iload_n 3, 1) := dcq_191.2.2.2.2.2.2.2.1
theorem dX6_fits_16 : decode cX6_fits 16 = .ok (.iconst 0, 1) := dcq_191.2.2.2.2.2.2.2.2.1
theorem dX6_fits_17 : decode cX6_fits 17 = .ok (.iconst 1, 1) := dcq_191.2.2.2.2.2.2.2.2.2.1
theorem dX6_fits_18 : decode cX6_fits 18 = .ok (.invokestatic 60, 3) := dcq_191.2.2.2.2.2.2.2.2.2.2.1
theorem dX6_fits_21 : decode cX6_fits 21 = .ok (.ifCond .ne 5, 3) := dcq_191.2.2.2.2.2.2.2.2.2.2.2.1
theorem dX6_fits_24 : decode cX6_fits 24 = .ok (.iconst (-1), 1) := dcq_191.2.2.2.2.2.2.2.2.2.2.2.2.1
theorem dX6_fits_25 : decode cX6_fits 25 = .ok (.ireturn, 1) := dcq_191.2.2.2.2.2.2.2.2.2.2.2.2.2.1
theorem dX6_fits_26 : decode cX6_fits 26 = .ok (.aload_n 0, 1) := dcq_191.2.2.2.2.2.2.2.2.2.2.2.2.2.2.1
theorem dX6_fits_27 : decode cX6_fits 27 = .ok (.getfield 34, 3) := dcq_191.2.2.2.2.2.2.2.2.2.2.2.2.2.2.2.1
theorem dX6_fits_30 : decode cX6_fits 30 = .ok (.iload_n 1, 1) := dcq_191.2.2.2.2.2.2.2.2.2.2.2.2.2.2.2.2.1
theorem dX6_fits_31 : decode cX6_fits 31 = .ok (.iaload, 1) := dcq_191.2.2.2.2.2.2.2.2.2.2.2.2.2.2.2.2.2.1
theorem dX6_fits_32 : decode cX6_fits 32 = .ok (.ifCond .ge 6, 3) := dcq_191.2.2.2.2.2.2.2.2.2.2.2.2.2.2.2.2.2.2.1
theorem dX6_fits_35 : decode cX6_fits 35 = .ok (.bipush (-11), 2) := dcq_191.2.2.2.2.2.2.2.2.2.2.2.2.2.2.2.2.2.2.2.1
theorem dX6_fits_37 : decode cX6_fits 37 = .ok (.ireturn, 1) := dcq_191.2.2.2.2.2.2.2.2.2.2.2.2.2.2.2.2.2.2.2.2.1
theorem dX6_fits_38 : decode cX6_fits 38 = .ok (.aload_n 0, 1) := dcq_191.2.2.2.2.2.2.2.2.2.2.2.2.2.2.2.2.2.2.2.2.2.1
theorem dX6_fits_39 : decode cX6_fits 39 = .ok (.getfield 7, 3) := dcq_191.2.2.2.2.2.2.2.2.2.2.2.2.2.2.2.2.2.2.2.2.2.2.1
theorem dX6_fits_42 : decode cX6_fits 42 = .ok (.aload_n 0, 1) := dcq_191.2.2.2.2.2.2.2.2.2.2.2.2.2.2.2.2.2.2.2.2.2.2.2.1
theorem dX6_fits_43 : decode cX6_fits 43 = .ok (.getfield 19, 3) := dcq_191.2.2.2.2.2.2.2.2.2.2.2.2.2.2.2.2.2.2.2.2.2.2.2.2.1
theorem dX6_fits_46 : decode cX6_fits 46 = .ok (.invokestatic 170, 3) := dcq_191.2.2.2.2.2.2.2.2.2.2.2.2.2.2.2.2.2.2.2.2.2.2.2.2.2.1
theorem dX6_fits_49 : decode cX6_fits 49 = .ok (.iconst 0, 1) := dcq_191.2.2.2.2.2.2.2.2.2.2.2.2.2.2.2.2.2.2.2.2.2.2.2.2.2.2.1
theorem dX6_fits_50 : decode cX6_fits 50 = .ok (.istore 4, 2) := dcq_191.2.2.2.2.2.2.2.2.2.2.2.2.2.2.2.2.2.2.2.2.2.2.2.2.2.2.2.1
theorem dX6_fits_52 : decode cX6_fits 52 = .ok (.bipush (-3), 2) := dcq_191.2.2.2.2.2.2.2.2.2.2.2.2.2.2.2.2.2.2.2.2.2.2.2.2.2.2.2.2.1
theorem dX6_fits_54 : decode cX6_fits 54 = .ok (.istore 5, 2) := dcq_191.2.2.2.2.2.2.2.2.2.2.2.2.2.2.2.2.2.2.2.2.2.2.2.2.2.2.2.2.2.1
theorem dX6_fits_56 : decode cX6_fits 56 = .ok (.bipush 99, 2) := dcq_191.2.2.2.2.2.2.2.2.2.2.2.2.2.2.2.2.2.2.2.2.2.2.2.2.2.2.2.2.2.2.1
theorem dX6_fits_58 : decode cX6_fits 58 = .ok (.istore 6, 2) := dcq_191.2.2.2.2.2.2.2.2.2.2.2.2.2.2.2.2.2.2.2.2.2.2.2.2.2.2.2.2.2.2.2.1
theorem dX6_fits_60 : decode cX6_fits 60 = .ok (.iload 6, 2) := dcq_191.2.2.2.2.2.2.2.2.2.2.2.2.2.2.2.2.2.2.2.2.2.2.2.2.2.2.2.2.2.2.2.2.1
theorem dX6_fits_62 : decode cX6_fits 62 = .ok (.ifCond .lt 53, 3) := dcq_191.2.2.2.2.2.2.2.2.2.2.2.2.2.2.2.2.2.2.2.2.2.2.2.2.2.2.2.2.2.2.2.2.2.1
theorem dX6_fits_65 : decode cX6_fits 65 = .ok (.aload_n 0, 1) := dcq_191.2.2.2.2.2.2.2.2.2.2.2.2.2.2.2.2.2.2.2.2.2.2.2.2.2.2.2.2.2.2.2.2.2.2.1
theorem dX6_fits_66 : decode cX6_fits 66 = .ok (.iload_n 2, 1) := dcq_191.2.2.2.2.2.2.2.2.2.2.2.2.2.2.2.2.2.2.2.2.2.2.2.2.2.2.2.2.2.2.2.2.2.2.2.1
theorem dX6_fits_67 : decode cX6_fits 67 = .ok (.iconst 1, 1) := dcq_191.2.2.2.2.2.2.2.2.2.2.2.2.2.2.2.2.2.2.2.2.2.2.2.2.2.2.2.2.2.2.2.2.2.2.2.2.1
theorem dX6_fits_68 : decode cX6_fits 68 = .ok (.iload 6, 2) := dcq_191.2.2.2.2.2.2.2.2.2.2.2.2.2.2.2.2.2.2.2.2.2.2.2.2.2.2.2.2.2.2.2.2.2.2.2.2.2.1
theorem dX6_fits_70 : decode cX6_fits 70 = .ok (.invokevirtual 184, 3) := dcq_191.2.2.2.2.2.2.2.2.2.2.2.2.2.2.2.2.2.2.2.2.2.2.2.2.2.2.2.2.2.2.2.2.2.2.2.2.2.2.1
theorem dX6_fits_73 : decode cX6_fits 73 = .ok (.aload_n 0, 1) := dcq_191.2.2.2.2.2.2.2.2.2.2.2.2.2.2.2.2.2.2.2.2.2.2.2.2.2.2.2.2.2.2.2.2.2.2.2.2.2.2.2.1
theorem dX6_fits_74 : decode cX6_fits 74 = .ok (.iload_n 1, 1) := dcq_191.2.2.2.2.2.2.2.2.2.2.2.2.2.2.2.2.2.2.2.2.2.2.2.2.2.2.2.2.2.2.2.2.2.2.2.2.2.2.2.2.1
theorem dX6_fits_75 : decode cX6_fits 75 = .ok (.invokevirtual 254, 3) := dcq_191.2.2.2.2.2.2.2.2.2.2.2.2.2.2.2.2.2.2.2.2.2.2.2.2.2.2.2.2.2.2.2.2.2.2.2.2.2.2.2.2.2.1
theorem dX6_fits_78 : decode cX6_fits 78 = .ok (.istore 7, 2) := dcq_191.2.2.2.2.2.2.2.2.2.2.2.2.2.2.2.2.2.2.2.2.2.2.2.2.2.2.2.2.2.2.2.2.2.2.2.2.2.2.2.2.2.2.1
theorem dX6_fits_80 : decode cX6_fits 80 = .ok (.iload 4, 2) := dcq_191.2.2.2.2.2.2.2.2.2.2.2.2.2.2.2.2.2.2.2.2.2.2.2.2.2.2.2.2.2.2.2.2.2.2.2.2.2.2.2.2.2.2.2.1
theorem dX6_fits_82 : decode cX6_fits 82 = .ok (.iload 7, 2) := dcq_191.2.2.2.2.2.2.2.2.2.2.2.2.2.2.2.2.2.2.2.2.2.2.2.2.2.2.2.2.2.2.2.2.2.2.2.2.2.2.2.2.2.2.2.2.1
theorem dX6_fits_84 : decode cX6_fits 84 = .ok (.ifCond .eq 7, 3) := dcq_191.2.2.2.2.2.2.2.2.2.2.2.2.2.2.2.2.2.2.2.2.2.2.2.2.2.2.2.2.2.2.2.2.2.2.2.2.2.2.2.2.2.2.2.2.2.1
theorem dX6_fits_87 : decode cX6_fits 87 = .ok (.iconst 1, 1) := dcq_191.2.2.2.2.2.2.2.2.2.2.2.2.2.2.2.2.2.2.2.2.2.2.2.2.2.2.2.2.2.2.2.2.2.2.2.2.2.2.2.2.2.2.2.2.2.2.1
theorem dX6_fits_88 : decode cX6_fits 88 = .ok (.goto 4, 3) := dcq_191.2.2.2.2.2.2.2.2.2.2.2.2.2.2.2.2.2.2.2.2.2.2.2.2.2.2.2.2.2.2.2.2.2.2.2.2.2.2.2.2.2.2.2.2.2.2.2.1
theorem dX6_fits_91 : decode cX6_fits 91 = .ok (.iconst 0, 1) := dcq_191.2.2.2.2.2.2.2.2.2.2.2.2.2.2.2.2.2.2.2.2.2.2.2.2.2.2.2.2.2.2.2.2.2.2.2.2.2.2.2.2.2.2.2.2.2.2.2.2.1
theorem dX6_fits_92 : decode cX6_fits 92 = .ok (.iadd, 1) := dcq_191.2.2.2.2.2.2.2.2.2.2.2.2.2.2.2.2.2.2.2.2.2.2.2.2.2.2.2.2.2.2.2.2.2.2.2.2.2.2.2.2.2.2.2.2.2.2.2.2.2.1
theorem dX6_fits_93 : decode cX6_fits 93 = .ok (.istore 4, 2) := dcq_191.2.2.2.2.2.2.2.2.2.2.2.2.2.2.2.2.2.2.2.2.2.2.2.2.2.2.2.2.2.2.2.2.2.2.2.2.2.2.2.2.2.2.2.2.2.2.2.2.2.2.1
theorem dX6_fits_95 : decode cX6_fits 95 = .ok (.iload 7, 2) := dcq_191.2.2.2.2.2.2.2.2.2.2.2.2.2.2.2.2.2.2.2.2.2.2.2.2.2.2.2.2.2.2.2.2.2.2.2.2.2.2.2.2.2.2.2.2.2.2.2.2.2.2.2.1
theorem dX6_fits_97 : decode cX6_fits 97 = .ok (.ifCond .eq 8, 3) := dcq_191.2.2.2.2.2.2.2.2.2.2.2.2.2.2.2.2.2.2.2.2.2.2.2.2.2.2.2.2.2.2.2.2.2.2.2.2.2.2.2.2.2.2.2.2.2.2.2.2.2.2.2.2.1
theorem dX6_fits_100 : decode cX6_fits 100 = .ok (.iload 6, 2) := dcq_191.2.2.2.2.2.2.2.2.2.2.2.2.2.2.2.2.2.2.2.2.2.2.2.2.2.2.2.2.2.2.2.2.2.2.2.2.2.2.2.2.2.2.2.2.2.2.2.2.2.2.2.2.2.1
theorem dX6_fits_102 : decode cX6_fits 102 = .ok (.goto 5, 3) := dcq_191.2.2.2.2.2.2.2.2.2.2.2.2.2.2.2.2.2.2.2.2.2.2.2.2.2.2.2.2.2.2.2.2.2.2.2.2.2.2.2.2.2.2.2.2.2.2.2.2.2.2.2.2.2.2.1
theorem dX6_fits_105 : decode cX6_fits 105 = .ok (.iload 5, 2) := dcq_191.2.2.2.2.2.2.2.2.2.2.2.2.2.2.2.2.2.2.2.2.2.2.2.2.2.2.2.2.2.2.2.2.2.2.2.2.2.2.2.2.2.2.2.2.2.2.2.2.2.2.2.2.2.2.2.1
theorem dX6_fits_107 : decode cX6_fits 107 = .ok (.istore 5, 2) := dcq_191.2.2.2.2.2.2.2.2.2.2.2.2.2.2.2.2.2.2.2.2.2.2.2.2.2.2.2.2.2.2.2.2.2.2.2.2.2.2.2.2.2.2.2.2.2.2.2.2.2.2.2.2.2.2.2.2.1
theorem dX6_fits_109 : decode cX6_fits 109 = .ok (.iinc 6 (-1), 3) := dcq_191.2.2.2.2.2.2.2.2.2.2.2.2.2.2.2.2.2.2.2.2.2.2.2.2.2.2.2.2.2.2.2.2.2.2.2.2.2.2.2.2.2.2.2.2.2.2.2.2.2.2.2.2.2.2.2.2.2.1
theorem dX6_fits_112 : decode cX6_fits 112 = .ok (.goto (-52), 3) := dcq_191.2.2.2.2.2.2.2.2.2.2.2.2.2.2.2.2.2.2.2.2.2.2.2.2.2.2.2.2.2.2.2.2.2.2.2.2.2.2.2.2.2.2.2.2.2.2.2.2.2.2.2.2.2.2.2.2.2.2.1
theorem dX6_fits_115 : decode cX6_fits 115 = .ok (.iload_n 3, 1) := dcq_191.2.2.2.2.2.2.2.2.2.2.2.2.2.2.2.2.2.2.2.2.2.2.2.2.2.2.2.2.2.2.2.2.2.2.2.2.2.2.2.2.2.2.2.2.2.2.2.2.2.2.2.2.2.2.2.2.2.2.2.1
set_option maxRecDepth 100000 in
theorem dcb_192 : dcb cX6_fits [(116, (.ifCond .ne 8, 3)), (119, (.iload 4, 2)), (121, (.goto 5, 3)), (124, (.iload 5, 2)), (126, (.ireturn, 1))] = true := by decide +kernel
set_option maxRecDepth 100000 in
theorem dcq_192 : (decode cX6_fits 116 = .ok (.ifCond .ne 8, 3)) ∧ (decode cX6_fits 119 = .ok (.iload 4, 2)) ∧ (decode cX6_fits 121 = .ok (.goto 5, 3)) ∧ (decode cX6_fits 124 = .ok (.iload 5, 2)) ∧ (decode cX6_fits 126 = .ok (.ireturn, 1)) ∧ True := have h := dcA_of dcb_192; h
theorem dX6_fits_116 : decode cX6_fits 116 = .ok (.ifCond .ne 8, 3) := dcq_192.1
theorem dX6_fits_119 : decode cX6_fits 119 = .ok (.iload 4, 2) := dcq_192.2.1
theorem dX6_fits_121 : decode cX6_fits 121 = .ok (.goto 5, 3) := dcq_192.2.2.1
theorem dX6_fits_124 : decode cX6_fits 124 = .ok (.iload 5, 2) := dcq_192.2.2.2.1
theorem dX6_fits_126 : decode cX6_fits 126 = .ok (.ireturn, 1) := dcq_192.2.2.2.2.1
set_option maxRecDepth 100000 in
theorem dcb_193 : dcb cX6_lowest [(0, (.lload_n 2, 1)), (1, (.lstore 5, 2)), (3, (.lload_n 0, 1)), (4, (.lstore 7, 2)), (6, (.lload 7, 2)), (8, (.lconst 0, 1)), (9, (.lcmp, 1)), (10, (.ifCond .eq 21, 3)), (13, (.lload 5, 2)), (15, (.lload 7, 2)), (17, (.lrem, 1)), (18, (.lstore 9, 2)), (20, (.lload 7, 2)), (22, (.lstore 5, 2)), (24, (.lload 9, 2)), (26, (.lstore 7, 2)), (28, (.goto (-22), 3)), (31, (.iload 4, 2)), (33, (.ifCond .ne 10, 3)), (36, (.lload_n 0, 1)), (37, (.lload 5, 2)), (39, (.ldiv, 1)), (40, (.goto 7, 3)), (43, (.lload_n 2, 1)), (44, (.lload 5, 2)), (46, (.ldiv, 1)), (47, (.lreturn, 1))] = true := by decide +kernel
set_option maxRecDepth 100000 in
theorem dcq_193 : (decode cX6_lowest 0 = .ok (.lload_n 2, 1)) ∧ (decode cX6_lowest 1 = .ok (.lstore 5, 2)) ∧ (decode cX6_lowest 3 = .ok (.lload_n 0, 1)) ∧ (decode cX6_lowest 4 = .ok (.lstore 7, 2)) ∧ (decode cX6_lowest 6 = .ok (.lload 7, 2)) ∧ (decode cX6_lowest 8 = .ok (.lconst 0, 1)) ∧ (decode cX6_lowest 9 = .ok (.lcmp, 1)) ∧ (decode cX6_lowest 10 = .ok (.ifCond .eq 21, 3)) ∧ (decode cX6_lowest 13 = .ok (.lload 5, 2)) ∧ (decode cX6_lowest 15 = .ok (.lload 7, 2)) ∧ (decode cX6_lowest 17 = .ok (.lrem, 1)) ∧ (decode cX6_lowest 18 = .ok (.lstore 9, 2)) ∧ (decode cX6_lowest 20 = .ok (.lload 7, 2)) ∧ (decode cX6_lowest 22 = .ok (.lstore 5, 2)) ∧ (decode cX6_lowest 24 = .ok (.lload 9, 2)) ∧ (decode cX6_lowest 26 = .ok (.lstore 7, 2)) ∧ (decode cX6_lowest 28 = .ok (.goto (-22), 3)) ∧ (decode cX6_lowest 31 = .ok (.iload 4, 2)) ∧ (decode cX6_lowest 33 = .ok (.ifCond .ne 10, 3)) ∧ (decode cX6_lowest 36 = .ok (.lload_n 0, 1)) ∧ (decode cX6_lowest 37 = .ok (.lload 5, 2)) ∧ (decode cX6_lowest 39 = .ok (.ldiv, 1)) ∧ (decode cX6_lowest 40 = .ok (.goto 7, 3)) ∧ (decode cX6_lowest 43 = .ok (.lload_n 2, 1)) ∧ (decode cX6_lowest 44 = .ok (.lload 5, 2)) ∧ (decode cX6_lowest 46 = .ok (.ldiv, 1)) ∧ (decode cX6_lowest 47 = .ok (.lreturn, 1)) ∧ True := have h := dcA_of dcb_193; h
theorem dX6_lowest_0 : decode cX6_lowest 0 = .ok (.lload_n 2, 1) := dcq_193.1
theorem dX6_lowest_1 : decode cX6_lowest 1 = .ok (.lstore 5, 2) := dcq_193.2.1
theorem dX6_lowest_3 : decode cX6_lowest 3 = .ok (.lload_n 0, 1) := dcq_193.2.2.1
theorem dX6_lowest_4 : decode cX6_lowest 4 = .ok (.lstore 7, 2) := dcq_193.2.2.2.1
theorem dX6_lowest_6 : decode cX6_lowest 6 = .ok (.lload 7, 2) := dcq_193.2.2.2.2.1
theorem dX6_lowest_8 : decode cX6_lowest 8 = .ok (.lconst 0, 1) := dcq_193.2.2.2.2.2.1
theorem dX6_lowest_9 : decode cX6_lowest 9 = .ok (.lcmp, 1) := dcq_193.2.2.2.2.2.2.1
theorem dX6_lowest_10 : decode cX6_lowest 10 = .ok (.ifCond .eq 21, 3) := dcq_193.2.2.2.2.2.2.2.1
theorem dX6_lowest_13 : decode cX6_lowest 13 = .ok (.lload 5, 2) := dcq_193.2.2.2.2.2.2.2.2.1
theorem dX6_lowest_15 : decode cX6_lowest 15 = .ok (.lload 7, 2) := dcq_193.2.2.2.2.2.2.2.2.2.1
theorem dX6_lowest_17 : decode cX6_lowest 17 = .ok (.lrem, 1) := dcq_193.2.2.2.2.2.2.2.2.2.2.1
theorem dX6_lowest_18 : decode cX6_lowest 18 = .ok (.lstore 9, 2) := dcq_193.2.2.2.2.2.2.2.2.2.2.2.1
theorem dX6_lowest_20 : decode cX6_lowest 20 = .ok (.lload 7, 2) := dcq_193.2.2.2.2.2.2.2.2.2.2.2.2.1
theorem dX6_lowest_22 : decode cX6_lowest 22 = .ok (.lstore 5, 2) := dcq_193.2.2.2.2.2.2.2.2.2.2.2.2.2.1
theorem dX6_lowest_24 : decode cX6_lowest 24 = .ok (.lload 9, 2) := dcq_193.2.2.2.2.2.2.2.2.2.2.2.2.2.2.1
theorem dX6_lowest_26 : decode cX6_lowest 26 = .ok (.lstore 7, 2) := dcq_193.2.2.2.2.2.2.2.2.2.2.2.2.2.2.2.1
theorem dX6_lowest_28 : decode cX6_lowest 28 = .ok (.goto (-22), 3) := dcq_193.2.2.2.2.2.2.2.2.2.2.2.2.2.2.2.2.1
theorem dX6_lowest_31 : decode cX6_lowest 31 = .ok (.iload 4, 2) := dcq_193.2.2.2.2.2.2.2.2.2.2.2.2.2.2.2.2.2.1
theorem dX6_lowest_33 : decode cX6_lowest 33 = .ok (.ifCond .ne 10, 3) := dcq_193.2.2.2.2.2.2.2.2.2.2.2.2.2.2.2.2.2.2.1
theorem dX6_lowest_36 : decode cX6_lowest 36 = .ok (.lload_n 0, 1) := dcq_193.2.2.2.2.2.2.2.2.2.2.2.2.2.2.2.2.2.2.2.1
theorem dX6_lowest_37 : decode cX6_lowest 37 = .ok (.lload 5, 2) := dcq_193.2.2.2.2.2.2.2.2.2.2.2.2.2.2.2.2.2.2.2.2.1
theorem dX6_lowest_39 : decode cX6_lowest 39 = .ok (.ldiv, 1) := dcq_193.2.2.2.2.2.2.2.2.2.2.2.2.2.2.2.2.2.2.2.2.2.1
theorem dX6_lowest_40 : decode cX6_lowest 40 = .ok (.goto 7, 3) := dcq_193.2.2.2.2.2.2.2.2.2.2.2.2.2.2.2.2.2.2.2.2.2.2.1
theorem dX6_lowest_43 : decode cX6_lowest 43 = .ok (.lload_n 2, 1) := dcq_193.2.2.2.2.2.2.2.2.2.2.2.2.2.2.2.2.2.2.2.2.2.2.2.1
theorem dX6_lowest_44 : decode cX6_lowest 44 = .ok (.lload 5, 2) := dcq_193.2.2.2.2.2.2.2.2.2.2.2.2.2.2.2.2.2.2.2.2.2.2.2.2.1
theorem dX6_lowest_46 : decode cX6_lowest 46 = .ok (.ldiv, 1) := dcq_193.2.2.2.2.2.2.2.2.2.2.2.2.2.2.2.2.2.2.2.2.2.2.2.2.2.1
theorem dX6_lowest_47 : decode cX6_lowest 47 = .ok (.lreturn, 1) := dcq_193.2.2.2.2.2.2.2.2.2.2.2.2.2.2.2.2.2.2.2.2.2.2.2.2.2.2.1
set_option maxRecDepth 100000 in
theorem dcb_194 : dcb cX6_powerOf [(0, (.lconst 1, 1)), (1, (.lstore_n 2, 1)), (2, (.iconst 0, 1)), (3, (.istore 4, 2)), (5, (.iload 4, 2)), (7, (.iload_n 1, 1)), (8, (.if_icmp .ge 14, 3)), (11, (.lload_n 2, 1)), (12, (.iload_n 0, 1)), (13, (.i2l, 1)), (14, (.lmul, 1)), (15, (.lstore_n 2, 1)), (16, (.iinc 4 1, 3)), (19, (.goto (-14), 3)), (22, (.lload_n 2, 1)), (23, (.lreturn, 1))] = true := by decide +kernel
set_option maxRecDepth 100000 in
theorem dcq_194 : (decode cX6_powerOf 0 = .ok (.lconst 1, 1)) ∧ (decode cX6_powerOf 1 = .ok (.lstore_n 2, 1)) ∧ (decode cX6_powerOf 2 = .ok (.iconst 0, 1)) ∧ (decode cX6_powerOf 3 = .ok (.istore 4, 2)) ∧ (decode cX6_powerOf 5 = .ok (.iload 4, 2)) ∧ (decode cX6_powerOf 7 = .ok (.iload_n 1, 1)) ∧ (decode cX6_powerOf 8 = .ok (.if_icmp .ge 14, 3)) ∧ (decode cX6_powerOf 11 = .ok (.lload_n 2, 1)) ∧ (decode cX6_powerOf 12 = .ok (.iload_n 0, 1)) ∧ (decode cX6_powerOf 13 = .ok (.i2l, 1)) ∧ (decode cX6_powerOf 14 = .ok (.lmul, 1)) ∧ (decode cX6_powerOf 15 = .ok (.lstore_n 2, 1)) ∧ (decode cX6_powerOf 16 = .ok (.iinc 4 1, 3)) ∧ (decode cX6_powerOf 19 = .ok (.goto (-14), 3)) ∧ (decode cX6_powerOf 22 = .ok (.lload_n 2, 1)) ∧ (decode cX6_powerOf 23 = .ok (.lreturn, 1)) ∧ True := have h := dcA_of dcb_194; h
theorem dX6_powerOf_0 : decode cX6_powerOf 0 = .ok (.lconst 1, 1) := dcq_194.1
theorem dX6_powerOf_1 : decode cX6_powerOf 1 = .ok (.lstore_n 2, 1) := dcq_194.2.1
theorem dX6_powerOf_2 : decode cX6_powerOf 2 = .ok (.iconst 0, 1) := dcq_194.2.2.1
theorem dX6_powerOf_3 : decode cX6_powerOf 3 = .ok (.istore 4, 2) := dcq_194.2.2.2.1
theorem dX6_powerOf_5 : decode cX6_powerOf 5 = .ok (.iload 4, 2) := dcq_194.2.2.2.2.1
theorem dX6_powerOf_7 : decode cX6_powerOf 7 = .ok (.iload_n 1, 1) := dcq_194.2.2.2.2.2.1
theorem dX6_powerOf_8 : decode cX6_powerOf 8 = .ok (.if_icmp .ge 14, 3) := dcq_194.2.2.2.2.2.2.1
theorem dX6_powerOf_11 : decode cX6_powerOf 11 = .ok (.lload_n 2, 1) := dcq_194.2.2.2.2.2.2.2.1
theorem dX6_powerOf_12 : decode cX6_powerOf 12 = .ok (.iload_n 0, 1) := dcq_194.2.2.2.2.2.2.2.2.1
theorem dX6_powerOf_13 : decode cX6_powerOf 13 = .ok (.i2l, 1) := dcq_194.2.2.2.2.2.2.2.2.2.1
theorem dX6_powerOf_14 : decode cX6_powerOf 14 = .ok (.lmul, 1) := dcq_194.2.2.2.2.2.2.2.2.2.2.1
theorem dX6_powerOf_15 : decode cX6_powerOf 15 = .ok (.lstore_n 2, 1) := dcq_194.2.2.2.2.2.2.2.2.2.2.2.1
theorem dX6_powerOf_16 : decode cX6_powerOf 16 = .ok (.iinc 4 1, 3) := dcq_194.2.2.2.2.2.2.2.2.2.2.2.2.1
theorem dX6_powerOf_19 : decode cX6_powerOf 19 = .ok (.goto (-14), 3) := dcq_194.2.2.2.2.2.2.2.2.2.2.2.2.2.1
theorem dX6_powerOf_22 : decode cX6_powerOf 22 = .ok (.lload_n 2, 1) := dcq_194.2.2.2.2.2.2.2.2.2.2.2.2.2.2.1
theorem dX6_powerOf_23 : decode cX6_powerOf 23 = .ok (.lreturn, 1) := dcq_194.2.2.2.2.2.2.2.2.2.2.2.2.2.2.2.1
set_option maxRecDepth 100000 in
theorem dcb_195 : dcb cX6_odds [(0, (.iload_n 1, 1)), (1, (.iconst 0, 1)), (2, (.bipush 8, 2)), (4, (.invokestatic 60, 3)), (7, (.ifCond .eq 21, 3)), (10, (.iload_n 2, 1)), (11, (.iconst 0, 1)), (12, (.iload_n 1, 1)), (13, (.invokestatic 60, 3)), (16, (.ifCond .eq 12, 3)), (19, (.iload_n 3, 1)), (20, (.iconst 0, 1)), (21, (.iconst 1, 1)), (22, (.invokestatic 60, 3)), (25, (.ifCond .ne 7, 3)), (28, (.ldc2_w 100, 3)), (31, (.lreturn, 1)), (32, (.lconst 1, 1)), (33, (.lstore 4, 2)), (35, (.iconst 0, 1)), (36, (.istore 6, 2)), (38, (.iload 6, 2)), (40, (.iload_n 2, 1)), (41, (.if_icmp .ge 25, 3)), (44, (.lload 4, 2)), (46, (.iload_n 1, 1)), (47, (.iload 6, 2)), (49, (.isub, 1)), (50, (.i2l, 1)), (51, (.lmul, 1)), (52, (.iload 6, 2)), (54, (.iconst 1, 1)), (55, (.iadd, 1)), (56, (.i2l, 1)), (57, (.ldiv, 1)), (58, (.lstore 4, 2)), (60, (.iinc 6 1, 3)), (63, (.goto (-25), 3)), (66, (.lload 4, 2)), (68, (.aload_n 0, 1)), (69, (.getfield 7, 3)), (72, (.iconst 3, 1)), (73, (.iaload, 1)), (74, (.iload_n 2, 1)), (75, (.invokestatic 257, 3)), (78, (.lmul, 1)), (79, (.bipush 100, 2)), (81, (.aload_n 0, 1)), (82, (.getfield 7, 3)), (85, (.iconst 3, 1)), (86, (.iaload, 1)), (87, (.isub, 1)), (88, (.iload_n 1, 1)), (89, (.iload_n 2, 1)), (90, (.isub, 1)), (91, (.invokestatic 257, 3)), (94, (.lmul, 1)), (95, (.bipush 100, 2)), (97, (.iload_n 1, 1)), (98, (.invokestatic 257, 3))] = true := by decide +kernel
set_option maxRecDepth 100000 in
theorem dcq_195 : (decode cX6_odds 0 = .ok (.iload_n 1, 1)) ∧ (decode cX6_odds 1 = .ok (.iconst 0, 1)) ∧ (decode cX6_odds 2 = .ok (.bipush 8, 2)) ∧ (decode cX6_odds 4 = .ok (.invokestatic 60, 3)) ∧ (decode cX6_odds 7 = .ok (.ifCond .eq 21, 3)) ∧ (decode cX6_odds 10 = .ok (.iload_n 2, 1)) ∧ (decode cX6_odds 11 = .ok (.iconst 0, 1)) ∧ (decode cX6_odds 12 = .ok (.iload_n 1, 1)) ∧ (decode cX6_odds 13 = .ok (.invokestatic 60, 3)) ∧ (decode cX6_odds 16 = .ok (.ifCond .eq 12, 3)) ∧ (decode cX6_odds 19 = .ok (.iload_n 3, 1)) ∧ (decode cX6_odds 20 = .ok (.iconst 0, 1)) ∧ (decode cX6_odds 21 = .ok (.iconst 1, 1)) ∧ (decode cX6_odds 22 = .ok (.invokestatic 60, 3)) ∧ (decode cX6_odds 25 = .ok (.ifCond .ne 7, 3)) ∧ (decode cX6_odds 28 = .ok (.ldc2_w 100, 3)) ∧ (decode cX6_odds 31 = .ok (.lreturn, 1)) ∧ (decode cX6_odds 32 = .ok (.lconst 1, 1)) ∧ (decode cX6_odds 33 = .ok (.lstore 4, 2)) ∧ (decode cX6_odds 35 = .ok (.iconst 0, 1)) ∧ (decode cX6_odds 36 = .ok (.istore 6, 2)) ∧ (decode cX6_odds 38 = .ok (.iload 6, 2)) ∧ (decode cX6_odds 40 = .ok (.iload_n 2, 1)) ∧ (decode cX6_odds 41 = .ok (.if_icmp .ge 25, 3)) ∧ (decode cX6_odds 44 = .ok (.lload 4, 2)) ∧ (decode cX6_odds 46 = .ok (.iload_n 1, 1)) ∧ (decode cX6_odds 47 = .ok (.iload 6, 2)) ∧ (decode cX6_odds 49 = .ok (.isub, 1)) ∧ (decode cX6_odds 50 = .ok (.i2l, 1)) ∧ (decode cX6_odds 51 = .ok (.lmul, 1)) ∧ (decode cX6_odds 52 = .ok (.iload 6, 2)) ∧ (decode cX6_odds 54 = .ok (.iconst 1, 1)) ∧ (decode cX6_odds 55 = .ok (.iadd, 1)) ∧ (decode cX6_odds 56 = .ok (.i2l, 1)) ∧ (decode cX6_odds 57 = .ok (.ldiv, 1)) ∧ (decode cX6_odds 58 = .ok (.lstore 4, 2)) ∧ (decode cX6_odds 60 = .ok (.iinc 6 1, 3)) ∧ (decode cX6_odds 63 = .ok (.goto (-25), 3)) ∧ (decode cX6_odds 66 = .ok (.lload 4, 2)) ∧ (decode cX6_odds 68 = .ok (.aload_n 0, 1)) ∧ (decode cX6_odds 69 = .ok (.getfield 7, 3)) ∧ (decode cX6_odds 72 = .ok (.iconst 3, 1)) ∧ (decode cX6_odds 73 = .ok (.iaload, 1)) ∧ (decode cX6_odds 74 = .ok (.iload_n 2, 1)) ∧ (decode cX6_odds 75 = .ok (.invokestatic 257, 3)) ∧ (decode cX6_odds 78 = .ok (.lmul, 1)) ∧ (decode cX6_odds 79 = .ok (.bipush 100, 2)) ∧ (decode cX6_odds 81 = .ok (.aload_n 0, 1)) ∧ (decode cX6_odds 82 = .ok (.getfield 7, 3)) ∧ (decode cX6_odds 85 = .ok (.iconst 3, 1)) ∧ (decode cX6_odds 86 = .ok (.iaload, 1)) ∧ (decode cX6_odds 87 = .ok (.isub, 1)) ∧ (decode cX6_odds 88 = .ok (.iload_n 1, 1)) ∧ (decode cX6_odds 89 = .ok (.iload_n 2, 1)) ∧ (decode cX6_odds 90 = .ok (.isub, 1)) ∧ (decode cX6_odds 91 = .ok (.invokestatic 257, 3)) ∧ (decode cX6_odds 94 = .ok (.lmul, 1)) ∧ (decode cX6_odds 95 = .ok (.bipush 100, 2)) ∧ (decode cX6_odds 97 = .ok (.iload_n 1, 1)) ∧ (decode cX6_odds 98 = .ok (.invokestatic 257, 3)) ∧ True := have h := dcA_of dcb_195; h
theorem dX6_odds_0 : decode cX6_odds 0 = .ok (.iload_n 1, 1) := dcq_195.1
theorem dX6_odds_1 : decode cX6_odds 1 = .ok (.iconst 0, 1) := dcq_195.2.1
theorem dX6_odds_2 : decode cX6_odds 2 = .ok (.bipush 8, 2) := dcq_195.2.2.1
theorem dX6_odds_4 : decode cX6_odds 4 = .ok (.invokestatic 60, 3) := dcq_195.2.2.2.1
theorem dX6_odds_7 : decode cX6_odds 7 = .ok (.ifCond .eq 21, 3) := dcq_195.2.2.2.2.1
theorem dX6_odds_10 : decode cX6_odds 10 = .ok (.iload_n 2, 1) := dcq_195.2.2.2.2.2.1
theorem dX6_odds_11 : decode cX6_odds 11 = .ok (.iconst 0, 1) := dcq_195.2.2.2.2.2.2.1
theorem dX6_odds_12 : decode cX6_odds 12 = .ok (.iload_n 1, 1) := dcq_195.2.2.2.2.2.2.2.1
theorem dX6_odds_13 : decode cX6_odds 13 = .ok (.invokestatic 60, 3) := dcq_195.2.2.2.2.2.2.2.2.1
theorem dX6_odds_16 : decode cX6_odds 16 = .ok (.ifCond .eq 12, 3) := dcq_195.2.2.2.2.2.2.2.2.2.1
theorem dX6_odds_19 : decode cX6_odds 19 = .ok (.iload_n 3, 1) := dcq_195.2.2.2.2.2.2.2.2.2.2.1
theorem dX6_odds_20 : decode cX6_odds 20 = .ok (.iconst 0, 1) := dcq_195.2.2.2.2.2.2.2.2.2.2.2.1
theorem dX6_odds_21 : decode cX6_odds 21 = .ok (.iconst 1, 1) := dcq_195.2.2.2.2.2.2.2.2.2.2.2.2.1
theorem dX6_odds_22 : decode cX6_odds 22 = .ok (.invokestatic 60, 3) := dcq_195.2.2.2.2.2.2.2.2.2.2.2.2.2.1
theorem dX6_odds_25 : decode cX6_odds 25 = .ok (.ifCond .ne 7, 3) := dcq_195.2.2.2.2.2.2.2.2.2.2.2.2.2.2.1
theorem dX6_odds_28 : decode cX6_odds 28 = .ok (.ldc2_w 100, 3) := dcq_195.2.2.2.2.2.2.2.2.2.2.2.2.2.2.2.1
theorem dX6_odds_31 : decode cX6_odds 31 = .ok (.lreturn, 1) := dcq_195.2.2.2.2.2.2.2.2.2.2.2.2.2.2.2.2.1
theorem dX6_odds_32 : decode cX6_odds 32 = .ok (.lconst 1, 1) := dcq_195.2.2.2.2.2.2.2.2.2.2.2.2.2.2.2.2.2.1
theorem dX6_odds_33 : decode cX6_odds 33 = .ok (.lstore 4, 2) := dcq_195.2.2.2.2.2.2.2.2.2.2.2.2.2.2.2.2.2.2.1
theorem dX6_odds_35 : decode cX6_odds 35 = .ok (.iconst 0, 1) := dcq_195.2.2.2.2.2.2.2.2.2.2.2.2.2.2.2.2.2.2.2.1
theorem dX6_odds_36 : decode cX6_odds 36 = .ok (.istore 6, 2) := dcq_195.2.2.2.2.2.2.2.2.2.2.2.2.2.2.2.2.2.2.2.2.1
theorem dX6_odds_38 : decode cX6_odds 38 = .ok (.iload 6, 2) := dcq_195.2.2.2.2.2.2.2.2.2.2.2.2.2.2.2.2.2.2.2.2.2.1
theorem dX6_odds_40 : decode cX6_odds 40 = .ok (.iload_n 2, 1) := dcq_195.2.2.2.2.2.2.2.2.2.2.2.2.2.2.2.2.2.2.2.2.2.2.1
theorem dX6_odds_41 : decode cX6_odds 41 = .ok (.if_icmp .ge 25, 3) := dcq_195.2.2.2.2.2.2.2.2.2.2.2.2.2.2.2.2.2.2.2.2.2.2.2.1
theorem dX6_odds_44 : decode cX6_odds 44 = .ok (.lload 4, 2) := dcq_195.2.2.2.2.2.2.2.2.2.2.2.2.2.2.2.2.2.2.2.2.2.2.2.2.1
theorem dX6_odds_46 : decode cX6_odds 46 = .ok (.iload_n 1, 1) := dcq_195.2.2.2.2.2.2.2.2.2.2.2.2.2.2.2.2.2.2.2.2.2.2.2.2.2.1
theorem dX6_odds_47 : decode cX6_odds 47 = .ok (.iload 6, 2) := dcq_195.2.2.2.2.2.2.2.2.2.2.2.2.2.2.2.2.2.2.2.2.2.2.2.2.2.2.1
theorem dX6_odds_49 : decode cX6_odds 49 = .ok (.isub, 1) := dcq_195.2.2.2.2.2.2.2.2.2.2.2.2.2.2.2.2.2.2.2.2.2.2.2.2.2.2.2.1
theorem dX6_odds_50 : decode cX6_odds 50 = .ok (.i2l, 1) := dcq_195.2.2.2.2.2.2.2.2.2.2.2.2.2.2.2.2.2.2.2.2.2.2.2.2.2.2.2.2.1
theorem dX6_odds_51 : decode cX6_odds 51 = .ok (.lmul, 1) := dcq_195.2.2.2.2.2.2.2.2.2.2.2.2.2.2.2.2.2.2.2.2.2.2.2.2.2.2.2.2.2.1
theorem dX6_odds_52 : decode cX6_odds 52 = .ok (.iload 6, 2) := dcq_195.2.2.2.2.2.2.2.2.2.2.2.2.2.2.2.2.2.2.2.2.2.2.2.2.2.2.2.2.2.2.1
theorem dX6_odds_54 : decode cX6_odds 54 = .ok (.iconst 1, 1) := dcq_195.2.2.2.2.2.2.2.2.2.2.2.2.2.2.2.2.2.2.2.2.2.2.2.2.2.2.2.2.2.2.2.1
theorem dX6_odds_55 : decode cX6_odds 55 = .ok (.iadd, 1) := dcq_195.2.2.2.2.2.2.2.2.2.2.2.2.2.2.2.2.2.2.2.2.2.2.2.2.2.2.2.2.2.2.2.2.1
theorem dX6_odds_56 : decode cX6_odds 56 = .ok (.i2l, 1) := dcq_195.2.2.2.2.2.2.2.2.2.2.2.2.2.2.2.2.2.2.2.2.2.2.2.2.2.2.2.2.2.2.2.2.2.1
theorem dX6_odds_57 : decode cX6_odds 57 = .ok (.ldiv, 1) := dcq_195.2.2.2.2.2.2.2.2.2.2.2.2.2.2.2.2.2.2.2.2.2.2.2.2.2.2.2.2.2.2.2.2.2.2.1
theorem dX6_odds_58 : decode cX6_odds 58 = .ok (.lstore 4, 2) := dcq_195.2.2.2.2.2.2.2.2.2.2.2.2.2.2.2.2.2.2.2.2.2.2.2.2.2.2.2.2.2.2.2.2.2.2.2.1
theorem dX6_odds_60 : decode cX6_odds 60 = .ok (.iinc 6 1, 3) := dcq_195.2.2.2.2.2.2.2.2.2.2.2.2.2.2.2.2.2.2.2.2.2.2.2.2.2.2.2.2.2.2.2.2.2.2.2.2.1
theorem dX6_odds_63 : decode cX6_odds 63 = .ok (.goto (-25), 3) := dcq_195.2.2.2.2.2.2.2.2.2.2.2.2.2.2.2.2.2.2.2.2.2.2.2.2.2.2.2.2.2.2.2.2.2.2.2.2.2.1
theorem dX6_odds_66 : decode cX6_odds 66 = .ok (.lload 4, 2) := dcq_195.2.2.2.2.2.2.2.2.2.2.2.2.2.2.2.2.2.2.2.2.2.2.2.2.2.2.2.2.2.2.2.2.2.2.2.2.2.2.1
theorem dX6_odds_68 : decode cX6_odds 68 = .ok (.aload_n 0, 1) := dcq_195.2.2.2.2.2.2.2.2.2.2.2.2.2.2.2.2.2.2.2.2.2.2.2.2.2.2.2.2.2.2.2.2.2.2.2.2.2.2.2.1
theorem dX6_odds_69 : decode cX6_odds 69 = .ok (.getfield 7, 3) := dcq_195.2.2.2.2.2.2.2.2.2.2.2.2.2.2.2.2.2.2.2.2.2.2.2.2.2.2.2.2.2.2.2.2.2.2.2.2.2.2.2.2.1
theorem dX6_odds_72 : decode cX6_odds 72 = .ok (.iconst 3, 1) := dcq_195.2.2.2.2.2.2.2.2.2.2.2.2.2.2.2.2.2.2.2.2.2.2.2.2.2.2.2.2.2.2.2.2.2.2.2.2.2.2.2.2.2.1
theorem dX6_odds_73 : decode cX6_odds 73 = .ok (.iaload, 1) := dcq_195.2.2.2.2.2.2.2.2.2.2.2.2.2.2.2.2.2.2.2.2.2.2.2.2.2.2.2.2.2.2.2.2.2.2.2.2.2.2.2.2.2.2.1
theorem dX6_odds_74 : decode cX6_odds 74 = .ok (.iload_n 2, 1) := dcq_195.2.2.2.2.2.2.2.2.2.2.2.2.2.2.2.2.2.2.2.2.2.2.2.2.2.2.2.2.2.2.2.2.2.2.2.2.2.2.2.2.2.2.2.1
theorem dX6_odds_75 : decode cX6_odds 75 = .ok (.invokestatic 257, 3) := dcq_195.2.2.2.2.2.2.2.2.2.2.2.2.2.2.2.2.2.2.2.2.2.2.2.2.2.2.2.2.2.2.2.2.2.2.2.2.2.2.2.2.2.2.2.2.1
theorem dX6_odds_78 : decode cX6_odds 78 = .ok (.lmul, 1) := dcq_195.2.2.2.2.2.2.2.2.2.2.2.2.2.2.2.2.2.2.2.2.2.2.2.2.2.2.2.2.2.2.2.2.2.2.2.2.2.2.2.2.2.2.2.2.2.1
theorem dX6_odds_79 : decode cX6_odds 79 = .ok (.bipush 100, 2) := dcq_195.2.2.2.2.2.2.2.2.2.2.2.2.2.2.2.2.2.2.2.2.2.2.2.2.2.2.2.2.2.2.2.2.2.2.2.2.2.2.2.2.2.2.2.2.2.2.1
theorem dX6_odds_81 : decode cX6_odds 81 = .ok (.aload_n 0, 1) := dcq_195.2.2.2.2.2.2.2.2.2.2.2.2.2.2.2.2.2.2.2.2.2.2.2.2.2.2.2.2.2.2.2.2.2.2.2.2.2.2.2.2.2.2.2.2.2.2.2.1
theorem dX6_odds_82 : decode cX6_odds 82 = .ok (.getfield 7, 3) := dcq_195.2.2.2.2.2.2.2.2.2.2.2.2.2.2.2.2.2.2.2.2.2.2.2.2.2.2.2.2.2.2.2.2.2.2.2.2.2.2.2.2.2.2.2.2.2.2.2.2.1
theorem dX6_odds_85 : decode cX6_odds 85 = .ok (.iconst 3, 1) := dcq_195.2.2.2.2.2.2.2.2.2.2.2.2.2.2.2.2.2.2.2.2.2.2.2.2.2.2.2.2.2.2.2.2.2.2.2.2.2.2.2.2.2.2.2.2.2.2.2.2.2.1
theorem dX6_odds_86 : decode cX6_odds 86 = .ok (.iaload, 1) := dcq_195.2.2.2.2.2.2.2.2.2.2.2.2.2.2.2.2.2.2.2.2.2.2.2.2.2.2.2.2.2.2.2.2.2.2.2.2.2.2.2.2.2.2.2.2.2.2.2.2.2.2.1
theorem dX6_odds_87 : decode cX6_odds 87 = .ok (.isub, 1) := dcq_195.2.2.2.2.2.2.2.2.2.2.2.2.2.2.2.2.2.2.2.2.2.2.2.2.2.2.2.2.2.2.2.2.2.2.2.2.2.2.2.2.2.2.2.2.2.2.2.2.2.2.2.1
theorem dX6_odds_88 : decode cX6_odds 88 = .ok (.iload_n 1, 1) := dcq_195.2.2.2.2.2.2.2.2.2.2.2.2.2.2.2.2.2.2.2.2.2.2.2.2.2.2.2.2.2.2.2.2.2.2.2.2.2.2.2.2.2.2.2.2.2.2.2.2.2.2.2.2.1
theorem dX6_odds_89 : decode cX6_odds 89 = .ok (.iload_n 2, 1) := dcq_195.2.2.2.2.2.2.2.2.2.2.2.2.2.2.2.2.2.2.2.2.2.2.2.2.2.2.2.2.2.2.2.2.2.2.2.2.2.2.2.2.2.2.2.2.2.2.2.2.2.2.2.2.2.1
theorem dX6_odds_90 : decode cX6_odds 90 = .ok (.isub, 1) := dcq_195.2.2.2.2.2.2.2.2.2.2.2.2.2.2.2.2.2.2.2.2.2.2.2.2.2.2.2.2.2.2.2.2.2.2.2.2.2.2.2.2.2.2.2.2.2.2.2.2.2.2.2.2.2.2.1
theorem dX6_odds_91 : decode cX6_odds 91 = .ok (.invokestatic 257, 3) := dcq_195.2.2.2.2.2.2.2.2.2.2.2.2.2.2.2.2.2.2.2.2.2.2.2.2.2.2.2.2.2.2.2.2.2.2.2.2.2.2.2.2.2.2.2.2.2.2.2.2.2.2.2.2.2.2.2.1
theorem dX6_odds_94 : decode cX6_odds 94 = .ok (.lmul, 1) := dcq_195.2.2.2.2.2.2.2.2.2.2.2.2.2.2.2.2.2.2.2.2.2.2.2.2.2.2.2.2.2.2.2.2.2.2.2.2.2.2.2.2.2.2.2.2.2.2.2.2.2.2.2.2.2.2.2.2.1
theorem dX6_odds_95 : decode cX6_odds 95 = .ok (.bipush 100, 2) := dcq_195.2.2.2.2.2.2.2.2.2.2.2.2.2.2.2.2.2.2.2.2.2.2.2.2.2.2.2.2.2.2.2.2.2.2.2.2.2.2.2.2.2.2.2.2.2.2.2.2.2.2.2.2.2.2.2.2.2.1
theorem dX6_odds_97 : decode cX6_odds 97 = .ok (.iload_n 1, 1) := dcq_195.2.2.2.2.2.2.2.2.2.2.2.2.2.2.2.2.2.2.2.2.2.2.2.2.2.2.2.2.2.2.2.2.2.2.2.2.2.2.2.2.2.2.2.2.2.2.2.2.2.2.2.2.2.2.2.2.2.2.1
theorem dX6_odds_98 : decode cX6_odds 98 = .ok (.invokestatic 257, 3) := dcq_195.2.2.2.2.2.2.2.2.2.2.2.2.2.2.2.2.2.2.2.2.2.2.2.2.2.2.2.2.2.2.2.2.2.2.2.2.2.2.2.2.2.2.2.2.2.2.2.2.2.2.2.2.2.2.2.2.2.2.2.1
set_option maxRecDepth 100000 in
theorem dcb_196 : dcb cX6_odds [(101, (.iload_n 3, 1)), (102, (.invokestatic 261, 3)), (105, (.lreturn, 1))] = true := by decide +kernel
set_option maxRecDepth 100000 in
theorem dcq_196 : (decode cX6_odds 101 = .ok (.iload_n 3, 1)) ∧ (decode cX6_odds 102 = .ok (.invokestatic 261, 3)) ∧ (decode cX6_odds 105 = .ok (.lreturn, 1)) ∧ True := have h := dcA_of dcb_196; h
theorem dX6_odds_101 : decode cX6_odds 101 = .ok (.iload_n 3, 1) := dcq_196.1
theorem dX6_odds_102 : decode cX6_odds 102 = .ok (.invokestatic 261, 3) := dcq_196.2.1
theorem dX6_odds_105 : decode cX6_odds 105 = .ok (.lreturn, 1) := dcq_196.2.2.1
set_option maxRecDepth 100000 in
theorem dcb_197 : dcb cX6_hope [(0, (.iload_n 1, 1)), (1, (.iconst 0, 1)), (2, (.bipush 99, 2)), (4, (.invokestatic 60, 3)), (7, (.ifCond .eq 32, 3)), (10, (.iload_n 2, 1)), (11, (.iconst 0, 1)), (12, (.iconst 1, 1)), (13, (.invokestatic 60, 3)), (16, (.ifCond .eq 23, 3)), (19, (.iload_n 1, 1)), (20, (.i2l, 1)), (21, (.aload_n 0, 1)), (22, (.getfield 7, 3)), (25, (.iconst 3, 1)), (26, (.iaload, 1)), (27, (.i2l, 1)), (28, (.lmul, 1)), (29, (.ldc2_w 265, 3)), (32, (.iload_n 2, 1)), (33, (.invokestatic 261, 3)), (36, (.goto 6, 3)), (39, (.ldc2_w 100, 3)), (42, (.lreturn, 1))] = true := by decide +kernel
set_option maxRecDepth 100000 in
theorem dcq_197 : (decode cX6_hope 0 = .ok (.iload_n 1, 1)) ∧ (decode cX6_hope 1 = .ok (.iconst 0, 1)) ∧ (decode cX6_hope 2 = .ok (.bipush 99, 2)) ∧ (decode cX6_hope 4 = .ok (.invokestatic 60, 3)) ∧ (decode cX6_hope 7 = .ok (.ifCond .eq 32, 3)) ∧ (decode cX6_hope 10 = .ok (.iload_n 2, 1)) ∧ (decode cX6_hope 11 = .ok (.iconst 0, 1)) ∧ (decode cX6_hope 12 = .ok (.iconst 1, 1)) ∧ (decode cX6_hope 13 = .ok (.invokestatic 60, 3)) ∧ (decode cX6_hope 16 = .ok (.ifCond .eq 23, 3)) ∧ (decode cX6_hope 19 = .ok (.iload_n 1, 1)) ∧ (decode cX6_hope 20 = .ok (.i2l, 1)) ∧ (decode cX6_hope 21 = .ok (.aload_n 0, 1)) ∧ (decode cX6_hope 22 = .ok (.getfield 7, 3)) ∧ (decode cX6_hope 25 = .ok (.iconst 3, 1)) ∧ (decode cX6_hope 26 = .ok (.iaload, 1)) ∧ (decode cX6_hope 27 = .ok (.i2l, 1)) ∧ (decode cX6_hope 28 = .ok (.lmul, 1)) ∧ (decode cX6_hope 29 = .ok (.ldc2_w 265, 3)) ∧ (decode cX6_hope 32 = .ok (.iload_n 2, 1)) ∧ (decode cX6_hope 33 = .ok (.invokestatic 261, 3)) ∧ (decode cX6_hope 36 = .ok (.goto 6, 3)) ∧ (decode cX6_hope 39 = .ok (.ldc2_w 100, 3)) ∧ (decode cX6_hope 42 = .ok (.lreturn, 1)) ∧ True := have h := dcA_of dcb_197; h
theorem dX6_hope_0 : decode cX6_hope 0 = .ok (.iload_n 1, 1) := dcq_197.1
theorem dX6_hope_1 : decode cX6_hope 1 = .ok (.iconst 0, 1) := dcq_197.2.1
theorem dX6_hope_2 : decode cX6_hope 2 = .ok (.bipush 99, 2) := dcq_197.2.2.1
theorem dX6_hope_4 : decode cX6_hope 4 = .ok (.invokestatic 60, 3) := dcq_197.2.2.2.1
theorem dX6_hope_7 : decode cX6_hope 7 = .ok (.ifCond .eq 32, 3) := dcq_197.2.2.2.2.1
theorem dX6_hope_10 : decode cX6_hope 10 = .ok (.iload_n 2, 1) := dcq_197.2.2.2.2.2.1
theorem dX6_hope_11 : decode cX6_hope 11 = .ok (.iconst 0, 1) := dcq_197.2.2.2.2.2.2.1
theorem dX6_hope_12 : decode cX6_hope 12 = .ok (.iconst 1, 1) := dcq_197.2.2.2.2.2.2.2.1
theorem dX6_hope_13 : decode cX6_hope 13 = .ok (.invokestatic 60, 3) := dcq_197.2.2.2.2.2.2.2.2.1
theorem dX6_hope_16 : decode cX6_hope 16 = .ok (.ifCond .eq 23, 3) := dcq_197.2.2.2.2.2.2.2.2.2.1
theorem dX6_hope_19 : decode cX6_hope 19 = .ok (.iload_n 1, 1) := dcq_197.2.2.2.2.2.2.2.2.2.2.1
theorem dX6_hope_20 : decode cX6_hope 20 = .ok (.i2l, 1) := dcq_197.2.2.2.2.2.2.2.2.2.2.2.1
theorem dX6_hope_21 : decode cX6_hope 21 = .ok (.aload_n 0, 1) := dcq_197.2.2.2.2.2.2.2.2.2.2.2.2.1
theorem dX6_hope_22 : decode cX6_hope 22 = .ok (.getfield 7, 3) := dcq_197.2.2.2.2.2.2.2.2.2.2.2.2.2.1
theorem dX6_hope_25 : decode cX6_hope 25 = .ok (.iconst 3, 1) := dcq_197.2.2.2.2.2.2.2.2.2.2.2.2.2.2.1
theorem dX6_hope_26 : decode cX6_hope 26 = .ok (.iaload, 1) := dcq_197.2.2.2.2.2.2.2.2.2.2.2.2.2.2.2.1
theorem dX6_hope_27 : decode cX6_hope 27 = .ok (.i2l, 1) := dcq_197.2.2.2.2.2.2.2.2.2.2.2.2.2.2.2.2.1
theorem dX6_hope_28 : decode cX6_hope 28 = .ok (.lmul, 1) := dcq_197.2.2.2.2.2.2.2.2.2.2.2.2.2.2.2.2.2.1
theorem dX6_hope_29 : decode cX6_hope 29 = .ok (.ldc2_w 265, 3) := dcq_197.2.2.2.2.2.2.2.2.2.2.2.2.2.2.2.2.2.2.1
theorem dX6_hope_32 : decode cX6_hope 32 = .ok (.iload_n 2, 1) := dcq_197.2.2.2.2.2.2.2.2.2.2.2.2.2.2.2.2.2.2.2.1
theorem dX6_hope_33 : decode cX6_hope 33 = .ok (.invokestatic 261, 3) := dcq_197.2.2.2.2.2.2.2.2.2.2.2.2.2.2.2.2.2.2.2.2.1
theorem dX6_hope_36 : decode cX6_hope 36 = .ok (.goto 6, 3) := dcq_197.2.2.2.2.2.2.2.2.2.2.2.2.2.2.2.2.2.2.2.2.2.1
theorem dX6_hope_39 : decode cX6_hope 39 = .ok (.ldc2_w 100, 3) := dcq_197.2.2.2.2.2.2.2.2.2.2.2.2.2.2.2.2.2.2.2.2.2.2.1
theorem dX6_hope_42 : decode cX6_hope 42 = .ok (.lreturn, 1) := dcq_197.2.2.2.2.2.2.2.2.2.2.2.2.2.2.2.2.2.2.2.2.2.2.2.1
set_option maxRecDepth 100000 in
theorem dcb_198 : dcb cX6_findRows [(0, (.aload_n 0, 1)), (1, (.getfield 7, 3)), (4, (.aload_n 0, 1)), (5, (.getfield 19, 3)), (8, (.invokestatic 170, 3)), (11, (.iconst 0, 1)), (12, (.istore_n 3, 1)), (13, (.iload_n 3, 1)), (14, (.iload_n 2, 1)), (15, (.if_icmp .ge 57, 3)), (18, (.aload_n 0, 1)), (19, (.invokevirtual 226, 3)), (22, (.istore 4, 2)), (24, (.aload_n 0, 1)), (25, (.getfield 31, 3)), (28, (.iconst 3, 1)), (29, (.iload_n 3, 1)), (30, (.imul, 1)), (31, (.aload_n 0, 1)), (32, (.iload_n 1, 1)), (33, (.iconst 1, 1)), (34, (.invokevirtual 191, 3)), (37, (.iastore, 1)), (38, (.aload_n 0, 1)), (39, (.getfield 31, 3)), (42, (.iconst 3, 1)), (43, (.iload_n 3, 1)), (44, (.imul, 1)), (45, (.iconst 1, 1)), (46, (.iadd, 1)), (47, (.aload_n 0, 1)), (48, (.iload_n 1, 1)), (49, (.iconst 3, 1)), (50, (.invokevirtual 191, 3)), (53, (.iastore, 1)), (54, (.aload_n 0, 1)), (55, (.getfield 31, 3)), (58, (.iconst 3, 1)), (59, (.iload_n 3, 1)), (60, (.imul, 1)), (61, (.iconst 2, 1)), (62, (.iadd, 1)), (63, (.iload 4, 2)), (65, (.iastore, 1)), (66, (.iinc 3 1, 3)), (69, (.goto (-56), 3)), (72, (.aload_n 0, 1)), (73, (.getfield 19, 3)), (76, (.aload_n 0, 1)), (77, (.getfield 7, 3)), (80, (.invokestatic 170, 3)), (83, (.return_, 1))] = true := by decide +kernel
set_option maxRecDepth 100000 in
theorem dcq_198 : (decode cX6_findRows 0 = .ok (.aload_n 0, 1)) ∧ (decode cX6_findRows 1 = .ok (.getfield 7, 3)) ∧ (decode cX6_findRows 4 = .ok (.aload_n 0, 1)) ∧ (decode cX6_findRows 5 = .ok (.getfield 19, 3)) ∧ (decode cX6_findRows 8 = .ok (.invokestatic 170, 3)) ∧ (decode cX6_findRows 11 = .ok (.iconst 0, 1)) ∧ (decode cX6_findRows 12 = .ok (.istore_n 3, 1)) ∧ (decode cX6_findRows 13 = .ok (.iload_n 3, 1)) ∧ (decode cX6_findRows 14 = .ok (.iload_n 2, 1)) ∧ (decode cX6_findRows 15 = .ok (.if_icmp .ge 57, 3)) ∧ (decode cX6_findRows 18 = .ok (.aload_n 0, 1)) ∧ (decode cX6_findRows 19 = .ok (.invokevirtual 226, 3)) ∧ (decode cX6_findRows 22 = .ok (.istore 4, 2)) ∧ (decode cX6_findRows 24 = .ok (.aload_n 0, 1)) ∧ (decode cX6_findRows 25 = .ok (.getfield 31, 3)) ∧ (decode cX6_findRows 28 = .ok (.iconst 3, 1)) ∧ (decode cX6_findRows 29 = .ok (.iload_n 3, 1)) ∧ (decode cX6_findRows 30 = .ok (.imul, 1)) ∧ (decode cX6_findRows 31 = .ok (.aload_n 0, 1)) ∧ (decode cX6_findRows 32 = .ok (.iload_n 1, 1)) ∧ (decode cX6_findRows 33 = .ok (.iconst 1, 1)) ∧ (decode cX6_findRows 34 = .ok (.invokevirtual 191, 3)) ∧ (decode cX6_findRows 37 = .ok (.iastore, 1)) ∧ (decode cX6_findRows 38 = .ok (.aload_n 0, 1)) ∧ (decode cX6_findRows 39 = .ok (.getfield 31, 3)) ∧ (decode cX6_findRows 42 = .ok (.iconst 3, 1)) ∧ (decode cX6_findRows 43 = .ok (.iload_n 3, 1)) ∧ (decode cX6_findRows 44 = .ok (.imul, 1)) ∧ (decode cX6_findRows 45 = .ok (.iconst 1, 1)) ∧ (decode cX6_findRows 46 = .ok (.iadd, 1)) ∧ (decode cX6_findRows 47 = .ok (.aload_n 0, 1)) ∧ (decode cX6_findRows 48 = .ok (.iload_n 1, 1)) ∧ (decode cX6_findRows 49 = .ok (.iconst 3, 1)) ∧ (decode cX6_findRows 50 = .ok (.invokevirtual 191, 3)) ∧ (decode cX6_findRows 53 = .ok (.iastore, 1)) ∧ (decode cX6_findRows 54 = .ok (.aload_n 0, 1)) ∧ (decode cX6_findRows 55 = .ok (.getfield 31, 3)) ∧ (decode cX6_findRows 58 = .ok (.iconst 3, 1)) ∧ (decode cX6_findRows 59 = .ok (.iload_n 3, 1)) ∧ (decode cX6_findRows 60 = .ok (.imul, 1)) ∧ (decode cX6_findRows 61 = .ok (.iconst 2, 1)) ∧ (decode cX6_findRows 62 = .ok (.iadd, 1)) ∧ (decode cX6_findRows 63 = .ok (.iload 4, 2)) ∧ (decode cX6_findRows 65 = .ok (.iastore, 1)) ∧ (decode cX6_findRows 66 = .ok (.iinc 3 1, 3)) ∧ (decode cX6_findRows 69 = .ok (.goto (-56), 3)) ∧ (decode cX6_findRows 72 = .ok (.aload_n 0, 1)) ∧ (decode cX6_findRows 73 = .ok (.getfield 19, 3)) ∧ (decode cX6_findRows 76 = .ok (.aload_n 0, 1)) ∧ (decode cX6_findRows 77 = .ok (.getfield 7, 3)) ∧ (decode cX6_findRows 80 = .ok (.invokestatic 170, 3)) ∧ (decode cX6_findRows 83 = .ok (.return_, 1)) ∧ True := have h := dcA_of dcb_198; h
theorem dX6_findRows_0 : decode cX6_findRows 0 = .ok (.aload_n 0, 1) := dcq_198.1
theorem dX6_findRows_1 : decode cX6_findRows 1 = .ok (.getfield 7, 3) := dcq_198.2.1
theorem dX6_findRows_4 : decode cX6_findRows 4 = .ok (.aload_n 0, 1) := dcq_198.2.2.1
theorem dX6_findRows_5 : decode cX6_findRows 5 = .ok (.getfield 19, 3) := dcq_198.2.2.2.1
theorem dX6_findRows_8 : decode cX6_findRows 8 = .ok (.invokestatic 170, 3) := dcq_198.2.2.2.2.1
theorem dX6_findRows_11 : decode cX6_findRows 11 = .ok (.iconst 0, 1) := dcq_198.2.2.2.2.2.1
theorem dX6_findRows_12 : decode cX6_findRows 12 = .ok (.istore_n 3, 1) := dcq_198.2.2.2.2.2.2.1
theorem dX6_findRows_13 : decode cX6_findRows 13 = .ok (.iload_n 3, 1) := dcq_198.2.2.2.2.2.2.2.1
theorem dX6_findRows_14 : decode cX6_findRows 14 = .ok (.iload_n 2, 1) := dcq_198.2.2.2.2.2.2.2.2.1
theorem dX6_findRows_15 : decode cX6_findRows 15 = .ok (.if_icmp .ge 57, 3) := dcq_198.2.2.2.2.2.2.2.2.2.1
theorem dX6_findRows_18 : decode cX6_findRows 18 = .ok (.aload_n 0, 1) := dcq_198.2.2.2.2.2.2.2.2.2.2.1
theorem dX6_findRows_19 : decode cX6_findRows 19 = .ok (.invokevirtual 226, 3) := dcq_198.2.2.2.2.2.2.2.2.2.2.2.1
theorem dX6_findRows_22 : decode cX6_findRows 22 = .ok (.istore 4, 2) := dcq_198.2.2.2.2.2.2.2.2.2.2.2.2.1
theorem dX6_findRows_24 : decode cX6_findRows 24 = .ok (.aload_n 0, 1) := dcq_198.2.2.2.2.2.2.2.2.2.2.2.2.2.1
theorem dX6_findRows_25 : decode cX6_findRows 25 = .ok (.getfield 31, 3) := dcq_198.2.2.2.2.2.2.2.2.2.2.2.2.2.2.1
theorem dX6_findRows_28 : decode cX6_findRows 28 = .ok (.iconst 3, 1) := dcq_198.2.2.2.2.2.2.2.2.2.2.2.2.2.2.2.1
theorem dX6_findRows_29 : decode cX6_findRows 29 = .ok (.iload_n 3, 1) := dcq_198.2.2.2.2.2.2.2.2.2.2.2.2.2.2.2.2.1
theorem dX6_findRows_30 : decode cX6_findRows 30 = .ok (.imul, 1) := dcq_198.2.2.2.2.2.2.2.2.2.2.2.2.2.2.2.2.2.1
theorem dX6_findRows_31 : decode cX6_findRows 31 = .ok (.aload_n 0, 1) := dcq_198.2.2.2.2.2.2.2.2.2.2.2.2.2.2.2.2.2.2.1
theorem dX6_findRows_32 : decode cX6_findRows 32 = .ok (.iload_n 1, 1) := dcq_198.2.2.2.2.2.2.2.2.2.2.2.2.2.2.2.2.2.2.2.1
theorem dX6_findRows_33 : decode cX6_findRows 33 = .ok (.iconst 1, 1) := dcq_198.2.2.2.2.2.2.2.2.2.2.2.2.2.2.2.2.2.2.2.2.1
theorem dX6_findRows_34 : decode cX6_findRows 34 = .ok (.invokevirtual 191, 3) := dcq_198.2.2.2.2.2.2.2.2.2.2.2.2.2.2.2.2.2.2.2.2.2.1
theorem dX6_findRows_37 : decode cX6_findRows 37 = .ok (.iastore, 1) := dcq_198.2.2.2.2.2.2.2.2.2.2.2.2.2.2.2.2.2.2.2.2.2.2.1
theorem dX6_findRows_38 : decode cX6_findRows 38 = .ok (.aload_n 0, 1) := dcq_198.2.2.2.2.2.2.2.2.2.2.2.2.2.2.2.2.2.2.2.2.2.2.2.1
theorem dX6_findRows_39 : decode cX6_findRows 39 = .ok (.getfield 31, 3) := dcq_198.2.2.2.2.2.2.2.2.2.2.2.2.2.2.2.2.2.2.2.2.2.2.2.2.1
theorem dX6_findRows_42 : decode cX6_findRows 42 = .ok (.iconst 3, 1) := dcq_198.2.2.2.2.2.2.2.2.2.2.2.2.2.2.2.2.2.2.2.2.2.2.2.2.2.1
theorem dX6_findRows_43 : decode cX6_findRows 43 = .ok (.iload_n 3, 1) := dcq_198.2.2.2.2.2.2.2.2.2.2.2.2.2.2.2.2.2.2.2.2.2.2.2.2.2.2.1
theorem dX6_findRows_44 : decode cX6_findRows 44 = .ok (.imul, 1) := dcq_198.2.2.2.2.2.2.2.2.2.2.2.2.2.2.2.2.2.2.2.2.2.2.2.2.2.2.2.1
theorem dX6_findRows_45 : decode cX6_findRows 45 = .ok (.iconst 1, 1) := dcq_198.2.2.2.2.2.2.2.2.2.2.2.2.2.2.2.2.2.2.2.2.2.2.2.2.2.2.2.2.1
theorem dX6_findRows_46 : decode cX6_findRows 46 = .ok (.iadd, 1) := dcq_198.2.2.2.2.2.2.2.2.2.2.2.2.2.2.2.2.2.2.2.2.2.2.2.2.2.2.2.2.2.1
theorem dX6_findRows_47 : decode cX6_findRows 47 = .ok (.aload_n 0, 1) := dcq_198.2.2.2.2.2.2.2.2.2.2.2.2.2.2.2.2.2.2.2.2.2.2.2.2.2.2.2.2.2.2.1
theorem dX6_findRows_48 : decode cX6_findRows 48 = .ok (.iload_n 1, 1) := dcq_198.2.2.2.2.2.2.2.2.2.2.2.2.2.2.2.2.2.2.2.2.2.2.2.2.2.2.2.2.2.2.2.1
theorem dX6_findRows_49 : decode cX6_findRows 49 = .ok (.iconst 3, 1) := dcq_198.2.2.2.2.2.2.2.2.2.2.2.2.2.2.2.2.2.2.2.2.2.2.2.2.2.2.2.2.2.2.2.2.1
theorem dX6_findRows_50 : decode cX6_findRows 50 = .ok (.invokevirtual 191, 3) := dcq_198.2.2.2.2.2.2.2.2.2.2.2.2.2.2.2.2.2.2.2.2.2.2.2.2.2.2.2.2.2.2.2.2.2.1
theorem dX6_findRows_53 : decode cX6_findRows 53 = .ok (.iastore, 1) := dcq_198.2.2.2.2.2.2.2.2.2.2.2.2.2.2.2.2.2.2.2.2.2.2.2.2.2.2.2.2.2.2.2.2.2.2.1
theorem dX6_findRows_54 : decode cX6_findRows 54 = .ok (.aload_n 0, 1) := dcq_198.2.2.2.2.2.2.2.2.2.2.2.2.2.2.2.2.2.2.2.2.2.2.2.2.2.2.2.2.2.2.2.2.2.2.2.1
theorem dX6_findRows_55 : decode cX6_findRows 55 = .ok (.getfield 31, 3) := dcq_198.2.2.2.2.2.2.2.2.2.2.2.2.2.2.2.2.2.2.2.2.2.2.2.2.2.2.2.2.2.2.2.2.2.2.2.2.1
theorem dX6_findRows_58 : decode cX6_findRows 58 = .ok (.iconst 3, 1) := dcq_198.2.2.2.2.2.2.2.2.2.2.2.2.2.2.2.2.2.2.2.2.2.2.2.2.2.2.2.2.2.2.2.2.2.2.2.2.2.1
theorem dX6_findRows_59 : decode cX6_findRows 59 = .ok (.iload_n 3, 1) := dcq_198.2.2.2.2.2.2.2.2.2.2.2.2.2.2.2.2.2.2.2.2.2.2.2.2.2.2.2.2.2.2.2.2.2.2.2.2.2.2.1
theorem dX6_findRows_60 : decode cX6_findRows 60 = .ok (.imul, 1) := dcq_198.2.2.2.2.2.2.2.2.2.2.2.2.2.2.2.2.2.2.2.2.2.2.2.2.2.2.2.2.2.2.2.2.2.2.2.2.2.2.2.1
theorem dX6_findRows_61 : decode cX6_findRows 61 = .ok (.iconst 2, 1) := dcq_198.2.2.2.2.2.2.2.2.2.2.2.2.2.2.2.2.2.2.2.2.2.2.2.2.2.2.2.2.2.2.2.2.2.2.2.2.2.2.2.2.1
theorem dX6_findRows_62 : decode cX6_findRows 62 = .ok (.iadd, 1) := dcq_198.2.2.2.2.2.2.2.2.2.2.2.2.2.2.2.2.2.2.2.2.2.2.2.2.2.2.2.2.2.2.2.2.2.2.2.2.2.2.2.2.2.1
theorem dX6_findRows_63 : decode cX6_findRows 63 = .ok (.iload 4, 2) := dcq_198.2.2.2.2.2.2.2.2.2.2.2.2.2.2.2.2.2.2.2.2.2.2.2.2.2.2.2.2.2.2.2.2.2.2.2.2.2.2.2.2.2.2.1
theorem dX6_findRows_65 : decode cX6_findRows 65 = .ok (.iastore, 1) := dcq_198.2.2.2.2.2.2.2.2.2.2.2.2.2.2.2.2.2.2.2.2.2.2.2.2.2.2.2.2.2.2.2.2.2.2.2.2.2.2.2.2.2.2.2.1
theorem dX6_findRows_66 : decode cX6_findRows 66 = .ok (.iinc 3 1, 3) := dcq_198.2.2.2.2.2.2.2.2.2.2.2.2.2.2.2.2.2.2.2.2.2.2.2.2.2.2.2.2.2.2.2.2.2.2.2.2.2.2.2.2.2.2.2.2.1
theorem dX6_findRows_69 : decode cX6_findRows 69 = .ok (.goto (-56), 3) := dcq_198.2.2.2.2.2.2.2.2.2.2.2.2.2.2.2.2.2.2.2.2.2.2.2.2.2.2.2.2.2.2.2.2.2.2.2.2.2.2.2.2.2.2.2.2.2.1
theorem dX6_findRows_72 : decode cX6_findRows 72 = .ok (.aload_n 0, 1) := dcq_198.2.2.2.2.2.2.2.2.2.2.2.2.2.2.2.2.2.2.2.2.2.2.2.2.2.2.2.2.2.2.2.2.2.2.2.2.2.2.2.2.2.2.2.2.2.2.1
theorem dX6_findRows_73 : decode cX6_findRows 73 = .ok (.getfield 19, 3) := dcq_198.2.2.2.2.2.2.2.2.2.2.2.2.2.2.2.2.2.2.2.2.2.2.2.2.2.2.2.2.2.2.2.2.2.2.2.2.2.2.2.2.2.2.2.2.2.2.2.1
theorem dX6_findRows_76 : decode cX6_findRows 76 = .ok (.aload_n 0, 1) := dcq_198.2.2.2.2.2.2.2.2.2.2.2.2.2.2.2.2.2.2.2.2.2.2.2.2.2.2.2.2.2.2.2.2.2.2.2.2.2.2.2.2.2.2.2.2.2.2.2.2.1
theorem dX6_findRows_77 : decode cX6_findRows 77 = .ok (.getfield 7, 3) := dcq_198.2.2.2.2.2.2.2.2.2.2.2.2.2.2.2.2.2.2.2.2.2.2.2.2.2.2.2.2.2.2.2.2.2.2.2.2.2.2.2.2.2.2.2.2.2.2.2.2.2.1
theorem dX6_findRows_80 : decode cX6_findRows 80 = .ok (.invokestatic 170, 3) := dcq_198.2.2.2.2.2.2.2.2.2.2.2.2.2.2.2.2.2.2.2.2.2.2.2.2.2.2.2.2.2.2.2.2.2.2.2.2.2.2.2.2.2.2.2.2.2.2.2.2.2.2.1
theorem dX6_findRows_83 : decode cX6_findRows 83 = .ok (.return_, 1) := dcq_198.2.2.2.2.2.2.2.2.2.2.2.2.2.2.2.2.2.2.2.2.2.2.2.2.2.2.2.2.2.2.2.2.2.2.2.2.2.2.2.2.2.2.2.2.2.2.2.2.2.2.2.1
set_option maxRecDepth 100000 in
theorem dcb_199 : dcb cX6_prove [(0, (.aload_n 0, 1)), (1, (.iload_n 1, 1)), (2, (.invokevirtual 188, 3)), (5, (.ifCond .eq 13, 3)), (8, (.iload_n 2, 1)), (9, (.iconst 1, 1)), (10, (.bipush 10, 2)), (12, (.invokestatic 60, 3)), (15, (.ifCond .ne 5, 3)), (18, (.iconst (-1), 1)), (19, (.ireturn, 1)), (20, (.aload_n 0, 1)), (21, (.iload_n 1, 1)), (22, (.iload_n 2, 1)), (23, (.invokevirtual 267, 3)), (26, (.aload_n 0, 1)), (27, (.iload_n 2, 1)), (28, (.putfield 174, 3)), (31, (.iconst 0, 1)), (32, (.istore_n 3, 1)), (33, (.iload_n 3, 1)), (34, (.iconst 3, 1)), (35, (.iload_n 2, 1)), (36, (.imul, 1)), (37, (.if_icmp .ge 21, 3)), (40, (.aload_n 0, 1)), (41, (.getfield 28, 3)), (44, (.iload_n 3, 1)), (45, (.aload_n 0, 1)), (46, (.getfield 31, 3)), (49, (.iload_n 3, 1)), (50, (.iaload, 1)), (51, (.iastore, 1)), (52, (.iinc 3 1, 3)), (55, (.goto (-22), 3)), (58, (.iload_n 2, 1)), (59, (.ireturn, 1))] = true := by decide +kernel
set_option maxRecDepth 100000 in
theorem dcq_199 : (decode cX6_prove 0 = .ok (.aload_n 0, 1)) ∧ (decode cX6_prove 1 = .ok (.iload_n 1, 1)) ∧ (decode cX6_prove 2 = .ok (.invokevirtual 188, 3)) ∧ (decode cX6_prove 5 = .ok (.ifCond .eq 13, 3)) ∧ (decode cX6_prove 8 = .ok (.iload_n 2, 1)) ∧ (decode cX6_prove 9 = .ok (.iconst 1, 1)) ∧ (decode cX6_prove 10 = .ok (.bipush 10, 2)) ∧ (decode cX6_prove 12 = .ok (.invokestatic 60, 3)) ∧ (decode cX6_prove 15 = .ok (.ifCond .ne 5, 3)) ∧ (decode cX6_prove 18 = .ok (.iconst (-1), 1)) ∧ (decode cX6_prove 19 = .ok (.ireturn, 1)) ∧ (decode cX6_prove 20 = .ok (.aload_n 0, 1)) ∧ (decode cX6_prove 21 = .ok (.iload_n 1, 1)) ∧ (decode cX6_prove 22 = .ok (.iload_n 2, 1)) ∧ (decode cX6_prove 23 = .ok (.invokevirtual 267, 3)) ∧ (decode cX6_prove 26 = .ok (.aload_n 0, 1)) ∧ (decode cX6_prove 27 = .ok (.iload_n 2, 1)) ∧ (decode cX6_prove 28 = .ok (.putfield 174, 3)) ∧ (decode cX6_prove 31 = .ok (.iconst 0, 1)) ∧ (decode cX6_prove 32 = .ok (.istore_n 3, 1)) ∧ (decode cX6_prove 33 = .ok (.iload_n 3, 1)) ∧ (decode cX6_prove 34 = .ok (.iconst 3, 1)) ∧ (decode cX6_prove 35 = .ok (.iload_n 2, 1)) ∧ (decode cX6_prove 36 = .ok (.imul, 1)) ∧ (decode cX6_prove 37 = .ok (.if_icmp .ge 21, 3)) ∧ (decode cX6_prove 40 = .ok (.aload_n 0, 1)) ∧ (decode cX6_prove 41 = .ok (.getfield 28, 3)) ∧ (decode cX6_prove 44 = .ok (.iload_n 3, 1)) ∧ (decode cX6_prove 45 = .ok (.aload_n 0, 1)) ∧ (decode cX6_prove 46 = .ok (.getfield 31, 3)) ∧ (decode cX6_prove 49 = .ok (.iload_n 3, 1)) ∧ (decode cX6_prove 50 = .ok (.iaload, 1)) ∧ (decode cX6_prove 51 = .ok (.iastore, 1)) ∧ (decode cX6_prove 52 = .ok (.iinc 3 1, 3)) ∧ (decode cX6_prove 55 = .ok (.goto (-22), 3)) ∧ (decode cX6_prove 58 = .ok (.iload_n 2, 1)) ∧ (decode cX6_prove 59 = .ok (.ireturn, 1)) ∧ True := have h := dcA_of dcb_199; h
theorem dX6_prove_0 : decode cX6_prove 0 = .ok (.aload_n 0, 1) := dcq_199.1
theorem dX6_prove_1 : decode cX6_prove 1 = .ok (.iload_n 1, 1) := dcq_199.2.1
theorem dX6_prove_2 : decode cX6_prove 2 = .ok (.invokevirtual 188, 3) := dcq_199.2.2.1
theorem dX6_prove_5 : decode cX6_prove 5 = .ok (.ifCond .eq 13, 3) := dcq_199.2.2.2.1
theorem dX6_prove_8 : decode cX6_prove 8 = .ok (.iload_n 2, 1) := dcq_199.2.2.2.2.1
theorem dX6_prove_9 : decode cX6_prove 9 = .ok (.iconst 1, 1) := dcq_199.2.2.2.2.2.1
theorem dX6_prove_10 : decode cX6_prove 10 = .ok (.bipush 10, 2) := dcq_199.2.2.2.2.2.2.1
theorem dX6_prove_12 : decode cX6_prove 12 = .ok (.invokestatic 60, 3) := dcq_199.2.2.2.2.2.2.2.1
theorem dX6_prove_15 : decode cX6_prove 15 = .ok (.ifCond .ne 5, 3) := dcq_199.2.2.2.2.2.2.2.2.1
theorem dX6_prove_18 : decode cX6_prove 18 = .ok (.iconst (-1), 1) := dcq_199.2.2.2.2.2.2.2.2.2.1
theorem dX6_prove_19 : decode cX6_prove 19 = .ok (.ireturn, 1) := dcq_199.2.2.2.2.2.2.2.2.2.2.1
theorem dX6_prove_20 : decode cX6_prove 20 = .ok (.aload_n 0, 1) := dcq_199.2.2.2.2.2.2.2.2.2.2.2.1
theorem dX6_prove_21 : decode cX6_prove 21 = .ok (.iload_n 1, 1) := dcq_199.2.2.2.2.2.2.2.2.2.2.2.2.1
theorem dX6_prove_22 : decode cX6_prove 22 = .ok (.iload_n 2, 1) := dcq_199.2.2.2.2.2.2.2.2.2.2.2.2.2.1
theorem dX6_prove_23 : decode cX6_prove 23 = .ok (.invokevirtual 267, 3) := dcq_199.2.2.2.2.2.2.2.2.2.2.2.2.2.2.1
theorem dX6_prove_26 : decode cX6_prove 26 = .ok (.aload_n 0, 1) := dcq_199.2.2.2.2.2.2.2.2.2.2.2.2.2.2.2.1
theorem dX6_prove_27 : decode cX6_prove 27 = .ok (.iload_n 2, 1) := dcq_199.2.2.2.2.2.2.2.2.2.2.2.2.2.2.2.2.1
theorem dX6_prove_28 : decode cX6_prove 28 = .ok (.putfield 174, 3) := dcq_199.2.2.2.2.2.2.2.2.2.2.2.2.2.2.2.2.2.1
theorem dX6_prove_31 : decode cX6_prove 31 = .ok (.iconst 0, 1) := dcq_199.2.2.2.2.2.2.2.2.2.2.2.2.2.2.2.2.2.2.1
theorem dX6_prove_32 : decode cX6_prove 32 = .ok (.istore_n 3, 1) := dcq_199.2.2.2.2.2.2.2.2.2.2.2.2.2.2.2.2.2.2.2.1
theorem dX6_prove_33 : decode cX6_prove 33 = .ok (.iload_n 3, 1) := dcq_199.2.2.2.2.2.2.2.2.2.2.2.2.2.2.2.2.2.2.2.2.1
theorem dX6_prove_34 : decode cX6_prove 34 = .ok (.iconst 3, 1) := dcq_199.2.2.2.2.2.2.2.2.2.2.2.2.2.2.2.2.2.2.2.2.2.1
theorem dX6_prove_35 : decode cX6_prove 35 = .ok (.iload_n 2, 1) := dcq_199.2.2.2.2.2.2.2.2.2.2.2.2.2.2.2.2.2.2.2.2.2.2.1
theorem dX6_prove_36 : decode cX6_prove 36 = .ok (.imul, 1) := dcq_199.2.2.2.2.2.2.2.2.2.2.2.2.2.2.2.2.2.2.2.2.2.2.2.1
theorem dX6_prove_37 : decode cX6_prove 37 = .ok (.if_icmp .ge 21, 3) := dcq_199.2.2.2.2.2.2.2.2.2.2.2.2.2.2.2.2.2.2.2.2.2.2.2.2.1
theorem dX6_prove_40 : decode cX6_prove 40 = .ok (.aload_n 0, 1) := dcq_199.2.2.2.2.2.2.2.2.2.2.2.2.2.2.2.2.2.2.2.2.2.2.2.2.2.1
theorem dX6_prove_41 : decode cX6_prove 41 = .ok (.getfield 28, 3) := dcq_199.2.2.2.2.2.2.2.2.2.2.2.2.2.2.2.2.2.2.2.2.2.2.2.2.2.2.1
theorem dX6_prove_44 : decode cX6_prove 44 = .ok (.iload_n 3, 1) := dcq_199.2.2.2.2.2.2.2.2.2.2.2.2.2.2.2.2.2.2.2.2.2.2.2.2.2.2.2.1
theorem dX6_prove_45 : decode cX6_prove 45 = .ok (.aload_n 0, 1) := dcq_199.2.2.2.2.2.2.2.2.2.2.2.2.2.2.2.2.2.2.2.2.2.2.2.2.2.2.2.2.1
theorem dX6_prove_46 : decode cX6_prove 46 = .ok (.getfield 31, 3) := dcq_199.2.2.2.2.2.2.2.2.2.2.2.2.2.2.2.2.2.2.2.2.2.2.2.2.2.2.2.2.2.1
theorem dX6_prove_49 : decode cX6_prove 49 = .ok (.iload_n 3, 1) := dcq_199.2.2.2.2.2.2.2.2.2.2.2.2.2.2.2.2.2.2.2.2.2.2.2.2.2.2.2.2.2.2.1
theorem dX6_prove_50 : decode cX6_prove 50 = .ok (.iaload, 1) := dcq_199.2.2.2.2.2.2.2.2.2.2.2.2.2.2.2.2.2.2.2.2.2.2.2.2.2.2.2.2.2.2.2.1
theorem dX6_prove_51 : decode cX6_prove 51 = .ok (.iastore, 1) := dcq_199.2.2.2.2.2.2.2.2.2.2.2.2.2.2.2.2.2.2.2.2.2.2.2.2.2.2.2.2.2.2.2.2.1
theorem dX6_prove_52 : decode cX6_prove 52 = .ok (.iinc 3 1, 3) := dcq_199.2.2.2.2.2.2.2.2.2.2.2.2.2.2.2.2.2.2.2.2.2.2.2.2.2.2.2.2.2.2.2.2.2.1
theorem dX6_prove_55 : decode cX6_prove 55 = .ok (.goto (-22), 3) := dcq_199.2.2.2.2.2.2.2.2.2.2.2.2.2.2.2.2.2.2.2.2.2.2.2.2.2.2.2.2.2.2.2.2.2.2.1
theorem dX6_prove_58 : decode cX6_prove 58 = .ok (.iload_n 2, 1) := dcq_199.2.2.2.2.2.2.2.2.2.2.2.2.2.2.2.2.2.2.2.2.2.2.2.2.2.2.2.2.2.2.2.2.2.2.2.1
theorem dX6_prove_59 : decode cX6_prove 59 = .ok (.ireturn, 1) := dcq_199.2.2.2.2.2.2.2.2.2.2.2.2.2.2.2.2.2.2.2.2.2.2.2.2.2.2.2.2.2.2.2.2.2.2.2.2.1
set_option maxRecDepth 100000 in
theorem dcb_200 : dcb cX6_isRow [(0, (.iload_n 1, 1)), (1, (.iconst 0, 1)), (2, (.aload_n 0, 1)), (3, (.getfield 174, 3)), (6, (.iconst 1, 1)), (7, (.isub, 1)), (8, (.invokestatic 60, 3)), (11, (.ifCond .eq 16, 3)), (14, (.iload_n 2, 1)), (15, (.iconst 0, 1)), (16, (.iconst 2, 1)), (17, (.invokestatic 60, 3)), (20, (.ifCond .eq 7, 3)), (23, (.iconst 1, 1)), (24, (.goto 4, 3)), (27, (.iconst 0, 1)), (28, (.ireturn, 1))] = true := by decide +kernel
set_option maxRecDepth 100000 in
theorem dcq_200 : (decode cX6_isRow 0 = .ok (.iload_n 1, 1)) ∧ (decode cX6_isRow 1 = .ok (.iconst 0, 1)) ∧ (decode cX6_isRow 2 = .ok (.aload_n 0, 1)) ∧ (decode cX6_isRow 3 = .ok (.getfield 174, 3)) ∧ (decode cX6_isRow 6 = .ok (.iconst 1, 1)) ∧ (decode cX6_isRow 7 = .ok (.isub, 1)) ∧ (decode cX6_isRow 8 = .ok (.invokestatic 60, 3)) ∧ (decode cX6_isRow 11 = .ok (.ifCond .eq 16, 3)) ∧ (decode cX6_isRow 14 = .ok (.iload_n 2, 1)) ∧ (decode cX6_isRow 15 = .ok (.iconst 0, 1)) ∧ (decode cX6_isRow 16 = .ok (.iconst 2, 1)) ∧ (decode cX6_isRow 17 = .ok (.invokestatic 60, 3)) ∧ (decode cX6_isRow 20 = .ok (.ifCond .eq 7, 3)) ∧ (decode cX6_isRow 23 = .ok (.iconst 1, 1)) ∧ (decode cX6_isRow 24 = .ok (.goto 4, 3)) ∧ (decode cX6_isRow 27 = .ok (.iconst 0, 1)) ∧ (decode cX6_isRow 28 = .ok (.ireturn, 1)) ∧ True := have h := dcA_of dcb_200; h
theorem dX6_isRow_0 : decode cX6_isRow 0 = .ok (.iload_n 1, 1) := dcq_200.1
theorem dX6_isRow_1 : decode cX6_isRow 1 = .ok (.iconst 0, 1) := dcq_200.2.1
theorem dX6_isRow_2 : decode cX6_isRow 2 = .ok (.aload_n 0, 1) := dcq_200.2.2.1
theorem dX6_isRow_3 : decode cX6_isRow 3 = .ok (.getfield 174, 3) := dcq_200.2.2.2.1
theorem dX6_isRow_6 : decode cX6_isRow 6 = .ok (.iconst 1, 1) := dcq_200.2.2.2.2.1
theorem dX6_isRow_7 : decode cX6_isRow 7 = .ok (.isub, 1) := dcq_200.2.2.2.2.2.1
theorem dX6_isRow_8 : decode cX6_isRow 8 = .ok (.invokestatic 60, 3) := dcq_200.2.2.2.2.2.2.1
theorem dX6_isRow_11 : decode cX6_isRow 11 = .ok (.ifCond .eq 16, 3) := dcq_200.2.2.2.2.2.2.2.1
theorem dX6_isRow_14 : decode cX6_isRow 14 = .ok (.iload_n 2, 1) := dcq_200.2.2.2.2.2.2.2.2.1
