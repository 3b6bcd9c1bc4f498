-- decode rows: a program laid them
theorem dX3_holdRow_27 : decode cX3_holdRow 27 = .ok (.getfield 24, 3) := dcq_98.2.2.2.1
theorem dX3_holdRow_30 : decode cX3_holdRow 30 = .ok (.putfield 27, 3) := dcq_98.2.2.2.2.1
theorem dX3_holdRow_33 : decode cX3_holdRow 33 = .ok (.return_, 1) := dcq_98.2.2.2.2.2
set_option maxRecDepth 20000 in
theorem dcb_99 : fd_B cX4_init 0 [42, 183, 0, 3, 42, 17, 0, 200, 188, 10, 181, 0, 11, 42, 17, 0, 201, 188, 10, 181, 0, 15, 42, 17, 0, 201] := fd_o cX4_init 0 _ (by decide +kernel)
theorem dcq_99 : (decode cX4_init 0 = .ok (.aload_n 0, 1)) ∧ (decode cX4_init 1 = .ok (.invokespecial 3, 3)) ∧ (decode cX4_init 4 = .ok (.aload_n 0, 1)) ∧ (decode cX4_init 5 = .ok (.sipush 200, 3)) ∧ (decode cX4_init 8 = .ok (.newarray .int, 2)) ∧ (decode cX4_init 10 = .ok (.putfield 11, 3)) ∧ (decode cX4_init 13 = .ok (.aload_n 0, 1)) ∧ (decode cX4_init 14 = .ok (.sipush 201, 3)) ∧ (decode cX4_init 17 = .ok (.newarray .int, 2)) ∧ (decode cX4_init 19 = .ok (.putfield 15, 3)) ∧ (decode cX4_init 22 = .ok (.aload_n 0, 1)) ∧ (decode cX4_init 23 = .ok (.sipush 201, 3)) := have h := dcb_99; ⟨fd_42 h, have h := fd_t1 h; ⟨fd_183 h rfl, have h := fd_t3 h; ⟨fd_42 h, have h := fd_t1 h; ⟨fd_17 h (by decide +kernel), have h := fd_t3 h; ⟨fd_188_10 h, have h := fd_t2 h; ⟨fd_181 h rfl, have h := fd_t3 h; ⟨fd_42 h, have h := fd_t1 h; ⟨fd_17 h (by decide +kernel), have h := fd_t3 h; ⟨fd_188_10 h, have h := fd_t2 h; ⟨fd_181 h rfl, have h := fd_t3 h; ⟨fd_42 h, have h := fd_t1 h; fd_17 h (by decide +kernel)⟩⟩⟩⟩⟩⟩⟩⟩⟩⟩⟩
theorem dX4_init_0 : decode cX4_init 0 = .ok (.aload_n 0, 1) := dcq_99.1
theorem dX4_init_1 : decode cX4_init 1 = .ok (.invokespecial 3, 3) := dcq_99.2.1
theorem dX4_init_4 : decode cX4_init 4 = .ok (.aload_n 0, 1) := dcq_99.2.2.1
theorem dX4_init_5 : decode cX4_init 5 = .ok (.sipush 200, 3) := dcq_99.2.2.2.1
theorem dX4_init_8 : decode cX4_init 8 = .ok (.newarray .int, 2) := dcq_99.2.2.2.2.1
theorem dX4_init_10 : decode cX4_init 10 = .ok (.putfield 11, 3) := dcq_99.2.2.2.2.2.1
theorem dX4_init_13 : decode cX4_init 13 = .ok (.aload_n 0, 1) := dcq_99.2.2.2.2.2.2.1
theorem dX4_init_14 : decode cX4_init 14 = .ok (.sipush 201, 3) := dcq_99.2.2.2.2.2.2.2.1
theorem dX4_init_17 : decode cX4_init 17 = .ok (.newarray .int, 2) := dcq_99.2.2.2.2.2.2.2.2.1
theorem dX4_init_19 : decode cX4_init 19 = .ok (.putfield 15, 3) := dcq_99.2.2.2.2.2.2.2.2.2.1
theorem dX4_init_22 : decode cX4_init 22 = .ok (.aload_n 0, 1) := dcq_99.2.2.2.2.2.2.2.2.2.2.1
theorem dX4_init_23 : decode cX4_init 23 = .ok (.sipush 201, 3) := dcq_99.2.2.2.2.2.2.2.2.2.2.2
set_option maxRecDepth 20000 in
theorem dcb_100 : fd_B cX4_init 26 [188, 10, 181, 0, 18, 42, 17, 0, 201, 188, 10, 181, 0, 21, 177] := fd_o cX4_init 26 _ (by decide +kernel)
theorem dcq_100 : (decode cX4_init 26 = .ok (.newarray .int, 2)) ∧ (decode cX4_init 28 = .ok (.putfield 18, 3)) ∧ (decode cX4_init 31 = .ok (.aload_n 0, 1)) ∧ (decode cX4_init 32 = .ok (.sipush 201, 3)) ∧ (decode cX4_init 35 = .ok (.newarray .int, 2)) ∧ (decode cX4_init 37 = .ok (.putfield 21, 3)) ∧ (decode cX4_init 40 = .ok (.return_, 1)) := have h := dcb_100; ⟨fd_188_10 h, have h := fd_t2 h; ⟨fd_181 h rfl, have h := fd_t3 h; ⟨fd_42 h, have h := fd_t1 h; ⟨fd_17 h (by decide +kernel), have h := fd_t3 h; ⟨fd_188_10 h, have h := fd_t2 h; ⟨fd_181 h rfl, have h := fd_t3 h; fd_177 h⟩⟩⟩⟩⟩⟩
theorem dX4_init_26 : decode cX4_init 26 = .ok (.newarray .int, 2) := dcq_100.1
theorem dX4_init_28 : decode cX4_init 28 = .ok (.putfield 18, 3) := dcq_100.2.1
theorem dX4_init_31 : decode cX4_init 31 = .ok (.aload_n 0, 1) := dcq_100.2.2.1
theorem dX4_init_32 : decode cX4_init 32 = .ok (.sipush 201, 3) := dcq_100.2.2.2.1
theorem dX4_init_35 : decode cX4_init 35 = .ok (.newarray .int, 2) := dcq_100.2.2.2.2.1
theorem dX4_init_37 : decode cX4_init 37 = .ok (.putfield 21, 3) := dcq_100.2.2.2.2.2.1
theorem dX4_init_40 : decode cX4_init 40 = .ok (.return_, 1) := dcq_100.2.2.2.2.2.2
set_option maxRecDepth 20000 in
theorem dcb_101 : fd_B cX4_take 0 [29, 17, 0, 200, 42, 180, 0, 24, 100, 164, 0, 5, 3, 172, 3, 54, 4, 21, 4, 29] := fd_o cX4_take 0 _ (by decide +kernel)
theorem dcq_101 : (decode cX4_take 0 = .ok (.iload_n 3, 1)) ∧ (decode cX4_take 1 = .ok (.sipush 200, 3)) ∧ (decode cX4_take 4 = .ok (.aload_n 0, 1)) ∧ (decode cX4_take 5 = .ok (.getfield 24, 3)) ∧ (decode cX4_take 8 = .ok (.isub, 1)) ∧ (decode cX4_take 9 = .ok (.if_icmp .le 5, 3)) ∧ (decode cX4_take 12 = .ok (.iconst 0, 1)) ∧ (decode cX4_take 13 = .ok (.ireturn, 1)) ∧ (decode cX4_take 14 = .ok (.iconst 0, 1)) ∧ (decode cX4_take 15 = .ok (.istore 4, 2)) ∧ (decode cX4_take 17 = .ok (.iload 4, 2)) ∧ (decode cX4_take 19 = .ok (.iload_n 3, 1)) := have h := dcb_101; ⟨fd_29 h, have h := fd_t1 h; ⟨fd_17 h (by decide +kernel), have h := fd_t3 h; ⟨fd_42 h, have h := fd_t1 h; ⟨fd_180 h rfl, have h := fd_t3 h; ⟨fd_100 h, have h := fd_t1 h; ⟨fd_164 h (by decide +kernel), have h := fd_t3 h; ⟨fd_3 h, have h := fd_t1 h; ⟨fd_172 h, have h := fd_t1 h; ⟨fd_3 h, have h := fd_t1 h; ⟨fd_54 h rfl, have h := fd_t2 h; ⟨fd_21 h rfl, have h := fd_t2 h; fd_29 h⟩⟩⟩⟩⟩⟩⟩⟩⟩⟩⟩
theorem dX4_take_0 : decode cX4_take 0 = .ok (.iload_n 3, 1) := dcq_101.1
theorem dX4_take_1 : decode cX4_take 1 = .ok (.sipush 200, 3) := dcq_101.2.1
theorem dX4_take_4 : decode cX4_take 4 = .ok (.aload_n 0, 1) := dcq_101.2.2.1
theorem dX4_take_5 : decode cX4_take 5 = .ok (.getfield 24, 3) := dcq_101.2.2.2.1
theorem dX4_take_8 : decode cX4_take 8 = .ok (.isub, 1) := dcq_101.2.2.2.2.1
theorem dX4_take_9 : decode cX4_take 9 = .ok (.if_icmp .le 5, 3) := dcq_101.2.2.2.2.2.1
theorem dX4_take_12 : decode cX4_take 12 = .ok (.iconst 0, 1) := dcq_101.2.2.2.2.2.2.1
theorem dX4_take_13 : decode cX4_take 13 = .ok (.ireturn, 1) := dcq_101.2.2.2.2.2.2.2.1
theorem dX4_take_14 : decode cX4_take 14 = .ok (.iconst 0, 1) := dcq_101.2.2.2.2.2.2.2.2.1
theorem dX4_take_15 : decode cX4_take 15 = .ok (.istore 4, 2) := dcq_101.2.2.2.2.2.2.2.2.2.1
theorem dX4_take_17 : decode cX4_take 17 = .ok (.iload 4, 2) := dcq_101.2.2.2.2.2.2.2.2.2.2.1
theorem dX4_take_19 : decode cX4_take 19 = .ok (.iload_n 3, 1) := dcq_101.2.2.2.2.2.2.2.2.2.2.2
set_option maxRecDepth 20000 in
theorem dcb_102 : fd_B cX4_take 20 [162, 0, 33, 42, 180, 0, 11, 42, 180, 0, 24, 21, 4, 96, 31, 16, 8, 21, 4, 104, 125] := fd_o cX4_take 20 _ (by decide +kernel)
theorem dcq_102 : (decode cX4_take 20 = .ok (.if_icmp .ge 33, 3)) ∧ (decode cX4_take 23 = .ok (.aload_n 0, 1)) ∧ (decode cX4_take 24 = .ok (.getfield 11, 3)) ∧ (decode cX4_take 27 = .ok (.aload_n 0, 1)) ∧ (decode cX4_take 28 = .ok (.getfield 24, 3)) ∧ (decode cX4_take 31 = .ok (.iload 4, 2)) ∧ (decode cX4_take 33 = .ok (.iadd, 1)) ∧ (decode cX4_take 34 = .ok (.lload_n 1, 1)) ∧ (decode cX4_take 35 = .ok (.bipush 8, 2)) ∧ (decode cX4_take 37 = .ok (.iload 4, 2)) ∧ (decode cX4_take 39 = .ok (.imul, 1)) ∧ (decode cX4_take 40 = .ok (.lushr, 1)) := have h := dcb_102; ⟨fd_162 h (by decide +kernel), have h := fd_t3 h; ⟨fd_42 h, have h := fd_t1 h; ⟨fd_180 h rfl, have h := fd_t3 h; ⟨fd_42 h, have h := fd_t1 h; ⟨fd_180 h rfl, have h := fd_t3 h; ⟨fd_21 h rfl, have h := fd_t2 h; ⟨fd_96 h, have h := fd_t1 h; ⟨fd_31 h, have h := fd_t1 h; ⟨fd_16 h (by decide +kernel), have h := fd_t2 h; ⟨fd_21 h rfl, have h := fd_t2 h; ⟨fd_104 h, have h := fd_t1 h; fd_125 h⟩⟩⟩⟩⟩⟩⟩⟩⟩⟩⟩
theorem dX4_take_20 : decode cX4_take 20 = .ok (.if_icmp .ge 33, 3) := dcq_102.1
theorem dX4_take_23 : decode cX4_take 23 = .ok (.aload_n 0, 1) := dcq_102.2.1
theorem dX4_take_24 : decode cX4_take 24 = .ok (.getfield 11, 3) := dcq_102.2.2.1
theorem dX4_take_27 : decode cX4_take 27 = .ok (.aload_n 0, 1) := dcq_102.2.2.2.1
theorem dX4_take_28 : decode cX4_take 28 = .ok (.getfield 24, 3) := dcq_102.2.2.2.2.1
theorem dX4_take_31 : decode cX4_take 31 = .ok (.iload 4, 2) := dcq_102.2.2.2.2.2.1
theorem dX4_take_33 : decode cX4_take 33 = .ok (.iadd, 1) := dcq_102.2.2.2.2.2.2.1
theorem dX4_take_34 : decode cX4_take 34 = .ok (.lload_n 1, 1) := dcq_102.2.2.2.2.2.2.2.1
theorem dX4_take_35 : decode cX4_take 35 = .ok (.bipush 8, 2) := dcq_102.2.2.2.2.2.2.2.2.1
theorem dX4_take_37 : decode cX4_take 37 = .ok (.iload 4, 2) := dcq_102.2.2.2.2.2.2.2.2.2.1
theorem dX4_take_39 : decode cX4_take 39 = .ok (.imul, 1) := dcq_102.2.2.2.2.2.2.2.2.2.2.1
theorem dX4_take_40 : decode cX4_take 40 = .ok (.lushr, 1) := dcq_102.2.2.2.2.2.2.2.2.2.2.2
set_option maxRecDepth 20000 in
theorem dcb_103 : fd_B cX4_take 41 [20, 0, 28, 127, 136, 79, 132, 4, 1, 167, 255, 223, 42, 89, 180, 0, 24, 29, 96, 181, 0, 24] := fd_o cX4_take 41 _ (by decide +kernel)
theorem dcq_103 : (decode cX4_take 41 = .ok (.ldc2_w 28, 3)) ∧ (decode cX4_take 44 = .ok (.land, 1)) ∧ (decode cX4_take 45 = .ok (.l2i, 1)) ∧ (decode cX4_take 46 = .ok (.iastore, 1)) ∧ (decode cX4_take 47 = .ok (.iinc 4 1, 3)) ∧ (decode cX4_take 50 = .ok (.goto (-33), 3)) ∧ (decode cX4_take 53 = .ok (.aload_n 0, 1)) ∧ (decode cX4_take 54 = .ok (.dup, 1)) ∧ (decode cX4_take 55 = .ok (.getfield 24, 3)) ∧ (decode cX4_take 58 = .ok (.iload_n 3, 1)) ∧ (decode cX4_take 59 = .ok (.iadd, 1)) ∧ (decode cX4_take 60 = .ok (.putfield 24, 3)) := have h := dcb_103; ⟨fd_20 h rfl, have h := fd_t3 h; ⟨fd_127 h, have h := fd_t1 h; ⟨fd_136 h, have h := fd_t1 h; ⟨fd_79 h, have h := fd_t1 h; ⟨fd_132 h rfl (by decide +kernel), have h := fd_t3 h; ⟨fd_167 h (by decide +kernel), have h := fd_t3 h; ⟨fd_42 h, have h := fd_t1 h; ⟨fd_89 h, have h := fd_t1 h; ⟨fd_180 h rfl, have h := fd_t3 h; ⟨fd_29 h, have h := fd_t1 h; ⟨fd_96 h, have h := fd_t1 h; fd_181 h rfl⟩⟩⟩⟩⟩⟩⟩⟩⟩⟩⟩
theorem dX4_take_41 : decode cX4_take 41 = .ok (.ldc2_w 28, 3) := dcq_103.1
theorem dX4_take_44 : decode cX4_take 44 = .ok (.land, 1) := dcq_103.2.1
theorem dX4_take_45 : decode cX4_take 45 = .ok (.l2i, 1) := dcq_103.2.2.1
theorem dX4_take_46 : decode cX4_take 46 = .ok (.iastore, 1) := dcq_103.2.2.2.1
theorem dX4_take_47 : decode cX4_take 47 = .ok (.iinc 4 1, 3) := dcq_103.2.2.2.2.1
theorem dX4_take_50 : decode cX4_take 50 = .ok (.goto (-33), 3) := dcq_103.2.2.2.2.2.1
theorem dX4_take_53 : decode cX4_take 53 = .ok (.aload_n 0, 1) := dcq_103.2.2.2.2.2.2.1
theorem dX4_take_54 : decode cX4_take 54 = .ok (.dup, 1) := dcq_103.2.2.2.2.2.2.2.1
theorem dX4_take_55 : decode cX4_take 55 = .ok (.getfield 24, 3) := dcq_103.2.2.2.2.2.2.2.2.1
theorem dX4_take_58 : decode cX4_take 58 = .ok (.iload_n 3, 1) := dcq_103.2.2.2.2.2.2.2.2.2.1
theorem dX4_take_59 : decode cX4_take 59 = .ok (.iadd, 1) := dcq_103.2.2.2.2.2.2.2.2.2.2.1
theorem dX4_take_60 : decode cX4_take 60 = .ok (.putfield 24, 3) := dcq_103.2.2.2.2.2.2.2.2.2.2.2
set_option maxRecDepth 20000 in
theorem dcb_104 : fd_B cX4_take 63 [4, 172] := fd_o cX4_take 63 _ (by decide +kernel)
theorem dcq_104 : (decode cX4_take 63 = .ok (.iconst 1, 1)) ∧ (decode cX4_take 64 = .ok (.ireturn, 1)) := have h := dcb_104; ⟨fd_4 h, have h := fd_t1 h; fd_172 h⟩
theorem dX4_take_63 : decode cX4_take 63 = .ok (.iconst 1, 1) := dcq_104.1
theorem dX4_take_64 : decode cX4_take 64 = .ok (.ireturn, 1) := dcq_104.2
set_option maxRecDepth 20000 in
theorem dcb_105 : fd_B cX4_tell 0 [42, 182, 0, 30, 42, 3, 181, 0, 33, 42, 16, 253, 181, 0, 36, 3, 61, 28, 42] := fd_o cX4_tell 0 _ (by decide +kernel)
theorem dcq_105 : (decode cX4_tell 0 = .ok (.aload_n 0, 1)) ∧ (decode cX4_tell 1 = .ok (.invokevirtual 30, 3)) ∧ (decode cX4_tell 4 = .ok (.aload_n 0, 1)) ∧ (decode cX4_tell 5 = .ok (.iconst 0, 1)) ∧ (decode cX4_tell 6 = .ok (.putfield 33, 3)) ∧ (decode cX4_tell 9 = .ok (.aload_n 0, 1)) ∧ (decode cX4_tell 10 = .ok (.bipush (-3), 2)) ∧ (decode cX4_tell 12 = .ok (.putfield 36, 3)) ∧ (decode cX4_tell 15 = .ok (.iconst 0, 1)) ∧ (decode cX4_tell 16 = .ok (.istore_n 2, 1)) ∧ (decode cX4_tell 17 = .ok (.iload_n 2, 1)) ∧ (decode cX4_tell 18 = .ok (.aload_n 0, 1)) := have h := dcb_105; ⟨fd_42 h, have h := fd_t1 h; ⟨fd_182 h rfl, have h := fd_t3 h; ⟨fd_42 h, have h := fd_t1 h; ⟨fd_3 h, have h := fd_t1 h; ⟨fd_181 h rfl, have h := fd_t3 h; ⟨fd_42 h, have h := fd_t1 h; ⟨fd_16 h (by decide +kernel), have h := fd_t2 h; ⟨fd_181 h rfl, have h := fd_t3 h; ⟨fd_3 h, have h := fd_t1 h; ⟨fd_61 h, have h := fd_t1 h; ⟨fd_28 h, have h := fd_t1 h; fd_42 h⟩⟩⟩⟩⟩⟩⟩⟩⟩⟩⟩
theorem dX4_tell_0 : decode cX4_tell 0 = .ok (.aload_n 0, 1) := dcq_105.1
theorem dX4_tell_1 : decode cX4_tell 1 = .ok (.invokevirtual 30, 3) := dcq_105.2.1
theorem dX4_tell_4 : decode cX4_tell 4 = .ok (.aload_n 0, 1) := dcq_105.2.2.1
theorem dX4_tell_5 : decode cX4_tell 5 = .ok (.iconst 0, 1) := dcq_105.2.2.2.1
theorem dX4_tell_6 : decode cX4_tell 6 = .ok (.putfield 33, 3) := dcq_105.2.2.2.2.1
theorem dX4_tell_9 : decode cX4_tell 9 = .ok (.aload_n 0, 1) := dcq_105.2.2.2.2.2.1
theorem dX4_tell_10 : decode cX4_tell 10 = .ok (.bipush (-3), 2) := dcq_105.2.2.2.2.2.2.1
theorem dX4_tell_12 : decode cX4_tell 12 = .ok (.putfield 36, 3) := dcq_105.2.2.2.2.2.2.2.1
theorem dX4_tell_15 : decode cX4_tell 15 = .ok (.iconst 0, 1) := dcq_105.2.2.2.2.2.2.2.2.1
theorem dX4_tell_16 : decode cX4_tell 16 = .ok (.istore_n 2, 1) := dcq_105.2.2.2.2.2.2.2.2.2.1
theorem dX4_tell_17 : decode cX4_tell 17 = .ok (.iload_n 2, 1) := dcq_105.2.2.2.2.2.2.2.2.2.2.1
theorem dX4_tell_18 : decode cX4_tell 18 = .ok (.aload_n 0, 1) := dcq_105.2.2.2.2.2.2.2.2.2.2.2
set_option maxRecDepth 20000 in
theorem dcb_106 : fd_B cX4_tell 19 [180, 0, 39, 162, 0, 33, 42, 180, 0, 36, 156, 0, 26, 42, 180, 0, 15, 42, 180, 0, 33, 46, 153, 0, 14, 42] := fd_o cX4_tell 19 _ (by decide +kernel)
theorem dcq_106 : (decode cX4_tell 19 = .ok (.getfield 39, 3)) ∧ (decode cX4_tell 22 = .ok (.if_icmp .ge 33, 3)) ∧ (decode cX4_tell 25 = .ok (.aload_n 0, 1)) ∧ (decode cX4_tell 26 = .ok (.getfield 36, 3)) ∧ (decode cX4_tell 29 = .ok (.ifCond .ge 26, 3)) ∧ (decode cX4_tell 32 = .ok (.aload_n 0, 1)) ∧ (decode cX4_tell 33 = .ok (.getfield 15, 3)) ∧ (decode cX4_tell 36 = .ok (.aload_n 0, 1)) ∧ (decode cX4_tell 37 = .ok (.getfield 33, 3)) ∧ (decode cX4_tell 40 = .ok (.iaload, 1)) ∧ (decode cX4_tell 41 = .ok (.ifCond .eq 14, 3)) ∧ (decode cX4_tell 44 = .ok (.aload_n 0, 1)) := have h := dcb_106; ⟨fd_180 h rfl, have h := fd_t3 h; ⟨fd_162 h (by decide +kernel), have h := fd_t3 h; ⟨fd_42 h, have h := fd_t1 h; ⟨fd_180 h rfl, have h := fd_t3 h; ⟨fd_156 h (by decide +kernel), have h := fd_t3 h; ⟨fd_42 h, have h := fd_t1 h; ⟨fd_180 h rfl, have h := fd_t3 h; ⟨fd_42 h, have h := fd_t1 h; ⟨fd_180 h rfl, have h := fd_t3 h; ⟨fd_46 h, have h := fd_t1 h; ⟨fd_153 h (by decide +kernel), have h := fd_t3 h; fd_42 h⟩⟩⟩⟩⟩⟩⟩⟩⟩⟩⟩
theorem dX4_tell_19 : decode cX4_tell 19 = .ok (.getfield 39, 3) := dcq_106.1
theorem dX4_tell_22 : decode cX4_tell 22 = .ok (.if_icmp .ge 33, 3) := dcq_106.2.1
theorem dX4_tell_25 : decode cX4_tell 25 = .ok (.aload_n 0, 1) := dcq_106.2.2.1
theorem dX4_tell_26 : decode cX4_tell 26 = .ok (.getfield 36, 3) := dcq_106.2.2.2.1
theorem dX4_tell_29 : decode cX4_tell 29 = .ok (.ifCond .ge 26, 3) := dcq_106.2.2.2.2.1
theorem dX4_tell_32 : decode cX4_tell 32 = .ok (.aload_n 0, 1) := dcq_106.2.2.2.2.2.1
theorem dX4_tell_33 : decode cX4_tell 33 = .ok (.getfield 15, 3) := dcq_106.2.2.2.2.2.2.1
theorem dX4_tell_36 : decode cX4_tell 36 = .ok (.aload_n 0, 1) := dcq_106.2.2.2.2.2.2.2.1
theorem dX4_tell_37 : decode cX4_tell 37 = .ok (.getfield 33, 3) := dcq_106.2.2.2.2.2.2.2.2.1
theorem dX4_tell_40 : decode cX4_tell 40 = .ok (.iaload, 1) := dcq_106.2.2.2.2.2.2.2.2.2.1
theorem dX4_tell_41 : decode cX4_tell 41 = .ok (.ifCond .eq 14, 3) := dcq_106.2.2.2.2.2.2.2.2.2.2.1
theorem dX4_tell_44 : decode cX4_tell 44 = .ok (.aload_n 0, 1) := dcq_106.2.2.2.2.2.2.2.2.2.2.2
set_option maxRecDepth 20000 in
theorem dcb_107 : fd_B cX4_tell 45 [43, 182, 0, 42, 132, 2, 1, 167, 255, 221, 42, 180, 0, 36, 172] := fd_o cX4_tell 45 _ (by decide +kernel)
theorem dcq_107 : (decode cX4_tell 45 = .ok (.aload_n 1, 1)) ∧ (decode cX4_tell 46 = .ok (.invokevirtual 42, 3)) ∧ (decode cX4_tell 49 = .ok (.iinc 2 1, 3)) ∧ (decode cX4_tell 52 = .ok (.goto (-35), 3)) ∧ (decode cX4_tell 55 = .ok (.aload_n 0, 1)) ∧ (decode cX4_tell 56 = .ok (.getfield 36, 3)) ∧ (decode cX4_tell 59 = .ok (.ireturn, 1)) := have h := dcb_107; ⟨fd_43 h, have h := fd_t1 h; ⟨fd_182 h rfl, have h := fd_t3 h; ⟨fd_132 h rfl (by decide +kernel), have h := fd_t3 h; ⟨fd_167 h (by decide +kernel), have h := fd_t3 h; ⟨fd_42 h, have h := fd_t1 h; ⟨fd_180 h rfl, have h := fd_t3 h; fd_172 h⟩⟩⟩⟩⟩⟩
theorem dX4_tell_45 : decode cX4_tell 45 = .ok (.aload_n 1, 1) := dcq_107.1
theorem dX4_tell_46 : decode cX4_tell 46 = .ok (.invokevirtual 42, 3) := dcq_107.2.1
theorem dX4_tell_49 : decode cX4_tell 49 = .ok (.iinc 2 1, 3) := dcq_107.2.2.1
theorem dX4_tell_52 : decode cX4_tell 52 = .ok (.goto (-35), 3) := dcq_107.2.2.2.1
theorem dX4_tell_55 : decode cX4_tell 55 = .ok (.aload_n 0, 1) := dcq_107.2.2.2.2.1
theorem dX4_tell_56 : decode cX4_tell 56 = .ok (.getfield 36, 3) := dcq_107.2.2.2.2.2.1
theorem dX4_tell_59 : decode cX4_tell 59 = .ok (.ireturn, 1) := dcq_107.2.2.2.2.2.2
set_option maxRecDepth 20000 in
theorem dcb_108 : fd_B cX4_cut 0 [42, 3, 181, 0, 39, 3, 60, 3, 61, 28, 17, 0, 200, 162, 0, 78, 27, 42] := fd_o cX4_cut 0 _ (by decide +kernel)
theorem dcq_108 : (decode cX4_cut 0 = .ok (.aload_n 0, 1)) ∧ (decode cX4_cut 1 = .ok (.iconst 0, 1)) ∧ (decode cX4_cut 2 = .ok (.putfield 39, 3)) ∧ (decode cX4_cut 5 = .ok (.iconst 0, 1)) ∧ (decode cX4_cut 6 = .ok (.istore_n 1, 1)) ∧ (decode cX4_cut 7 = .ok (.iconst 0, 1)) ∧ (decode cX4_cut 8 = .ok (.istore_n 2, 1)) ∧ (decode cX4_cut 9 = .ok (.iload_n 2, 1)) ∧ (decode cX4_cut 10 = .ok (.sipush 200, 3)) ∧ (decode cX4_cut 13 = .ok (.if_icmp .ge 78, 3)) ∧ (decode cX4_cut 16 = .ok (.iload_n 1, 1)) ∧ (decode cX4_cut 17 = .ok (.aload_n 0, 1)) := have h := dcb_108; ⟨fd_42 h, have h := fd_t1 h; ⟨fd_3 h, have h := fd_t1 h; ⟨fd_181 h rfl, have h := fd_t3 h; ⟨fd_3 h, have h := fd_t1 h; ⟨fd_60 h, have h := fd_t1 h; ⟨fd_3 h, have h := fd_t1 h; ⟨fd_61 h, have h := fd_t1 h; ⟨fd_28 h, have h := fd_t1 h; ⟨fd_17 h (by decide +kernel), have h := fd_t3 h; ⟨fd_162 h (by decide +kernel), have h := fd_t3 h; ⟨fd_27 h, have h := fd_t1 h; fd_42 h⟩⟩⟩⟩⟩⟩⟩⟩⟩⟩⟩
theorem dX4_cut_0 : decode cX4_cut 0 = .ok (.aload_n 0, 1) := dcq_108.1
theorem dX4_cut_1 : decode cX4_cut 1 = .ok (.iconst 0, 1) := dcq_108.2.1
theorem dX4_cut_2 : decode cX4_cut 2 = .ok (.putfield 39, 3) := dcq_108.2.2.1
theorem dX4_cut_5 : decode cX4_cut 5 = .ok (.iconst 0, 1) := dcq_108.2.2.2.1
theorem dX4_cut_6 : decode cX4_cut 6 = .ok (.istore_n 1, 1) := dcq_108.2.2.2.2.1
theorem dX4_cut_7 : decode cX4_cut 7 = .ok (.iconst 0, 1) := dcq_108.2.2.2.2.2.1
theorem dX4_cut_8 : decode cX4_cut 8 = .ok (.istore_n 2, 1) := dcq_108.2.2.2.2.2.2.1
theorem dX4_cut_9 : decode cX4_cut 9 = .ok (.iload_n 2, 1) := dcq_108.2.2.2.2.2.2.2.1
theorem dX4_cut_10 : decode cX4_cut 10 = .ok (.sipush 200, 3) := dcq_108.2.2.2.2.2.2.2.2.1
theorem dX4_cut_13 : decode cX4_cut 13 = .ok (.if_icmp .ge 78, 3) := dcq_108.2.2.2.2.2.2.2.2.2.1
theorem dX4_cut_16 : decode cX4_cut 16 = .ok (.iload_n 1, 1) := dcq_108.2.2.2.2.2.2.2.2.2.2.1
theorem dX4_cut_17 : decode cX4_cut 17 = .ok (.aload_n 0, 1) := dcq_108.2.2.2.2.2.2.2.2.2.2.2
set_option maxRecDepth 20000 in
theorem dcb_109 : fd_B cX4_cut 18 [180, 0, 24, 162, 0, 70, 42, 180, 0, 11, 27, 46, 62, 29, 16, 32, 160, 0, 9, 132, 1, 1, 167, 0, 45] := fd_o cX4_cut 18 _ (by decide +kernel)
theorem dcq_109 : (decode cX4_cut 18 = .ok (.getfield 24, 3)) ∧ (decode cX4_cut 21 = .ok (.if_icmp .ge 70, 3)) ∧ (decode cX4_cut 24 = .ok (.aload_n 0, 1)) ∧ (decode cX4_cut 25 = .ok (.getfield 11, 3)) ∧ (decode cX4_cut 28 = .ok (.iload_n 1, 1)) ∧ (decode cX4_cut 29 = .ok (.iaload, 1)) ∧ (decode cX4_cut 30 = .ok (.istore_n 3, 1)) ∧ (decode cX4_cut 31 = .ok (.iload_n 3, 1)) ∧ (decode cX4_cut 32 = .ok (.bipush 32, 2)) ∧ (decode cX4_cut 34 = .ok (.if_icmp .ne 9, 3)) ∧ (decode cX4_cut 37 = .ok (.iinc 1 1, 3)) ∧ (decode cX4_cut 40 = .ok (.goto 45, 3)) := have h := dcb_109; ⟨fd_180 h rfl, have h := fd_t3 h; ⟨fd_162 h (by decide +kernel), have h := fd_t3 h; ⟨fd_42 h, have h := fd_t1 h; ⟨fd_180 h rfl, have h := fd_t3 h; ⟨fd_27 h, have h := fd_t1 h; ⟨fd_46 h, have h := fd_t1 h; ⟨fd_62 h, have h := fd_t1 h; ⟨fd_29 h, have h := fd_t1 h; ⟨fd_16 h (by decide +kernel), have h := fd_t2 h; ⟨fd_160 h (by decide +kernel), have h := fd_t3 h; ⟨fd_132 h rfl (by decide +kernel), have h := fd_t3 h; fd_167 h (by decide +kernel)⟩⟩⟩⟩⟩⟩⟩⟩⟩⟩⟩
theorem dX4_cut_18 : decode cX4_cut 18 = .ok (.getfield 24, 3) := dcq_109.1
theorem dX4_cut_21 : decode cX4_cut 21 = .ok (.if_icmp .ge 70, 3) := dcq_109.2.1
theorem dX4_cut_24 : decode cX4_cut 24 = .ok (.aload_n 0, 1) := dcq_109.2.2.1
theorem dX4_cut_25 : decode cX4_cut 25 = .ok (.getfield 11, 3) := dcq_109.2.2.2.1
theorem dX4_cut_28 : decode cX4_cut 28 = .ok (.iload_n 1, 1) := dcq_109.2.2.2.2.1
theorem dX4_cut_29 : decode cX4_cut 29 = .ok (.iaload, 1) := dcq_109.2.2.2.2.2.1
theorem dX4_cut_30 : decode cX4_cut 30 = .ok (.istore_n 3, 1) := dcq_109.2.2.2.2.2.2.1
theorem dX4_cut_31 : decode cX4_cut 31 = .ok (.iload_n 3, 1) := dcq_109.2.2.2.2.2.2.2.1
theorem dX4_cut_32 : decode cX4_cut 32 = .ok (.bipush 32, 2) := dcq_109.2.2.2.2.2.2.2.2.1
theorem dX4_cut_34 : decode cX4_cut 34 = .ok (.if_icmp .ne 9, 3) := dcq_109.2.2.2.2.2.2.2.2.2.1
theorem dX4_cut_37 : decode cX4_cut 37 = .ok (.iinc 1 1, 3) := dcq_109.2.2.2.2.2.2.2.2.2.2.1
theorem dX4_cut_40 : decode cX4_cut 40 = .ok (.goto 45, 3) := dcq_109.2.2.2.2.2.2.2.2.2.2.2
set_option maxRecDepth 20000 in
theorem dcb_110 : fd_B cX4_cut 43 [29, 184, 0, 46, 153, 0, 12, 42, 27, 182, 0, 50, 60, 167, 0, 29, 29, 184, 0, 54, 153, 0, 12, 42] := fd_o cX4_cut 43 _ (by decide +kernel)
theorem dcq_110 : (decode cX4_cut 43 = .ok (.iload_n 3, 1)) ∧ (decode cX4_cut 44 = .ok (.invokestatic 46, 3)) ∧ (decode cX4_cut 47 = .ok (.ifCond .eq 12, 3)) ∧ (decode cX4_cut 50 = .ok (.aload_n 0, 1)) ∧ (decode cX4_cut 51 = .ok (.iload_n 1, 1)) ∧ (decode cX4_cut 52 = .ok (.invokevirtual 50, 3)) ∧ (decode cX4_cut 55 = .ok (.istore_n 1, 1)) ∧ (decode cX4_cut 56 = .ok (.goto 29, 3)) ∧ (decode cX4_cut 59 = .ok (.iload_n 3, 1)) ∧ (decode cX4_cut 60 = .ok (.invokestatic 54, 3)) ∧ (decode cX4_cut 63 = .ok (.ifCond .eq 12, 3)) ∧ (decode cX4_cut 66 = .ok (.aload_n 0, 1)) := have h := dcb_110; ⟨fd_29 h, have h := fd_t1 h; ⟨fd_184 h rfl, have h := fd_t3 h; ⟨fd_153 h (by decide +kernel), have h := fd_t3 h; ⟨fd_42 h, have h := fd_t1 h; ⟨fd_27 h, have h := fd_t1 h; ⟨fd_182 h rfl, have h := fd_t3 h; ⟨fd_60 h, have h := fd_t1 h; ⟨fd_167 h (by decide +kernel), have h := fd_t3 h; ⟨fd_29 h, have h := fd_t1 h; ⟨fd_184 h rfl, have h := fd_t3 h; ⟨fd_153 h (by decide +kernel), have h := fd_t3 h; fd_42 h⟩⟩⟩⟩⟩⟩⟩⟩⟩⟩⟩
theorem dX4_cut_43 : decode cX4_cut 43 = .ok (.iload_n 3, 1) := dcq_110.1
theorem dX4_cut_44 : decode cX4_cut 44 = .ok (.invokestatic 46, 3) := dcq_110.2.1
theorem dX4_cut_47 : decode cX4_cut 47 = .ok (.ifCond .eq 12, 3) := dcq_110.2.2.1
theorem dX4_cut_50 : decode cX4_cut 50 = .ok (.aload_n 0, 1) := dcq_110.2.2.2.1
theorem dX4_cut_51 : decode cX4_cut 51 = .ok (.iload_n 1, 1) := dcq_110.2.2.2.2.1
theorem dX4_cut_52 : decode cX4_cut 52 = .ok (.invokevirtual 50, 3) := dcq_110.2.2.2.2.2.1
theorem dX4_cut_55 : decode cX4_cut 55 = .ok (.istore_n 1, 1) := dcq_110.2.2.2.2.2.2.1
theorem dX4_cut_56 : decode cX4_cut 56 = .ok (.goto 29, 3) := dcq_110.2.2.2.2.2.2.2.1
theorem dX4_cut_59 : decode cX4_cut 59 = .ok (.iload_n 3, 1) := dcq_110.2.2.2.2.2.2.2.2.1
theorem dX4_cut_60 : decode cX4_cut 60 = .ok (.invokestatic 54, 3) := dcq_110.2.2.2.2.2.2.2.2.2.1
theorem dX4_cut_63 : decode cX4_cut 63 = .ok (.ifCond .eq 12, 3) := dcq_110.2.2.2.2.2.2.2.2.2.2.1
theorem dX4_cut_66 : decode cX4_cut 66 = .ok (.aload_n 0, 1) := dcq_110.2.2.2.2.2.2.2.2.2.2.2
set_option maxRecDepth 20000 in
theorem dcb_111 : fd_B cX4_cut 67 [27, 182, 0, 57, 60, 167, 0, 13, 42, 6, 29, 27, 182, 0, 60, 132, 1, 1, 132, 2, 1, 167, 255, 177] := fd_o cX4_cut 67 _ (by decide +kernel)
theorem dcq_111 : (decode cX4_cut 67 = .ok (.iload_n 1, 1)) ∧ (decode cX4_cut 68 = .ok (.invokevirtual 57, 3)) ∧ (decode cX4_cut 71 = .ok (.istore_n 1, 1)) ∧ (decode cX4_cut 72 = .ok (.goto 13, 3)) ∧ (decode cX4_cut 75 = .ok (.aload_n 0, 1)) ∧ (decode cX4_cut 76 = .ok (.iconst 3, 1)) ∧ (decode cX4_cut 77 = .ok (.iload_n 3, 1)) ∧ (decode cX4_cut 78 = .ok (.iload_n 1, 1)) ∧ (decode cX4_cut 79 = .ok (.invokevirtual 60, 3)) ∧ (decode cX4_cut 82 = .ok (.iinc 1 1, 3)) ∧ (decode cX4_cut 85 = .ok (.iinc 2 1, 3)) ∧ (decode cX4_cut 88 = .ok (.goto (-79), 3)) := have h := dcb_111; ⟨fd_27 h, have h := fd_t1 h; ⟨fd_182 h rfl, have h := fd_t3 h; ⟨fd_60 h, have h := fd_t1 h; ⟨fd_167 h (by decide +kernel), have h := fd_t3 h; ⟨fd_42 h, have h := fd_t1 h; ⟨fd_6 h, have h := fd_t1 h; ⟨fd_29 h, have h := fd_t1 h; ⟨fd_27 h, have h := fd_t1 h; ⟨fd_182 h rfl, have h := fd_t3 h; ⟨fd_132 h rfl (by decide +kernel), have h := fd_t3 h; ⟨fd_132 h rfl (by decide +kernel), have h := fd_t3 h; fd_167 h (by decide +kernel)⟩⟩⟩⟩⟩⟩⟩⟩⟩⟩⟩
theorem dX4_cut_67 : decode cX4_cut 67 = .ok (.iload_n 1, 1) := dcq_111.1
theorem dX4_cut_68 : decode cX4_cut 68 = .ok (.invokevirtual 57, 3) := dcq_111.2.1
theorem dX4_cut_71 : decode cX4_cut 71 = .ok (.istore_n 1, 1) := dcq_111.2.2.1
theorem dX4_cut_72 : decode cX4_cut 72 = .ok (.goto 13, 3) := dcq_111.2.2.2.1
theorem dX4_cut_75 : decode cX4_cut 75 = .ok (.aload_n 0, 1) := dcq_111.2.2.2.2.1
theorem dX4_cut_76 : decode cX4_cut 76 = .ok (.iconst 3, 1) := dcq_111.2.2.2.2.2.1
theorem dX4_cut_77 : decode cX4_cut 77 = .ok (.iload_n 3, 1) := dcq_111.2.2.2.2.2.2.1
theorem dX4_cut_78 : decode cX4_cut 78 = .ok (.iload_n 1, 1) := dcq_111.2.2.2.2.2.2.2.1
theorem dX4_cut_79 : decode cX4_cut 79 = .ok (.invokevirtual 60, 3) := dcq_111.2.2.2.2.2.2.2.2.1
theorem dX4_cut_82 : decode cX4_cut 82 = .ok (.iinc 1 1, 3) := dcq_111.2.2.2.2.2.2.2.2.2.1
theorem dX4_cut_85 : decode cX4_cut 85 = .ok (.iinc 2 1, 3) := dcq_111.2.2.2.2.2.2.2.2.2.2.1
theorem dX4_cut_88 : decode cX4_cut 88 = .ok (.goto (-79), 3) := dcq_111.2.2.2.2.2.2.2.2.2.2.2
set_option maxRecDepth 20000 in
theorem dcb_112 : fd_B cX4_cut 91 [42, 3, 3, 42, 180, 0, 24, 182, 0, 60, 177] := fd_o cX4_cut 91 _ (by decide +kernel)
theorem dcq_112 : (decode cX4_cut 91 = .ok (.aload_n 0, 1)) ∧ (decode cX4_cut 92 = .ok (.iconst 0, 1)) ∧ (decode cX4_cut 93 = .ok (.iconst 0, 1)) ∧ (decode cX4_cut 94 = .ok (.aload_n 0, 1)) ∧ (decode cX4_cut 95 = .ok (.getfield 24, 3)) ∧ (decode cX4_cut 98 = .ok (.invokevirtual 60, 3)) ∧ (decode cX4_cut 101 = .ok (.return_, 1)) := have h := dcb_112; ⟨fd_42 h, have h := fd_t1 h; ⟨fd_3 h, have h := fd_t1 h; ⟨fd_3 h, have h := fd_t1 h; ⟨fd_42 h, have h := fd_t1 h; ⟨fd_180 h rfl, have h := fd_t3 h; ⟨fd_182 h rfl, have h := fd_t3 h; fd_177 h⟩⟩⟩⟩⟩⟩
theorem dX4_cut_91 : decode cX4_cut 91 = .ok (.aload_n 0, 1) := dcq_112.1
theorem dX4_cut_92 : decode cX4_cut 92 = .ok (.iconst 0, 1) := dcq_112.2.1
theorem dX4_cut_93 : decode cX4_cut 93 = .ok (.iconst 0, 1) := dcq_112.2.2.1
theorem dX4_cut_94 : decode cX4_cut 94 = .ok (.aload_n 0, 1) := dcq_112.2.2.2.1
theorem dX4_cut_95 : decode cX4_cut 95 = .ok (.getfield 24, 3) := dcq_112.2.2.2.2.1
theorem dX4_cut_98 : decode cX4_cut 98 = .ok (.invokevirtual 60, 3) := dcq_112.2.2.2.2.2.1
theorem dX4_cut_101 : decode cX4_cut 101 = .ok (.return_, 1) := dcq_112.2.2.2.2.2.2
set_option maxRecDepth 20000 in
theorem dcb_113 : fd_B cX4_cutName 0 [27, 4, 96, 61, 28, 42, 180, 0, 24, 162, 0, 21, 42, 180, 0, 11, 28, 46] := fd_o cX4_cutName 0 _ (by decide +kernel)
theorem dcq_113 : (decode cX4_cutName 0 = .ok (.iload_n 1, 1)) ∧ (decode cX4_cutName 1 = .ok (.iconst 1, 1)) ∧ (decode cX4_cutName 2 = .ok (.iadd, 1)) ∧ (decode cX4_cutName 3 = .ok (.istore_n 2, 1)) ∧ (decode cX4_cutName 4 = .ok (.iload_n 2, 1)) ∧ (decode cX4_cutName 5 = .ok (.aload_n 0, 1)) ∧ (decode cX4_cutName 6 = .ok (.getfield 24, 3)) ∧ (decode cX4_cutName 9 = .ok (.if_icmp .ge 21, 3)) ∧ (decode cX4_cutName 12 = .ok (.aload_n 0, 1)) ∧ (decode cX4_cutName 13 = .ok (.getfield 11, 3)) ∧ (decode cX4_cutName 16 = .ok (.iload_n 2, 1)) ∧ (decode cX4_cutName 17 = .ok (.iaload, 1)) := have h := dcb_113; ⟨fd_27 h, have h := fd_t1 h; ⟨fd_4 h, have h := fd_t1 h; ⟨fd_96 h, have h := fd_t1 h; ⟨fd_61 h, have h := fd_t1 h; ⟨fd_28 h, have h := fd_t1 h; ⟨fd_42 h, have h := fd_t1 h; ⟨fd_180 h rfl, have h := fd_t3 h; ⟨fd_162 h (by decide +kernel), have h := fd_t3 h; ⟨fd_42 h, have h := fd_t1 h; ⟨fd_180 h rfl, have h := fd_t3 h; ⟨fd_28 h, have h := fd_t1 h; fd_46 h⟩⟩⟩⟩⟩⟩⟩⟩⟩⟩⟩
theorem dX4_cutName_0 : decode cX4_cutName 0 = .ok (.iload_n 1, 1) := dcq_113.1
theorem dX4_cutName_1 : decode cX4_cutName 1 = .ok (.iconst 1, 1) := dcq_113.2.1
theorem dX4_cutName_2 : decode cX4_cutName 2 = .ok (.iadd, 1) := dcq_113.2.2.1
theorem dX4_cutName_3 : decode cX4_cutName 3 = .ok (.istore_n 2, 1) := dcq_113.2.2.2.1
theorem dX4_cutName_4 : decode cX4_cutName 4 = .ok (.iload_n 2, 1) := dcq_113.2.2.2.2.1
theorem dX4_cutName_5 : decode cX4_cutName 5 = .ok (.aload_n 0, 1) := dcq_113.2.2.2.2.2.1
theorem dX4_cutName_6 : decode cX4_cutName 6 = .ok (.getfield 24, 3) := dcq_113.2.2.2.2.2.2.1
theorem dX4_cutName_9 : decode cX4_cutName 9 = .ok (.if_icmp .ge 21, 3) := dcq_113.2.2.2.2.2.2.2.1
theorem dX4_cutName_12 : decode cX4_cutName 12 = .ok (.aload_n 0, 1) := dcq_113.2.2.2.2.2.2.2.2.1
theorem dX4_cutName_13 : decode cX4_cutName 13 = .ok (.getfield 11, 3) := dcq_113.2.2.2.2.2.2.2.2.2.1
theorem dX4_cutName_16 : decode cX4_cutName 16 = .ok (.iload_n 2, 1) := dcq_113.2.2.2.2.2.2.2.2.2.2.1
theorem dX4_cutName_17 : decode cX4_cutName 17 = .ok (.iaload, 1) := dcq_113.2.2.2.2.2.2.2.2.2.2.2
set_option maxRecDepth 20000 in
theorem dcb_114 : fd_B cX4_cutName 18 [184, 0, 46, 153, 0, 9, 132, 2, 1, 167, 255, 233, 42, 4, 42, 27, 28, 27, 100, 182, 0, 64] := fd_o cX4_cutName 18 _ (by decide +kernel)
theorem dcq_114 : (decode cX4_cutName 18 = .ok (.invokestatic 46, 3)) ∧ (decode cX4_cutName 21 = .ok (.ifCond .eq 9, 3)) ∧ (decode cX4_cutName 24 = .ok (.iinc 2 1, 3)) ∧ (decode cX4_cutName 27 = .ok (.goto (-23), 3)) ∧ (decode cX4_cutName 30 = .ok (.aload_n 0, 1)) ∧ (decode cX4_cutName 31 = .ok (.iconst 1, 1)) ∧ (decode cX4_cutName 32 = .ok (.aload_n 0, 1)) ∧ (decode cX4_cutName 33 = .ok (.iload_n 1, 1)) ∧ (decode cX4_cutName 34 = .ok (.iload_n 2, 1)) ∧ (decode cX4_cutName 35 = .ok (.iload_n 1, 1)) ∧ (decode cX4_cutName 36 = .ok (.isub, 1)) ∧ (decode cX4_cutName 37 = .ok (.invokevirtual 64, 3)) := have h := dcb_114; ⟨fd_184 h rfl, have h := fd_t3 h; ⟨fd_153 h (by decide +kernel), have h := fd_t3 h; ⟨fd_132 h rfl (by decide +kernel), have h := fd_t3 h; ⟨fd_167 h (by decide +kernel), have h := fd_t3 h; ⟨fd_42 h, have h := fd_t1 h; ⟨fd_4 h, have h := fd_t1 h; ⟨fd_42 h, have h := fd_t1 h; ⟨fd_27 h, have h := fd_t1 h; ⟨fd_28 h, have h := fd_t1 h; ⟨fd_27 h, have h := fd_t1 h; ⟨fd_100 h, have h := fd_t1 h; fd_182 h rfl⟩⟩⟩⟩⟩⟩⟩⟩⟩⟩⟩
theorem dX4_cutName_18 : decode cX4_cutName 18 = .ok (.invokestatic 46, 3) := dcq_114.1
theorem dX4_cutName_21 : decode cX4_cutName 21 = .ok (.ifCond .eq 9, 3) := dcq_114.2.1
theorem dX4_cutName_24 : decode cX4_cutName 24 = .ok (.iinc 2 1, 3) := dcq_114.2.2.1
theorem dX4_cutName_27 : decode cX4_cutName 27 = .ok (.goto (-23), 3) := dcq_114.2.2.2.1
theorem dX4_cutName_30 : decode cX4_cutName 30 = .ok (.aload_n 0, 1) := dcq_114.2.2.2.2.1
theorem dX4_cutName_31 : decode cX4_cutName 31 = .ok (.iconst 1, 1) := dcq_114.2.2.2.2.2.1
theorem dX4_cutName_32 : decode cX4_cutName 32 = .ok (.aload_n 0, 1) := dcq_114.2.2.2.2.2.2.1
theorem dX4_cutName_33 : decode cX4_cutName 33 = .ok (.iload_n 1, 1) := dcq_114.2.2.2.2.2.2.2.1
theorem dX4_cutName_34 : decode cX4_cutName 34 = .ok (.iload_n 2, 1) := dcq_114.2.2.2.2.2.2.2.2.1
theorem dX4_cutName_35 : decode cX4_cutName 35 = .ok (.iload_n 1, 1) := dcq_114.2.2.2.2.2.2.2.2.2.1
theorem dX4_cutName_36 : decode cX4_cutName 36 = .ok (.isub, 1) := dcq_114.2.2.2.2.2.2.2.2.2.2.1
theorem dX4_cutName_37 : decode cX4_cutName 37 = .ok (.invokevirtual 64, 3) := dcq_114.2.2.2.2.2.2.2.2.2.2.2
set_option maxRecDepth 20000 in
theorem dcb_115 : fd_B cX4_cutName 40 [27, 182, 0, 60, 28, 172] := fd_o cX4_cutName 40 _ (by decide +kernel)
theorem dcq_115 : (decode cX4_cutName 40 = .ok (.iload_n 1, 1)) ∧ (decode cX4_cutName 41 = .ok (.invokevirtual 60, 3)) ∧ (decode cX4_cutName 44 = .ok (.iload_n 2, 1)) ∧ (decode cX4_cutName 45 = .ok (.ireturn, 1)) := have h := dcb_115; ⟨fd_27 h, have h := fd_t1 h; ⟨fd_182 h rfl, have h := fd_t3 h; ⟨fd_28 h, have h := fd_t1 h; fd_172 h⟩⟩⟩
theorem dX4_cutName_40 : decode cX4_cutName 40 = .ok (.iload_n 1, 1) := dcq_115.1
theorem dX4_cutName_41 : decode cX4_cutName 41 = .ok (.invokevirtual 60, 3) := dcq_115.2.1
theorem dX4_cutName_44 : decode cX4_cutName 44 = .ok (.iload_n 2, 1) := dcq_115.2.2.1
theorem dX4_cutName_45 : decode cX4_cutName 45 = .ok (.ireturn, 1) := dcq_115.2.2.2
set_option maxRecDepth 20000 in
theorem dcb_116 : fd_B cX4_cutNumber 0 [3, 61, 27, 62, 29, 42, 180, 0, 24, 162, 0, 42, 42, 180, 0, 11, 29, 46] := fd_o cX4_cutNumber 0 _ (by decide +kernel)
theorem dcq_116 : (decode cX4_cutNumber 0 = .ok (.iconst 0, 1)) ∧ (decode cX4_cutNumber 1 = .ok (.istore_n 2, 1)) ∧ (decode cX4_cutNumber 2 = .ok (.iload_n 1, 1)) ∧ (decode cX4_cutNumber 3 = .ok (.istore_n 3, 1)) ∧ (decode cX4_cutNumber 4 = .ok (.iload_n 3, 1)) ∧ (decode cX4_cutNumber 5 = .ok (.aload_n 0, 1)) ∧ (decode cX4_cutNumber 6 = .ok (.getfield 24, 3)) ∧ (decode cX4_cutNumber 9 = .ok (.if_icmp .ge 42, 3)) ∧ (decode cX4_cutNumber 12 = .ok (.aload_n 0, 1)) ∧ (decode cX4_cutNumber 13 = .ok (.getfield 11, 3)) ∧ (decode cX4_cutNumber 16 = .ok (.iload_n 3, 1)) ∧ (decode cX4_cutNumber 17 = .ok (.iaload, 1)) := have h := dcb_116; ⟨fd_3 h, have h := fd_t1 h; ⟨fd_61 h, have h := fd_t1 h; ⟨fd_27 h, have h := fd_t1 h; ⟨fd_62 h, have h := fd_t1 h; ⟨fd_29 h, have h := fd_t1 h; ⟨fd_42 h, have h := fd_t1 h; ⟨fd_180 h rfl, have h := fd_t3 h; ⟨fd_162 h (by decide +kernel), have h := fd_t3 h; ⟨fd_42 h, have h := fd_t1 h; ⟨fd_180 h rfl, have h := fd_t3 h; ⟨fd_29 h, have h := fd_t1 h; fd_46 h⟩⟩⟩⟩⟩⟩⟩⟩⟩⟩⟩
theorem dX4_cutNumber_0 : decode cX4_cutNumber 0 = .ok (.iconst 0, 1) := dcq_116.1
theorem dX4_cutNumber_1 : decode cX4_cutNumber 1 = .ok (.istore_n 2, 1) := dcq_116.2.1
theorem dX4_cutNumber_2 : decode cX4_cutNumber 2 = .ok (.iload_n 1, 1) := dcq_116.2.2.1
theorem dX4_cutNumber_3 : decode cX4_cutNumber 3 = .ok (.istore_n 3, 1) := dcq_116.2.2.2.1
theorem dX4_cutNumber_4 : decode cX4_cutNumber 4 = .ok (.iload_n 3, 1) := dcq_116.2.2.2.2.1
theorem dX4_cutNumber_5 : decode cX4_cutNumber 5 = .ok (.aload_n 0, 1) := dcq_116.2.2.2.2.2.1
theorem dX4_cutNumber_6 : decode cX4_cutNumber 6 = .ok (.getfield 24, 3) := dcq_116.2.2.2.2.2.2.1
theorem dX4_cutNumber_9 : decode cX4_cutNumber 9 = .ok (.if_icmp .ge 42, 3) := dcq_116.2.2.2.2.2.2.2.1
theorem dX4_cutNumber_12 : decode cX4_cutNumber 12 = .ok (.aload_n 0, 1) := dcq_116.2.2.2.2.2.2.2.2.1
theorem dX4_cutNumber_13 : decode cX4_cutNumber 13 = .ok (.getfield 11, 3) := dcq_116.2.2.2.2.2.2.2.2.2.1
theorem dX4_cutNumber_16 : decode cX4_cutNumber 16 = .ok (.iload_n 3, 1) := dcq_116.2.2.2.2.2.2.2.2.2.2.1
theorem dX4_cutNumber_17 : decode cX4_cutNumber 17 = .ok (.iaload, 1) := dcq_116.2.2.2.2.2.2.2.2.2.2.2
set_option maxRecDepth 20000 in
theorem dcb_117 : fd_B cX4_cutNumber 18 [184, 0, 54, 153, 0, 30, 17, 3, 232, 28, 16, 10, 104, 42, 180, 0, 11, 29, 46, 96, 16, 48] := fd_o cX4_cutNumber 18 _ (by decide +kernel)
theorem dcq_117 : (decode cX4_cutNumber 18 = .ok (.invokestatic 54, 3)) ∧ (decode cX4_cutNumber 21 = .ok (.ifCond .eq 30, 3)) ∧ (decode cX4_cutNumber 24 = .ok (.sipush 1000, 3)) ∧ (decode cX4_cutNumber 27 = .ok (.iload_n 2, 1)) ∧ (decode cX4_cutNumber 28 = .ok (.bipush 10, 2)) ∧ (decode cX4_cutNumber 30 = .ok (.imul, 1)) ∧ (decode cX4_cutNumber 31 = .ok (.aload_n 0, 1)) ∧ (decode cX4_cutNumber 32 = .ok (.getfield 11, 3)) ∧ (decode cX4_cutNumber 35 = .ok (.iload_n 3, 1)) ∧ (decode cX4_cutNumber 36 = .ok (.iaload, 1)) ∧ (decode cX4_cutNumber 37 = .ok (.iadd, 1)) ∧ (decode cX4_cutNumber 38 = .ok (.bipush 48, 2)) := have h := dcb_117; ⟨fd_184 h rfl, have h := fd_t3 h; ⟨fd_153 h (by decide +kernel), have h := fd_t3 h; ⟨fd_17 h (by decide +kernel), have h := fd_t3 h; ⟨fd_28 h, have h := fd_t1 h; ⟨fd_16 h (by decide +kernel), have h := fd_t2 h; ⟨fd_104 h, have h := fd_t1 h; ⟨fd_42 h, have h := fd_t1 h; ⟨fd_180 h rfl, have h := fd_t3 h; ⟨fd_29 h, have h := fd_t1 h; ⟨fd_46 h, have h := fd_t1 h; ⟨fd_96 h, have h := fd_t1 h; fd_16 h (by decide +kernel)⟩⟩⟩⟩⟩⟩⟩⟩⟩⟩⟩
theorem dX4_cutNumber_18 : decode cX4_cutNumber 18 = .ok (.invokestatic 54, 3) := dcq_117.1
theorem dX4_cutNumber_21 : decode cX4_cutNumber 21 = .ok (.ifCond .eq 30, 3) := dcq_117.2.1
theorem dX4_cutNumber_24 : decode cX4_cutNumber 24 = .ok (.sipush 1000, 3) := dcq_117.2.2.1
theorem dX4_cutNumber_27 : decode cX4_cutNumber 27 = .ok (.iload_n 2, 1) := dcq_117.2.2.2.1
theorem dX4_cutNumber_28 : decode cX4_cutNumber 28 = .ok (.bipush 10, 2) := dcq_117.2.2.2.2.1
theorem dX4_cutNumber_30 : decode cX4_cutNumber 30 = .ok (.imul, 1) := dcq_117.2.2.2.2.2.1
theorem dX4_cutNumber_31 : decode cX4_cutNumber 31 = .ok (.aload_n 0, 1) := dcq_117.2.2.2.2.2.2.1
theorem dX4_cutNumber_32 : decode cX4_cutNumber 32 = .ok (.getfield 11, 3) := dcq_117.2.2.2.2.2.2.2.1
theorem dX4_cutNumber_35 : decode cX4_cutNumber 35 = .ok (.iload_n 3, 1) := dcq_117.2.2.2.2.2.2.2.2.1
theorem dX4_cutNumber_36 : decode cX4_cutNumber 36 = .ok (.iaload, 1) := dcq_117.2.2.2.2.2.2.2.2.2.1
theorem dX4_cutNumber_37 : decode cX4_cutNumber 37 = .ok (.iadd, 1) := dcq_117.2.2.2.2.2.2.2.2.2.2.1
theorem dX4_cutNumber_38 : decode cX4_cutNumber 38 = .ok (.bipush 48, 2) := dcq_117.2.2.2.2.2.2.2.2.2.2.2
set_option maxRecDepth 20000 in
theorem dcb_118 : fd_B cX4_cutNumber 40 [100, 184, 0, 68, 61, 132, 3, 1, 167, 255, 212, 42, 5, 29, 27, 100, 6, 164, 0, 9] := fd_o cX4_cutNumber 40 _ (by decide +kernel)
theorem dcq_118 : (decode cX4_cutNumber 40 = .ok (.isub, 1)) ∧ (decode cX4_cutNumber 41 = .ok (.invokestatic 68, 3)) ∧ (decode cX4_cutNumber 44 = .ok (.istore_n 2, 1)) ∧ (decode cX4_cutNumber 45 = .ok (.iinc 3 1, 3)) ∧ (decode cX4_cutNumber 48 = .ok (.goto (-44), 3)) ∧ (decode cX4_cutNumber 51 = .ok (.aload_n 0, 1)) ∧ (decode cX4_cutNumber 52 = .ok (.iconst 2, 1)) ∧ (decode cX4_cutNumber 53 = .ok (.iload_n 3, 1)) ∧ (decode cX4_cutNumber 54 = .ok (.iload_n 1, 1)) ∧ (decode cX4_cutNumber 55 = .ok (.isub, 1)) ∧ (decode cX4_cutNumber 56 = .ok (.iconst 3, 1)) ∧ (decode cX4_cutNumber 57 = .ok (.if_icmp .le 9, 3)) := have h := dcb_118; ⟨fd_100 h, have h := fd_t1 h; ⟨fd_184 h rfl, have h := fd_t3 h; ⟨fd_61 h, have h := fd_t1 h; ⟨fd_132 h rfl (by decide +kernel), have h := fd_t3 h; ⟨fd_167 h (by decide +kernel), have h := fd_t3 h; ⟨fd_42 h, have h := fd_t1 h; ⟨fd_5 h, have h := fd_t1 h; ⟨fd_29 h, have h := fd_t1 h; ⟨fd_27 h, have h := fd_t1 h; ⟨fd_100 h, have h := fd_t1 h; ⟨fd_6 h, have h := fd_t1 h; fd_164 h (by decide +kernel)⟩⟩⟩⟩⟩⟩⟩⟩⟩⟩⟩
theorem dX4_cutNumber_40 : decode cX4_cutNumber 40 = .ok (.isub, 1) := dcq_118.1
theorem dX4_cutNumber_41 : decode cX4_cutNumber 41 = .ok (.invokestatic 68, 3) := dcq_118.2.1
theorem dX4_cutNumber_44 : decode cX4_cutNumber 44 = .ok (.istore_n 2, 1) := dcq_118.2.2.1
theorem dX4_cutNumber_45 : decode cX4_cutNumber 45 = .ok (.iinc 3 1, 3) := dcq_118.2.2.2.1
theorem dX4_cutNumber_48 : decode cX4_cutNumber 48 = .ok (.goto (-44), 3) := dcq_118.2.2.2.2.1
theorem dX4_cutNumber_51 : decode cX4_cutNumber 51 = .ok (.aload_n 0, 1) := dcq_118.2.2.2.2.2.1
theorem dX4_cutNumber_52 : decode cX4_cutNumber 52 = .ok (.iconst 2, 1) := dcq_118.2.2.2.2.2.2.1
theorem dX4_cutNumber_53 : decode cX4_cutNumber 53 = .ok (.iload_n 3, 1) := dcq_118.2.2.2.2.2.2.2.1
theorem dX4_cutNumber_54 : decode cX4_cutNumber 54 = .ok (.iload_n 1, 1) := dcq_118.2.2.2.2.2.2.2.2.1
theorem dX4_cutNumber_55 : decode cX4_cutNumber 55 = .ok (.isub, 1) := dcq_118.2.2.2.2.2.2.2.2.2.1
theorem dX4_cutNumber_56 : decode cX4_cutNumber 56 = .ok (.iconst 3, 1) := dcq_118.2.2.2.2.2.2.2.2.2.2.1
theorem dX4_cutNumber_57 : decode cX4_cutNumber 57 = .ok (.if_icmp .le 9, 3) := dcq_118.2.2.2.2.2.2.2.2.2.2.2
set_option maxRecDepth 20000 in
theorem dcb_119 : fd_B cX4_cutNumber 60 [17, 3, 232, 167, 0, 4, 28, 27, 182, 0, 60, 29, 172] := fd_o cX4_cutNumber 60 _ (by decide +kernel)
theorem dcq_119 : (decode cX4_cutNumber 60 = .ok (.sipush 1000, 3)) ∧ (decode cX4_cutNumber 63 = .ok (.goto 4, 3)) ∧ (decode cX4_cutNumber 66 = .ok (.iload_n 2, 1)) ∧ (decode cX4_cutNumber 67 = .ok (.iload_n 1, 1)) ∧ (decode cX4_cutNumber 68 = .ok (.invokevirtual 60, 3)) ∧ (decode cX4_cutNumber 71 = .ok (.iload_n 3, 1)) ∧ (decode cX4_cutNumber 72 = .ok (.ireturn, 1)) := have h := dcb_119; ⟨fd_17 h (by decide +kernel), have h := fd_t3 h; ⟨fd_167 h (by decide +kernel), have h := fd_t3 h; ⟨fd_28 h, have h := fd_t1 h; ⟨fd_27 h, have h := fd_t1 h; ⟨fd_182 h rfl, have h := fd_t3 h; ⟨fd_29 h, have h := fd_t1 h; fd_172 h⟩⟩⟩⟩⟩⟩
theorem dX4_cutNumber_60 : decode cX4_cutNumber 60 = .ok (.sipush 1000, 3) := dcq_119.1
theorem dX4_cutNumber_63 : decode cX4_cutNumber 63 = .ok (.goto 4, 3) := dcq_119.2.1
theorem dX4_cutNumber_66 : decode cX4_cutNumber 66 = .ok (.iload_n 2, 1) := dcq_119.2.2.1
theorem dX4_cutNumber_67 : decode cX4_cutNumber 67 = .ok (.iload_n 1, 1) := dcq_119.2.2.2.1
theorem dX4_cutNumber_68 : decode cX4_cutNumber 68 = .ok (.invokevirtual 60, 3) := dcq_119.2.2.2.2.1
theorem dX4_cutNumber_71 : decode cX4_cutNumber 71 = .ok (.iload_n 3, 1) := dcq_119.2.2.2.2.2.1
theorem dX4_cutNumber_72 : decode cX4_cutNumber 72 = .ok (.ireturn, 1) := dcq_119.2.2.2.2.2.2
set_option maxRecDepth 20000 in
theorem dcb_120 : fd_B cX4_addToken 0 [42, 180, 0, 39, 42, 180, 0, 15, 190, 162, 0, 43, 42, 180, 0, 15, 42, 180, 0, 39, 27, 79] := fd_o cX4_addToken 0 _ (by decide +kernel)
theorem dcq_120 : (decode cX4_addToken 0 = .ok (.aload_n 0, 1)) ∧ (decode cX4_addToken 1 = .ok (.getfield 39, 3)) ∧ (decode cX4_addToken 4 = .ok (.aload_n 0, 1)) ∧ (decode cX4_addToken 5 = .ok (.getfield 15, 3)) ∧ (decode cX4_addToken 8 = .ok (.arraylength, 1)) ∧ (decode cX4_addToken 9 = .ok (.if_icmp .ge 43, 3)) ∧ (decode cX4_addToken 12 = .ok (.aload_n 0, 1)) ∧ (decode cX4_addToken 13 = .ok (.getfield 15, 3)) ∧ (decode cX4_addToken 16 = .ok (.aload_n 0, 1)) ∧ (decode cX4_addToken 17 = .ok (.getfield 39, 3)) ∧ (decode cX4_addToken 20 = .ok (.iload_n 1, 1)) ∧ (decode cX4_addToken 21 = .ok (.iastore, 1)) := have h := dcb_120; ⟨fd_42 h, have h := fd_t1 h; ⟨fd_180 h rfl, have h := fd_t3 h; ⟨fd_42 h, have h := fd_t1 h; ⟨fd_180 h rfl, have h := fd_t3 h; ⟨fd_190 h, have h := fd_t1 h; ⟨fd_162 h (by decide +kernel), have h := fd_t3 h; ⟨fd_42 h, have h := fd_t1 h; ⟨fd_180 h rfl, have h := fd_t3 h; ⟨fd_42 h, have h := fd_t1 h; ⟨fd_180 h rfl, have h := fd_t3 h; ⟨fd_27 h, have h := fd_t1 h; fd_79 h⟩⟩⟩⟩⟩⟩⟩⟩⟩⟩⟩
theorem dX4_addToken_0 : decode cX4_addToken 0 = .ok (.aload_n 0, 1) := dcq_120.1
theorem dX4_addToken_1 : decode cX4_addToken 1 = .ok (.getfield 39, 3) := dcq_120.2.1
theorem dX4_addToken_4 : decode cX4_addToken 4 = .ok (.aload_n 0, 1) := dcq_120.2.2.1
theorem dX4_addToken_5 : decode cX4_addToken 5 = .ok (.getfield 15, 3) := dcq_120.2.2.2.1
theorem dX4_addToken_8 : decode cX4_addToken 8 = .ok (.arraylength, 1) := dcq_120.2.2.2.2.1
theorem dX4_addToken_9 : decode cX4_addToken 9 = .ok (.if_icmp .ge 43, 3) := dcq_120.2.2.2.2.2.1
theorem dX4_addToken_12 : decode cX4_addToken 12 = .ok (.aload_n 0, 1) := dcq_120.2.2.2.2.2.2.1
theorem dX4_addToken_13 : decode cX4_addToken 13 = .ok (.getfield 15, 3) := dcq_120.2.2.2.2.2.2.2.1
theorem dX4_addToken_16 : decode cX4_addToken 16 = .ok (.aload_n 0, 1) := dcq_120.2.2.2.2.2.2.2.2.1
theorem dX4_addToken_17 : decode cX4_addToken 17 = .ok (.getfield 39, 3) := dcq_120.2.2.2.2.2.2.2.2.2.1
theorem dX4_addToken_20 : decode cX4_addToken 20 = .ok (.iload_n 1, 1) := dcq_120.2.2.2.2.2.2.2.2.2.2.1
theorem dX4_addToken_21 : decode cX4_addToken 21 = .ok (.iastore, 1) := dcq_120.2.2.2.2.2.2.2.2.2.2.2
set_option maxRecDepth 20000 in
theorem dcb_121 : fd_B cX4_addToken 22 [42, 180, 0, 18, 42, 180, 0, 39, 28, 79, 42, 180, 0, 21, 42, 180, 0, 39, 29, 79] := fd_o cX4_addToken 22 _ (by decide +kernel)
theorem dcq_121 : (decode cX4_addToken 22 = .ok (.aload_n 0, 1)) ∧ (decode cX4_addToken 23 = .ok (.getfield 18, 3)) ∧ (decode cX4_addToken 26 = .ok (.aload_n 0, 1)) ∧ (decode cX4_addToken 27 = .ok (.getfield 39, 3)) ∧ (decode cX4_addToken 30 = .ok (.iload_n 2, 1)) ∧ (decode cX4_addToken 31 = .ok (.iastore, 1)) ∧ (decode cX4_addToken 32 = .ok (.aload_n 0, 1)) ∧ (decode cX4_addToken 33 = .ok (.getfield 21, 3)) ∧ (decode cX4_addToken 36 = .ok (.aload_n 0, 1)) ∧ (decode cX4_addToken 37 = .ok (.getfield 39, 3)) ∧ (decode cX4_addToken 40 = .ok (.iload_n 3, 1)) ∧ (decode cX4_addToken 41 = .ok (.iastore, 1)) := have h := dcb_121; ⟨fd_42 h, have h := fd_t1 h; ⟨fd_180 h rfl, have h := fd_t3 h; ⟨fd_42 h, have h := fd_t1 h; ⟨fd_180 h rfl, have h := fd_t3 h; ⟨fd_28 h, have h := fd_t1 h; ⟨fd_79 h, have h := fd_t1 h; ⟨fd_42 h, have h := fd_t1 h; ⟨fd_180 h rfl, have h := fd_t3 h; ⟨fd_42 h, have h := fd_t1 h; ⟨fd_180 h rfl, have h := fd_t3 h; ⟨fd_29 h, have h := fd_t1 h; fd_79 h⟩⟩⟩⟩⟩⟩⟩⟩⟩⟩⟩
theorem dX4_addToken_22 : decode cX4_addToken 22 = .ok (.aload_n 0, 1) := dcq_121.1
theorem dX4_addToken_23 : decode cX4_addToken 23 = .ok (.getfield 18, 3) := dcq_121.2.1
theorem dX4_addToken_26 : decode cX4_addToken 26 = .ok (.aload_n 0, 1) := dcq_121.2.2.1
theorem dX4_addToken_27 : decode cX4_addToken 27 = .ok (.getfield 39, 3) := dcq_121.2.2.2.1
theorem dX4_addToken_30 : decode cX4_addToken 30 = .ok (.iload_n 2, 1) := dcq_121.2.2.2.2.1
theorem dX4_addToken_31 : decode cX4_addToken 31 = .ok (.iastore, 1) := dcq_121.2.2.2.2.2.1
theorem dX4_addToken_32 : decode cX4_addToken 32 = .ok (.aload_n 0, 1) := dcq_121.2.2.2.2.2.2.1
theorem dX4_addToken_33 : decode cX4_addToken 33 = .ok (.getfield 21, 3) := dcq_121.2.2.2.2.2.2.2.1
theorem dX4_addToken_36 : decode cX4_addToken 36 = .ok (.aload_n 0, 1) := dcq_121.2.2.2.2.2.2.2.2.1
theorem dX4_addToken_37 : decode cX4_addToken 37 = .ok (.getfield 39, 3) := dcq_121.2.2.2.2.2.2.2.2.2.1
theorem dX4_addToken_40 : decode cX4_addToken 40 = .ok (.iload_n 3, 1) := dcq_121.2.2.2.2.2.2.2.2.2.2.1
theorem dX4_addToken_41 : decode cX4_addToken 41 = .ok (.iastore, 1) := dcq_121.2.2.2.2.2.2.2.2.2.2.2
set_option maxRecDepth 20000 in
theorem dcb_122 : fd_B cX4_addToken 42 [42, 89, 180, 0, 39, 4, 96, 181, 0, 39, 177] := fd_o cX4_addToken 42 _ (by decide +kernel)
theorem dcq_122 : (decode cX4_addToken 42 = .ok (.aload_n 0, 1)) ∧ (decode cX4_addToken 43 = .ok (.dup, 1)) ∧ (decode cX4_addToken 44 = .ok (.getfield 39, 3)) ∧ (decode cX4_addToken 47 = .ok (.iconst 1, 1)) ∧ (decode cX4_addToken 48 = .ok (.iadd, 1)) ∧ (decode cX4_addToken 49 = .ok (.putfield 39, 3)) ∧ (decode cX4_addToken 52 = .ok (.return_, 1)) := have h := dcb_122; ⟨fd_42 h, have h := fd_t1 h; ⟨fd_89 h, have h := fd_t1 h; ⟨fd_180 h rfl, have h := fd_t3 h; ⟨fd_4 h, have h := fd_t1 h; ⟨fd_96 h, have h := fd_t1 h; ⟨fd_181 h rfl, have h := fd_t3 h; fd_177 h⟩⟩⟩⟩⟩⟩
theorem dX4_addToken_42 : decode cX4_addToken 42 = .ok (.aload_n 0, 1) := dcq_122.1
theorem dX4_addToken_43 : decode cX4_addToken 43 = .ok (.dup, 1) := dcq_122.2.1
theorem dX4_addToken_44 : decode cX4_addToken 44 = .ok (.getfield 39, 3) := dcq_122.2.2.1
theorem dX4_addToken_47 : decode cX4_addToken 47 = .ok (.iconst 1, 1) := dcq_122.2.2.2.1
theorem dX4_addToken_48 : decode cX4_addToken 48 = .ok (.iadd, 1) := dcq_122.2.2.2.2.1
theorem dX4_addToken_49 : decode cX4_addToken 49 = .ok (.putfield 39, 3) := dcq_122.2.2.2.2.2.1
theorem dX4_addToken_52 : decode cX4_addToken 52 = .ok (.return_, 1) := dcq_122.2.2.2.2.2.2
set_option maxRecDepth 20000 in
theorem dcb_123 : fd_B cX4_wordAt 0 [3, 62, 29, 16, 12, 163, 0, 24, 42, 29, 184, 0, 73, 27, 28, 182, 0, 77, 153, 0, 5] := fd_o cX4_wordAt 0 _ (by decide +kernel)
theorem dcq_123 : (decode cX4_wordAt 0 = .ok (.iconst 0, 1)) ∧ (decode cX4_wordAt 1 = .ok (.istore_n 3, 1)) ∧ (decode cX4_wordAt 2 = .ok (.iload_n 3, 1)) ∧ (decode cX4_wordAt 3 = .ok (.bipush 12, 2)) ∧ (decode cX4_wordAt 5 = .ok (.if_icmp .gt 24, 3)) ∧ (decode cX4_wordAt 8 = .ok (.aload_n 0, 1)) ∧ (decode cX4_wordAt 9 = .ok (.iload_n 3, 1)) ∧ (decode cX4_wordAt 10 = .ok (.invokestatic 73, 3)) ∧ (decode cX4_wordAt 13 = .ok (.iload_n 1, 1)) ∧ (decode cX4_wordAt 14 = .ok (.iload_n 2, 1)) ∧ (decode cX4_wordAt 15 = .ok (.invokevirtual 77, 3)) ∧ (decode cX4_wordAt 18 = .ok (.ifCond .eq 5, 3)) := have h := dcb_123; ⟨fd_3 h, have h := fd_t1 h; ⟨fd_62 h, have h := fd_t1 h; ⟨fd_29 h, have h := fd_t1 h; ⟨fd_16 h (by decide +kernel), have h := fd_t2 h; ⟨fd_163 h (by decide +kernel), have h := fd_t3 h; ⟨fd_42 h, have h := fd_t1 h; ⟨fd_29 h, have h := fd_t1 h; ⟨fd_184 h rfl, have h := fd_t3 h; ⟨fd_27 h, have h := fd_t1 h; ⟨fd_28 h, have h := fd_t1 h; ⟨fd_182 h rfl, have h := fd_t3 h; fd_153 h (by decide +kernel)⟩⟩⟩⟩⟩⟩⟩⟩⟩⟩⟩
theorem dX4_wordAt_0 : decode cX4_wordAt 0 = .ok (.iconst 0, 1) := dcq_123.1
theorem dX4_wordAt_1 : decode cX4_wordAt 1 = .ok (.istore_n 3, 1) := dcq_123.2.1
theorem dX4_wordAt_2 : decode cX4_wordAt 2 = .ok (.iload_n 3, 1) := dcq_123.2.2.1
theorem dX4_wordAt_3 : decode cX4_wordAt 3 = .ok (.bipush 12, 2) := dcq_123.2.2.2.1
theorem dX4_wordAt_5 : decode cX4_wordAt 5 = .ok (.if_icmp .gt 24, 3) := dcq_123.2.2.2.2.1
theorem dX4_wordAt_8 : decode cX4_wordAt 8 = .ok (.aload_n 0, 1) := dcq_123.2.2.2.2.2.1
theorem dX4_wordAt_9 : decode cX4_wordAt 9 = .ok (.iload_n 3, 1) := dcq_123.2.2.2.2.2.2.1
theorem dX4_wordAt_10 : decode cX4_wordAt 10 = .ok (.invokestatic 73, 3) := dcq_123.2.2.2.2.2.2.2.1
theorem dX4_wordAt_13 : decode cX4_wordAt 13 = .ok (.iload_n 1, 1) := dcq_123.2.2.2.2.2.2.2.2.1
theorem dX4_wordAt_14 : decode cX4_wordAt 14 = .ok (.iload_n 2, 1) := dcq_123.2.2.2.2.2.2.2.2.2.1
theorem dX4_wordAt_15 : decode cX4_wordAt 15 = .ok (.invokevirtual 77, 3) := dcq_123.2.2.2.2.2.2.2.2.2.2.1
theorem dX4_wordAt_18 : decode cX4_wordAt 18 = .ok (.ifCond .eq 5, 3) := dcq_123.2.2.2.2.2.2.2.2.2.2.2
set_option maxRecDepth 20000 in
theorem dcb_124 : fd_B cX4_wordAt 21 [29, 172, 132, 3, 1, 167, 255, 232, 2, 172] := fd_o cX4_wordAt 21 _ (by decide +kernel)
theorem dcq_124 : (decode cX4_wordAt 21 = .ok (.iload_n 3, 1)) ∧ (decode cX4_wordAt 22 = .ok (.ireturn, 1)) ∧ (decode cX4_wordAt 23 = .ok (.iinc 3 1, 3)) ∧ (decode cX4_wordAt 26 = .ok (.goto (-24), 3)) ∧ (decode cX4_wordAt 29 = .ok (.iconst (-1), 1)) ∧ (decode cX4_wordAt 30 = .ok (.ireturn, 1)) := have h := dcb_124; ⟨fd_29 h, have h := fd_t1 h; ⟨fd_172 h, have h := fd_t1 h; ⟨fd_132 h rfl (by decide +kernel), have h := fd_t3 h; ⟨fd_167 h (by decide +kernel), have h := fd_t3 h; ⟨fd_2 h, have h := fd_t1 h; fd_172 h⟩⟩⟩⟩⟩
theorem dX4_wordAt_21 : decode cX4_wordAt 21 = .ok (.iload_n 3, 1) := dcq_124.1
theorem dX4_wordAt_22 : decode cX4_wordAt 22 = .ok (.ireturn, 1) := dcq_124.2.1
theorem dX4_wordAt_23 : decode cX4_wordAt 23 = .ok (.iinc 3 1, 3) := dcq_124.2.2.1
theorem dX4_wordAt_26 : decode cX4_wordAt 26 = .ok (.goto (-24), 3) := dcq_124.2.2.2.1
theorem dX4_wordAt_29 : decode cX4_wordAt 29 = .ok (.iconst (-1), 1) := dcq_124.2.2.2.2.1
theorem dX4_wordAt_30 : decode cX4_wordAt 30 = .ok (.ireturn, 1) := dcq_124.2.2.2.2.2
set_option maxRecDepth 20000 in
theorem dcb_125 : fd_B cX4_isSpelt 0 [43, 182, 0, 81, 29, 160, 0, 13, 28, 29, 96, 42, 180, 0, 24, 164, 0, 5, 3, 172] := fd_o cX4_isSpelt 0 _ (by decide +kernel)
theorem dcq_125 : (decode cX4_isSpelt 0 = .ok (.aload_n 1, 1)) ∧ (decode cX4_isSpelt 1 = .ok (.invokevirtual 81, 3)) ∧ (decode cX4_isSpelt 4 = .ok (.iload_n 3, 1)) ∧ (decode cX4_isSpelt 5 = .ok (.if_icmp .ne 13, 3)) ∧ (decode cX4_isSpelt 8 = .ok (.iload_n 2, 1)) ∧ (decode cX4_isSpelt 9 = .ok (.iload_n 3, 1)) ∧ (decode cX4_isSpelt 10 = .ok (.iadd, 1)) ∧ (decode cX4_isSpelt 11 = .ok (.aload_n 0, 1)) ∧ (decode cX4_isSpelt 12 = .ok (.getfield 24, 3)) ∧ (decode cX4_isSpelt 15 = .ok (.if_icmp .le 5, 3)) ∧ (decode cX4_isSpelt 18 = .ok (.iconst 0, 1)) ∧ (decode cX4_isSpelt 19 = .ok (.ireturn, 1)) := have h := dcb_125; ⟨fd_43 h, have h := fd_t1 h; ⟨fd_182 h rfl, have h := fd_t3 h; ⟨fd_29 h, have h := fd_t1 h; ⟨fd_160 h (by decide +kernel), have h := fd_t3 h; ⟨fd_28 h, have h := fd_t1 h; ⟨fd_29 h, have h := fd_t1 h; ⟨fd_96 h, have h := fd_t1 h; ⟨fd_42 h, have h := fd_t1 h; ⟨fd_180 h rfl, have h := fd_t3 h; ⟨fd_164 h (by decide +kernel), have h := fd_t3 h; ⟨fd_3 h, have h := fd_t1 h; fd_172 h⟩⟩⟩⟩⟩⟩⟩⟩⟩⟩⟩
theorem dX4_isSpelt_0 : decode cX4_isSpelt 0 = .ok (.aload_n 1, 1) := dcq_125.1
theorem dX4_isSpelt_1 : decode cX4_isSpelt 1 = .ok (.invokevirtual 81, 3) := dcq_125.2.1
theorem dX4_isSpelt_4 : decode cX4_isSpelt 4 = .ok (.iload_n 3, 1) := dcq_125.2.2.1
theorem dX4_isSpelt_5 : decode cX4_isSpelt 5 = .ok (.if_icmp .ne 13, 3) := dcq_125.2.2.2.1
theorem dX4_isSpelt_8 : decode cX4_isSpelt 8 = .ok (.iload_n 2, 1) := dcq_125.2.2.2.2.1
theorem dX4_isSpelt_9 : decode cX4_isSpelt 9 = .ok (.iload_n 3, 1) := dcq_125.2.2.2.2.2.1
theorem dX4_isSpelt_10 : decode cX4_isSpelt 10 = .ok (.iadd, 1) := dcq_125.2.2.2.2.2.2.1
theorem dX4_isSpelt_11 : decode cX4_isSpelt 11 = .ok (.aload_n 0, 1) := dcq_125.2.2.2.2.2.2.2.1
theorem dX4_isSpelt_12 : decode cX4_isSpelt 12 = .ok (.getfield 24, 3) := dcq_125.2.2.2.2.2.2.2.2.1
theorem dX4_isSpelt_15 : decode cX4_isSpelt 15 = .ok (.if_icmp .le 5, 3) := dcq_125.2.2.2.2.2.2.2.2.2.1
theorem dX4_isSpelt_18 : decode cX4_isSpelt 18 = .ok (.iconst 0, 1) := dcq_125.2.2.2.2.2.2.2.2.2.2.1
theorem dX4_isSpelt_19 : decode cX4_isSpelt 19 = .ok (.ireturn, 1) := dcq_125.2.2.2.2.2.2.2.2.2.2.2
set_option maxRecDepth 20000 in
theorem dcb_126 : fd_B cX4_isSpelt 20 [3, 54, 4, 21, 4, 29, 162, 0, 29, 42, 180, 0, 11, 28, 21, 4, 96, 46, 43] := fd_o cX4_isSpelt 20 _ (by decide +kernel)
theorem dcq_126 : (decode cX4_isSpelt 20 = .ok (.iconst 0, 1)) ∧ (decode cX4_isSpelt 21 = .ok (.istore 4, 2)) ∧ (decode cX4_isSpelt 23 = .ok (.iload 4, 2)) ∧ (decode cX4_isSpelt 25 = .ok (.iload_n 3, 1)) ∧ (decode cX4_isSpelt 26 = .ok (.if_icmp .ge 29, 3)) ∧ (decode cX4_isSpelt 29 = .ok (.aload_n 0, 1)) ∧ (decode cX4_isSpelt 30 = .ok (.getfield 11, 3)) ∧ (decode cX4_isSpelt 33 = .ok (.iload_n 2, 1)) ∧ (decode cX4_isSpelt 34 = .ok (.iload 4, 2)) ∧ (decode cX4_isSpelt 36 = .ok (.iadd, 1)) ∧ (decode cX4_isSpelt 37 = .ok (.iaload, 1)) ∧ (decode cX4_isSpelt 38 = .ok (.aload_n 1, 1)) := have h := dcb_126; ⟨fd_3 h, have h := fd_t1 h; ⟨fd_54 h rfl, have h := fd_t2 h; ⟨fd_21 h rfl, have h := fd_t2 h; ⟨fd_29 h, have h := fd_t1 h; ⟨fd_162 h (by decide +kernel), have h := fd_t3 h; ⟨fd_42 h, have h := fd_t1 h; ⟨fd_180 h rfl, have h := fd_t3 h; ⟨fd_28 h, have h := fd_t1 h; ⟨fd_21 h rfl, have h := fd_t2 h; ⟨fd_96 h, have h := fd_t1 h; ⟨fd_46 h, have h := fd_t1 h; fd_43 h⟩⟩⟩⟩⟩⟩⟩⟩⟩⟩⟩
theorem dX4_isSpelt_20 : decode cX4_isSpelt 20 = .ok (.iconst 0, 1) := dcq_126.1
theorem dX4_isSpelt_21 : decode cX4_isSpelt 21 = .ok (.istore 4, 2) := dcq_126.2.1
theorem dX4_isSpelt_23 : decode cX4_isSpelt 23 = .ok (.iload 4, 2) := dcq_126.2.2.1
theorem dX4_isSpelt_25 : decode cX4_isSpelt 25 = .ok (.iload_n 3, 1) := dcq_126.2.2.2.1
theorem dX4_isSpelt_26 : decode cX4_isSpelt 26 = .ok (.if_icmp .ge 29, 3) := dcq_126.2.2.2.2.1
theorem dX4_isSpelt_29 : decode cX4_isSpelt 29 = .ok (.aload_n 0, 1) := dcq_126.2.2.2.2.2.1
theorem dX4_isSpelt_30 : decode cX4_isSpelt 30 = .ok (.getfield 11, 3) := dcq_126.2.2.2.2.2.2.1
theorem dX4_isSpelt_33 : decode cX4_isSpelt 33 = .ok (.iload_n 2, 1) := dcq_126.2.2.2.2.2.2.2.1
theorem dX4_isSpelt_34 : decode cX4_isSpelt 34 = .ok (.iload 4, 2) := dcq_126.2.2.2.2.2.2.2.2.1
theorem dX4_isSpelt_36 : decode cX4_isSpelt 36 = .ok (.iadd, 1) := dcq_126.2.2.2.2.2.2.2.2.2.1
theorem dX4_isSpelt_37 : decode cX4_isSpelt 37 = .ok (.iaload, 1) := dcq_126.2.2.2.2.2.2.2.2.2.2.1
theorem dX4_isSpelt_38 : decode cX4_isSpelt 38 = .ok (.aload_n 1, 1) := dcq_126.2.2.2.2.2.2.2.2.2.2.2
set_option maxRecDepth 20000 in
theorem dcb_127 : fd_B cX4_isSpelt 39 [21, 4, 182, 0, 87, 159, 0, 5, 3, 172, 132, 4, 1, 167, 255, 227, 4, 172] := fd_o cX4_isSpelt 39 _ (by decide +kernel)
theorem dcq_127 : (decode cX4_isSpelt 39 = .ok (.iload 4, 2)) ∧ (decode cX4_isSpelt 41 = .ok (.invokevirtual 87, 3)) ∧ (decode cX4_isSpelt 44 = .ok (.if_icmp .eq 5, 3)) ∧ (decode cX4_isSpelt 47 = .ok (.iconst 0, 1)) ∧ (decode cX4_isSpelt 48 = .ok (.ireturn, 1)) ∧ (decode cX4_isSpelt 49 = .ok (.iinc 4 1, 3)) ∧ (decode cX4_isSpelt 52 = .ok (.goto (-29), 3)) ∧ (decode cX4_isSpelt 55 = .ok (.iconst 1, 1)) ∧ (decode cX4_isSpelt 56 = .ok (.ireturn, 1)) := have h := dcb_127; ⟨fd_21 h rfl, have h := fd_t2 h; ⟨fd_182 h rfl, have h := fd_t3 h; ⟨fd_159 h (by decide +kernel), have h := fd_t3 h; ⟨fd_3 h, have h := fd_t1 h; ⟨fd_172 h, have h := fd_t1 h; ⟨fd_132 h rfl (by decide +kernel), have h := fd_t3 h; ⟨fd_167 h (by decide +kernel), have h := fd_t3 h; ⟨fd_4 h, have h := fd_t1 h; fd_172 h⟩⟩⟩⟩⟩⟩⟩⟩
theorem dX4_isSpelt_39 : decode cX4_isSpelt 39 = .ok (.iload 4, 2) := dcq_127.1
theorem dX4_isSpelt_41 : decode cX4_isSpelt 41 = .ok (.invokevirtual 87, 3) := dcq_127.2.1
theorem dX4_isSpelt_44 : decode cX4_isSpelt 44 = .ok (.if_icmp .eq 5, 3) := dcq_127.2.2.1
theorem dX4_isSpelt_47 : decode cX4_isSpelt 47 = .ok (.iconst 0, 1) := dcq_127.2.2.2.1
theorem dX4_isSpelt_48 : decode cX4_isSpelt 48 = .ok (.ireturn, 1) := dcq_127.2.2.2.2.1
theorem dX4_isSpelt_49 : decode cX4_isSpelt 49 = .ok (.iinc 4 1, 3) := dcq_127.2.2.2.2.2.1
theorem dX4_isSpelt_52 : decode cX4_isSpelt 52 = .ok (.goto (-29), 3) := dcq_127.2.2.2.2.2.2.1
theorem dX4_isSpelt_55 : decode cX4_isSpelt 55 = .ok (.iconst 1, 1) := dcq_127.2.2.2.2.2.2.2.1
theorem dX4_isSpelt_56 : decode cX4_isSpelt 56 = .ok (.ireturn, 1) := dcq_127.2.2.2.2.2.2.2.2
set_option maxRecDepth 20000 in
theorem dcb_128 : fd_B cX4_spelling 0 [26] := fd_o cX4_spelling 0 _ (by decide +kernel)
theorem dX4_spelling_0 : decode cX4_spelling 0 = .ok (.iload_n 0, 1) := fd_26 dcb_128
set_option maxRecDepth 20000 in
theorem dX4_spelling_1 : decode cX4_spelling 1 = .ok (.tableswitch 106 0 12 #[67, 70, 73, 76, 79, 82, 85, 88, 91, 94, 97, 100, 103], 67) := by decide +kernel
set_option maxRecDepth 20000 in
theorem dcb_129 : fd_B cX4_spelling 68 [18, 91, 176, 18, 93, 176, 18, 95, 176, 18, 97, 176, 18, 99, 176, 18, 101, 176] := fd_o cX4_spelling 68 _ (by decide +kernel)
theorem dcq_129 : (decode cX4_spelling 68 = .ok (.ldc 91, 2)) ∧ (decode cX4_spelling 70 = .ok (.areturn, 1)) ∧ (decode cX4_spelling 71 = .ok (.ldc 93, 2)) ∧ (decode cX4_spelling 73 = .ok (.areturn, 1)) ∧ (decode cX4_spelling 74 = .ok (.ldc 95, 2)) ∧ (decode cX4_spelling 76 = .ok (.areturn, 1)) ∧ (decode cX4_spelling 77 = .ok (.ldc 97, 2)) ∧ (decode cX4_spelling 79 = .ok (.areturn, 1)) ∧ (decode cX4_spelling 80 = .ok (.ldc 99, 2)) ∧ (decode cX4_spelling 82 = .ok (.areturn, 1)) ∧ (decode cX4_spelling 83 = .ok (.ldc 101, 2)) ∧ (decode cX4_spelling 85 = .ok (.areturn, 1)) := have h := dcb_129; ⟨fd_18 h rfl, have h := fd_t2 h; ⟨fd_176 h, have h := fd_t1 h; ⟨fd_18 h rfl, have h := fd_t2 h; ⟨fd_176 h, have h := fd_t1 h; ⟨fd_18 h rfl, have h := fd_t2 h; ⟨fd_176 h, have h := fd_t1 h; ⟨fd_18 h rfl, have h := fd_t2 h; ⟨fd_176 h, have h := fd_t1 h; ⟨fd_18 h rfl, have h := fd_t2 h; ⟨fd_176 h, have h := fd_t1 h; ⟨fd_18 h rfl, have h := fd_t2 h; fd_176 h⟩⟩⟩⟩⟩⟩⟩⟩⟩⟩⟩
theorem dX4_spelling_68 : decode cX4_spelling 68 = .ok (.ldc 91, 2) := dcq_129.1
theorem dX4_spelling_70 : decode cX4_spelling 70 = .ok (.areturn, 1) := dcq_129.2.1
theorem dX4_spelling_71 : decode cX4_spelling 71 = .ok (.ldc 93, 2) := dcq_129.2.2.1
theorem dX4_spelling_73 : decode cX4_spelling 73 = .ok (.areturn, 1) := dcq_129.2.2.2.1
theorem dX4_spelling_74 : decode cX4_spelling 74 = .ok (.ldc 95, 2) := dcq_129.2.2.2.2.1
theorem dX4_spelling_76 : decode cX4_spelling 76 = .ok (.areturn, 1) := dcq_129.2.2.2.2.2.1
theorem dX4_spelling_77 : decode cX4_spelling 77 = .ok (.ldc 97, 2) := dcq_129.2.2.2.2.2.2.1
theorem dX4_spelling_79 : decode cX4_spelling 79 = .ok (.areturn, 1) := dcq_129.2.2.2.2.2.2.2.1
theorem dX4_spelling_80 : decode cX4_spelling 80 = .ok (.ldc 99, 2) := dcq_129.2.2.2.2.2.2.2.2.1
theorem dX4_spelling_82 : decode cX4_spelling 82 = .ok (.areturn, 1) := dcq_129.2.2.2.2.2.2.2.2.2.1
theorem dX4_spelling_83 : decode cX4_spelling 83 = .ok (.ldc 101, 2) := dcq_129.2.2.2.2.2.2.2.2.2.2.1
theorem dX4_spelling_85 : decode cX4_spelling 85 = .ok (.areturn, 1) := dcq_129.2.2.2.2.2.2.2.2.2.2.2
set_option maxRecDepth 20000 in
theorem dcb_130 : fd_B cX4_spelling 86 [18, 103, 176, 18, 105, 176, 18, 107, 176, 18, 109, 176, 18, 111, 176, 18, 113, 176] := fd_o cX4_spelling 86 _ (by decide +kernel)
theorem dcq_130 : (decode cX4_spelling 86 = .ok (.ldc 103, 2)) ∧ (decode cX4_spelling 88 = .ok (.areturn, 1)) ∧ (decode cX4_spelling 89 = .ok (.ldc 105, 2)) ∧ (decode cX4_spelling 91 = .ok (.areturn, 1)) ∧ (decode cX4_spelling 92 = .ok (.ldc 107, 2)) ∧ (decode cX4_spelling 94 = .ok (.areturn, 1)) ∧ (decode cX4_spelling 95 = .ok (.ldc 109, 2)) ∧ (decode cX4_spelling 97 = .ok (.areturn, 1)) ∧ (decode cX4_spelling 98 = .ok (.ldc 111, 2)) ∧ (decode cX4_spelling 100 = .ok (.areturn, 1)) ∧ (decode cX4_spelling 101 = .ok (.ldc 113, 2)) ∧ (decode cX4_spelling 103 = .ok (.areturn, 1)) := have h := dcb_130; ⟨fd_18 h rfl, have h := fd_t2 h; ⟨fd_176 h, have h := fd_t1 h; ⟨fd_18 h rfl, have h := fd_t2 h; ⟨fd_176 h, have h := fd_t1 h; ⟨fd_18 h rfl, have h := fd_t2 h; ⟨fd_176 h, have h := fd_t1 h; ⟨fd_18 h rfl, have h := fd_t2 h; ⟨fd_176 h, have h := fd_t1 h; ⟨fd_18 h rfl, have h := fd_t2 h; ⟨fd_176 h, have h := fd_t1 h; ⟨fd_18 h rfl, have h := fd_t2 h; fd_176 h⟩⟩⟩⟩⟩⟩⟩⟩⟩⟩⟩
theorem dX4_spelling_86 : decode cX4_spelling 86 = .ok (.ldc 103, 2) := dcq_130.1
theorem dX4_spelling_88 : decode cX4_spelling 88 = .ok (.areturn, 1) := dcq_130.2.1
theorem dX4_spelling_89 : decode cX4_spelling 89 = .ok (.ldc 105, 2) := dcq_130.2.2.1
theorem dX4_spelling_91 : decode cX4_spelling 91 = .ok (.areturn, 1) := dcq_130.2.2.2.1
theorem dX4_spelling_92 : decode cX4_spelling 92 = .ok (.ldc 107, 2) := dcq_130.2.2.2.2.1
theorem dX4_spelling_94 : decode cX4_spelling 94 = .ok (.areturn, 1) := dcq_130.2.2.2.2.2.1
theorem dX4_spelling_95 : decode cX4_spelling 95 = .ok (.ldc 109, 2) := dcq_130.2.2.2.2.2.2.1
theorem dX4_spelling_97 : decode cX4_spelling 97 = .ok (.areturn, 1) := dcq_130.2.2.2.2.2.2.2.1
theorem dX4_spelling_98 : decode cX4_spelling 98 = .ok (.ldc 111, 2) := dcq_130.2.2.2.2.2.2.2.2.1
theorem dX4_spelling_100 : decode cX4_spelling 100 = .ok (.areturn, 1) := dcq_130.2.2.2.2.2.2.2.2.2.1
theorem dX4_spelling_101 : decode cX4_spelling 101 = .ok (.ldc 113, 2) := dcq_130.2.2.2.2.2.2.2.2.2.2.1
theorem dX4_spelling_103 : decode cX4_spelling 103 = .ok (.areturn, 1) := dcq_130.2.2.2.2.2.2.2.2.2.2.2
set_option maxRecDepth 20000 in
theorem dcb_131 : fd_B cX4_spelling 104 [18, 115, 176, 18, 117, 176] := fd_o cX4_spelling 104 _ (by decide +kernel)
theorem dcq_131 : (decode cX4_spelling 104 = .ok (.ldc 115, 2)) ∧ (decode cX4_spelling 106 = .ok (.areturn, 1)) ∧ (decode cX4_spelling 107 = .ok (.ldc 117, 2)) ∧ (decode cX4_spelling 109 = .ok (.areturn, 1)) := have h := dcb_131; ⟨fd_18 h rfl, have h := fd_t2 h; ⟨fd_176 h, have h := fd_t1 h; ⟨fd_18 h rfl, have h := fd_t2 h; fd_176 h⟩⟩⟩
theorem dX4_spelling_104 : decode cX4_spelling 104 = .ok (.ldc 115, 2) := dcq_131.1
theorem dX4_spelling_106 : decode cX4_spelling 106 = .ok (.areturn, 1) := dcq_131.2.1
theorem dX4_spelling_107 : decode cX4_spelling 107 = .ok (.ldc 117, 2) := dcq_131.2.2.1
theorem dX4_spelling_109 : decode cX4_spelling 109 = .ok (.areturn, 1) := dcq_131.2.2.2
set_option maxRecDepth 20000 in
theorem dcb_132 : fd_B cX4_isLetter 0 [26, 16, 97, 16, 122, 184, 0, 119, 172] := fd_o cX4_isLetter 0 _ (by decide +kernel)
theorem dcq_132 : (decode cX4_isLetter 0 = .ok (.iload_n 0, 1)) ∧ (decode cX4_isLetter 1 = .ok (.bipush 97, 2)) ∧ (decode cX4_isLetter 3 = .ok (.bipush 122, 2)) ∧ (decode cX4_isLetter 5 = .ok (.invokestatic 119, 3)) ∧ (decode cX4_isLetter 8 = .ok (.ireturn, 1)) := have h := dcb_132; ⟨fd_26 h, have h := fd_t1 h; ⟨fd_16 h (by decide +kernel), have h := fd_t2 h; ⟨fd_16 h (by decide +kernel), have h := fd_t2 h; ⟨fd_184 h rfl, have h := fd_t3 h; fd_172 h⟩⟩⟩⟩
theorem dX4_isLetter_0 : decode cX4_isLetter 0 = .ok (.iload_n 0, 1) := dcq_132.1
theorem dX4_isLetter_1 : decode cX4_isLetter 1 = .ok (.bipush 97, 2) := dcq_132.2.1
theorem dX4_isLetter_3 : decode cX4_isLetter 3 = .ok (.bipush 122, 2) := dcq_132.2.2.1
theorem dX4_isLetter_5 : decode cX4_isLetter 5 = .ok (.invokestatic 119, 3) := dcq_132.2.2.2.1
theorem dX4_isLetter_8 : decode cX4_isLetter 8 = .ok (.ireturn, 1) := dcq_132.2.2.2.2
set_option maxRecDepth 20000 in
theorem dcb_133 : fd_B cX4_isDigit 0 [26, 16, 48, 16, 57, 184, 0, 119, 172] := fd_o cX4_isDigit 0 _ (by decide +kernel)
theorem dcq_133 : (decode cX4_isDigit 0 = .ok (.iload_n 0, 1)) ∧ (decode cX4_isDigit 1 = .ok (.bipush 48, 2)) ∧ (decode cX4_isDigit 3 = .ok (.bipush 57, 2)) ∧ (decode cX4_isDigit 5 = .ok (.invokestatic 119, 3)) ∧ (decode cX4_isDigit 8 = .ok (.ireturn, 1)) := have h := dcb_133; ⟨fd_26 h, have h := fd_t1 h; ⟨fd_16 h (by decide +kernel), have h := fd_t2 h; ⟨fd_16 h (by decide +kernel), have h := fd_t2 h; ⟨fd_184 h rfl, have h := fd_t3 h; fd_172 h⟩⟩⟩⟩
theorem dX4_isDigit_0 : decode cX4_isDigit 0 = .ok (.iload_n 0, 1) := dcq_133.1
theorem dX4_isDigit_1 : decode cX4_isDigit 1 = .ok (.bipush 48, 2) := dcq_133.2.1
theorem dX4_isDigit_3 : decode cX4_isDigit 3 = .ok (.bipush 57, 2) := dcq_133.2.2.1
theorem dX4_isDigit_5 : decode cX4_isDigit 5 = .ok (.invokestatic 119, 3) := dcq_133.2.2.2.1
theorem dX4_isDigit_8 : decode cX4_isDigit 8 = .ok (.ireturn, 1) := dcq_133.2.2.2.2
set_option maxRecDepth 20000 in
theorem dcb_134 : fd_B cX4_tellOne 0 [42, 180, 0, 15, 42, 180, 0, 33, 46, 4, 160, 0, 15, 42, 180, 0, 18, 42, 180, 0, 33, 46] := fd_o cX4_tellOne 0 _ (by decide +kernel)
theorem dcq_134 : (decode cX4_tellOne 0 = .ok (.aload_n 0, 1)) ∧ (decode cX4_tellOne 1 = .ok (.getfield 15, 3)) ∧ (decode cX4_tellOne 4 = .ok (.aload_n 0, 1)) ∧ (decode cX4_tellOne 5 = .ok (.getfield 33, 3)) ∧ (decode cX4_tellOne 8 = .ok (.iaload, 1)) ∧ (decode cX4_tellOne 9 = .ok (.iconst 1, 1)) ∧ (decode cX4_tellOne 10 = .ok (.if_icmp .ne 15, 3)) ∧ (decode cX4_tellOne 13 = .ok (.aload_n 0, 1)) ∧ (decode cX4_tellOne 14 = .ok (.getfield 18, 3)) ∧ (decode cX4_tellOne 17 = .ok (.aload_n 0, 1)) ∧ (decode cX4_tellOne 18 = .ok (.getfield 33, 3)) ∧ (decode cX4_tellOne 21 = .ok (.iaload, 1)) := have h := dcb_134; ⟨fd_42 h, have h := fd_t1 h; ⟨fd_180 h rfl, have h := fd_t3 h; ⟨fd_42 h, have h := fd_t1 h; ⟨fd_180 h rfl, have h := fd_t3 h; ⟨fd_46 h, have h := fd_t1 h; ⟨fd_4 h, have h := fd_t1 h; ⟨fd_160 h (by decide +kernel), have h := fd_t3 h; ⟨fd_42 h, have h := fd_t1 h; ⟨fd_180 h rfl, have h := fd_t3 h; ⟨fd_42 h, have h := fd_t1 h; ⟨fd_180 h rfl, have h := fd_t3 h; fd_46 h⟩⟩⟩⟩⟩⟩⟩⟩⟩⟩⟩
theorem dX4_tellOne_0 : decode cX4_tellOne 0 = .ok (.aload_n 0, 1) := dcq_134.1
theorem dX4_tellOne_1 : decode cX4_tellOne 1 = .ok (.getfield 15, 3) := dcq_134.2.1
theorem dX4_tellOne_4 : decode cX4_tellOne 4 = .ok (.aload_n 0, 1) := dcq_134.2.2.1
theorem dX4_tellOne_5 : decode cX4_tellOne 5 = .ok (.getfield 33, 3) := dcq_134.2.2.2.1
theorem dX4_tellOne_8 : decode cX4_tellOne 8 = .ok (.iaload, 1) := dcq_134.2.2.2.2.1
theorem dX4_tellOne_9 : decode cX4_tellOne 9 = .ok (.iconst 1, 1) := dcq_134.2.2.2.2.2.1
theorem dX4_tellOne_10 : decode cX4_tellOne 10 = .ok (.if_icmp .ne 15, 3) := dcq_134.2.2.2.2.2.2.1
theorem dX4_tellOne_13 : decode cX4_tellOne 13 = .ok (.aload_n 0, 1) := dcq_134.2.2.2.2.2.2.2.1
theorem dX4_tellOne_14 : decode cX4_tellOne 14 = .ok (.getfield 18, 3) := dcq_134.2.2.2.2.2.2.2.2.1
theorem dX4_tellOne_17 : decode cX4_tellOne 17 = .ok (.aload_n 0, 1) := dcq_134.2.2.2.2.2.2.2.2.2.1
theorem dX4_tellOne_18 : decode cX4_tellOne 18 = .ok (.getfield 33, 3) := dcq_134.2.2.2.2.2.2.2.2.2.2.1
theorem dX4_tellOne_21 : decode cX4_tellOne 21 = .ok (.iaload, 1) := dcq_134.2.2.2.2.2.2.2.2.2.2.2
set_option maxRecDepth 20000 in
theorem dcb_135 : fd_B cX4_tellOne 22 [167, 0, 4, 2, 61, 28, 184, 0, 123, 153, 0, 21, 43, 180, 0, 126, 16, 8, 162, 0, 12, 42, 43] := fd_o cX4_tellOne 22 _ (by decide +kernel)
theorem dcq_135 : (decode cX4_tellOne 22 = .ok (.goto 4, 3)) ∧ (decode cX4_tellOne 25 = .ok (.iconst (-1), 1)) ∧ (decode cX4_tellOne 26 = .ok (.istore_n 2, 1)) ∧ (decode cX4_tellOne 27 = .ok (.iload_n 2, 1)) ∧ (decode cX4_tellOne 28 = .ok (.invokestatic 123, 3)) ∧ (decode cX4_tellOne 31 = .ok (.ifCond .eq 21, 3)) ∧ (decode cX4_tellOne 34 = .ok (.aload_n 1, 1)) ∧ (decode cX4_tellOne 35 = .ok (.getfield 126, 3)) ∧ (decode cX4_tellOne 38 = .ok (.bipush 8, 2)) ∧ (decode cX4_tellOne 40 = .ok (.if_icmp .ge 12, 3)) ∧ (decode cX4_tellOne 43 = .ok (.aload_n 0, 1)) ∧ (decode cX4_tellOne 44 = .ok (.aload_n 1, 1)) := have h := dcb_135; ⟨fd_167 h (by decide +kernel), have h := fd_t3 h; ⟨fd_2 h, have h := fd_t1 h; ⟨fd_61 h, have h := fd_t1 h; ⟨fd_28 h, have h := fd_t1 h; ⟨fd_184 h rfl, have h := fd_t3 h; ⟨fd_153 h (by decide +kernel), have h := fd_t3 h; ⟨fd_43 h, have h := fd_t1 h; ⟨fd_180 h rfl, have h := fd_t3 h; ⟨fd_16 h (by decide +kernel), have h := fd_t2 h; ⟨fd_162 h (by decide +kernel), have h := fd_t3 h; ⟨fd_42 h, have h := fd_t1 h; fd_43 h⟩⟩⟩⟩⟩⟩⟩⟩⟩⟩⟩
theorem dX4_tellOne_22 : decode cX4_tellOne 22 = .ok (.goto 4, 3) := dcq_135.1
theorem dX4_tellOne_25 : decode cX4_tellOne 25 = .ok (.iconst (-1), 1) := dcq_135.2.1
theorem dX4_tellOne_26 : decode cX4_tellOne 26 = .ok (.istore_n 2, 1) := dcq_135.2.2.1
theorem dX4_tellOne_27 : decode cX4_tellOne 27 = .ok (.iload_n 2, 1) := dcq_135.2.2.2.1
theorem dX4_tellOne_28 : decode cX4_tellOne 28 = .ok (.invokestatic 123, 3) := dcq_135.2.2.2.2.1
theorem dX4_tellOne_31 : decode cX4_tellOne 31 = .ok (.ifCond .eq 21, 3) := dcq_135.2.2.2.2.2.1
theorem dX4_tellOne_34 : decode cX4_tellOne 34 = .ok (.aload_n 1, 1) := dcq_135.2.2.2.2.2.2.1
theorem dX4_tellOne_35 : decode cX4_tellOne 35 = .ok (.getfield 126, 3) := dcq_135.2.2.2.2.2.2.2.1
theorem dX4_tellOne_38 : decode cX4_tellOne 38 = .ok (.bipush 8, 2) := dcq_135.2.2.2.2.2.2.2.2.1
theorem dX4_tellOne_40 : decode cX4_tellOne 40 = .ok (.if_icmp .ge 12, 3) := dcq_135.2.2.2.2.2.2.2.2.2.1
theorem dX4_tellOne_43 : decode cX4_tellOne 43 = .ok (.aload_n 0, 1) := dcq_135.2.2.2.2.2.2.2.2.2.2.1
theorem dX4_tellOne_44 : decode cX4_tellOne 44 = .ok (.aload_n 1, 1) := dcq_135.2.2.2.2.2.2.2.2.2.2.2
set_option maxRecDepth 20000 in
theorem dcb_136 : fd_B cX4_tellOne 45 [28, 182, 0, 131, 167, 0, 51, 28, 16, 6, 16, 9, 184, 0, 119, 153, 0, 36, 42, 89, 180, 0, 33, 4] := fd_o cX4_tellOne 45 _ (by decide +kernel)
theorem dcq_136 : (decode cX4_tellOne 45 = .ok (.iload_n 2, 1)) ∧ (decode cX4_tellOne 46 = .ok (.invokevirtual 131, 3)) ∧ (decode cX4_tellOne 49 = .ok (.goto 51, 3)) ∧ (decode cX4_tellOne 52 = .ok (.iload_n 2, 1)) ∧ (decode cX4_tellOne 53 = .ok (.bipush 6, 2)) ∧ (decode cX4_tellOne 55 = .ok (.bipush 9, 2)) ∧ (decode cX4_tellOne 57 = .ok (.invokestatic 119, 3)) ∧ (decode cX4_tellOne 60 = .ok (.ifCond .eq 36, 3)) ∧ (decode cX4_tellOne 63 = .ok (.aload_n 0, 1)) ∧ (decode cX4_tellOne 64 = .ok (.dup, 1)) ∧ (decode cX4_tellOne 65 = .ok (.getfield 33, 3)) ∧ (decode cX4_tellOne 68 = .ok (.iconst 1, 1)) := have h := dcb_136; ⟨fd_28 h, have h := fd_t1 h; ⟨fd_182 h rfl, have h := fd_t3 h; ⟨fd_167 h (by decide +kernel), have h := fd_t3 h; ⟨fd_28 h, have h := fd_t1 h; ⟨fd_16 h (by decide +kernel), have h := fd_t2 h; ⟨fd_16 h (by decide +kernel), have h := fd_t2 h; ⟨fd_184 h rfl, have h := fd_t3 h; ⟨fd_153 h (by decide +kernel), have h := fd_t3 h; ⟨fd_42 h, have h := fd_t1 h; ⟨fd_89 h, have h := fd_t1 h; ⟨fd_180 h rfl, have h := fd_t3 h; fd_4 h⟩⟩⟩⟩⟩⟩⟩⟩⟩⟩⟩
theorem dX4_tellOne_45 : decode cX4_tellOne 45 = .ok (.iload_n 2, 1) := dcq_136.1
theorem dX4_tellOne_46 : decode cX4_tellOne 46 = .ok (.invokevirtual 131, 3) := dcq_136.2.1
theorem dX4_tellOne_49 : decode cX4_tellOne 49 = .ok (.goto 51, 3) := dcq_136.2.2.1
theorem dX4_tellOne_52 : decode cX4_tellOne 52 = .ok (.iload_n 2, 1) := dcq_136.2.2.2.1
theorem dX4_tellOne_53 : decode cX4_tellOne 53 = .ok (.bipush 6, 2) := dcq_136.2.2.2.2.1
theorem dX4_tellOne_55 : decode cX4_tellOne 55 = .ok (.bipush 9, 2) := dcq_136.2.2.2.2.2.1
theorem dX4_tellOne_57 : decode cX4_tellOne 57 = .ok (.invokestatic 119, 3) := dcq_136.2.2.2.2.2.2.1
theorem dX4_tellOne_60 : decode cX4_tellOne 60 = .ok (.ifCond .eq 36, 3) := dcq_136.2.2.2.2.2.2.2.1
theorem dX4_tellOne_63 : decode cX4_tellOne 63 = .ok (.aload_n 0, 1) := dcq_136.2.2.2.2.2.2.2.2.1
theorem dX4_tellOne_64 : decode cX4_tellOne 64 = .ok (.dup, 1) := dcq_136.2.2.2.2.2.2.2.2.2.1
theorem dX4_tellOne_65 : decode cX4_tellOne 65 = .ok (.getfield 33, 3) := dcq_136.2.2.2.2.2.2.2.2.2.2.1
theorem dX4_tellOne_68 : decode cX4_tellOne 68 = .ok (.iconst 1, 1) := dcq_136.2.2.2.2.2.2.2.2.2.2.2
set_option maxRecDepth 20000 in
theorem dcb_137 : fd_B cX4_tellOne 69 [96, 181, 0, 33, 28, 16, 6, 100, 62, 43, 180, 0, 135, 29, 42, 178, 0, 138, 29] := fd_o cX4_tellOne 69 _ (by decide +kernel)
theorem dcq_137 : (decode cX4_tellOne 69 = .ok (.iadd, 1)) ∧ (decode cX4_tellOne 70 = .ok (.putfield 33, 3)) ∧ (decode cX4_tellOne 73 = .ok (.iload_n 2, 1)) ∧ (decode cX4_tellOne 74 = .ok (.bipush 6, 2)) ∧ (decode cX4_tellOne 76 = .ok (.isub, 1)) ∧ (decode cX4_tellOne 77 = .ok (.istore_n 3, 1)) ∧ (decode cX4_tellOne 78 = .ok (.aload_n 1, 1)) ∧ (decode cX4_tellOne 79 = .ok (.getfield 135, 3)) ∧ (decode cX4_tellOne 82 = .ok (.iload_n 3, 1)) ∧ (decode cX4_tellOne 83 = .ok (.aload_n 0, 1)) ∧ (decode cX4_tellOne 84 = .ok (.getstatic 138, 3)) ∧ (decode cX4_tellOne 87 = .ok (.iload_n 3, 1)) := have h := dcb_137; ⟨fd_96 h, have h := fd_t1 h; ⟨fd_181 h rfl, have h := fd_t3 h; ⟨fd_28 h, have h := fd_t1 h; ⟨fd_16 h (by decide +kernel), have h := fd_t2 h; ⟨fd_100 h, have h := fd_t1 h; ⟨fd_62 h, have h := fd_t1 h; ⟨fd_43 h, have h := fd_t1 h; ⟨fd_180 h rfl, have h := fd_t3 h; ⟨fd_29 h, have h := fd_t1 h; ⟨fd_42 h, have h := fd_t1 h; ⟨fd_178 h rfl, have h := fd_t3 h; fd_29 h⟩⟩⟩⟩⟩⟩⟩⟩⟩⟩⟩
theorem dX4_tellOne_69 : decode cX4_tellOne 69 = .ok (.iadd, 1) := dcq_137.1
theorem dX4_tellOne_70 : decode cX4_tellOne 70 = .ok (.putfield 33, 3) := dcq_137.2.1
theorem dX4_tellOne_73 : decode cX4_tellOne 73 = .ok (.iload_n 2, 1) := dcq_137.2.2.1
theorem dX4_tellOne_74 : decode cX4_tellOne 74 = .ok (.bipush 6, 2) := dcq_137.2.2.2.1
theorem dX4_tellOne_76 : decode cX4_tellOne 76 = .ok (.isub, 1) := dcq_137.2.2.2.2.1
theorem dX4_tellOne_77 : decode cX4_tellOne 77 = .ok (.istore_n 3, 1) := dcq_137.2.2.2.2.2.1
theorem dX4_tellOne_78 : decode cX4_tellOne 78 = .ok (.aload_n 1, 1) := dcq_137.2.2.2.2.2.2.1
theorem dX4_tellOne_79 : decode cX4_tellOne 79 = .ok (.getfield 135, 3) := dcq_137.2.2.2.2.2.2.2.1
theorem dX4_tellOne_82 : decode cX4_tellOne 82 = .ok (.iload_n 3, 1) := dcq_137.2.2.2.2.2.2.2.2.1
theorem dX4_tellOne_83 : decode cX4_tellOne 83 = .ok (.aload_n 0, 1) := dcq_137.2.2.2.2.2.2.2.2.2.1
theorem dX4_tellOne_84 : decode cX4_tellOne 84 = .ok (.getstatic 138, 3) := dcq_137.2.2.2.2.2.2.2.2.2.2.1
theorem dX4_tellOne_87 : decode cX4_tellOne 87 = .ok (.iload_n 3, 1) := dcq_137.2.2.2.2.2.2.2.2.2.2.2
set_option maxRecDepth 20000 in
theorem dcb_138 : fd_B cX4_tellOne 88 [46, 182, 0, 141, 79, 167, 0, 7, 42, 182, 0, 144, 42, 182, 0, 147, 177] := fd_o cX4_tellOne 88 _ (by decide +kernel)
theorem dcq_138 : (decode cX4_tellOne 88 = .ok (.iaload, 1)) ∧ (decode cX4_tellOne 89 = .ok (.invokevirtual 141, 3)) ∧ (decode cX4_tellOne 92 = .ok (.iastore, 1)) ∧ (decode cX4_tellOne 93 = .ok (.goto 7, 3)) ∧ (decode cX4_tellOne 96 = .ok (.aload_n 0, 1)) ∧ (decode cX4_tellOne 97 = .ok (.invokevirtual 144, 3)) ∧ (decode cX4_tellOne 100 = .ok (.aload_n 0, 1)) ∧ (decode cX4_tellOne 101 = .ok (.invokevirtual 147, 3)) ∧ (decode cX4_tellOne 104 = .ok (.return_, 1)) := have h := dcb_138; ⟨fd_46 h, have h := fd_t1 h; ⟨fd_182 h rfl, have h := fd_t3 h; ⟨fd_79 h, have h := fd_t1 h; ⟨fd_167 h (by decide +kernel), have h := fd_t3 h; ⟨fd_42 h, have h := fd_t1 h; ⟨fd_182 h rfl, have h := fd_t3 h; ⟨fd_42 h, have h := fd_t1 h; ⟨fd_182 h rfl, have h := fd_t3 h; fd_177 h⟩⟩⟩⟩⟩⟩⟩⟩
theorem dX4_tellOne_88 : decode cX4_tellOne 88 = .ok (.iaload, 1) := dcq_138.1
theorem dX4_tellOne_89 : decode cX4_tellOne 89 = .ok (.invokevirtual 141, 3) := dcq_138.2.1
theorem dX4_tellOne_92 : decode cX4_tellOne 92 = .ok (.iastore, 1) := dcq_138.2.2.1
theorem dX4_tellOne_93 : decode cX4_tellOne 93 = .ok (.goto 7, 3) := dcq_138.2.2.2.1
theorem dX4_tellOne_96 : decode cX4_tellOne 96 = .ok (.aload_n 0, 1) := dcq_138.2.2.2.2.1
theorem dX4_tellOne_97 : decode cX4_tellOne 97 = .ok (.invokevirtual 144, 3) := dcq_138.2.2.2.2.2.1
theorem dX4_tellOne_100 : decode cX4_tellOne 100 = .ok (.aload_n 0, 1) := dcq_138.2.2.2.2.2.2.1
theorem dX4_tellOne_101 : decode cX4_tellOne 101 = .ok (.invokevirtual 147, 3) := dcq_138.2.2.2.2.2.2.2.1
theorem dX4_tellOne_104 : decode cX4_tellOne 104 = .ok (.return_, 1) := dcq_138.2.2.2.2.2.2.2.2
set_option maxRecDepth 20000 in
theorem dcb_139 : fd_B cX4_tellPerson 0 [42, 89, 180, 0, 33, 4, 96, 181, 0, 33, 42, 16, 10, 16, 99, 182, 0, 150, 62, 42] := fd_o cX4_tellPerson 0 _ (by decide +kernel)
theorem dcq_139 : (decode cX4_tellPerson 0 = .ok (.aload_n 0, 1)) ∧ (decode cX4_tellPerson 1 = .ok (.dup, 1)) ∧ (decode cX4_tellPerson 2 = .ok (.getfield 33, 3)) ∧ (decode cX4_tellPerson 5 = .ok (.iconst 1, 1)) ∧ (decode cX4_tellPerson 6 = .ok (.iadd, 1)) ∧ (decode cX4_tellPerson 7 = .ok (.putfield 33, 3)) ∧ (decode cX4_tellPerson 10 = .ok (.aload_n 0, 1)) ∧ (decode cX4_tellPerson 11 = .ok (.bipush 10, 2)) ∧ (decode cX4_tellPerson 13 = .ok (.bipush 99, 2)) ∧ (decode cX4_tellPerson 15 = .ok (.invokevirtual 150, 3)) ∧ (decode cX4_tellPerson 18 = .ok (.istore_n 3, 1)) ∧ (decode cX4_tellPerson 19 = .ok (.aload_n 0, 1)) := have h := dcb_139; ⟨fd_42 h, have h := fd_t1 h; ⟨fd_89 h, have h := fd_t1 h; ⟨fd_180 h rfl, have h := fd_t3 h; ⟨fd_4 h, have h := fd_t1 h; ⟨fd_96 h, have h := fd_t1 h; ⟨fd_181 h rfl, have h := fd_t3 h; ⟨fd_42 h, have h := fd_t1 h; ⟨fd_16 h (by decide +kernel), have h := fd_t2 h; ⟨fd_16 h (by decide +kernel), have h := fd_t2 h; ⟨fd_182 h rfl, have h := fd_t3 h; ⟨fd_62 h, have h := fd_t1 h; fd_42 h⟩⟩⟩⟩⟩⟩⟩⟩⟩⟩⟩
theorem dX4_tellPerson_0 : decode cX4_tellPerson 0 = .ok (.aload_n 0, 1) := dcq_139.1
theorem dX4_tellPerson_1 : decode cX4_tellPerson 1 = .ok (.dup, 1) := dcq_139.2.1
theorem dX4_tellPerson_2 : decode cX4_tellPerson 2 = .ok (.getfield 33, 3) := dcq_139.2.2.1
theorem dX4_tellPerson_5 : decode cX4_tellPerson 5 = .ok (.iconst 1, 1) := dcq_139.2.2.2.1
theorem dX4_tellPerson_6 : decode cX4_tellPerson 6 = .ok (.iadd, 1) := dcq_139.2.2.2.2.1
theorem dX4_tellPerson_7 : decode cX4_tellPerson 7 = .ok (.putfield 33, 3) := dcq_139.2.2.2.2.2.1
theorem dX4_tellPerson_10 : decode cX4_tellPerson 10 = .ok (.aload_n 0, 1) := dcq_139.2.2.2.2.2.2.1
theorem dX4_tellPerson_11 : decode cX4_tellPerson 11 = .ok (.bipush 10, 2) := dcq_139.2.2.2.2.2.2.2.1
theorem dX4_tellPerson_13 : decode cX4_tellPerson 13 = .ok (.bipush 99, 2) := dcq_139.2.2.2.2.2.2.2.2.1
theorem dX4_tellPerson_15 : decode cX4_tellPerson 15 = .ok (.invokevirtual 150, 3) := dcq_139.2.2.2.2.2.2.2.2.2.1
theorem dX4_tellPerson_18 : decode cX4_tellPerson 18 = .ok (.istore_n 3, 1) := dcq_139.2.2.2.2.2.2.2.2.2.2.1
theorem dX4_tellPerson_19 : decode cX4_tellPerson 19 = .ok (.aload_n 0, 1) := dcq_139.2.2.2.2.2.2.2.2.2.2.2
set_option maxRecDepth 20000 in
theorem dcb_140 : fd_B cX4_tellPerson 20 [16, 11, 16, 9, 182, 0, 150, 54, 4, 42, 16, 12, 16, 99, 182, 0, 150, 54, 5, 43, 28, 29] := fd_o cX4_tellPerson 20 _ (by decide +kernel)
theorem dcq_140 : (decode cX4_tellPerson 20 = .ok (.bipush 11, 2)) ∧ (decode cX4_tellPerson 22 = .ok (.bipush 9, 2)) ∧ (decode cX4_tellPerson 24 = .ok (.invokevirtual 150, 3)) ∧ (decode cX4_tellPerson 27 = .ok (.istore 4, 2)) ∧ (decode cX4_tellPerson 29 = .ok (.aload_n 0, 1)) ∧ (decode cX4_tellPerson 30 = .ok (.bipush 12, 2)) ∧ (decode cX4_tellPerson 32 = .ok (.bipush 99, 2)) ∧ (decode cX4_tellPerson 34 = .ok (.invokevirtual 150, 3)) ∧ (decode cX4_tellPerson 37 = .ok (.istore 5, 2)) ∧ (decode cX4_tellPerson 39 = .ok (.aload_n 1, 1)) ∧ (decode cX4_tellPerson 40 = .ok (.iload_n 2, 1)) ∧ (decode cX4_tellPerson 41 = .ok (.iload_n 3, 1)) := have h := dcb_140; ⟨fd_16 h (by decide +kernel), have h := fd_t2 h; ⟨fd_16 h (by decide +kernel), have h := fd_t2 h; ⟨fd_182 h rfl, have h := fd_t3 h; ⟨fd_54 h rfl, have h := fd_t2 h; ⟨fd_42 h, have h := fd_t1 h; ⟨fd_16 h (by decide +kernel), have h := fd_t2 h; ⟨fd_16 h (by decide +kernel), have h := fd_t2 h; ⟨fd_182 h rfl, have h := fd_t3 h; ⟨fd_54 h rfl, have h := fd_t2 h; ⟨fd_43 h, have h := fd_t1 h; ⟨fd_28 h, have h := fd_t1 h; fd_29 h⟩⟩⟩⟩⟩⟩⟩⟩⟩⟩⟩
theorem dX4_tellPerson_20 : decode cX4_tellPerson 20 = .ok (.bipush 11, 2) := dcq_140.1
theorem dX4_tellPerson_22 : decode cX4_tellPerson 22 = .ok (.bipush 9, 2) := dcq_140.2.1
theorem dX4_tellPerson_24 : decode cX4_tellPerson 24 = .ok (.invokevirtual 150, 3) := dcq_140.2.2.1
theorem dX4_tellPerson_27 : decode cX4_tellPerson 27 = .ok (.istore 4, 2) := dcq_140.2.2.2.1
theorem dX4_tellPerson_29 : decode cX4_tellPerson 29 = .ok (.aload_n 0, 1) := dcq_140.2.2.2.2.1
theorem dX4_tellPerson_30 : decode cX4_tellPerson 30 = .ok (.bipush 12, 2) := dcq_140.2.2.2.2.2.1
theorem dX4_tellPerson_32 : decode cX4_tellPerson 32 = .ok (.bipush 99, 2) := dcq_140.2.2.2.2.2.2.1
theorem dX4_tellPerson_34 : decode cX4_tellPerson 34 = .ok (.invokevirtual 150, 3) := dcq_140.2.2.2.2.2.2.2.1
theorem dX4_tellPerson_37 : decode cX4_tellPerson 37 = .ok (.istore 5, 2) := dcq_140.2.2.2.2.2.2.2.2.1
theorem dX4_tellPerson_39 : decode cX4_tellPerson 39 = .ok (.aload_n 1, 1) := dcq_140.2.2.2.2.2.2.2.2.2.1
theorem dX4_tellPerson_40 : decode cX4_tellPerson 40 = .ok (.iload_n 2, 1) := dcq_140.2.2.2.2.2.2.2.2.2.2.1
theorem dX4_tellPerson_41 : decode cX4_tellPerson 41 = .ok (.iload_n 3, 1) := dcq_140.2.2.2.2.2.2.2.2.2.2.2
set_option maxRecDepth 20000 in
theorem dcb_141 : fd_B cX4_tellPerson 42 [21, 4, 21, 5, 182, 0, 153, 177] := fd_o cX4_tellPerson 42 _ (by decide +kernel)
theorem dcq_141 : (decode cX4_tellPerson 42 = .ok (.iload 4, 2)) ∧ (decode cX4_tellPerson 44 = .ok (.iload 5, 2)) ∧ (decode cX4_tellPerson 46 = .ok (.invokevirtual 153, 3)) ∧ (decode cX4_tellPerson 49 = .ok (.return_, 1)) := have h := dcb_141; ⟨fd_21 h rfl, have h := fd_t2 h; ⟨fd_21 h rfl, have h := fd_t2 h; ⟨fd_182 h rfl, have h := fd_t3 h; fd_177 h⟩⟩⟩
theorem dX4_tellPerson_42 : decode cX4_tellPerson 42 = .ok (.iload 4, 2) := dcq_141.1
theorem dX4_tellPerson_44 : decode cX4_tellPerson 44 = .ok (.iload 5, 2) := dcq_141.2.1
theorem dX4_tellPerson_46 : decode cX4_tellPerson 46 = .ok (.invokevirtual 153, 3) := dcq_141.2.2.1
theorem dX4_tellPerson_49 : decode cX4_tellPerson 49 = .ok (.return_, 1) := dcq_141.2.2.2
set_option maxRecDepth 20000 in
theorem dcb_142 : fd_B cX4_numberBehind 0 [42, 180, 0, 15, 42, 180, 0, 33, 46, 4, 160, 0, 16, 42, 180, 0, 18, 42, 180, 0, 33, 46] := fd_o cX4_numberBehind 0 _ (by decide +kernel)
theorem dcq_142 : (decode cX4_numberBehind 0 = .ok (.aload_n 0, 1)) ∧ (decode cX4_numberBehind 1 = .ok (.getfield 15, 3)) ∧ (decode cX4_numberBehind 4 = .ok (.aload_n 0, 1)) ∧ (decode cX4_numberBehind 5 = .ok (.getfield 33, 3)) ∧ (decode cX4_numberBehind 8 = .ok (.iaload, 1)) ∧ (decode cX4_numberBehind 9 = .ok (.iconst 1, 1)) ∧ (decode cX4_numberBehind 10 = .ok (.if_icmp .ne 16, 3)) ∧ (decode cX4_numberBehind 13 = .ok (.aload_n 0, 1)) ∧ (decode cX4_numberBehind 14 = .ok (.getfield 18, 3)) ∧ (decode cX4_numberBehind 17 = .ok (.aload_n 0, 1)) ∧ (decode cX4_numberBehind 18 = .ok (.getfield 33, 3)) ∧ (decode cX4_numberBehind 21 = .ok (.iaload, 1)) := have h := dcb_142; ⟨fd_42 h, have h := fd_t1 h; ⟨fd_180 h rfl, have h := fd_t3 h; ⟨fd_42 h, have h := fd_t1 h; ⟨fd_180 h rfl, have h := fd_t3 h; ⟨fd_46 h, have h := fd_t1 h; ⟨fd_4 h, have h := fd_t1 h; ⟨fd_160 h (by decide +kernel), have h := fd_t3 h; ⟨fd_42 h, have h := fd_t1 h; ⟨fd_180 h rfl, have h := fd_t3 h; ⟨fd_42 h, have h := fd_t1 h; ⟨fd_180 h rfl, have h := fd_t3 h; fd_46 h⟩⟩⟩⟩⟩⟩⟩⟩⟩⟩⟩
theorem dX4_numberBehind_0 : decode cX4_numberBehind 0 = .ok (.aload_n 0, 1) := dcq_142.1
theorem dX4_numberBehind_1 : decode cX4_numberBehind 1 = .ok (.getfield 15, 3) := dcq_142.2.1
theorem dX4_numberBehind_4 : decode cX4_numberBehind 4 = .ok (.aload_n 0, 1) := dcq_142.2.2.1
theorem dX4_numberBehind_5 : decode cX4_numberBehind 5 = .ok (.getfield 33, 3) := dcq_142.2.2.2.1
theorem dX4_numberBehind_8 : decode cX4_numberBehind 8 = .ok (.iaload, 1) := dcq_142.2.2.2.2.1
theorem dX4_numberBehind_9 : decode cX4_numberBehind 9 = .ok (.iconst 1, 1) := dcq_142.2.2.2.2.2.1
theorem dX4_numberBehind_10 : decode cX4_numberBehind 10 = .ok (.if_icmp .ne 16, 3) := dcq_142.2.2.2.2.2.2.1
theorem dX4_numberBehind_13 : decode cX4_numberBehind 13 = .ok (.aload_n 0, 1) := dcq_142.2.2.2.2.2.2.2.1
theorem dX4_numberBehind_14 : decode cX4_numberBehind 14 = .ok (.getfield 18, 3) := dcq_142.2.2.2.2.2.2.2.2.1
theorem dX4_numberBehind_17 : decode cX4_numberBehind 17 = .ok (.aload_n 0, 1) := dcq_142.2.2.2.2.2.2.2.2.2.1
theorem dX4_numberBehind_18 : decode cX4_numberBehind 18 = .ok (.getfield 33, 3) := dcq_142.2.2.2.2.2.2.2.2.2.2.1
theorem dX4_numberBehind_21 : decode cX4_numberBehind 21 = .ok (.iaload, 1) := dcq_142.2.2.2.2.2.2.2.2.2.2.2
set_option maxRecDepth 20000 in
theorem dcb_143 : fd_B cX4_numberBehind 22 [27, 159, 0, 5, 3, 172, 42, 89, 180, 0, 33, 4, 96, 181, 0, 33, 42, 28] := fd_o cX4_numberBehind 22 _ (by decide +kernel)
theorem dcq_143 : (decode cX4_numberBehind 22 = .ok (.iload_n 1, 1)) ∧ (decode cX4_numberBehind 23 = .ok (.if_icmp .eq 5, 3)) ∧ (decode cX4_numberBehind 26 = .ok (.iconst 0, 1)) ∧ (decode cX4_numberBehind 27 = .ok (.ireturn, 1)) ∧ (decode cX4_numberBehind 28 = .ok (.aload_n 0, 1)) ∧ (decode cX4_numberBehind 29 = .ok (.dup, 1)) ∧ (decode cX4_numberBehind 30 = .ok (.getfield 33, 3)) ∧ (decode cX4_numberBehind 33 = .ok (.iconst 1, 1)) ∧ (decode cX4_numberBehind 34 = .ok (.iadd, 1)) ∧ (decode cX4_numberBehind 35 = .ok (.putfield 33, 3)) ∧ (decode cX4_numberBehind 38 = .ok (.aload_n 0, 1)) ∧ (decode cX4_numberBehind 39 = .ok (.iload_n 2, 1)) := have h := dcb_143; ⟨fd_27 h, have h := fd_t1 h; ⟨fd_159 h (by decide +kernel), have h := fd_t3 h; ⟨fd_3 h, have h := fd_t1 h; ⟨fd_172 h, have h := fd_t1 h; ⟨fd_42 h, have h := fd_t1 h; ⟨fd_89 h, have h := fd_t1 h; ⟨fd_180 h rfl, have h := fd_t3 h; ⟨fd_4 h, have h := fd_t1 h; ⟨fd_96 h, have h := fd_t1 h; ⟨fd_181 h rfl, have h := fd_t3 h; ⟨fd_42 h, have h := fd_t1 h; fd_28 h⟩⟩⟩⟩⟩⟩⟩⟩⟩⟩⟩
theorem dX4_numberBehind_22 : decode cX4_numberBehind 22 = .ok (.iload_n 1, 1) := dcq_143.1
theorem dX4_numberBehind_23 : decode cX4_numberBehind 23 = .ok (.if_icmp .eq 5, 3) := dcq_143.2.1
theorem dX4_numberBehind_26 : decode cX4_numberBehind 26 = .ok (.iconst 0, 1) := dcq_143.2.2.1
theorem dX4_numberBehind_27 : decode cX4_numberBehind 27 = .ok (.ireturn, 1) := dcq_143.2.2.2.1
theorem dX4_numberBehind_28 : decode cX4_numberBehind 28 = .ok (.aload_n 0, 1) := dcq_143.2.2.2.2.1
theorem dX4_numberBehind_29 : decode cX4_numberBehind 29 = .ok (.dup, 1) := dcq_143.2.2.2.2.2.1
theorem dX4_numberBehind_30 : decode cX4_numberBehind 30 = .ok (.getfield 33, 3) := dcq_143.2.2.2.2.2.2.1
theorem dX4_numberBehind_33 : decode cX4_numberBehind 33 = .ok (.iconst 1, 1) := dcq_143.2.2.2.2.2.2.2.1
theorem dX4_numberBehind_34 : decode cX4_numberBehind 34 = .ok (.iadd, 1) := dcq_143.2.2.2.2.2.2.2.2.1
theorem dX4_numberBehind_35 : decode cX4_numberBehind 35 = .ok (.putfield 33, 3) := dcq_143.2.2.2.2.2.2.2.2.2.1
theorem dX4_numberBehind_38 : decode cX4_numberBehind 38 = .ok (.aload_n 0, 1) := dcq_143.2.2.2.2.2.2.2.2.2.2.1
theorem dX4_numberBehind_39 : decode cX4_numberBehind 39 = .ok (.iload_n 2, 1) := dcq_143.2.2.2.2.2.2.2.2.2.2.2
set_option maxRecDepth 20000 in
theorem dcb_144 : fd_B cX4_numberBehind 40 [182, 0, 141, 172] := fd_o cX4_numberBehind 40 _ (by decide +kernel)
theorem dcq_144 : (decode cX4_numberBehind 40 = .ok (.invokevirtual 141, 3)) ∧ (decode cX4_numberBehind 43 = .ok (.ireturn, 1)) := have h := dcb_144; ⟨fd_182 h rfl, have h := fd_t3 h; fd_172 h⟩
theorem dX4_numberBehind_40 : decode cX4_numberBehind 40 = .ok (.invokevirtual 141, 3) := dcq_144.1
theorem dX4_numberBehind_43 : decode cX4_numberBehind 43 = .ok (.ireturn, 1) := dcq_144.2
set_option maxRecDepth 20000 in
theorem dcb_145 : fd_B cX4_numberUpTo 0 [42, 180, 0, 15, 42, 180, 0, 33, 46, 5, 160, 0, 16, 42, 180, 0, 18, 42, 180, 0, 33, 46] := fd_o cX4_numberUpTo 0 _ (by decide +kernel)
theorem dcq_145 : (decode cX4_numberUpTo 0 = .ok (.aload_n 0, 1)) ∧ (decode cX4_numberUpTo 1 = .ok (.getfield 15, 3)) ∧ (decode cX4_numberUpTo 4 = .ok (.aload_n 0, 1)) ∧ (decode cX4_numberUpTo 5 = .ok (.getfield 33, 3)) ∧ (decode cX4_numberUpTo 8 = .ok (.iaload, 1)) ∧ (decode cX4_numberUpTo 9 = .ok (.iconst 2, 1)) ∧ (decode cX4_numberUpTo 10 = .ok (.if_icmp .ne 16, 3)) ∧ (decode cX4_numberUpTo 13 = .ok (.aload_n 0, 1)) ∧ (decode cX4_numberUpTo 14 = .ok (.getfield 18, 3)) ∧ (decode cX4_numberUpTo 17 = .ok (.aload_n 0, 1)) ∧ (decode cX4_numberUpTo 18 = .ok (.getfield 33, 3)) ∧ (decode cX4_numberUpTo 21 = .ok (.iaload, 1)) := have h := dcb_145; ⟨fd_42 h, have h := fd_t1 h; ⟨fd_180 h rfl, have h := fd_t3 h; ⟨fd_42 h, have h := fd_t1 h; ⟨fd_180 h rfl, have h := fd_t3 h; ⟨fd_46 h, have h := fd_t1 h; ⟨fd_5 h, have h := fd_t1 h; ⟨fd_160 h (by decide +kernel), have h := fd_t3 h; ⟨fd_42 h, have h := fd_t1 h; ⟨fd_180 h rfl, have h := fd_t3 h; ⟨fd_42 h, have h := fd_t1 h; ⟨fd_180 h rfl, have h := fd_t3 h; fd_46 h⟩⟩⟩⟩⟩⟩⟩⟩⟩⟩⟩
theorem dX4_numberUpTo_0 : decode cX4_numberUpTo 0 = .ok (.aload_n 0, 1) := dcq_145.1
theorem dX4_numberUpTo_1 : decode cX4_numberUpTo 1 = .ok (.getfield 15, 3) := dcq_145.2.1
theorem dX4_numberUpTo_4 : decode cX4_numberUpTo 4 = .ok (.aload_n 0, 1) := dcq_145.2.2.1
theorem dX4_numberUpTo_5 : decode cX4_numberUpTo 5 = .ok (.getfield 33, 3) := dcq_145.2.2.2.1
theorem dX4_numberUpTo_8 : decode cX4_numberUpTo 8 = .ok (.iaload, 1) := dcq_145.2.2.2.2.1
theorem dX4_numberUpTo_9 : decode cX4_numberUpTo 9 = .ok (.iconst 2, 1) := dcq_145.2.2.2.2.2.1
theorem dX4_numberUpTo_10 : decode cX4_numberUpTo 10 = .ok (.if_icmp .ne 16, 3) := dcq_145.2.2.2.2.2.2.1
theorem dX4_numberUpTo_13 : decode cX4_numberUpTo 13 = .ok (.aload_n 0, 1) := dcq_145.2.2.2.2.2.2.2.1
theorem dX4_numberUpTo_14 : decode cX4_numberUpTo 14 = .ok (.getfield 18, 3) := dcq_145.2.2.2.2.2.2.2.2.1
theorem dX4_numberUpTo_17 : decode cX4_numberUpTo 17 = .ok (.aload_n 0, 1) := dcq_145.2.2.2.2.2.2.2.2.2.1
theorem dX4_numberUpTo_18 : decode cX4_numberUpTo 18 = .ok (.getfield 33, 3) := dcq_145.2.2.2.2.2.2.2.2.2.2.1
theorem dX4_numberUpTo_21 : decode cX4_numberUpTo 21 = .ok (.iaload, 1) := dcq_145.2.2.2.2.2.2.2.2.2.2.2
set_option maxRecDepth 20000 in
theorem dcb_146 : fd_B cX4_numberUpTo 22 [27, 164, 0, 9, 42, 182, 0, 144, 3, 172, 42, 180, 0, 18, 42, 180, 0, 33, 46, 61] := fd_o cX4_numberUpTo 22 _ (by decide +kernel)
theorem dcq_146 : (decode cX4_numberUpTo 22 = .ok (.iload_n 1, 1)) ∧ (decode cX4_numberUpTo 23 = .ok (.if_icmp .le 9, 3)) ∧ (decode cX4_numberUpTo 26 = .ok (.aload_n 0, 1)) ∧ (decode cX4_numberUpTo 27 = .ok (.invokevirtual 144, 3)) ∧ (decode cX4_numberUpTo 30 = .ok (.iconst 0, 1)) ∧ (decode cX4_numberUpTo 31 = .ok (.ireturn, 1)) ∧ (decode cX4_numberUpTo 32 = .ok (.aload_n 0, 1)) ∧ (decode cX4_numberUpTo 33 = .ok (.getfield 18, 3)) ∧ (decode cX4_numberUpTo 36 = .ok (.aload_n 0, 1)) ∧ (decode cX4_numberUpTo 37 = .ok (.getfield 33, 3)) ∧ (decode cX4_numberUpTo 40 = .ok (.iaload, 1)) ∧ (decode cX4_numberUpTo 41 = .ok (.istore_n 2, 1)) := have h := dcb_146; ⟨fd_27 h, have h := fd_t1 h; ⟨fd_164 h (by decide +kernel), have h := fd_t3 h; ⟨fd_42 h, have h := fd_t1 h; ⟨fd_182 h rfl, have h := fd_t3 h; ⟨fd_3 h, have h := fd_t1 h; ⟨fd_172 h, have h := fd_t1 h; ⟨fd_42 h, have h := fd_t1 h; ⟨fd_180 h rfl, have h := fd_t3 h; ⟨fd_42 h, have h := fd_t1 h; ⟨fd_180 h rfl, have h := fd_t3 h; ⟨fd_46 h, have h := fd_t1 h; fd_61 h⟩⟩⟩⟩⟩⟩⟩⟩⟩⟩⟩
theorem dX4_numberUpTo_22 : decode cX4_numberUpTo 22 = .ok (.iload_n 1, 1) := dcq_146.1
theorem dX4_numberUpTo_23 : decode cX4_numberUpTo 23 = .ok (.if_icmp .le 9, 3) := dcq_146.2.1
theorem dX4_numberUpTo_26 : decode cX4_numberUpTo 26 = .ok (.aload_n 0, 1) := dcq_146.2.2.1
theorem dX4_numberUpTo_27 : decode cX4_numberUpTo 27 = .ok (.invokevirtual 144, 3) := dcq_146.2.2.2.1
theorem dX4_numberUpTo_30 : decode cX4_numberUpTo 30 = .ok (.iconst 0, 1) := dcq_146.2.2.2.2.1
theorem dX4_numberUpTo_31 : decode cX4_numberUpTo 31 = .ok (.ireturn, 1) := dcq_146.2.2.2.2.2.1
theorem dX4_numberUpTo_32 : decode cX4_numberUpTo 32 = .ok (.aload_n 0, 1) := dcq_146.2.2.2.2.2.2.1
theorem dX4_numberUpTo_33 : decode cX4_numberUpTo 33 = .ok (.getfield 18, 3) := dcq_146.2.2.2.2.2.2.2.1
theorem dX4_numberUpTo_36 : decode cX4_numberUpTo 36 = .ok (.aload_n 0, 1) := dcq_146.2.2.2.2.2.2.2.2.1
theorem dX4_numberUpTo_37 : decode cX4_numberUpTo 37 = .ok (.getfield 33, 3) := dcq_146.2.2.2.2.2.2.2.2.2.1
theorem dX4_numberUpTo_40 : decode cX4_numberUpTo 40 = .ok (.iaload, 1) := dcq_146.2.2.2.2.2.2.2.2.2.2.1
theorem dX4_numberUpTo_41 : decode cX4_numberUpTo 41 = .ok (.istore_n 2, 1) := dcq_146.2.2.2.2.2.2.2.2.2.2.2
set_option maxRecDepth 20000 in
theorem dcb_147 : fd_B cX4_numberUpTo 42 [42, 89, 180, 0, 33, 4, 96, 181, 0, 33, 28, 172] := fd_o cX4_numberUpTo 42 _ (by decide +kernel)
theorem dcq_147 : (decode cX4_numberUpTo 42 = .ok (.aload_n 0, 1)) ∧ (decode cX4_numberUpTo 43 = .ok (.dup, 1)) ∧ (decode cX4_numberUpTo 44 = .ok (.getfield 33, 3)) ∧ (decode cX4_numberUpTo 47 = .ok (.iconst 1, 1)) ∧ (decode cX4_numberUpTo 48 = .ok (.iadd, 1)) ∧ (decode cX4_numberUpTo 49 = .ok (.putfield 33, 3)) ∧ (decode cX4_numberUpTo 52 = .ok (.iload_n 2, 1)) ∧ (decode cX4_numberUpTo 53 = .ok (.ireturn, 1)) := have h := dcb_147; ⟨fd_42 h, have h := fd_t1 h; ⟨fd_89 h, have h := fd_t1 h; ⟨fd_180 h rfl, have h := fd_t3 h; ⟨fd_4 h, have h := fd_t1 h; ⟨fd_96 h, have h := fd_t1 h; ⟨fd_181 h rfl, have h := fd_t3 h; ⟨fd_28 h, have h := fd_t1 h; fd_172 h⟩⟩⟩⟩⟩⟩⟩
theorem dX4_numberUpTo_42 : decode cX4_numberUpTo 42 = .ok (.aload_n 0, 1) := dcq_147.1
theorem dX4_numberUpTo_43 : decode cX4_numberUpTo 43 = .ok (.dup, 1) := dcq_147.2.1
theorem dX4_numberUpTo_44 : decode cX4_numberUpTo 44 = .ok (.getfield 33, 3) := dcq_147.2.2.1
theorem dX4_numberUpTo_47 : decode cX4_numberUpTo 47 = .ok (.iconst 1, 1) := dcq_147.2.2.2.1
theorem dX4_numberUpTo_48 : decode cX4_numberUpTo 48 = .ok (.iadd, 1) := dcq_147.2.2.2.2.1
theorem dX4_numberUpTo_49 : decode cX4_numberUpTo 49 = .ok (.putfield 33, 3) := dcq_147.2.2.2.2.2.1
theorem dX4_numberUpTo_52 : decode cX4_numberUpTo 52 = .ok (.iload_n 2, 1) := dcq_147.2.2.2.2.2.2.1
theorem dX4_numberUpTo_53 : decode cX4_numberUpTo 53 = .ok (.ireturn, 1) := dcq_147.2.2.2.2.2.2.2
set_option maxRecDepth 20000 in
theorem dcb_148 : fd_B cX4_passSemicolon 0 [42, 180, 0, 15, 42, 180, 0, 33, 46, 6, 160, 0, 30, 42, 180, 0, 18, 42, 180, 0, 33, 46] := fd_o cX4_passSemicolon 0 _ (by decide +kernel)
theorem dcq_148 : (decode cX4_passSemicolon 0 = .ok (.aload_n 0, 1)) ∧ (decode cX4_passSemicolon 1 = .ok (.getfield 15, 3)) ∧ (decode cX4_passSemicolon 4 = .ok (.aload_n 0, 1)) ∧ (decode cX4_passSemicolon 5 = .ok (.getfield 33, 3)) ∧ (decode cX4_passSemicolon 8 = .ok (.iaload, 1)) ∧ (decode cX4_passSemicolon 9 = .ok (.iconst 3, 1)) ∧ (decode cX4_passSemicolon 10 = .ok (.if_icmp .ne 30, 3)) ∧ (decode cX4_passSemicolon 13 = .ok (.aload_n 0, 1)) ∧ (decode cX4_passSemicolon 14 = .ok (.getfield 18, 3)) ∧ (decode cX4_passSemicolon 17 = .ok (.aload_n 0, 1)) ∧ (decode cX4_passSemicolon 18 = .ok (.getfield 33, 3)) ∧ (decode cX4_passSemicolon 21 = .ok (.iaload, 1)) := have h := dcb_148; ⟨fd_42 h, have h := fd_t1 h; ⟨fd_180 h rfl, have h := fd_t3 h; ⟨fd_42 h, have h := fd_t1 h; ⟨fd_180 h rfl, have h := fd_t3 h; ⟨fd_46 h, have h := fd_t1 h; ⟨fd_6 h, have h := fd_t1 h; ⟨fd_160 h (by decide +kernel), have h := fd_t3 h; ⟨fd_42 h, have h := fd_t1 h; ⟨fd_180 h rfl, have h := fd_t3 h; ⟨fd_42 h, have h := fd_t1 h; ⟨fd_180 h rfl, have h := fd_t3 h; fd_46 h⟩⟩⟩⟩⟩⟩⟩⟩⟩⟩⟩
theorem dX4_passSemicolon_0 : decode cX4_passSemicolon 0 = .ok (.aload_n 0, 1) := dcq_148.1
theorem dX4_passSemicolon_1 : decode cX4_passSemicolon 1 = .ok (.getfield 15, 3) := dcq_148.2.1
theorem dX4_passSemicolon_4 : decode cX4_passSemicolon 4 = .ok (.aload_n 0, 1) := dcq_148.2.2.1
theorem dX4_passSemicolon_5 : decode cX4_passSemicolon 5 = .ok (.getfield 33, 3) := dcq_148.2.2.2.1
theorem dX4_passSemicolon_8 : decode cX4_passSemicolon 8 = .ok (.iaload, 1) := dcq_148.2.2.2.2.1
theorem dX4_passSemicolon_9 : decode cX4_passSemicolon 9 = .ok (.iconst 3, 1) := dcq_148.2.2.2.2.2.1
theorem dX4_passSemicolon_10 : decode cX4_passSemicolon 10 = .ok (.if_icmp .ne 30, 3) := dcq_148.2.2.2.2.2.2.1
theorem dX4_passSemicolon_13 : decode cX4_passSemicolon 13 = .ok (.aload_n 0, 1) := dcq_148.2.2.2.2.2.2.2.1
theorem dX4_passSemicolon_14 : decode cX4_passSemicolon 14 = .ok (.getfield 18, 3) := dcq_148.2.2.2.2.2.2.2.2.1
theorem dX4_passSemicolon_17 : decode cX4_passSemicolon 17 = .ok (.aload_n 0, 1) := dcq_148.2.2.2.2.2.2.2.2.2.1
theorem dX4_passSemicolon_18 : decode cX4_passSemicolon 18 = .ok (.getfield 33, 3) := dcq_148.2.2.2.2.2.2.2.2.2.2.1
theorem dX4_passSemicolon_21 : decode cX4_passSemicolon 21 = .ok (.iaload, 1) := dcq_148.2.2.2.2.2.2.2.2.2.2.2
set_option maxRecDepth 20000 in
theorem dcb_149 : fd_B cX4_passSemicolon 22 [16, 59, 160, 0, 16, 42, 89, 180, 0, 33, 4, 96, 181, 0, 33, 167, 0, 7, 42, 182, 0, 144, 177] := fd_o cX4_passSemicolon 22 _ (by decide +kernel)
theorem dcq_149 : (decode cX4_passSemicolon 22 = .ok (.bipush 59, 2)) ∧ (decode cX4_passSemicolon 24 = .ok (.if_icmp .ne 16, 3)) ∧ (decode cX4_passSemicolon 27 = .ok (.aload_n 0, 1)) ∧ (decode cX4_passSemicolon 28 = .ok (.dup, 1)) ∧ (decode cX4_passSemicolon 29 = .ok (.getfield 33, 3)) ∧ (decode cX4_passSemicolon 32 = .ok (.iconst 1, 1)) ∧ (decode cX4_passSemicolon 33 = .ok (.iadd, 1)) ∧ (decode cX4_passSemicolon 34 = .ok (.putfield 33, 3)) ∧ (decode cX4_passSemicolon 37 = .ok (.goto 7, 3)) ∧ (decode cX4_passSemicolon 40 = .ok (.aload_n 0, 1)) ∧ (decode cX4_passSemicolon 41 = .ok (.invokevirtual 144, 3)) ∧ (decode cX4_passSemicolon 44 = .ok (.return_, 1)) := have h := dcb_149; ⟨fd_16 h (by decide +kernel), have h := fd_t2 h; ⟨fd_160 h (by decide +kernel), have h := fd_t3 h; ⟨fd_42 h, have h := fd_t1 h; ⟨fd_89 h, have h := fd_t1 h; ⟨fd_180 h rfl, have h := fd_t3 h; ⟨fd_4 h, have h := fd_t1 h; ⟨fd_96 h, have h := fd_t1 h; ⟨fd_181 h rfl, have h := fd_t3 h; ⟨fd_167 h (by decide +kernel), have h := fd_t3 h; ⟨fd_42 h, have h := fd_t1 h; ⟨fd_182 h rfl, have h := fd_t3 h; fd_177 h⟩⟩⟩⟩⟩⟩⟩⟩⟩⟩⟩
theorem dX4_passSemicolon_22 : decode cX4_passSemicolon 22 = .ok (.bipush 59, 2) := dcq_149.1
theorem dX4_passSemicolon_24 : decode cX4_passSemicolon 24 = .ok (.if_icmp .ne 16, 3) := dcq_149.2.1
theorem dX4_passSemicolon_27 : decode cX4_passSemicolon 27 = .ok (.aload_n 0, 1) := dcq_149.2.2.1
theorem dX4_passSemicolon_28 : decode cX4_passSemicolon 28 = .ok (.dup, 1) := dcq_149.2.2.2.1
theorem dX4_passSemicolon_29 : decode cX4_passSemicolon 29 = .ok (.getfield 33, 3) := dcq_149.2.2.2.2.1
theorem dX4_passSemicolon_32 : decode cX4_passSemicolon 32 = .ok (.iconst 1, 1) := dcq_149.2.2.2.2.2.1
theorem dX4_passSemicolon_33 : decode cX4_passSemicolon 33 = .ok (.iadd, 1) := dcq_149.2.2.2.2.2.2.1
theorem dX4_passSemicolon_34 : decode cX4_passSemicolon 34 = .ok (.putfield 33, 3) := dcq_149.2.2.2.2.2.2.2.1
theorem dX4_passSemicolon_37 : decode cX4_passSemicolon 37 = .ok (.goto 7, 3) := dcq_149.2.2.2.2.2.2.2.2.1
theorem dX4_passSemicolon_40 : decode cX4_passSemicolon 40 = .ok (.aload_n 0, 1) := dcq_149.2.2.2.2.2.2.2.2.2.1
theorem dX4_passSemicolon_41 : decode cX4_passSemicolon 41 = .ok (.invokevirtual 144, 3) := dcq_149.2.2.2.2.2.2.2.2.2.2.1
theorem dX4_passSemicolon_44 : decode cX4_passSemicolon 44 = .ok (.return_, 1) := dcq_149.2.2.2.2.2.2.2.2.2.2.2
set_option maxRecDepth 20000 in
theorem dcb_150 : fd_B cX4_fail 0 [42, 180, 0, 36, 156, 0, 16, 42, 42, 180, 0, 21, 42, 180, 0, 33, 46, 181, 0, 36, 177] := fd_o cX4_fail 0 _ (by decide +kernel)
theorem dcq_150 : (decode cX4_fail 0 = .ok (.aload_n 0, 1)) ∧ (decode cX4_fail 1 = .ok (.getfield 36, 3)) ∧ (decode cX4_fail 4 = .ok (.ifCond .ge 16, 3)) ∧ (decode cX4_fail 7 = .ok (.aload_n 0, 1)) ∧ (decode cX4_fail 8 = .ok (.aload_n 0, 1)) ∧ (decode cX4_fail 9 = .ok (.getfield 21, 3)) ∧ (decode cX4_fail 12 = .ok (.aload_n 0, 1)) ∧ (decode cX4_fail 13 = .ok (.getfield 33, 3)) ∧ (decode cX4_fail 16 = .ok (.iaload, 1)) ∧ (decode cX4_fail 17 = .ok (.putfield 36, 3)) ∧ (decode cX4_fail 20 = .ok (.return_, 1)) := have h := dcb_150; ⟨fd_42 h, have h := fd_t1 h; ⟨fd_180 h rfl, have h := fd_t3 h; ⟨fd_156 h (by decide +kernel), have h := fd_t3 h; ⟨fd_42 h, have h := fd_t1 h; ⟨fd_42 h, have h := fd_t1 h; ⟨fd_180 h rfl, have h := fd_t3 h; ⟨fd_42 h, have h := fd_t1 h; ⟨fd_180 h rfl, have h := fd_t3 h; ⟨fd_46 h, have h := fd_t1 h; ⟨fd_181 h rfl, have h := fd_t3 h; fd_177 h⟩⟩⟩⟩⟩⟩⟩⟩⟩⟩
theorem dX4_fail_0 : decode cX4_fail 0 = .ok (.aload_n 0, 1) := dcq_150.1
theorem dX4_fail_1 : decode cX4_fail 1 = .ok (.getfield 36, 3) := dcq_150.2.1
theorem dX4_fail_4 : decode cX4_fail 4 = .ok (.ifCond .ge 16, 3) := dcq_150.2.2.1
theorem dX4_fail_7 : decode cX4_fail 7 = .ok (.aload_n 0, 1) := dcq_150.2.2.2.1
theorem dX4_fail_8 : decode cX4_fail 8 = .ok (.aload_n 0, 1) := dcq_150.2.2.2.2.1
theorem dX4_fail_9 : decode cX4_fail 9 = .ok (.getfield 21, 3) := dcq_150.2.2.2.2.2.1
theorem dX4_fail_12 : decode cX4_fail 12 = .ok (.aload_n 0, 1) := dcq_150.2.2.2.2.2.2.1
theorem dX4_fail_13 : decode cX4_fail 13 = .ok (.getfield 33, 3) := dcq_150.2.2.2.2.2.2.2.1
theorem dX4_fail_16 : decode cX4_fail 16 = .ok (.iaload, 1) := dcq_150.2.2.2.2.2.2.2.2.1
theorem dX4_fail_17 : decode cX4_fail 17 = .ok (.putfield 36, 3) := dcq_150.2.2.2.2.2.2.2.2.2.1
theorem dX4_fail_20 : decode cX4_fail 20 = .ok (.return_, 1) := dcq_150.2.2.2.2.2.2.2.2.2.2
set_option maxRecDepth 20000 in
theorem dcb_151 : fd_B cX5_init 0 [42, 183, 0, 1, 42, 187, 0, 7, 89, 183, 0, 9, 181, 0, 10, 42, 187, 0, 7, 89, 183, 0, 9, 181, 0, 16] := fd_o cX5_init 0 _ (by decide +kernel)
theorem dcq_151 : (decode cX5_init 0 = .ok (.aload_n 0, 1)) ∧ (decode cX5_init 1 = .ok (.invokespecial 1, 3)) ∧ (decode cX5_init 4 = .ok (.aload_n 0, 1)) ∧ (decode cX5_init 5 = .ok (.new 7, 3)) ∧ (decode cX5_init 8 = .ok (.dup, 1)) ∧ (decode cX5_init 9 = .ok (.invokespecial 9, 3)) ∧ (decode cX5_init 12 = .ok (.putfield 10, 3)) ∧ (decode cX5_init 15 = .ok (.aload_n 0, 1)) ∧ (decode cX5_init 16 = .ok (.new 7, 3)) ∧ (decode cX5_init 19 = .ok (.dup, 1)) ∧ (decode cX5_init 20 = .ok (.invokespecial 9, 3)) ∧ (decode cX5_init 23 = .ok (.putfield 16, 3)) := have h := dcb_151; ⟨fd_42 h, have h := fd_t1 h; ⟨fd_183 h rfl, have h := fd_t3 h; ⟨fd_42 h, have h := fd_t1 h; ⟨fd_187 h rfl, have h := fd_t3 h; ⟨fd_89 h, have h := fd_t1 h; ⟨fd_183 h rfl, have h := fd_t3 h; ⟨fd_181 h rfl, have h := fd_t3 h; ⟨fd_42 h, have h := fd_t1 h; ⟨fd_187 h rfl, have h := fd_t3 h; ⟨fd_89 h, have h := fd_t1 h; ⟨fd_183 h rfl, have h := fd_t3 h; fd_181 h rfl⟩⟩⟩⟩⟩⟩⟩⟩⟩⟩⟩
theorem dX5_init_0 : decode cX5_init 0 = .ok (.aload_n 0, 1) := dcq_151.1
theorem dX5_init_1 : decode cX5_init 1 = .ok (.invokespecial 1, 3) := dcq_151.2.1
theorem dX5_init_4 : decode cX5_init 4 = .ok (.aload_n 0, 1) := dcq_151.2.2.1
theorem dX5_init_5 : decode cX5_init 5 = .ok (.new 7, 3) := dcq_151.2.2.2.1
theorem dX5_init_8 : decode cX5_init 8 = .ok (.dup, 1) := dcq_151.2.2.2.2.1
theorem dX5_init_9 : decode cX5_init 9 = .ok (.invokespecial 9, 3) := dcq_151.2.2.2.2.2.1
theorem dX5_init_12 : decode cX5_init 12 = .ok (.putfield 10, 3) := dcq_151.2.2.2.2.2.2.1
theorem dX5_init_15 : decode cX5_init 15 = .ok (.aload_n 0, 1) := dcq_151.2.2.2.2.2.2.2.1
theorem dX5_init_16 : decode cX5_init 16 = .ok (.new 7, 3) := dcq_151.2.2.2.2.2.2.2.2.1
theorem dX5_init_19 : decode cX5_init 19 = .ok (.dup, 1) := dcq_151.2.2.2.2.2.2.2.2.2.1
theorem dX5_init_20 : decode cX5_init 20 = .ok (.invokespecial 9, 3) := dcq_151.2.2.2.2.2.2.2.2.2.2.1
theorem dX5_init_23 : decode cX5_init 23 = .ok (.putfield 16, 3) := dcq_151.2.2.2.2.2.2.2.2.2.2.2
set_option maxRecDepth 20000 in
theorem dcb_152 : fd_B cX5_init 26 [42, 187, 0, 7, 89, 183, 0, 9, 181, 0, 19, 42, 187, 0, 22, 89, 183, 0, 24, 181, 0, 25, 42, 187, 0, 29] := fd_o cX5_init 26 _ (by decide +kernel)
theorem dcq_152 : (decode cX5_init 26 = .ok (.aload_n 0, 1)) ∧ (decode cX5_init 27 = .ok (.new 7, 3)) ∧ (decode cX5_init 30 = .ok (.dup, 1)) ∧ (decode cX5_init 31 = .ok (.invokespecial 9, 3)) ∧ (decode cX5_init 34 = .ok (.putfield 19, 3)) ∧ (decode cX5_init 37 = .ok (.aload_n 0, 1)) ∧ (decode cX5_init 38 = .ok (.new 22, 3)) ∧ (decode cX5_init 41 = .ok (.dup, 1)) ∧ (decode cX5_init 42 = .ok (.invokespecial 24, 3)) ∧ (decode cX5_init 45 = .ok (.putfield 25, 3)) ∧ (decode cX5_init 48 = .ok (.aload_n 0, 1)) ∧ (decode cX5_init 49 = .ok (.new 29, 3)) := have h := dcb_152; ⟨fd_42 h, have h := fd_t1 h; ⟨fd_187 h rfl, have h := fd_t3 h; ⟨fd_89 h, have h := fd_t1 h; ⟨fd_183 h rfl, have h := fd_t3 h; ⟨fd_181 h rfl, have h := fd_t3 h; ⟨fd_42 h, have h := fd_t1 h; ⟨fd_187 h rfl, have h := fd_t3 h; ⟨fd_89 h, have h := fd_t1 h; ⟨fd_183 h rfl, have h := fd_t3 h; ⟨fd_181 h rfl, have h := fd_t3 h; ⟨fd_42 h, have h := fd_t1 h; fd_187 h rfl⟩⟩⟩⟩⟩⟩⟩⟩⟩⟩⟩
theorem dX5_init_26 : decode cX5_init 26 = .ok (.aload_n 0, 1) := dcq_152.1
theorem dX5_init_27 : decode cX5_init 27 = .ok (.new 7, 3) := dcq_152.2.1
theorem dX5_init_30 : decode cX5_init 30 = .ok (.dup, 1) := dcq_152.2.2.1
theorem dX5_init_31 : decode cX5_init 31 = .ok (.invokespecial 9, 3) := dcq_152.2.2.2.1
theorem dX5_init_34 : decode cX5_init 34 = .ok (.putfield 19, 3) := dcq_152.2.2.2.2.1
theorem dX5_init_37 : decode cX5_init 37 = .ok (.aload_n 0, 1) := dcq_152.2.2.2.2.2.1
theorem dX5_init_38 : decode cX5_init 38 = .ok (.new 22, 3) := dcq_152.2.2.2.2.2.2.1
theorem dX5_init_41 : decode cX5_init 41 = .ok (.dup, 1) := dcq_152.2.2.2.2.2.2.2.1
theorem dX5_init_42 : decode cX5_init 42 = .ok (.invokespecial 24, 3) := dcq_152.2.2.2.2.2.2.2.2.1
theorem dX5_init_45 : decode cX5_init 45 = .ok (.putfield 25, 3) := dcq_152.2.2.2.2.2.2.2.2.2.1
theorem dX5_init_48 : decode cX5_init 48 = .ok (.aload_n 0, 1) := dcq_152.2.2.2.2.2.2.2.2.2.2.1
theorem dX5_init_49 : decode cX5_init 49 = .ok (.new 29, 3) := dcq_152.2.2.2.2.2.2.2.2.2.2.2
set_option maxRecDepth 20000 in
theorem dcb_153 : fd_B cX5_init 52 [89, 183, 0, 31, 181, 0, 32, 42, 7, 189, 0, 36, 181, 0, 38, 42, 7, 189, 0, 42, 181, 0, 44, 3] := fd_o cX5_init 52 _ (by decide +kernel)
theorem dcq_153 : (decode cX5_init 52 = .ok (.dup, 1)) ∧ (decode cX5_init 53 = .ok (.invokespecial 31, 3)) ∧ (decode cX5_init 56 = .ok (.putfield 32, 3)) ∧ (decode cX5_init 59 = .ok (.aload_n 0, 1)) ∧ (decode cX5_init 60 = .ok (.iconst 4, 1)) ∧ (decode cX5_init 61 = .ok (.anewarray 36, 3)) ∧ (decode cX5_init 64 = .ok (.putfield 38, 3)) ∧ (decode cX5_init 67 = .ok (.aload_n 0, 1)) ∧ (decode cX5_init 68 = .ok (.iconst 4, 1)) ∧ (decode cX5_init 69 = .ok (.anewarray 42, 3)) ∧ (decode cX5_init 72 = .ok (.putfield 44, 3)) ∧ (decode cX5_init 75 = .ok (.iconst 0, 1)) := have h := dcb_153; ⟨fd_89 h, have h := fd_t1 h; ⟨fd_183 h rfl, have h := fd_t3 h; ⟨fd_181 h rfl, have h := fd_t3 h; ⟨fd_42 h, have h := fd_t1 h; ⟨fd_7 h, have h := fd_t1 h; ⟨fd_189 h rfl, have h := fd_t3 h; ⟨fd_181 h rfl, have h := fd_t3 h; ⟨fd_42 h, have h := fd_t1 h; ⟨fd_7 h, have h := fd_t1 h; ⟨fd_189 h rfl, have h := fd_t3 h; ⟨fd_181 h rfl, have h := fd_t3 h; fd_3 h⟩⟩⟩⟩⟩⟩⟩⟩⟩⟩⟩
theorem dX5_init_52 : decode cX5_init 52 = .ok (.dup, 1) := dcq_153.1
theorem dX5_init_53 : decode cX5_init 53 = .ok (.invokespecial 31, 3) := dcq_153.2.1
theorem dX5_init_56 : decode cX5_init 56 = .ok (.putfield 32, 3) := dcq_153.2.2.1
theorem dX5_init_59 : decode cX5_init 59 = .ok (.aload_n 0, 1) := dcq_153.2.2.2.1
theorem dX5_init_60 : decode cX5_init 60 = .ok (.iconst 4, 1) := dcq_153.2.2.2.2.1
theorem dX5_init_61 : decode cX5_init 61 = .ok (.anewarray 36, 3) := dcq_153.2.2.2.2.2.1
theorem dX5_init_64 : decode cX5_init 64 = .ok (.putfield 38, 3) := dcq_153.2.2.2.2.2.2.1
theorem dX5_init_67 : decode cX5_init 67 = .ok (.aload_n 0, 1) := dcq_153.2.2.2.2.2.2.2.1
theorem dX5_init_68 : decode cX5_init 68 = .ok (.iconst 4, 1) := dcq_153.2.2.2.2.2.2.2.2.1
theorem dX5_init_69 : decode cX5_init 69 = .ok (.anewarray 42, 3) := dcq_153.2.2.2.2.2.2.2.2.2.1
theorem dX5_init_72 : decode cX5_init 72 = .ok (.putfield 44, 3) := dcq_153.2.2.2.2.2.2.2.2.2.2.1
theorem dX5_init_75 : decode cX5_init 75 = .ok (.iconst 0, 1) := dcq_153.2.2.2.2.2.2.2.2.2.2.2
set_option maxRecDepth 20000 in
theorem dcb_154 : fd_B cX5_init 76 [60, 27, 7, 162, 0, 35, 42, 180, 0, 38, 27, 187, 0, 36, 89, 183, 0, 48, 83, 42] := fd_o cX5_init 76 _ (by decide +kernel)
theorem dcq_154 : (decode cX5_init 76 = .ok (.istore_n 1, 1)) ∧ (decode cX5_init 77 = .ok (.iload_n 1, 1)) ∧ (decode cX5_init 78 = .ok (.iconst 4, 1)) ∧ (decode cX5_init 79 = .ok (.if_icmp .ge 35, 3)) ∧ (decode cX5_init 82 = .ok (.aload_n 0, 1)) ∧ (decode cX5_init 83 = .ok (.getfield 38, 3)) ∧ (decode cX5_init 86 = .ok (.iload_n 1, 1)) ∧ (decode cX5_init 87 = .ok (.new 36, 3)) ∧ (decode cX5_init 90 = .ok (.dup, 1)) ∧ (decode cX5_init 91 = .ok (.invokespecial 48, 3)) ∧ (decode cX5_init 94 = .ok (.aastore, 1)) ∧ (decode cX5_init 95 = .ok (.aload_n 0, 1)) := have h := dcb_154; ⟨fd_60 h, have h := fd_t1 h; ⟨fd_27 h, have h := fd_t1 h; ⟨fd_7 h, have h := fd_t1 h; ⟨fd_162 h (by decide +kernel), have h := fd_t3 h; ⟨fd_42 h, have h := fd_t1 h; ⟨fd_180 h rfl, have h := fd_t3 h; ⟨fd_27 h, have h := fd_t1 h; ⟨fd_187 h rfl, have h := fd_t3 h; ⟨fd_89 h, have h := fd_t1 h; ⟨fd_183 h rfl, have h := fd_t3 h; ⟨fd_83 h, have h := fd_t1 h; fd_42 h⟩⟩⟩⟩⟩⟩⟩⟩⟩⟩⟩
theorem dX5_init_76 : decode cX5_init 76 = .ok (.istore_n 1, 1) := dcq_154.1
theorem dX5_init_77 : decode cX5_init 77 = .ok (.iload_n 1, 1) := dcq_154.2.1
theorem dX5_init_78 : decode cX5_init 78 = .ok (.iconst 4, 1) := dcq_154.2.2.1
theorem dX5_init_79 : decode cX5_init 79 = .ok (.if_icmp .ge 35, 3) := dcq_154.2.2.2.1
theorem dX5_init_82 : decode cX5_init 82 = .ok (.aload_n 0, 1) := dcq_154.2.2.2.2.1
theorem dX5_init_83 : decode cX5_init 83 = .ok (.getfield 38, 3) := dcq_154.2.2.2.2.2.1
theorem dX5_init_86 : decode cX5_init 86 = .ok (.iload_n 1, 1) := dcq_154.2.2.2.2.2.2.1
theorem dX5_init_87 : decode cX5_init 87 = .ok (.new 36, 3) := dcq_154.2.2.2.2.2.2.2.1
theorem dX5_init_90 : decode cX5_init 90 = .ok (.dup, 1) := dcq_154.2.2.2.2.2.2.2.2.1
theorem dX5_init_91 : decode cX5_init 91 = .ok (.invokespecial 48, 3) := dcq_154.2.2.2.2.2.2.2.2.2.1
theorem dX5_init_94 : decode cX5_init 94 = .ok (.aastore, 1) := dcq_154.2.2.2.2.2.2.2.2.2.2.1
theorem dX5_init_95 : decode cX5_init 95 = .ok (.aload_n 0, 1) := dcq_154.2.2.2.2.2.2.2.2.2.2.2
set_option maxRecDepth 20000 in
theorem dcb_155 : fd_B cX5_init 96 [180, 0, 44, 27, 187, 0, 42, 89, 183, 0, 49, 83, 132, 1, 1, 167, 255, 222, 42, 16, 30, 188, 10, 181, 0, 50] := fd_o cX5_init 96 _ (by decide +kernel)
theorem dcq_155 : (decode cX5_init 96 = .ok (.getfield 44, 3)) ∧ (decode cX5_init 99 = .ok (.iload_n 1, 1)) ∧ (decode cX5_init 100 = .ok (.new 42, 3)) ∧ (decode cX5_init 103 = .ok (.dup, 1)) ∧ (decode cX5_init 104 = .ok (.invokespecial 49, 3)) ∧ (decode cX5_init 107 = .ok (.aastore, 1)) ∧ (decode cX5_init 108 = .ok (.iinc 1 1, 3)) ∧ (decode cX5_init 111 = .ok (.goto (-34), 3)) ∧ (decode cX5_init 114 = .ok (.aload_n 0, 1)) ∧ (decode cX5_init 115 = .ok (.bipush 30, 2)) ∧ (decode cX5_init 117 = .ok (.newarray .int, 2)) ∧ (decode cX5_init 119 = .ok (.putfield 50, 3)) := have h := dcb_155; ⟨fd_180 h rfl, have h := fd_t3 h; ⟨fd_27 h, have h := fd_t1 h; ⟨fd_187 h rfl, have h := fd_t3 h; ⟨fd_89 h, have h := fd_t1 h; ⟨fd_183 h rfl, have h := fd_t3 h; ⟨fd_83 h, have h := fd_t1 h; ⟨fd_132 h rfl (by decide +kernel), have h := fd_t3 h; ⟨fd_167 h (by decide +kernel), have h := fd_t3 h; ⟨fd_42 h, have h := fd_t1 h; ⟨fd_16 h (by decide +kernel), have h := fd_t2 h; ⟨fd_188_10 h, have h := fd_t2 h; fd_181 h rfl⟩⟩⟩⟩⟩⟩⟩⟩⟩⟩⟩
theorem dX5_init_96 : decode cX5_init 96 = .ok (.getfield 44, 3) := dcq_155.1
theorem dX5_init_99 : decode cX5_init 99 = .ok (.iload_n 1, 1) := dcq_155.2.1
theorem dX5_init_100 : decode cX5_init 100 = .ok (.new 42, 3) := dcq_155.2.2.1
theorem dX5_init_103 : decode cX5_init 103 = .ok (.dup, 1) := dcq_155.2.2.2.1
theorem dX5_init_104 : decode cX5_init 104 = .ok (.invokespecial 49, 3) := dcq_155.2.2.2.2.1
theorem dX5_init_107 : decode cX5_init 107 = .ok (.aastore, 1) := dcq_155.2.2.2.2.2.1
theorem dX5_init_108 : decode cX5_init 108 = .ok (.iinc 1 1, 3) := dcq_155.2.2.2.2.2.2.1
theorem dX5_init_111 : decode cX5_init 111 = .ok (.goto (-34), 3) := dcq_155.2.2.2.2.2.2.2.1
theorem dX5_init_114 : decode cX5_init 114 = .ok (.aload_n 0, 1) := dcq_155.2.2.2.2.2.2.2.2.1
theorem dX5_init_115 : decode cX5_init 115 = .ok (.bipush 30, 2) := dcq_155.2.2.2.2.2.2.2.2.2.1
theorem dX5_init_117 : decode cX5_init 117 = .ok (.newarray .int, 2) := dcq_155.2.2.2.2.2.2.2.2.2.2.1
theorem dX5_init_119 : decode cX5_init 119 = .ok (.putfield 50, 3) := dcq_155.2.2.2.2.2.2.2.2.2.2.2
set_option maxRecDepth 20000 in
theorem dcb_156 : fd_B cX5_init 122 [42, 17, 1, 0, 188, 10, 181, 0, 54, 177] := fd_o cX5_init 122 _ (by decide +kernel)
theorem dcq_156 : (decode cX5_init 122 = .ok (.aload_n 0, 1)) ∧ (decode cX5_init 123 = .ok (.sipush 256, 3)) ∧ (decode cX5_init 126 = .ok (.newarray .int, 2)) ∧ (decode cX5_init 128 = .ok (.putfield 54, 3)) ∧ (decode cX5_init 131 = .ok (.return_, 1)) := have h := dcb_156; ⟨fd_42 h, have h := fd_t1 h; ⟨fd_17 h (by decide +kernel), have h := fd_t3 h; ⟨fd_188_10 h, have h := fd_t2 h; ⟨fd_181 h rfl, have h := fd_t3 h; fd_177 h⟩⟩⟩⟩
theorem dX5_init_122 : decode cX5_init 122 = .ok (.aload_n 0, 1) := dcq_156.1
theorem dX5_init_123 : decode cX5_init 123 = .ok (.sipush 256, 3) := dcq_156.2.1
theorem dX5_init_126 : decode cX5_init 126 = .ok (.newarray .int, 2) := dcq_156.2.2.1
theorem dX5_init_128 : decode cX5_init 128 = .ok (.putfield 54, 3) := dcq_156.2.2.2.1
theorem dX5_init_131 : decode cX5_init 131 = .ok (.return_, 1) := dcq_156.2.2.2.2
set_option maxRecDepth 20000 in
theorem dcb_157 : fd_B cX5_feed 0 [29, 4, 16, 8, 184, 0, 57, 154, 0, 5, 2, 172, 42, 180, 0, 25, 31, 29, 182, 0, 61] := fd_o cX5_feed 0 _ (by decide +kernel)
theorem dcq_157 : (decode cX5_feed 0 = .ok (.iload_n 3, 1)) ∧ (decode cX5_feed 1 = .ok (.iconst 1, 1)) ∧ (decode cX5_feed 2 = .ok (.bipush 8, 2)) ∧ (decode cX5_feed 4 = .ok (.invokestatic 57, 3)) ∧ (decode cX5_feed 7 = .ok (.ifCond .ne 5, 3)) ∧ (decode cX5_feed 10 = .ok (.iconst (-1), 1)) ∧ (decode cX5_feed 11 = .ok (.ireturn, 1)) ∧ (decode cX5_feed 12 = .ok (.aload_n 0, 1)) ∧ (decode cX5_feed 13 = .ok (.getfield 25, 3)) ∧ (decode cX5_feed 16 = .ok (.lload_n 1, 1)) ∧ (decode cX5_feed 17 = .ok (.iload_n 3, 1)) ∧ (decode cX5_feed 18 = .ok (.invokevirtual 61, 3)) := have h := dcb_157; ⟨fd_29 h, have h := fd_t1 h; ⟨fd_4 h, have h := fd_t1 h; ⟨fd_16 h (by decide +kernel), have h := fd_t2 h; ⟨fd_184 h rfl, have h := fd_t3 h; ⟨fd_154 h (by decide +kernel), have h := fd_t3 h; ⟨fd_2 h, have h := fd_t1 h; ⟨fd_172 h, have h := fd_t1 h; ⟨fd_42 h, have h := fd_t1 h; ⟨fd_180 h rfl, have h := fd_t3 h; ⟨fd_31 h, have h := fd_t1 h; ⟨fd_29 h, have h := fd_t1 h; fd_182 h rfl⟩⟩⟩⟩⟩⟩⟩⟩⟩⟩⟩
theorem dX5_feed_0 : decode cX5_feed 0 = .ok (.iload_n 3, 1) := dcq_157.1
theorem dX5_feed_1 : decode cX5_feed 1 = .ok (.iconst 1, 1) := dcq_157.2.1
theorem dX5_feed_2 : decode cX5_feed 2 = .ok (.bipush 8, 2) := dcq_157.2.2.1
theorem dX5_feed_4 : decode cX5_feed 4 = .ok (.invokestatic 57, 3) := dcq_157.2.2.2.1
theorem dX5_feed_7 : decode cX5_feed 7 = .ok (.ifCond .ne 5, 3) := dcq_157.2.2.2.2.1
theorem dX5_feed_10 : decode cX5_feed 10 = .ok (.iconst (-1), 1) := dcq_157.2.2.2.2.2.1
theorem dX5_feed_11 : decode cX5_feed 11 = .ok (.ireturn, 1) := dcq_157.2.2.2.2.2.2.1
theorem dX5_feed_12 : decode cX5_feed 12 = .ok (.aload_n 0, 1) := dcq_157.2.2.2.2.2.2.2.1
theorem dX5_feed_13 : decode cX5_feed 13 = .ok (.getfield 25, 3) := dcq_157.2.2.2.2.2.2.2.2.1
theorem dX5_feed_16 : decode cX5_feed 16 = .ok (.lload_n 1, 1) := dcq_157.2.2.2.2.2.2.2.2.2.1
theorem dX5_feed_17 : decode cX5_feed 17 = .ok (.iload_n 3, 1) := dcq_157.2.2.2.2.2.2.2.2.2.2.1
theorem dX5_feed_18 : decode cX5_feed 18 = .ok (.invokevirtual 61, 3) := dcq_157.2.2.2.2.2.2.2.2.2.2.2
set_option maxRecDepth 20000 in
theorem dcb_158 : fd_B cX5_feed 21 [153, 0, 13, 42, 180, 0, 25, 180, 0, 65, 167, 0, 5, 16, 254, 172] := fd_o cX5_feed 21 _ (by decide +kernel)
theorem dcq_158 : (decode cX5_feed 21 = .ok (.ifCond .eq 13, 3)) ∧ (decode cX5_feed 24 = .ok (.aload_n 0, 1)) ∧ (decode cX5_feed 25 = .ok (.getfield 25, 3)) ∧ (decode cX5_feed 28 = .ok (.getfield 65, 3)) ∧ (decode cX5_feed 31 = .ok (.goto 5, 3)) ∧ (decode cX5_feed 34 = .ok (.bipush (-2), 2)) ∧ (decode cX5_feed 36 = .ok (.ireturn, 1)) := have h := dcb_158; ⟨fd_153 h (by decide +kernel), have h := fd_t3 h; ⟨fd_42 h, have h := fd_t1 h; ⟨fd_180 h rfl, have h := fd_t3 h; ⟨fd_180 h rfl, have h := fd_t3 h; ⟨fd_167 h (by decide +kernel), have h := fd_t3 h; ⟨fd_16 h (by decide +kernel), have h := fd_t2 h; fd_172 h⟩⟩⟩⟩⟩⟩
theorem dX5_feed_21 : decode cX5_feed 21 = .ok (.ifCond .eq 13, 3) := dcq_158.1
theorem dX5_feed_24 : decode cX5_feed 24 = .ok (.aload_n 0, 1) := dcq_158.2.1
theorem dX5_feed_25 : decode cX5_feed 25 = .ok (.getfield 25, 3) := dcq_158.2.2.1
theorem dX5_feed_28 : decode cX5_feed 28 = .ok (.getfield 65, 3) := dcq_158.2.2.2.1
theorem dX5_feed_31 : decode cX5_feed 31 = .ok (.goto 5, 3) := dcq_158.2.2.2.2.1
theorem dX5_feed_34 : decode cX5_feed 34 = .ok (.bipush (-2), 2) := dcq_158.2.2.2.2.2.1
theorem dX5_feed_36 : decode cX5_feed 36 = .ok (.ireturn, 1) := dcq_158.2.2.2.2.2.2
set_option maxRecDepth 20000 in
theorem dcb_159 : fd_B cX5_post 0 [42, 180, 0, 19, 182, 0, 69, 42, 180, 0, 19, 42, 180, 0, 10, 180, 0, 72, 181, 0, 72, 42, 180, 0, 25, 42] := fd_o cX5_post 0 _ (by decide +kernel)
theorem dcq_159 : (decode cX5_post 0 = .ok (.aload_n 0, 1)) ∧ (decode cX5_post 1 = .ok (.getfield 19, 3)) ∧ (decode cX5_post 4 = .ok (.invokevirtual 69, 3)) ∧ (decode cX5_post 7 = .ok (.aload_n 0, 1)) ∧ (decode cX5_post 8 = .ok (.getfield 19, 3)) ∧ (decode cX5_post 11 = .ok (.aload_n 0, 1)) ∧ (decode cX5_post 12 = .ok (.getfield 10, 3)) ∧ (decode cX5_post 15 = .ok (.getfield 72, 3)) ∧ (decode cX5_post 18 = .ok (.putfield 72, 3)) ∧ (decode cX5_post 21 = .ok (.aload_n 0, 1)) ∧ (decode cX5_post 22 = .ok (.getfield 25, 3)) ∧ (decode cX5_post 25 = .ok (.aload_n 0, 1)) := have h := dcb_159; ⟨fd_42 h, have h := fd_t1 h; ⟨fd_180 h rfl, have h := fd_t3 h; ⟨fd_182 h rfl, have h := fd_t3 h; ⟨fd_42 h, have h := fd_t1 h; ⟨fd_180 h rfl, have h := fd_t3 h; ⟨fd_42 h, have h := fd_t1 h; ⟨fd_180 h rfl, have h := fd_t3 h; ⟨fd_180 h rfl, have h := fd_t3 h; ⟨fd_181 h rfl, have h := fd_t3 h; ⟨fd_42 h, have h := fd_t1 h; ⟨fd_180 h rfl, have h := fd_t3 h; fd_42 h⟩⟩⟩⟩⟩⟩⟩⟩⟩⟩⟩
theorem dX5_post_0 : decode cX5_post 0 = .ok (.aload_n 0, 1) := dcq_159.1
theorem dX5_post_1 : decode cX5_post 1 = .ok (.getfield 19, 3) := dcq_159.2.1
theorem dX5_post_4 : decode cX5_post 4 = .ok (.invokevirtual 69, 3) := dcq_159.2.2.1
theorem dX5_post_7 : decode cX5_post 7 = .ok (.aload_n 0, 1) := dcq_159.2.2.2.1
theorem dX5_post_8 : decode cX5_post 8 = .ok (.getfield 19, 3) := dcq_159.2.2.2.2.1
theorem dX5_post_11 : decode cX5_post 11 = .ok (.aload_n 0, 1) := dcq_159.2.2.2.2.2.1
theorem dX5_post_12 : decode cX5_post 12 = .ok (.getfield 10, 3) := dcq_159.2.2.2.2.2.2.1
theorem dX5_post_15 : decode cX5_post 15 = .ok (.getfield 72, 3) := dcq_159.2.2.2.2.2.2.2.1
theorem dX5_post_18 : decode cX5_post 18 = .ok (.putfield 72, 3) := dcq_159.2.2.2.2.2.2.2.2.1
theorem dX5_post_21 : decode cX5_post 21 = .ok (.aload_n 0, 1) := dcq_159.2.2.2.2.2.2.2.2.2.1
theorem dX5_post_22 : decode cX5_post 22 = .ok (.getfield 25, 3) := dcq_159.2.2.2.2.2.2.2.2.2.2.1
theorem dX5_post_25 : decode cX5_post 25 = .ok (.aload_n 0, 1) := dcq_159.2.2.2.2.2.2.2.2.2.2.2
set_option maxRecDepth 20000 in
theorem dcb_160 : fd_B cX5_post 26 [180, 0, 19, 182, 0, 75, 60, 42, 180, 0, 25, 3, 181, 0, 65, 27, 155, 0, 8, 16, 156, 27, 100] := fd_o cX5_post 26 _ (by decide +kernel)
theorem dcq_160 : (decode cX5_post 26 = .ok (.getfield 19, 3)) ∧ (decode cX5_post 29 = .ok (.invokevirtual 75, 3)) ∧ (decode cX5_post 32 = .ok (.istore_n 1, 1)) ∧ (decode cX5_post 33 = .ok (.aload_n 0, 1)) ∧ (decode cX5_post 34 = .ok (.getfield 25, 3)) ∧ (decode cX5_post 37 = .ok (.iconst 0, 1)) ∧ (decode cX5_post 38 = .ok (.putfield 65, 3)) ∧ (decode cX5_post 41 = .ok (.iload_n 1, 1)) ∧ (decode cX5_post 42 = .ok (.ifCond .lt 8, 3)) ∧ (decode cX5_post 45 = .ok (.bipush (-100), 2)) ∧ (decode cX5_post 47 = .ok (.iload_n 1, 1)) ∧ (decode cX5_post 48 = .ok (.isub, 1)) := have h := dcb_160; ⟨fd_180 h rfl, have h := fd_t3 h; ⟨fd_182 h rfl, have h := fd_t3 h; ⟨fd_60 h, have h := fd_t1 h; ⟨fd_42 h, have h := fd_t1 h; ⟨fd_180 h rfl, have h := fd_t3 h; ⟨fd_3 h, have h := fd_t1 h; ⟨fd_181 h rfl, have h := fd_t3 h; ⟨fd_27 h, have h := fd_t1 h; ⟨fd_155 h (by decide +kernel), have h := fd_t3 h; ⟨fd_16 h (by decide +kernel), have h := fd_t2 h; ⟨fd_27 h, have h := fd_t1 h; fd_100 h⟩⟩⟩⟩⟩⟩⟩⟩⟩⟩⟩
theorem dX5_post_26 : decode cX5_post 26 = .ok (.getfield 19, 3) := dcq_160.1
theorem dX5_post_29 : decode cX5_post 29 = .ok (.invokevirtual 75, 3) := dcq_160.2.1
theorem dX5_post_32 : decode cX5_post 32 = .ok (.istore_n 1, 1) := dcq_160.2.2.1
theorem dX5_post_33 : decode cX5_post 33 = .ok (.aload_n 0, 1) := dcq_160.2.2.2.1
theorem dX5_post_34 : decode cX5_post 34 = .ok (.getfield 25, 3) := dcq_160.2.2.2.2.1
theorem dX5_post_37 : decode cX5_post 37 = .ok (.iconst 0, 1) := dcq_160.2.2.2.2.2.1
theorem dX5_post_38 : decode cX5_post 38 = .ok (.putfield 65, 3) := dcq_160.2.2.2.2.2.2.1
theorem dX5_post_41 : decode cX5_post 41 = .ok (.iload_n 1, 1) := dcq_160.2.2.2.2.2.2.2.1
theorem dX5_post_42 : decode cX5_post 42 = .ok (.ifCond .lt 8, 3) := dcq_160.2.2.2.2.2.2.2.2.1
theorem dX5_post_45 : decode cX5_post 45 = .ok (.bipush (-100), 2) := dcq_160.2.2.2.2.2.2.2.2.2.1
theorem dX5_post_47 : decode cX5_post 47 = .ok (.iload_n 1, 1) := dcq_160.2.2.2.2.2.2.2.2.2.2.1
theorem dX5_post_48 : decode cX5_post 48 = .ok (.isub, 1) := dcq_160.2.2.2.2.2.2.2.2.2.2.2
set_option maxRecDepth 20000 in
theorem dcb_161 : fd_B cX5_post 49 [172, 42, 180, 0, 10, 42, 180, 0, 19, 182, 0, 79, 42, 3, 181, 0, 83, 42, 180, 0, 10, 180, 0, 86] := fd_o cX5_post 49 _ (by decide +kernel)
theorem dcq_161 : (decode cX5_post 49 = .ok (.ireturn, 1)) ∧ (decode cX5_post 50 = .ok (.aload_n 0, 1)) ∧ (decode cX5_post 51 = .ok (.getfield 10, 3)) ∧ (decode cX5_post 54 = .ok (.aload_n 0, 1)) ∧ (decode cX5_post 55 = .ok (.getfield 19, 3)) ∧ (decode cX5_post 58 = .ok (.invokevirtual 79, 3)) ∧ (decode cX5_post 61 = .ok (.aload_n 0, 1)) ∧ (decode cX5_post 62 = .ok (.iconst 0, 1)) ∧ (decode cX5_post 63 = .ok (.putfield 83, 3)) ∧ (decode cX5_post 66 = .ok (.aload_n 0, 1)) ∧ (decode cX5_post 67 = .ok (.getfield 10, 3)) ∧ (decode cX5_post 70 = .ok (.getfield 86, 3)) := have h := dcb_161; ⟨fd_172 h, have h := fd_t1 h; ⟨fd_42 h, have h := fd_t1 h; ⟨fd_180 h rfl, have h := fd_t3 h; ⟨fd_42 h, have h := fd_t1 h; ⟨fd_180 h rfl, have h := fd_t3 h; ⟨fd_182 h rfl, have h := fd_t3 h; ⟨fd_42 h, have h := fd_t1 h; ⟨fd_3 h, have h := fd_t1 h; ⟨fd_181 h rfl, have h := fd_t3 h; ⟨fd_42 h, have h := fd_t1 h; ⟨fd_180 h rfl, have h := fd_t3 h; fd_180 h rfl⟩⟩⟩⟩⟩⟩⟩⟩⟩⟩⟩
theorem dX5_post_49 : decode cX5_post 49 = .ok (.ireturn, 1) := dcq_161.1
theorem dX5_post_50 : decode cX5_post 50 = .ok (.aload_n 0, 1) := dcq_161.2.1
theorem dX5_post_51 : decode cX5_post 51 = .ok (.getfield 10, 3) := dcq_161.2.2.1
theorem dX5_post_54 : decode cX5_post 54 = .ok (.aload_n 0, 1) := dcq_161.2.2.2.1
theorem dX5_post_55 : decode cX5_post 55 = .ok (.getfield 19, 3) := dcq_161.2.2.2.2.1
theorem dX5_post_58 : decode cX5_post 58 = .ok (.invokevirtual 79, 3) := dcq_161.2.2.2.2.2.1
theorem dX5_post_61 : decode cX5_post 61 = .ok (.aload_n 0, 1) := dcq_161.2.2.2.2.2.2.1
theorem dX5_post_62 : decode cX5_post 62 = .ok (.iconst 0, 1) := dcq_161.2.2.2.2.2.2.2.1
theorem dX5_post_63 : decode cX5_post 63 = .ok (.putfield 83, 3) := dcq_161.2.2.2.2.2.2.2.2.1
theorem dX5_post_66 : decode cX5_post 66 = .ok (.aload_n 0, 1) := dcq_161.2.2.2.2.2.2.2.2.2.1
theorem dX5_post_67 : decode cX5_post 67 = .ok (.getfield 10, 3) := dcq_161.2.2.2.2.2.2.2.2.2.2.1
theorem dX5_post_70 : decode cX5_post 70 = .ok (.getfield 86, 3) := dcq_161.2.2.2.2.2.2.2.2.2.2.2
set_option maxRecDepth 20000 in
theorem dcb_162 : fd_B cX5_post 73 [172] := fd_o cX5_post 73 _ (by decide +kernel)
theorem dX5_post_73 : decode cX5_post 73 = .ok (.ireturn, 1) := fd_172 dcb_162
set_option maxRecDepth 20000 in
theorem dcb_163 : fd_B cX5_set 0 [27, 3, 6, 184, 0, 57, 153, 0, 16, 28, 3, 178, 0, 89, 27, 46, 184, 0, 57, 154, 0, 5] := fd_o cX5_set 0 _ (by decide +kernel)
theorem dcq_163 : (decode cX5_set 0 = .ok (.iload_n 1, 1)) ∧ (decode cX5_set 1 = .ok (.iconst 0, 1)) ∧ (decode cX5_set 2 = .ok (.iconst 3, 1)) ∧ (decode cX5_set 3 = .ok (.invokestatic 57, 3)) ∧ (decode cX5_set 6 = .ok (.ifCond .eq 16, 3)) ∧ (decode cX5_set 9 = .ok (.iload_n 2, 1)) ∧ (decode cX5_set 10 = .ok (.iconst 0, 1)) ∧ (decode cX5_set 11 = .ok (.getstatic 89, 3)) ∧ (decode cX5_set 14 = .ok (.iload_n 1, 1)) ∧ (decode cX5_set 15 = .ok (.iaload, 1)) ∧ (decode cX5_set 16 = .ok (.invokestatic 57, 3)) ∧ (decode cX5_set 19 = .ok (.ifCond .ne 5, 3)) := have h := dcb_163; ⟨fd_27 h, have h := fd_t1 h; ⟨fd_3 h, have h := fd_t1 h; ⟨fd_6 h, have h := fd_t1 h; ⟨fd_184 h rfl, have h := fd_t3 h; ⟨fd_153 h (by decide +kernel), have h := fd_t3 h; ⟨fd_28 h, have h := fd_t1 h; ⟨fd_3 h, have h := fd_t1 h; ⟨fd_178 h rfl, have h := fd_t3 h; ⟨fd_27 h, have h := fd_t1 h; ⟨fd_46 h, have h := fd_t1 h; ⟨fd_184 h rfl, have h := fd_t3 h; fd_154 h (by decide +kernel)⟩⟩⟩⟩⟩⟩⟩⟩⟩⟩⟩
theorem dX5_set_0 : decode cX5_set 0 = .ok (.iload_n 1, 1) := dcq_163.1
theorem dX5_set_1 : decode cX5_set 1 = .ok (.iconst 0, 1) := dcq_163.2.1
theorem dX5_set_2 : decode cX5_set 2 = .ok (.iconst 3, 1) := dcq_163.2.2.1
theorem dX5_set_3 : decode cX5_set 3 = .ok (.invokestatic 57, 3) := dcq_163.2.2.2.1
theorem dX5_set_6 : decode cX5_set 6 = .ok (.ifCond .eq 16, 3) := dcq_163.2.2.2.2.1
theorem dX5_set_9 : decode cX5_set 9 = .ok (.iload_n 2, 1) := dcq_163.2.2.2.2.2.1
theorem dX5_set_10 : decode cX5_set 10 = .ok (.iconst 0, 1) := dcq_163.2.2.2.2.2.2.1
theorem dX5_set_11 : decode cX5_set 11 = .ok (.getstatic 89, 3) := dcq_163.2.2.2.2.2.2.2.1
theorem dX5_set_14 : decode cX5_set 14 = .ok (.iload_n 1, 1) := dcq_163.2.2.2.2.2.2.2.2.1
theorem dX5_set_15 : decode cX5_set 15 = .ok (.iaload, 1) := dcq_163.2.2.2.2.2.2.2.2.2.1
theorem dX5_set_16 : decode cX5_set 16 = .ok (.invokestatic 57, 3) := dcq_163.2.2.2.2.2.2.2.2.2.2.1
theorem dX5_set_19 : decode cX5_set 19 = .ok (.ifCond .ne 5, 3) := dcq_163.2.2.2.2.2.2.2.2.2.2.2
set_option maxRecDepth 20000 in
theorem dcb_164 : fd_B cX5_set 22 [2, 172, 42, 180, 0, 10, 180, 0, 92, 27, 46, 62, 42, 180, 0, 10, 180, 0, 92, 27] := fd_o cX5_set 22 _ (by decide +kernel)
theorem dcq_164 : (decode cX5_set 22 = .ok (.iconst (-1), 1)) ∧ (decode cX5_set 23 = .ok (.ireturn, 1)) ∧ (decode cX5_set 24 = .ok (.aload_n 0, 1)) ∧ (decode cX5_set 25 = .ok (.getfield 10, 3)) ∧ (decode cX5_set 28 = .ok (.getfield 92, 3)) ∧ (decode cX5_set 31 = .ok (.iload_n 1, 1)) ∧ (decode cX5_set 32 = .ok (.iaload, 1)) ∧ (decode cX5_set 33 = .ok (.istore_n 3, 1)) ∧ (decode cX5_set 34 = .ok (.aload_n 0, 1)) ∧ (decode cX5_set 35 = .ok (.getfield 10, 3)) ∧ (decode cX5_set 38 = .ok (.getfield 92, 3)) ∧ (decode cX5_set 41 = .ok (.iload_n 1, 1)) := have h := dcb_164; ⟨fd_2 h, have h := fd_t1 h; ⟨fd_172 h, have h := fd_t1 h; ⟨fd_42 h, have h := fd_t1 h; ⟨fd_180 h rfl, have h := fd_t3 h; ⟨fd_180 h rfl, have h := fd_t3 h; ⟨fd_27 h, have h := fd_t1 h; ⟨fd_46 h, have h := fd_t1 h; ⟨fd_62 h, have h := fd_t1 h; ⟨fd_42 h, have h := fd_t1 h; ⟨fd_180 h rfl, have h := fd_t3 h; ⟨fd_180 h rfl, have h := fd_t3 h; fd_27 h⟩⟩⟩⟩⟩⟩⟩⟩⟩⟩⟩
theorem dX5_set_22 : decode cX5_set 22 = .ok (.iconst (-1), 1) := dcq_164.1
theorem dX5_set_23 : decode cX5_set 23 = .ok (.ireturn, 1) := dcq_164.2.1
theorem dX5_set_24 : decode cX5_set 24 = .ok (.aload_n 0, 1) := dcq_164.2.2.1
theorem dX5_set_25 : decode cX5_set 25 = .ok (.getfield 10, 3) := dcq_164.2.2.2.1
theorem dX5_set_28 : decode cX5_set 28 = .ok (.getfield 92, 3) := dcq_164.2.2.2.2.1
theorem dX5_set_31 : decode cX5_set 31 = .ok (.iload_n 1, 1) := dcq_164.2.2.2.2.2.1
theorem dX5_set_32 : decode cX5_set 32 = .ok (.iaload, 1) := dcq_164.2.2.2.2.2.2.1
theorem dX5_set_33 : decode cX5_set 33 = .ok (.istore_n 3, 1) := dcq_164.2.2.2.2.2.2.2.1
theorem dX5_set_34 : decode cX5_set 34 = .ok (.aload_n 0, 1) := dcq_164.2.2.2.2.2.2.2.2.1
theorem dX5_set_35 : decode cX5_set 35 = .ok (.getfield 10, 3) := dcq_164.2.2.2.2.2.2.2.2.2.1
theorem dX5_set_38 : decode cX5_set 38 = .ok (.getfield 92, 3) := dcq_164.2.2.2.2.2.2.2.2.2.2.1
theorem dX5_set_41 : decode cX5_set 41 = .ok (.iload_n 1, 1) := dcq_164.2.2.2.2.2.2.2.2.2.2.2
set_option maxRecDepth 20000 in
theorem dcb_165 : fd_B cX5_set 42 [28, 79, 29, 172] := fd_o cX5_set 42 _ (by decide +kernel)
theorem dcq_165 : (decode cX5_set 42 = .ok (.iload_n 2, 1)) ∧ (decode cX5_set 43 = .ok (.iastore, 1)) ∧ (decode cX5_set 44 = .ok (.iload_n 3, 1)) ∧ (decode cX5_set 45 = .ok (.ireturn, 1)) := have h := dcb_165; ⟨fd_28 h, have h := fd_t1 h; ⟨fd_79 h, have h := fd_t1 h; ⟨fd_29 h, have h := fd_t1 h; fd_172 h⟩⟩⟩
theorem dX5_set_42 : decode cX5_set 42 = .ok (.iload_n 2, 1) := dcq_165.1
theorem dX5_set_43 : decode cX5_set 43 = .ok (.iastore, 1) := dcq_165.2.1
theorem dX5_set_44 : decode cX5_set 44 = .ok (.iload_n 3, 1) := dcq_165.2.2.1
theorem dX5_set_45 : decode cX5_set 45 = .ok (.ireturn, 1) := dcq_165.2.2.2
set_option maxRecDepth 20000 in
theorem dcb_166 : fd_B cX5_lawOf 0 [27, 3, 6, 184, 0, 57, 153, 0, 15, 42, 180, 0, 10, 180, 0, 92, 27, 46, 167, 0, 4, 2] := fd_o cX5_lawOf 0 _ (by decide +kernel)
theorem dcq_166 : (decode cX5_lawOf 0 = .ok (.iload_n 1, 1)) ∧ (decode cX5_lawOf 1 = .ok (.iconst 0, 1)) ∧ (decode cX5_lawOf 2 = .ok (.iconst 3, 1)) ∧ (decode cX5_lawOf 3 = .ok (.invokestatic 57, 3)) ∧ (decode cX5_lawOf 6 = .ok (.ifCond .eq 15, 3)) ∧ (decode cX5_lawOf 9 = .ok (.aload_n 0, 1)) ∧ (decode cX5_lawOf 10 = .ok (.getfield 10, 3)) ∧ (decode cX5_lawOf 13 = .ok (.getfield 92, 3)) ∧ (decode cX5_lawOf 16 = .ok (.iload_n 1, 1)) ∧ (decode cX5_lawOf 17 = .ok (.iaload, 1)) ∧ (decode cX5_lawOf 18 = .ok (.goto 4, 3)) ∧ (decode cX5_lawOf 21 = .ok (.iconst (-1), 1)) := have h := dcb_166; ⟨fd_27 h, have h := fd_t1 h; ⟨fd_3 h, have h := fd_t1 h; ⟨fd_6 h, have h := fd_t1 h; ⟨fd_184 h rfl, have h := fd_t3 h; ⟨fd_153 h (by decide +kernel), have h := fd_t3 h; ⟨fd_42 h, have h := fd_t1 h; ⟨fd_180 h rfl, have h := fd_t3 h; ⟨fd_180 h rfl, have h := fd_t3 h; ⟨fd_27 h, have h := fd_t1 h; ⟨fd_46 h, have h := fd_t1 h; ⟨fd_167 h (by decide +kernel), have h := fd_t3 h; fd_2 h⟩⟩⟩⟩⟩⟩⟩⟩⟩⟩⟩
theorem dX5_lawOf_0 : decode cX5_lawOf 0 = .ok (.iload_n 1, 1) := dcq_166.1
theorem dX5_lawOf_1 : decode cX5_lawOf 1 = .ok (.iconst 0, 1) := dcq_166.2.1
theorem dX5_lawOf_2 : decode cX5_lawOf 2 = .ok (.iconst 3, 1) := dcq_166.2.2.1
theorem dX5_lawOf_3 : decode cX5_lawOf 3 = .ok (.invokestatic 57, 3) := dcq_166.2.2.2.1
theorem dX5_lawOf_6 : decode cX5_lawOf 6 = .ok (.ifCond .eq 15, 3) := dcq_166.2.2.2.2.1
theorem dX5_lawOf_9 : decode cX5_lawOf 9 = .ok (.aload_n 0, 1) := dcq_166.2.2.2.2.2.1
theorem dX5_lawOf_10 : decode cX5_lawOf 10 = .ok (.getfield 10, 3) := dcq_166.2.2.2.2.2.2.1
theorem dX5_lawOf_13 : decode cX5_lawOf 13 = .ok (.getfield 92, 3) := dcq_166.2.2.2.2.2.2.2.1
theorem dX5_lawOf_16 : decode cX5_lawOf 16 = .ok (.iload_n 1, 1) := dcq_166.2.2.2.2.2.2.2.2.1
theorem dX5_lawOf_17 : decode cX5_lawOf 17 = .ok (.iaload, 1) := dcq_166.2.2.2.2.2.2.2.2.2.1
theorem dX5_lawOf_18 : decode cX5_lawOf 18 = .ok (.goto 4, 3) := dcq_166.2.2.2.2.2.2.2.2.2.2.1
theorem dX5_lawOf_21 : decode cX5_lawOf 21 = .ok (.iconst (-1), 1) := dcq_166.2.2.2.2.2.2.2.2.2.2.2
set_option maxRecDepth 20000 in
theorem dcb_167 : fd_B cX5_lawOf 22 [172] := fd_o cX5_lawOf 22 _ (by decide +kernel)
theorem dX5_lawOf_22 : decode cX5_lawOf 22 = .ok (.ireturn, 1) := fd_172 dcb_167
set_option maxRecDepth 20000 in
theorem dcb_168 : fd_B cX5_person 0 [27, 184, 0, 95, 153, 0, 34, 28, 3, 16, 99, 184, 0, 57, 153, 0, 24, 29, 3, 16, 9, 184, 0, 57] := fd_o cX5_person 0 _ (by decide +kernel)
theorem dcq_168 : (decode cX5_person 0 = .ok (.iload_n 1, 1)) ∧ (decode cX5_person 1 = .ok (.invokestatic 95, 3)) ∧ (decode cX5_person 4 = .ok (.ifCond .eq 34, 3)) ∧ (decode cX5_person 7 = .ok (.iload_n 2, 1)) ∧ (decode cX5_person 8 = .ok (.iconst 0, 1)) ∧ (decode cX5_person 9 = .ok (.bipush 99, 2)) ∧ (decode cX5_person 11 = .ok (.invokestatic 57, 3)) ∧ (decode cX5_person 14 = .ok (.ifCond .eq 24, 3)) ∧ (decode cX5_person 17 = .ok (.iload_n 3, 1)) ∧ (decode cX5_person 18 = .ok (.iconst 0, 1)) ∧ (decode cX5_person 19 = .ok (.bipush 9, 2)) ∧ (decode cX5_person 21 = .ok (.invokestatic 57, 3)) := have h := dcb_168; ⟨fd_27 h, have h := fd_t1 h; ⟨fd_184 h rfl, have h := fd_t3 h; ⟨fd_153 h (by decide +kernel), have h := fd_t3 h; ⟨fd_28 h, have h := fd_t1 h; ⟨fd_3 h, have h := fd_t1 h; ⟨fd_16 h (by decide +kernel), have h := fd_t2 h; ⟨fd_184 h rfl, have h := fd_t3 h; ⟨fd_153 h (by decide +kernel), have h := fd_t3 h; ⟨fd_29 h, have h := fd_t1 h; ⟨fd_3 h, have h := fd_t1 h; ⟨fd_16 h (by decide +kernel), have h := fd_t2 h; fd_184 h rfl⟩⟩⟩⟩⟩⟩⟩⟩⟩⟩⟩
theorem dX5_person_0 : decode cX5_person 0 = .ok (.iload_n 1, 1) := dcq_168.1
theorem dX5_person_1 : decode cX5_person 1 = .ok (.invokestatic 95, 3) := dcq_168.2.1
theorem dX5_person_4 : decode cX5_person 4 = .ok (.ifCond .eq 34, 3) := dcq_168.2.2.1
theorem dX5_person_7 : decode cX5_person 7 = .ok (.iload_n 2, 1) := dcq_168.2.2.2.1
theorem dX5_person_8 : decode cX5_person 8 = .ok (.iconst 0, 1) := dcq_168.2.2.2.2.1
theorem dX5_person_9 : decode cX5_person 9 = .ok (.bipush 99, 2) := dcq_168.2.2.2.2.2.1
theorem dX5_person_11 : decode cX5_person 11 = .ok (.invokestatic 57, 3) := dcq_168.2.2.2.2.2.2.1
theorem dX5_person_14 : decode cX5_person 14 = .ok (.ifCond .eq 24, 3) := dcq_168.2.2.2.2.2.2.2.1
theorem dX5_person_17 : decode cX5_person 17 = .ok (.iload_n 3, 1) := dcq_168.2.2.2.2.2.2.2.2.1
theorem dX5_person_18 : decode cX5_person 18 = .ok (.iconst 0, 1) := dcq_168.2.2.2.2.2.2.2.2.2.1
theorem dX5_person_19 : decode cX5_person 19 = .ok (.bipush 9, 2) := dcq_168.2.2.2.2.2.2.2.2.2.2.1
theorem dX5_person_21 : decode cX5_person 21 = .ok (.invokestatic 57, 3) := dcq_168.2.2.2.2.2.2.2.2.2.2.2
set_option maxRecDepth 20000 in
theorem dcb_169 : fd_B cX5_person 24 [153, 0, 14, 21, 4, 3, 16, 99, 184, 0, 57, 154, 0, 5, 2, 172, 42, 180, 0, 10, 180, 0, 86, 16, 8] := fd_o cX5_person 24 _ (by decide +kernel)
theorem dcq_169 : (decode cX5_person 24 = .ok (.ifCond .eq 14, 3)) ∧ (decode cX5_person 27 = .ok (.iload 4, 2)) ∧ (decode cX5_person 29 = .ok (.iconst 0, 1)) ∧ (decode cX5_person 30 = .ok (.bipush 99, 2)) ∧ (decode cX5_person 32 = .ok (.invokestatic 57, 3)) ∧ (decode cX5_person 35 = .ok (.ifCond .ne 5, 3)) ∧ (decode cX5_person 38 = .ok (.iconst (-1), 1)) ∧ (decode cX5_person 39 = .ok (.ireturn, 1)) ∧ (decode cX5_person 40 = .ok (.aload_n 0, 1)) ∧ (decode cX5_person 41 = .ok (.getfield 10, 3)) ∧ (decode cX5_person 44 = .ok (.getfield 86, 3)) ∧ (decode cX5_person 47 = .ok (.bipush 8, 2)) := have h := dcb_169; ⟨fd_153 h (by decide +kernel), have h := fd_t3 h; ⟨fd_21 h rfl, have h := fd_t2 h; ⟨fd_3 h, have h := fd_t1 h; ⟨fd_16 h (by decide +kernel), have h := fd_t2 h; ⟨fd_184 h rfl, have h := fd_t3 h; ⟨fd_154 h (by decide +kernel), have h := fd_t3 h; ⟨fd_2 h, have h := fd_t1 h; ⟨fd_172 h, have h := fd_t1 h; ⟨fd_42 h, have h := fd_t1 h; ⟨fd_180 h rfl, have h := fd_t3 h; ⟨fd_180 h rfl, have h := fd_t3 h; fd_16 h (by decide +kernel)⟩⟩⟩⟩⟩⟩⟩⟩⟩⟩⟩
theorem dX5_person_24 : decode cX5_person 24 = .ok (.ifCond .eq 14, 3) := dcq_169.1
theorem dX5_person_27 : decode cX5_person 27 = .ok (.iload 4, 2) := dcq_169.2.1
theorem dX5_person_29 : decode cX5_person 29 = .ok (.iconst 0, 1) := dcq_169.2.2.1
theorem dX5_person_30 : decode cX5_person 30 = .ok (.bipush 99, 2) := dcq_169.2.2.2.1
theorem dX5_person_32 : decode cX5_person 32 = .ok (.invokestatic 57, 3) := dcq_169.2.2.2.2.1
theorem dX5_person_35 : decode cX5_person 35 = .ok (.ifCond .ne 5, 3) := dcq_169.2.2.2.2.2.1
theorem dX5_person_38 : decode cX5_person 38 = .ok (.iconst (-1), 1) := dcq_169.2.2.2.2.2.2.1
theorem dX5_person_39 : decode cX5_person 39 = .ok (.ireturn, 1) := dcq_169.2.2.2.2.2.2.2.1
theorem dX5_person_40 : decode cX5_person 40 = .ok (.aload_n 0, 1) := dcq_169.2.2.2.2.2.2.2.2.1
theorem dX5_person_41 : decode cX5_person 41 = .ok (.getfield 10, 3) := dcq_169.2.2.2.2.2.2.2.2.2.1
theorem dX5_person_44 : decode cX5_person 44 = .ok (.getfield 86, 3) := dcq_169.2.2.2.2.2.2.2.2.2.2.1
theorem dX5_person_47 : decode cX5_person 47 = .ok (.bipush 8, 2) := dcq_169.2.2.2.2.2.2.2.2.2.2.2
set_option maxRecDepth 20000 in
theorem dcb_170 : fd_B cX5_person 49 [161, 0, 6, 16, 254, 172, 42, 180, 0, 10, 27, 28, 29, 21, 4, 182, 0, 99, 42, 180, 0, 10] := fd_o cX5_person 49 _ (by decide +kernel)
theorem dcq_170 : (decode cX5_person 49 = .ok (.if_icmp .lt 6, 3)) ∧ (decode cX5_person 52 = .ok (.bipush (-2), 2)) ∧ (decode cX5_person 54 = .ok (.ireturn, 1)) ∧ (decode cX5_person 55 = .ok (.aload_n 0, 1)) ∧ (decode cX5_person 56 = .ok (.getfield 10, 3)) ∧ (decode cX5_person 59 = .ok (.iload_n 1, 1)) ∧ (decode cX5_person 60 = .ok (.iload_n 2, 1)) ∧ (decode cX5_person 61 = .ok (.iload_n 3, 1)) ∧ (decode cX5_person 62 = .ok (.iload 4, 2)) ∧ (decode cX5_person 64 = .ok (.invokevirtual 99, 3)) ∧ (decode cX5_person 67 = .ok (.aload_n 0, 1)) ∧ (decode cX5_person 68 = .ok (.getfield 10, 3)) := have h := dcb_170; ⟨fd_161 h (by decide +kernel), have h := fd_t3 h; ⟨fd_16 h (by decide +kernel), have h := fd_t2 h; ⟨fd_172 h, have h := fd_t1 h; ⟨fd_42 h, have h := fd_t1 h; ⟨fd_180 h rfl, have h := fd_t3 h; ⟨fd_27 h, have h := fd_t1 h; ⟨fd_28 h, have h := fd_t1 h; ⟨fd_29 h, have h := fd_t1 h; ⟨fd_21 h rfl, have h := fd_t2 h; ⟨fd_182 h rfl, have h := fd_t3 h; ⟨fd_42 h, have h := fd_t1 h; fd_180 h rfl⟩⟩⟩⟩⟩⟩⟩⟩⟩⟩⟩
theorem dX5_person_49 : decode cX5_person 49 = .ok (.if_icmp .lt 6, 3) := dcq_170.1
theorem dX5_person_52 : decode cX5_person 52 = .ok (.bipush (-2), 2) := dcq_170.2.1
theorem dX5_person_54 : decode cX5_person 54 = .ok (.ireturn, 1) := dcq_170.2.2.1
theorem dX5_person_55 : decode cX5_person 55 = .ok (.aload_n 0, 1) := dcq_170.2.2.2.1
theorem dX5_person_56 : decode cX5_person 56 = .ok (.getfield 10, 3) := dcq_170.2.2.2.2.1
theorem dX5_person_59 : decode cX5_person 59 = .ok (.iload_n 1, 1) := dcq_170.2.2.2.2.2.1
theorem dX5_person_60 : decode cX5_person 60 = .ok (.iload_n 2, 1) := dcq_170.2.2.2.2.2.2.1
theorem dX5_person_61 : decode cX5_person 61 = .ok (.iload_n 3, 1) := dcq_170.2.2.2.2.2.2.2.1
theorem dX5_person_62 : decode cX5_person 62 = .ok (.iload 4, 2) := dcq_170.2.2.2.2.2.2.2.2.1
theorem dX5_person_64 : decode cX5_person 64 = .ok (.invokevirtual 99, 3) := dcq_170.2.2.2.2.2.2.2.2.2.1
theorem dX5_person_67 : decode cX5_person 67 = .ok (.aload_n 0, 1) := dcq_170.2.2.2.2.2.2.2.2.2.2.1
theorem dX5_person_68 : decode cX5_person 68 = .ok (.getfield 10, 3) := dcq_170.2.2.2.2.2.2.2.2.2.2.2
set_option maxRecDepth 20000 in
theorem dcb_171 : fd_B cX5_person 71 [180, 0, 86, 4, 100, 172] := fd_o cX5_person 71 _ (by decide +kernel)
theorem dcq_171 : (decode cX5_person 71 = .ok (.getfield 86, 3)) ∧ (decode cX5_person 74 = .ok (.iconst 1, 1)) ∧ (decode cX5_person 75 = .ok (.isub, 1)) ∧ (decode cX5_person 76 = .ok (.ireturn, 1)) := have h := dcb_171; ⟨fd_180 h rfl, have h := fd_t3 h; ⟨fd_4 h, have h := fd_t1 h; ⟨fd_100 h, have h := fd_t1 h; fd_172 h⟩⟩⟩
theorem dX5_person_71 : decode cX5_person 71 = .ok (.getfield 86, 3) := dcq_171.1
theorem dX5_person_74 : decode cX5_person 74 = .ok (.iconst 1, 1) := dcq_171.2.1
theorem dX5_person_75 : decode cX5_person 75 = .ok (.isub, 1) := dcq_171.2.2.1
theorem dX5_person_76 : decode cX5_person 76 = .ok (.ireturn, 1) := dcq_171.2.2.2
set_option maxRecDepth 20000 in
theorem dcb_172 : fd_B cX5_of 0 [42, 180, 0, 10, 27, 182, 0, 103, 154, 0, 5, 2, 172, 28] := fd_o cX5_of 0 _ (by decide +kernel)
theorem dcq_172 : (decode cX5_of 0 = .ok (.aload_n 0, 1)) ∧ (decode cX5_of 1 = .ok (.getfield 10, 3)) ∧ (decode cX5_of 4 = .ok (.iload_n 1, 1)) ∧ (decode cX5_of 5 = .ok (.invokevirtual 103, 3)) ∧ (decode cX5_of 8 = .ok (.ifCond .ne 5, 3)) ∧ (decode cX5_of 11 = .ok (.iconst (-1), 1)) ∧ (decode cX5_of 12 = .ok (.ireturn, 1)) ∧ (decode cX5_of 13 = .ok (.iload_n 2, 1)) := have h := dcb_172; ⟨fd_42 h, have h := fd_t1 h; ⟨fd_180 h rfl, have h := fd_t3 h; ⟨fd_27 h, have h := fd_t1 h; ⟨fd_182 h rfl, have h := fd_t3 h; ⟨fd_154 h (by decide +kernel), have h := fd_t3 h; ⟨fd_2 h, have h := fd_t1 h; ⟨fd_172 h, have h := fd_t1 h; fd_28 h⟩⟩⟩⟩⟩⟩⟩
theorem dX5_of_0 : decode cX5_of 0 = .ok (.aload_n 0, 1) := dcq_172.1
theorem dX5_of_1 : decode cX5_of 1 = .ok (.getfield 10, 3) := dcq_172.2.1
theorem dX5_of_4 : decode cX5_of 4 = .ok (.iload_n 1, 1) := dcq_172.2.2.1
theorem dX5_of_5 : decode cX5_of 5 = .ok (.invokevirtual 103, 3) := dcq_172.2.2.2.1
theorem dX5_of_8 : decode cX5_of 8 = .ok (.ifCond .ne 5, 3) := dcq_172.2.2.2.2.1
theorem dX5_of_11 : decode cX5_of 11 = .ok (.iconst (-1), 1) := dcq_172.2.2.2.2.2.1
theorem dX5_of_12 : decode cX5_of 12 = .ok (.ireturn, 1) := dcq_172.2.2.2.2.2.2.1
theorem dX5_of_13 : decode cX5_of 13 = .ok (.iload_n 2, 1) := dcq_172.2.2.2.2.2.2.2
set_option maxRecDepth 20000 in
theorem dX5_of_14 : decode cX5_of 14 = .ok (.tableswitch 98 0 5 #[38, 48, 58, 68, 78, 88], 38) := by decide +kernel
set_option maxRecDepth 20000 in
theorem dcb_173 : fd_B cX5_of 52 [42, 180, 0, 10, 180, 0, 106, 27, 46, 172, 42, 180, 0, 10, 180, 0, 109, 27, 46, 172] := fd_o cX5_of 52 _ (by decide +kernel)
theorem dcq_173 : (decode cX5_of 52 = .ok (.aload_n 0, 1)) ∧ (decode cX5_of 53 = .ok (.getfield 10, 3)) ∧ (decode cX5_of 56 = .ok (.getfield 106, 3)) ∧ (decode cX5_of 59 = .ok (.iload_n 1, 1)) ∧ (decode cX5_of 60 = .ok (.iaload, 1)) ∧ (decode cX5_of 61 = .ok (.ireturn, 1)) ∧ (decode cX5_of 62 = .ok (.aload_n 0, 1)) ∧ (decode cX5_of 63 = .ok (.getfield 10, 3)) ∧ (decode cX5_of 66 = .ok (.getfield 109, 3)) ∧ (decode cX5_of 69 = .ok (.iload_n 1, 1)) ∧ (decode cX5_of 70 = .ok (.iaload, 1)) ∧ (decode cX5_of 71 = .ok (.ireturn, 1)) := have h := dcb_173; ⟨fd_42 h, have h := fd_t1 h; ⟨fd_180 h rfl, have h := fd_t3 h; ⟨fd_180 h rfl, have h := fd_t3 h; ⟨fd_27 h, have h := fd_t1 h; ⟨fd_46 h, have h := fd_t1 h; ⟨fd_172 h, have h := fd_t1 h; ⟨fd_42 h, have h := fd_t1 h; ⟨fd_180 h rfl, have h := fd_t3 h; ⟨fd_180 h rfl, have h := fd_t3 h; ⟨fd_27 h, have h := fd_t1 h; ⟨fd_46 h, have h := fd_t1 h; fd_172 h⟩⟩⟩⟩⟩⟩⟩⟩⟩⟩⟩
theorem dX5_of_52 : decode cX5_of 52 = .ok (.aload_n 0, 1) := dcq_173.1
theorem dX5_of_53 : decode cX5_of 53 = .ok (.getfield 10, 3) := dcq_173.2.1
theorem dX5_of_56 : decode cX5_of 56 = .ok (.getfield 106, 3) := dcq_173.2.2.1
theorem dX5_of_59 : decode cX5_of 59 = .ok (.iload_n 1, 1) := dcq_173.2.2.2.1
theorem dX5_of_60 : decode cX5_of 60 = .ok (.iaload, 1) := dcq_173.2.2.2.2.1
theorem dX5_of_61 : decode cX5_of 61 = .ok (.ireturn, 1) := dcq_173.2.2.2.2.2.1
theorem dX5_of_62 : decode cX5_of 62 = .ok (.aload_n 0, 1) := dcq_173.2.2.2.2.2.2.1
theorem dX5_of_63 : decode cX5_of 63 = .ok (.getfield 10, 3) := dcq_173.2.2.2.2.2.2.2.1
theorem dX5_of_66 : decode cX5_of 66 = .ok (.getfield 109, 3) := dcq_173.2.2.2.2.2.2.2.2.1
theorem dX5_of_69 : decode cX5_of 69 = .ok (.iload_n 1, 1) := dcq_173.2.2.2.2.2.2.2.2.2.1
theorem dX5_of_70 : decode cX5_of 70 = .ok (.iaload, 1) := dcq_173.2.2.2.2.2.2.2.2.2.2.1
theorem dX5_of_71 : decode cX5_of 71 = .ok (.ireturn, 1) := dcq_173.2.2.2.2.2.2.2.2.2.2.2
set_option maxRecDepth 20000 in
theorem dcb_174 : fd_B cX5_of 72 [42, 180, 0, 10, 180, 0, 112, 27, 46, 172, 42, 180, 0, 10, 180, 0, 115, 27, 46, 172] := fd_o cX5_of 72 _ (by decide +kernel)
theorem dcq_174 : (decode cX5_of 72 = .ok (.aload_n 0, 1)) ∧ (decode cX5_of 73 = .ok (.getfield 10, 3)) ∧ (decode cX5_of 76 = .ok (.getfield 112, 3)) ∧ (decode cX5_of 79 = .ok (.iload_n 1, 1)) ∧ (decode cX5_of 80 = .ok (.iaload, 1)) ∧ (decode cX5_of 81 = .ok (.ireturn, 1)) ∧ (decode cX5_of 82 = .ok (.aload_n 0, 1)) ∧ (decode cX5_of 83 = .ok (.getfield 10, 3)) ∧ (decode cX5_of 86 = .ok (.getfield 115, 3)) ∧ (decode cX5_of 89 = .ok (.iload_n 1, 1)) ∧ (decode cX5_of 90 = .ok (.iaload, 1)) ∧ (decode cX5_of 91 = .ok (.ireturn, 1)) := have h := dcb_174; ⟨fd_42 h, have h := fd_t1 h; ⟨fd_180 h rfl, have h := fd_t3 h; ⟨fd_180 h rfl, have h := fd_t3 h; ⟨fd_27 h, have h := fd_t1 h; ⟨fd_46 h, have h := fd_t1 h; ⟨fd_172 h, have h := fd_t1 h; ⟨fd_42 h, have h := fd_t1 h; ⟨fd_180 h rfl, have h := fd_t3 h; ⟨fd_180 h rfl, have h := fd_t3 h; ⟨fd_27 h, have h := fd_t1 h; ⟨fd_46 h, have h := fd_t1 h; fd_172 h⟩⟩⟩⟩⟩⟩⟩⟩⟩⟩⟩
theorem dX5_of_72 : decode cX5_of 72 = .ok (.aload_n 0, 1) := dcq_174.1
theorem dX5_of_73 : decode cX5_of 73 = .ok (.getfield 10, 3) := dcq_174.2.1
theorem dX5_of_76 : decode cX5_of 76 = .ok (.getfield 112, 3) := dcq_174.2.2.1
theorem dX5_of_79 : decode cX5_of 79 = .ok (.iload_n 1, 1) := dcq_174.2.2.2.1
theorem dX5_of_80 : decode cX5_of 80 = .ok (.iaload, 1) := dcq_174.2.2.2.2.1
theorem dX5_of_81 : decode cX5_of 81 = .ok (.ireturn, 1) := dcq_174.2.2.2.2.2.1
theorem dX5_of_82 : decode cX5_of 82 = .ok (.aload_n 0, 1) := dcq_174.2.2.2.2.2.2.1
theorem dX5_of_83 : decode cX5_of 83 = .ok (.getfield 10, 3) := dcq_174.2.2.2.2.2.2.2.1
theorem dX5_of_86 : decode cX5_of 86 = .ok (.getfield 115, 3) := dcq_174.2.2.2.2.2.2.2.2.1
theorem dX5_of_89 : decode cX5_of 89 = .ok (.iload_n 1, 1) := dcq_174.2.2.2.2.2.2.2.2.2.1
theorem dX5_of_90 : decode cX5_of 90 = .ok (.iaload, 1) := dcq_174.2.2.2.2.2.2.2.2.2.2.1
theorem dX5_of_91 : decode cX5_of 91 = .ok (.ireturn, 1) := dcq_174.2.2.2.2.2.2.2.2.2.2.2
set_option maxRecDepth 20000 in
theorem dcb_175 : fd_B cX5_of 92 [42, 180, 0, 10, 180, 0, 118, 27, 46, 172, 42, 180, 0, 10, 180, 0, 121, 27, 46, 172] := fd_o cX5_of 92 _ (by decide +kernel)
theorem dcq_175 : (decode cX5_of 92 = .ok (.aload_n 0, 1)) ∧ (decode cX5_of 93 = .ok (.getfield 10, 3)) ∧ (decode cX5_of 96 = .ok (.getfield 118, 3)) ∧ (decode cX5_of 99 = .ok (.iload_n 1, 1)) ∧ (decode cX5_of 100 = .ok (.iaload, 1)) ∧ (decode cX5_of 101 = .ok (.ireturn, 1)) ∧ (decode cX5_of 102 = .ok (.aload_n 0, 1)) ∧ (decode cX5_of 103 = .ok (.getfield 10, 3)) ∧ (decode cX5_of 106 = .ok (.getfield 121, 3)) ∧ (decode cX5_of 109 = .ok (.iload_n 1, 1)) ∧ (decode cX5_of 110 = .ok (.iaload, 1)) ∧ (decode cX5_of 111 = .ok (.ireturn, 1)) := have h := dcb_175; ⟨fd_42 h, have h := fd_t1 h; ⟨fd_180 h rfl, have h := fd_t3 h; ⟨fd_180 h rfl, have h := fd_t3 h; ⟨fd_27 h, have h := fd_t1 h; ⟨fd_46 h, have h := fd_t1 h; ⟨fd_172 h, have h := fd_t1 h; ⟨fd_42 h, have h := fd_t1 h; ⟨fd_180 h rfl, have h := fd_t3 h; ⟨fd_180 h rfl, have h := fd_t3 h; ⟨fd_27 h, have h := fd_t1 h; ⟨fd_46 h, have h := fd_t1 h; fd_172 h⟩⟩⟩⟩⟩⟩⟩⟩⟩⟩⟩
theorem dX5_of_92 : decode cX5_of 92 = .ok (.aload_n 0, 1) := dcq_175.1
theorem dX5_of_93 : decode cX5_of 93 = .ok (.getfield 10, 3) := dcq_175.2.1
theorem dX5_of_96 : decode cX5_of 96 = .ok (.getfield 118, 3) := dcq_175.2.2.1
theorem dX5_of_99 : decode cX5_of 99 = .ok (.iload_n 1, 1) := dcq_175.2.2.2.1
theorem dX5_of_100 : decode cX5_of 100 = .ok (.iaload, 1) := dcq_175.2.2.2.2.1
theorem dX5_of_101 : decode cX5_of 101 = .ok (.ireturn, 1) := dcq_175.2.2.2.2.2.1
theorem dX5_of_102 : decode cX5_of 102 = .ok (.aload_n 0, 1) := dcq_175.2.2.2.2.2.2.1
theorem dX5_of_103 : decode cX5_of 103 = .ok (.getfield 10, 3) := dcq_175.2.2.2.2.2.2.2.1
theorem dX5_of_106 : decode cX5_of 106 = .ok (.getfield 121, 3) := dcq_175.2.2.2.2.2.2.2.2.1
theorem dX5_of_109 : decode cX5_of 109 = .ok (.iload_n 1, 1) := dcq_175.2.2.2.2.2.2.2.2.2.1
theorem dX5_of_110 : decode cX5_of 110 = .ok (.iaload, 1) := dcq_175.2.2.2.2.2.2.2.2.2.2.1
theorem dX5_of_111 : decode cX5_of 111 = .ok (.ireturn, 1) := dcq_175.2.2.2.2.2.2.2.2.2.2.2
set_option maxRecDepth 20000 in
theorem dcb_176 : fd_B cX5_of 112 [2, 172] := fd_o cX5_of 112 _ (by decide +kernel)
theorem dcq_176 : (decode cX5_of 112 = .ok (.iconst (-1), 1)) ∧ (decode cX5_of 113 = .ok (.ireturn, 1)) := have h := dcb_176; ⟨fd_2 h, have h := fd_t1 h; fd_172 h⟩
theorem dX5_of_112 : decode cX5_of 112 = .ok (.iconst (-1), 1) := dcq_176.1
theorem dX5_of_113 : decode cX5_of 113 = .ok (.ireturn, 1) := dcq_176.2
set_option maxRecDepth 20000 in
theorem dcb_177 : fd_B cX5_does 0 [42, 180, 0, 10, 27, 182, 0, 103, 154, 0, 5, 2, 172, 28] := fd_o cX5_does 0 _ (by decide +kernel)
theorem dcq_177 : (decode cX5_does 0 = .ok (.aload_n 0, 1)) ∧ (decode cX5_does 1 = .ok (.getfield 10, 3)) ∧ (decode cX5_does 4 = .ok (.iload_n 1, 1)) ∧ (decode cX5_does 5 = .ok (.invokevirtual 103, 3)) ∧ (decode cX5_does 8 = .ok (.ifCond .ne 5, 3)) ∧ (decode cX5_does 11 = .ok (.iconst (-1), 1)) ∧ (decode cX5_does 12 = .ok (.ireturn, 1)) ∧ (decode cX5_does 13 = .ok (.iload_n 2, 1)) := have h := dcb_177; ⟨fd_42 h, have h := fd_t1 h; ⟨fd_180 h rfl, have h := fd_t3 h; ⟨fd_27 h, have h := fd_t1 h; ⟨fd_182 h rfl, have h := fd_t3 h; ⟨fd_154 h (by decide +kernel), have h := fd_t3 h; ⟨fd_2 h, have h := fd_t1 h; ⟨fd_172 h, have h := fd_t1 h; fd_28 h⟩⟩⟩⟩⟩⟩⟩
theorem dX5_does_0 : decode cX5_does 0 = .ok (.aload_n 0, 1) := dcq_177.1
theorem dX5_does_1 : decode cX5_does 1 = .ok (.getfield 10, 3) := dcq_177.2.1
theorem dX5_does_4 : decode cX5_does 4 = .ok (.iload_n 1, 1) := dcq_177.2.2.1
theorem dX5_does_5 : decode cX5_does 5 = .ok (.invokevirtual 103, 3) := dcq_177.2.2.2.1
theorem dX5_does_8 : decode cX5_does 8 = .ok (.ifCond .ne 5, 3) := dcq_177.2.2.2.2.1
theorem dX5_does_11 : decode cX5_does 11 = .ok (.iconst (-1), 1) := dcq_177.2.2.2.2.2.1
theorem dX5_does_12 : decode cX5_does 12 = .ok (.ireturn, 1) := dcq_177.2.2.2.2.2.2.1
theorem dX5_does_13 : decode cX5_does 13 = .ok (.iload_n 2, 1) := dcq_177.2.2.2.2.2.2.2
set_option maxRecDepth 20000 in
theorem dX5_does_14 : decode cX5_does 14 = .ok (.tableswitch 90 0 3 #[30, 43, 56, 69], 30) := by decide +kernel
set_option maxRecDepth 20000 in
theorem dcb_178 : fd_B cX5_does 44 [17, 3, 232, 42, 180, 0, 10, 27, 182, 0, 124, 96, 172, 17, 3, 232, 42, 180, 0, 10, 27, 182, 0, 128] := fd_o cX5_does 44 _ (by decide +kernel)
theorem dcq_178 : (decode cX5_does 44 = .ok (.sipush 1000, 3)) ∧ (decode cX5_does 47 = .ok (.aload_n 0, 1)) ∧ (decode cX5_does 48 = .ok (.getfield 10, 3)) ∧ (decode cX5_does 51 = .ok (.iload_n 1, 1)) ∧ (decode cX5_does 52 = .ok (.invokevirtual 124, 3)) ∧ (decode cX5_does 55 = .ok (.iadd, 1)) ∧ (decode cX5_does 56 = .ok (.ireturn, 1)) ∧ (decode cX5_does 57 = .ok (.sipush 1000, 3)) ∧ (decode cX5_does 60 = .ok (.aload_n 0, 1)) ∧ (decode cX5_does 61 = .ok (.getfield 10, 3)) ∧ (decode cX5_does 64 = .ok (.iload_n 1, 1)) ∧ (decode cX5_does 65 = .ok (.invokevirtual 128, 3)) := have h := dcb_178; ⟨fd_17 h (by decide +kernel), have h := fd_t3 h; ⟨fd_42 h, have h := fd_t1 h; ⟨fd_180 h rfl, have h := fd_t3 h; ⟨fd_27 h, have h := fd_t1 h; ⟨fd_182 h rfl, have h := fd_t3 h; ⟨fd_96 h, have h := fd_t1 h; ⟨fd_172 h, have h := fd_t1 h; ⟨fd_17 h (by decide +kernel), have h := fd_t3 h; ⟨fd_42 h, have h := fd_t1 h; ⟨fd_180 h rfl, have h := fd_t3 h; ⟨fd_27 h, have h := fd_t1 h; fd_182 h rfl⟩⟩⟩⟩⟩⟩⟩⟩⟩⟩⟩
theorem dX5_does_44 : decode cX5_does 44 = .ok (.sipush 1000, 3) := dcq_178.1
theorem dX5_does_47 : decode cX5_does 47 = .ok (.aload_n 0, 1) := dcq_178.2.1
theorem dX5_does_48 : decode cX5_does 48 = .ok (.getfield 10, 3) := dcq_178.2.2.1
theorem dX5_does_51 : decode cX5_does 51 = .ok (.iload_n 1, 1) := dcq_178.2.2.2.1
theorem dX5_does_52 : decode cX5_does 52 = .ok (.invokevirtual 124, 3) := dcq_178.2.2.2.2.1
theorem dX5_does_55 : decode cX5_does 55 = .ok (.iadd, 1) := dcq_178.2.2.2.2.2.1
theorem dX5_does_56 : decode cX5_does 56 = .ok (.ireturn, 1) := dcq_178.2.2.2.2.2.2.1
theorem dX5_does_57 : decode cX5_does 57 = .ok (.sipush 1000, 3) := dcq_178.2.2.2.2.2.2.2.1
theorem dX5_does_60 : decode cX5_does 60 = .ok (.aload_n 0, 1) := dcq_178.2.2.2.2.2.2.2.2.1
theorem dX5_does_61 : decode cX5_does 61 = .ok (.getfield 10, 3) := dcq_178.2.2.2.2.2.2.2.2.2.1
theorem dX5_does_64 : decode cX5_does 64 = .ok (.iload_n 1, 1) := dcq_178.2.2.2.2.2.2.2.2.2.2.1
theorem dX5_does_65 : decode cX5_does 65 = .ok (.invokevirtual 128, 3) := dcq_178.2.2.2.2.2.2.2.2.2.2.2
set_option maxRecDepth 20000 in
theorem dcb_179 : fd_B cX5_does 68 [96, 172, 17, 3, 232, 42, 180, 0, 10, 27, 182, 0, 131, 96, 172, 42, 180, 0, 10, 27] := fd_o cX5_does 68 _ (by decide +kernel)
theorem dcq_179 : (decode cX5_does 68 = .ok (.iadd, 1)) ∧ (decode cX5_does 69 = .ok (.ireturn, 1)) ∧ (decode cX5_does 70 = .ok (.sipush 1000, 3)) ∧ (decode cX5_does 73 = .ok (.aload_n 0, 1)) ∧ (decode cX5_does 74 = .ok (.getfield 10, 3)) ∧ (decode cX5_does 77 = .ok (.iload_n 1, 1)) ∧ (decode cX5_does 78 = .ok (.invokevirtual 131, 3)) ∧ (decode cX5_does 81 = .ok (.iadd, 1)) ∧ (decode cX5_does 82 = .ok (.ireturn, 1)) ∧ (decode cX5_does 83 = .ok (.aload_n 0, 1)) ∧ (decode cX5_does 84 = .ok (.getfield 10, 3)) ∧ (decode cX5_does 87 = .ok (.iload_n 1, 1)) := have h := dcb_179; ⟨fd_96 h, have h := fd_t1 h; ⟨fd_172 h, have h := fd_t1 h; ⟨fd_17 h (by decide +kernel), have h := fd_t3 h; ⟨fd_42 h, have h := fd_t1 h; ⟨fd_180 h rfl, have h := fd_t3 h; ⟨fd_27 h, have h := fd_t1 h; ⟨fd_182 h rfl, have h := fd_t3 h; ⟨fd_96 h, have h := fd_t1 h; ⟨fd_172 h, have h := fd_t1 h; ⟨fd_42 h, have h := fd_t1 h; ⟨fd_180 h rfl, have h := fd_t3 h; fd_27 h⟩⟩⟩⟩⟩⟩⟩⟩⟩⟩⟩
theorem dX5_does_68 : decode cX5_does 68 = .ok (.iadd, 1) := dcq_179.1
theorem dX5_does_69 : decode cX5_does 69 = .ok (.ireturn, 1) := dcq_179.2.1
theorem dX5_does_70 : decode cX5_does 70 = .ok (.sipush 1000, 3) := dcq_179.2.2.1
theorem dX5_does_73 : decode cX5_does 73 = .ok (.aload_n 0, 1) := dcq_179.2.2.2.1
theorem dX5_does_74 : decode cX5_does 74 = .ok (.getfield 10, 3) := dcq_179.2.2.2.2.1
theorem dX5_does_77 : decode cX5_does 77 = .ok (.iload_n 1, 1) := dcq_179.2.2.2.2.2.1
theorem dX5_does_78 : decode cX5_does 78 = .ok (.invokevirtual 131, 3) := dcq_179.2.2.2.2.2.2.1
theorem dX5_does_81 : decode cX5_does 81 = .ok (.iadd, 1) := dcq_179.2.2.2.2.2.2.2.1
theorem dX5_does_82 : decode cX5_does 82 = .ok (.ireturn, 1) := dcq_179.2.2.2.2.2.2.2.2.1
theorem dX5_does_83 : decode cX5_does 83 = .ok (.aload_n 0, 1) := dcq_179.2.2.2.2.2.2.2.2.2.1
theorem dX5_does_84 : decode cX5_does 84 = .ok (.getfield 10, 3) := dcq_179.2.2.2.2.2.2.2.2.2.2.1
theorem dX5_does_87 : decode cX5_does 87 = .ok (.iload_n 1, 1) := dcq_179.2.2.2.2.2.2.2.2.2.2.2
set_option maxRecDepth 20000 in
theorem dcb_180 : fd_B cX5_does 88 [182, 0, 134, 153, 0, 9, 17, 3, 233, 167, 0, 6, 17, 3, 232, 172, 2, 172] := fd_o cX5_does 88 _ (by decide +kernel)
theorem dcq_180 : (decode cX5_does 88 = .ok (.invokevirtual 134, 3)) ∧ (decode cX5_does 91 = .ok (.ifCond .eq 9, 3)) ∧ (decode cX5_does 94 = .ok (.sipush 1001, 3)) ∧ (decode cX5_does 97 = .ok (.goto 6, 3)) ∧ (decode cX5_does 100 = .ok (.sipush 1000, 3)) ∧ (decode cX5_does 103 = .ok (.ireturn, 1)) ∧ (decode cX5_does 104 = .ok (.iconst (-1), 1)) ∧ (decode cX5_does 105 = .ok (.ireturn, 1)) := have h := dcb_180; ⟨fd_182 h rfl, have h := fd_t3 h; ⟨fd_153 h (by decide +kernel), have h := fd_t3 h; ⟨fd_17 h (by decide +kernel), have h := fd_t3 h; ⟨fd_167 h (by decide +kernel), have h := fd_t3 h; ⟨fd_17 h (by decide +kernel), have h := fd_t3 h; ⟨fd_172 h, have h := fd_t1 h; ⟨fd_2 h, have h := fd_t1 h; fd_172 h⟩⟩⟩⟩⟩⟩⟩
theorem dX5_does_88 : decode cX5_does 88 = .ok (.invokevirtual 134, 3) := dcq_180.1
theorem dX5_does_91 : decode cX5_does 91 = .ok (.ifCond .eq 9, 3) := dcq_180.2.1
theorem dX5_does_94 : decode cX5_does 94 = .ok (.sipush 1001, 3) := dcq_180.2.2.1
theorem dX5_does_97 : decode cX5_does 97 = .ok (.goto 6, 3) := dcq_180.2.2.2.1
theorem dX5_does_100 : decode cX5_does 100 = .ok (.sipush 1000, 3) := dcq_180.2.2.2.2.1
theorem dX5_does_103 : decode cX5_does 103 = .ok (.ireturn, 1) := dcq_180.2.2.2.2.2.1
theorem dX5_does_104 : decode cX5_does 104 = .ok (.iconst (-1), 1) := dcq_180.2.2.2.2.2.2.1
theorem dX5_does_105 : decode cX5_does 105 = .ok (.ireturn, 1) := dcq_180.2.2.2.2.2.2.2
set_option maxRecDepth 20000 in
theorem dcb_181 : fd_B cX5_mind 0 [42, 180, 0, 10, 27, 182, 0, 103, 153, 0, 20, 28, 184, 0, 95, 153, 0, 13, 29, 3, 16, 9, 184, 0, 57] := fd_o cX5_mind 0 _ (by decide +kernel)
theorem dcq_181 : (decode cX5_mind 0 = .ok (.aload_n 0, 1)) ∧ (decode cX5_mind 1 = .ok (.getfield 10, 3)) ∧ (decode cX5_mind 4 = .ok (.iload_n 1, 1)) ∧ (decode cX5_mind 5 = .ok (.invokevirtual 103, 3)) ∧ (decode cX5_mind 8 = .ok (.ifCond .eq 20, 3)) ∧ (decode cX5_mind 11 = .ok (.iload_n 2, 1)) ∧ (decode cX5_mind 12 = .ok (.invokestatic 95, 3)) ∧ (decode cX5_mind 15 = .ok (.ifCond .eq 13, 3)) ∧ (decode cX5_mind 18 = .ok (.iload_n 3, 1)) ∧ (decode cX5_mind 19 = .ok (.iconst 0, 1)) ∧ (decode cX5_mind 20 = .ok (.bipush 9, 2)) ∧ (decode cX5_mind 22 = .ok (.invokestatic 57, 3)) := have h := dcb_181; ⟨fd_42 h, have h := fd_t1 h; ⟨fd_180 h rfl, have h := fd_t3 h; ⟨fd_27 h, have h := fd_t1 h; ⟨fd_182 h rfl, have h := fd_t3 h; ⟨fd_153 h (by decide +kernel), have h := fd_t3 h; ⟨fd_28 h, have h := fd_t1 h; ⟨fd_184 h rfl, have h := fd_t3 h; ⟨fd_153 h (by decide +kernel), have h := fd_t3 h; ⟨fd_29 h, have h := fd_t1 h; ⟨fd_3 h, have h := fd_t1 h; ⟨fd_16 h (by decide +kernel), have h := fd_t2 h; fd_184 h rfl⟩⟩⟩⟩⟩⟩⟩⟩⟩⟩⟩
theorem dX5_mind_0 : decode cX5_mind 0 = .ok (.aload_n 0, 1) := dcq_181.1
theorem dX5_mind_1 : decode cX5_mind 1 = .ok (.getfield 10, 3) := dcq_181.2.1
theorem dX5_mind_4 : decode cX5_mind 4 = .ok (.iload_n 1, 1) := dcq_181.2.2.1
theorem dX5_mind_5 : decode cX5_mind 5 = .ok (.invokevirtual 103, 3) := dcq_181.2.2.2.1
theorem dX5_mind_8 : decode cX5_mind 8 = .ok (.ifCond .eq 20, 3) := dcq_181.2.2.2.2.1
theorem dX5_mind_11 : decode cX5_mind 11 = .ok (.iload_n 2, 1) := dcq_181.2.2.2.2.2.1
theorem dX5_mind_12 : decode cX5_mind 12 = .ok (.invokestatic 95, 3) := dcq_181.2.2.2.2.2.2.1
theorem dX5_mind_15 : decode cX5_mind 15 = .ok (.ifCond .eq 13, 3) := dcq_181.2.2.2.2.2.2.2.1
theorem dX5_mind_18 : decode cX5_mind 18 = .ok (.iload_n 3, 1) := dcq_181.2.2.2.2.2.2.2.2.1
theorem dX5_mind_19 : decode cX5_mind 19 = .ok (.iconst 0, 1) := dcq_181.2.2.2.2.2.2.2.2.2.1
theorem dX5_mind_20 : decode cX5_mind 20 = .ok (.bipush 9, 2) := dcq_181.2.2.2.2.2.2.2.2.2.2.1
theorem dX5_mind_22 : decode cX5_mind 22 = .ok (.invokestatic 57, 3) := dcq_181.2.2.2.2.2.2.2.2.2.2.2
set_option maxRecDepth 20000 in
theorem dcb_182 : fd_B cX5_mind 25 [154, 0, 5, 2, 172, 42, 180, 0, 10, 180, 0, 106, 27, 46, 54, 4, 42, 180, 0, 10, 180, 0, 106] := fd_o cX5_mind 25 _ (by decide +kernel)
theorem dcq_182 : (decode cX5_mind 25 = .ok (.ifCond .ne 5, 3)) ∧ (decode cX5_mind 28 = .ok (.iconst (-1), 1)) ∧ (decode cX5_mind 29 = .ok (.ireturn, 1)) ∧ (decode cX5_mind 30 = .ok (.aload_n 0, 1)) ∧ (decode cX5_mind 31 = .ok (.getfield 10, 3)) ∧ (decode cX5_mind 34 = .ok (.getfield 106, 3)) ∧ (decode cX5_mind 37 = .ok (.iload_n 1, 1)) ∧ (decode cX5_mind 38 = .ok (.iaload, 1)) ∧ (decode cX5_mind 39 = .ok (.istore 4, 2)) ∧ (decode cX5_mind 41 = .ok (.aload_n 0, 1)) ∧ (decode cX5_mind 42 = .ok (.getfield 10, 3)) ∧ (decode cX5_mind 45 = .ok (.getfield 106, 3)) := have h := dcb_182; ⟨fd_154 h (by decide +kernel), have h := fd_t3 h; ⟨fd_2 h, have h := fd_t1 h; ⟨fd_172 h, have h := fd_t1 h; ⟨fd_42 h, have h := fd_t1 h; ⟨fd_180 h rfl, have h := fd_t3 h; ⟨fd_180 h rfl, have h := fd_t3 h; ⟨fd_27 h, have h := fd_t1 h; ⟨fd_46 h, have h := fd_t1 h; ⟨fd_54 h rfl, have h := fd_t2 h; ⟨fd_42 h, have h := fd_t1 h; ⟨fd_180 h rfl, have h := fd_t3 h; fd_180 h rfl⟩⟩⟩⟩⟩⟩⟩⟩⟩⟩⟩
theorem dX5_mind_25 : decode cX5_mind 25 = .ok (.ifCond .ne 5, 3) := dcq_182.1
theorem dX5_mind_28 : decode cX5_mind 28 = .ok (.iconst (-1), 1) := dcq_182.2.1
theorem dX5_mind_29 : decode cX5_mind 29 = .ok (.ireturn, 1) := dcq_182.2.2.1
theorem dX5_mind_30 : decode cX5_mind 30 = .ok (.aload_n 0, 1) := dcq_182.2.2.2.1
theorem dX5_mind_31 : decode cX5_mind 31 = .ok (.getfield 10, 3) := dcq_182.2.2.2.2.1
theorem dX5_mind_34 : decode cX5_mind 34 = .ok (.getfield 106, 3) := dcq_182.2.2.2.2.2.1
theorem dX5_mind_37 : decode cX5_mind 37 = .ok (.iload_n 1, 1) := dcq_182.2.2.2.2.2.2.1
theorem dX5_mind_38 : decode cX5_mind 38 = .ok (.iaload, 1) := dcq_182.2.2.2.2.2.2.2.1
theorem dX5_mind_39 : decode cX5_mind 39 = .ok (.istore 4, 2) := dcq_182.2.2.2.2.2.2.2.2.1
theorem dX5_mind_41 : decode cX5_mind 41 = .ok (.aload_n 0, 1) := dcq_182.2.2.2.2.2.2.2.2.2.1
theorem dX5_mind_42 : decode cX5_mind 42 = .ok (.getfield 10, 3) := dcq_182.2.2.2.2.2.2.2.2.2.2.1
theorem dX5_mind_45 : decode cX5_mind 45 = .ok (.getfield 106, 3) := dcq_182.2.2.2.2.2.2.2.2.2.2.2
set_option maxRecDepth 20000 in
theorem dcb_183 : fd_B cX5_mind 48 [27, 28, 79, 42, 180, 0, 10, 180, 0, 112, 27, 29, 79, 21, 4, 172] := fd_o cX5_mind 48 _ (by decide +kernel)
theorem dcq_183 : (decode cX5_mind 48 = .ok (.iload_n 1, 1)) ∧ (decode cX5_mind 49 = .ok (.iload_n 2, 1)) ∧ (decode cX5_mind 50 = .ok (.iastore, 1)) ∧ (decode cX5_mind 51 = .ok (.aload_n 0, 1)) ∧ (decode cX5_mind 52 = .ok (.getfield 10, 3)) ∧ (decode cX5_mind 55 = .ok (.getfield 112, 3)) ∧ (decode cX5_mind 58 = .ok (.iload_n 1, 1)) ∧ (decode cX5_mind 59 = .ok (.iload_n 3, 1)) ∧ (decode cX5_mind 60 = .ok (.iastore, 1)) ∧ (decode cX5_mind 61 = .ok (.iload 4, 2)) ∧ (decode cX5_mind 63 = .ok (.ireturn, 1)) := have h := dcb_183; ⟨fd_27 h, have h := fd_t1 h; ⟨fd_28 h, have h := fd_t1 h; ⟨fd_79 h, have h := fd_t1 h; ⟨fd_42 h, have h := fd_t1 h; ⟨fd_180 h rfl, have h := fd_t3 h; ⟨fd_180 h rfl, have h := fd_t3 h; ⟨fd_27 h, have h := fd_t1 h; ⟨fd_29 h, have h := fd_t1 h; ⟨fd_79 h, have h := fd_t1 h; ⟨fd_21 h rfl, have h := fd_t2 h; fd_172 h⟩⟩⟩⟩⟩⟩⟩⟩⟩⟩
theorem dX5_mind_48 : decode cX5_mind 48 = .ok (.iload_n 1, 1) := dcq_183.1
theorem dX5_mind_49 : decode cX5_mind 49 = .ok (.iload_n 2, 1) := dcq_183.2.1
theorem dX5_mind_50 : decode cX5_mind 50 = .ok (.iastore, 1) := dcq_183.2.2.1
theorem dX5_mind_51 : decode cX5_mind 51 = .ok (.aload_n 0, 1) := dcq_183.2.2.2.1
theorem dX5_mind_52 : decode cX5_mind 52 = .ok (.getfield 10, 3) := dcq_183.2.2.2.2.1
theorem dX5_mind_55 : decode cX5_mind 55 = .ok (.getfield 112, 3) := dcq_183.2.2.2.2.2.1
theorem dX5_mind_58 : decode cX5_mind 58 = .ok (.iload_n 1, 1) := dcq_183.2.2.2.2.2.2.1
theorem dX5_mind_59 : decode cX5_mind 59 = .ok (.iload_n 3, 1) := dcq_183.2.2.2.2.2.2.2.1
theorem dX5_mind_60 : decode cX5_mind 60 = .ok (.iastore, 1) := dcq_183.2.2.2.2.2.2.2.2.1
theorem dX5_mind_61 : decode cX5_mind 61 = .ok (.iload 4, 2) := dcq_183.2.2.2.2.2.2.2.2.2.1
theorem dX5_mind_63 : decode cX5_mind 63 = .ok (.ireturn, 1) := dcq_183.2.2.2.2.2.2.2.2.2.2
set_option maxRecDepth 20000 in
theorem dcb_184 : fd_B cX5_thought 0 [42, 180, 0, 10, 27, 182, 0, 103, 153, 0, 13, 28, 3, 16, 99, 184, 0, 57, 154, 0, 5, 2, 172] := fd_o cX5_thought 0 _ (by decide +kernel)
theorem dcq_184 : (decode cX5_thought 0 = .ok (.aload_n 0, 1)) ∧ (decode cX5_thought 1 = .ok (.getfield 10, 3)) ∧ (decode cX5_thought 4 = .ok (.iload_n 1, 1)) ∧ (decode cX5_thought 5 = .ok (.invokevirtual 103, 3)) ∧ (decode cX5_thought 8 = .ok (.ifCond .eq 13, 3)) ∧ (decode cX5_thought 11 = .ok (.iload_n 2, 1)) ∧ (decode cX5_thought 12 = .ok (.iconst 0, 1)) ∧ (decode cX5_thought 13 = .ok (.bipush 99, 2)) ∧ (decode cX5_thought 15 = .ok (.invokestatic 57, 3)) ∧ (decode cX5_thought 18 = .ok (.ifCond .ne 5, 3)) ∧ (decode cX5_thought 21 = .ok (.iconst (-1), 1)) ∧ (decode cX5_thought 22 = .ok (.ireturn, 1)) := have h := dcb_184; ⟨fd_42 h, have h := fd_t1 h; ⟨fd_180 h rfl, have h := fd_t3 h; ⟨fd_27 h, have h := fd_t1 h; ⟨fd_182 h rfl, have h := fd_t3 h; ⟨fd_153 h (by decide +kernel), have h := fd_t3 h; ⟨fd_28 h, have h := fd_t1 h; ⟨fd_3 h, have h := fd_t1 h; ⟨fd_16 h (by decide +kernel), have h := fd_t2 h; ⟨fd_184 h rfl, have h := fd_t3 h; ⟨fd_154 h (by decide +kernel), have h := fd_t3 h; ⟨fd_2 h, have h := fd_t1 h; fd_172 h⟩⟩⟩⟩⟩⟩⟩⟩⟩⟩⟩
theorem dX5_thought_0 : decode cX5_thought 0 = .ok (.aload_n 0, 1) := dcq_184.1
theorem dX5_thought_1 : decode cX5_thought 1 = .ok (.getfield 10, 3) := dcq_184.2.1
theorem dX5_thought_4 : decode cX5_thought 4 = .ok (.iload_n 1, 1) := dcq_184.2.2.1
theorem dX5_thought_5 : decode cX5_thought 5 = .ok (.invokevirtual 103, 3) := dcq_184.2.2.2.1
theorem dX5_thought_8 : decode cX5_thought 8 = .ok (.ifCond .eq 13, 3) := dcq_184.2.2.2.2.1
theorem dX5_thought_11 : decode cX5_thought 11 = .ok (.iload_n 2, 1) := dcq_184.2.2.2.2.2.1
theorem dX5_thought_12 : decode cX5_thought 12 = .ok (.iconst 0, 1) := dcq_184.2.2.2.2.2.2.1
theorem dX5_thought_13 : decode cX5_thought 13 = .ok (.bipush 99, 2) := dcq_184.2.2.2.2.2.2.2.1
theorem dX5_thought_15 : decode cX5_thought 15 = .ok (.invokestatic 57, 3) := dcq_184.2.2.2.2.2.2.2.2.1
theorem dX5_thought_18 : decode cX5_thought 18 = .ok (.ifCond .ne 5, 3) := dcq_184.2.2.2.2.2.2.2.2.2.1
theorem dX5_thought_21 : decode cX5_thought 21 = .ok (.iconst (-1), 1) := dcq_184.2.2.2.2.2.2.2.2.2.2.1
theorem dX5_thought_22 : decode cX5_thought 22 = .ok (.ireturn, 1) := dcq_184.2.2.2.2.2.2.2.2.2.2.2
set_option maxRecDepth 20000 in
theorem dcb_185 : fd_B cX5_thought 23 [42, 180, 0, 10, 180, 0, 109, 27, 46, 62, 42, 180, 0, 10, 180, 0, 109, 27, 28, 79] := fd_o cX5_thought 23 _ (by decide +kernel)
theorem dcq_185 : (decode cX5_thought 23 = .ok (.aload_n 0, 1)) ∧ (decode cX5_thought 24 = .ok (.getfield 10, 3)) ∧ (decode cX5_thought 27 = .ok (.getfield 109, 3)) ∧ (decode cX5_thought 30 = .ok (.iload_n 1, 1)) ∧ (decode cX5_thought 31 = .ok (.iaload, 1)) ∧ (decode cX5_thought 32 = .ok (.istore_n 3, 1)) ∧ (decode cX5_thought 33 = .ok (.aload_n 0, 1)) ∧ (decode cX5_thought 34 = .ok (.getfield 10, 3)) ∧ (decode cX5_thought 37 = .ok (.getfield 109, 3)) ∧ (decode cX5_thought 40 = .ok (.iload_n 1, 1)) ∧ (decode cX5_thought 41 = .ok (.iload_n 2, 1)) ∧ (decode cX5_thought 42 = .ok (.iastore, 1)) := have h := dcb_185; ⟨fd_42 h, have h := fd_t1 h; ⟨fd_180 h rfl, have h := fd_t3 h; ⟨fd_180 h rfl, have h := fd_t3 h; ⟨fd_27 h, have h := fd_t1 h; ⟨fd_46 h, have h := fd_t1 h; ⟨fd_62 h, have h := fd_t1 h; ⟨fd_42 h, have h := fd_t1 h; ⟨fd_180 h rfl, have h := fd_t3 h; ⟨fd_180 h rfl, have h := fd_t3 h; ⟨fd_27 h, have h := fd_t1 h; ⟨fd_28 h, have h := fd_t1 h; fd_79 h⟩⟩⟩⟩⟩⟩⟩⟩⟩⟩⟩
theorem dX5_thought_23 : decode cX5_thought 23 = .ok (.aload_n 0, 1) := dcq_185.1
theorem dX5_thought_24 : decode cX5_thought 24 = .ok (.getfield 10, 3) := dcq_185.2.1
theorem dX5_thought_27 : decode cX5_thought 27 = .ok (.getfield 109, 3) := dcq_185.2.2.1
theorem dX5_thought_30 : decode cX5_thought 30 = .ok (.iload_n 1, 1) := dcq_185.2.2.2.1
theorem dX5_thought_31 : decode cX5_thought 31 = .ok (.iaload, 1) := dcq_185.2.2.2.2.1
theorem dX5_thought_32 : decode cX5_thought 32 = .ok (.istore_n 3, 1) := dcq_185.2.2.2.2.2.1
theorem dX5_thought_33 : decode cX5_thought 33 = .ok (.aload_n 0, 1) := dcq_185.2.2.2.2.2.2.1
theorem dX5_thought_34 : decode cX5_thought 34 = .ok (.getfield 10, 3) := dcq_185.2.2.2.2.2.2.2.1
theorem dX5_thought_37 : decode cX5_thought 37 = .ok (.getfield 109, 3) := dcq_185.2.2.2.2.2.2.2.2.1
theorem dX5_thought_40 : decode cX5_thought 40 = .ok (.iload_n 1, 1) := dcq_185.2.2.2.2.2.2.2.2.2.1
theorem dX5_thought_41 : decode cX5_thought 41 = .ok (.iload_n 2, 1) := dcq_185.2.2.2.2.2.2.2.2.2.2.1
theorem dX5_thought_42 : decode cX5_thought 42 = .ok (.iastore, 1) := dcq_185.2.2.2.2.2.2.2.2.2.2.2
set_option maxRecDepth 20000 in
theorem dcb_186 : fd_B cX5_thought 43 [29, 172] := fd_o cX5_thought 43 _ (by decide +kernel)
theorem dcq_186 : (decode cX5_thought 43 = .ok (.iload_n 3, 1)) ∧ (decode cX5_thought 44 = .ok (.ireturn, 1)) := have h := dcb_186; ⟨fd_29 h, have h := fd_t1 h; fd_172 h⟩
theorem dX5_thought_43 : decode cX5_thought 43 = .ok (.iload_n 3, 1) := dcq_186.1
theorem dX5_thought_44 : decode cX5_thought 44 = .ok (.ireturn, 1) := dcq_186.2
set_option maxRecDepth 20000 in
theorem dcb_187 : fd_B cX5_own 0 [42, 180, 0, 10, 27, 182, 0, 103, 153, 0, 13, 28, 3, 16, 99, 184, 0, 57, 154, 0, 5, 2, 172] := fd_o cX5_own 0 _ (by decide +kernel)
theorem dcq_187 : (decode cX5_own 0 = .ok (.aload_n 0, 1)) ∧ (decode cX5_own 1 = .ok (.getfield 10, 3)) ∧ (decode cX5_own 4 = .ok (.iload_n 1, 1)) ∧ (decode cX5_own 5 = .ok (.invokevirtual 103, 3)) ∧ (decode cX5_own 8 = .ok (.ifCond .eq 13, 3)) ∧ (decode cX5_own 11 = .ok (.iload_n 2, 1)) ∧ (decode cX5_own 12 = .ok (.iconst 0, 1)) ∧ (decode cX5_own 13 = .ok (.bipush 99, 2)) ∧ (decode cX5_own 15 = .ok (.invokestatic 57, 3)) ∧ (decode cX5_own 18 = .ok (.ifCond .ne 5, 3)) ∧ (decode cX5_own 21 = .ok (.iconst (-1), 1)) ∧ (decode cX5_own 22 = .ok (.ireturn, 1)) := have h := dcb_187; ⟨fd_42 h, have h := fd_t1 h; ⟨fd_180 h rfl, have h := fd_t3 h; ⟨fd_27 h, have h := fd_t1 h; ⟨fd_182 h rfl, have h := fd_t3 h; ⟨fd_153 h (by decide +kernel), have h := fd_t3 h; ⟨fd_28 h, have h := fd_t1 h; ⟨fd_3 h, have h := fd_t1 h; ⟨fd_16 h (by decide +kernel), have h := fd_t2 h; ⟨fd_184 h rfl, have h := fd_t3 h; ⟨fd_154 h (by decide +kernel), have h := fd_t3 h; ⟨fd_2 h, have h := fd_t1 h; fd_172 h⟩⟩⟩⟩⟩⟩⟩⟩⟩⟩⟩
theorem dX5_own_0 : decode cX5_own 0 = .ok (.aload_n 0, 1) := dcq_187.1
theorem dX5_own_1 : decode cX5_own 1 = .ok (.getfield 10, 3) := dcq_187.2.1
theorem dX5_own_4 : decode cX5_own 4 = .ok (.iload_n 1, 1) := dcq_187.2.2.1
theorem dX5_own_5 : decode cX5_own 5 = .ok (.invokevirtual 103, 3) := dcq_187.2.2.2.1
theorem dX5_own_8 : decode cX5_own 8 = .ok (.ifCond .eq 13, 3) := dcq_187.2.2.2.2.1
theorem dX5_own_11 : decode cX5_own 11 = .ok (.iload_n 2, 1) := dcq_187.2.2.2.2.2.1
theorem dX5_own_12 : decode cX5_own 12 = .ok (.iconst 0, 1) := dcq_187.2.2.2.2.2.2.1
theorem dX5_own_13 : decode cX5_own 13 = .ok (.bipush 99, 2) := dcq_187.2.2.2.2.2.2.2.1
theorem dX5_own_15 : decode cX5_own 15 = .ok (.invokestatic 57, 3) := dcq_187.2.2.2.2.2.2.2.2.1
theorem dX5_own_18 : decode cX5_own 18 = .ok (.ifCond .ne 5, 3) := dcq_187.2.2.2.2.2.2.2.2.2.1
theorem dX5_own_21 : decode cX5_own 21 = .ok (.iconst (-1), 1) := dcq_187.2.2.2.2.2.2.2.2.2.2.1
theorem dX5_own_22 : decode cX5_own 22 = .ok (.ireturn, 1) := dcq_187.2.2.2.2.2.2.2.2.2.2.2
set_option maxRecDepth 20000 in
theorem dcb_188 : fd_B cX5_own 23 [42, 180, 0, 10, 180, 0, 115, 27, 46, 62, 42, 180, 0, 10, 180, 0, 115, 27, 28, 79] := fd_o cX5_own 23 _ (by decide +kernel)
theorem dcq_188 : (decode cX5_own 23 = .ok (.aload_n 0, 1)) ∧ (decode cX5_own 24 = .ok (.getfield 10, 3)) ∧ (decode cX5_own 27 = .ok (.getfield 115, 3)) ∧ (decode cX5_own 30 = .ok (.iload_n 1, 1)) ∧ (decode cX5_own 31 = .ok (.iaload, 1)) ∧ (decode cX5_own 32 = .ok (.istore_n 3, 1)) ∧ (decode cX5_own 33 = .ok (.aload_n 0, 1)) ∧ (decode cX5_own 34 = .ok (.getfield 10, 3)) ∧ (decode cX5_own 37 = .ok (.getfield 115, 3)) ∧ (decode cX5_own 40 = .ok (.iload_n 1, 1)) ∧ (decode cX5_own 41 = .ok (.iload_n 2, 1)) ∧ (decode cX5_own 42 = .ok (.iastore, 1)) := have h := dcb_188; ⟨fd_42 h, have h := fd_t1 h; ⟨fd_180 h rfl, have h := fd_t3 h; ⟨fd_180 h rfl, have h := fd_t3 h; ⟨fd_27 h, have h := fd_t1 h; ⟨fd_46 h, have h := fd_t1 h; ⟨fd_62 h, have h := fd_t1 h; ⟨fd_42 h, have h := fd_t1 h; ⟨fd_180 h rfl, have h := fd_t3 h; ⟨fd_180 h rfl, have h := fd_t3 h; ⟨fd_27 h, have h := fd_t1 h; ⟨fd_28 h, have h := fd_t1 h; fd_79 h⟩⟩⟩⟩⟩⟩⟩⟩⟩⟩⟩
theorem dX5_own_23 : decode cX5_own 23 = .ok (.aload_n 0, 1) := dcq_188.1
theorem dX5_own_24 : decode cX5_own 24 = .ok (.getfield 10, 3) := dcq_188.2.1
theorem dX5_own_27 : decode cX5_own 27 = .ok (.getfield 115, 3) := dcq_188.2.2.1
theorem dX5_own_30 : decode cX5_own 30 = .ok (.iload_n 1, 1) := dcq_188.2.2.2.1
theorem dX5_own_31 : decode cX5_own 31 = .ok (.iaload, 1) := dcq_188.2.2.2.2.1
theorem dX5_own_32 : decode cX5_own 32 = .ok (.istore_n 3, 1) := dcq_188.2.2.2.2.2.1
theorem dX5_own_33 : decode cX5_own 33 = .ok (.aload_n 0, 1) := dcq_188.2.2.2.2.2.2.1
theorem dX5_own_34 : decode cX5_own 34 = .ok (.getfield 10, 3) := dcq_188.2.2.2.2.2.2.2.1
theorem dX5_own_37 : decode cX5_own 37 = .ok (.getfield 115, 3) := dcq_188.2.2.2.2.2.2.2.2.1
theorem dX5_own_40 : decode cX5_own 40 = .ok (.iload_n 1, 1) := dcq_188.2.2.2.2.2.2.2.2.2.1
theorem dX5_own_41 : decode cX5_own 41 = .ok (.iload_n 2, 1) := dcq_188.2.2.2.2.2.2.2.2.2.2.1
theorem dX5_own_42 : decode cX5_own 42 = .ok (.iastore, 1) := dcq_188.2.2.2.2.2.2.2.2.2.2.2
set_option maxRecDepth 20000 in
theorem dcb_189 : fd_B cX5_own 43 [29, 172] := fd_o cX5_own 43 _ (by decide +kernel)
theorem dcq_189 : (decode cX5_own 43 = .ok (.iload_n 3, 1)) ∧ (decode cX5_own 44 = .ok (.ireturn, 1)) := have h := dcb_189; ⟨fd_29 h, have h := fd_t1 h; fd_172 h⟩
theorem dX5_own_43 : decode cX5_own 43 = .ok (.iload_n 3, 1) := dcq_189.1
theorem dX5_own_44 : decode cX5_own 44 = .ok (.ireturn, 1) := dcq_189.2
set_option maxRecDepth 20000 in
theorem dcb_190 : fd_B cX5_give 0 [42, 180, 0, 10, 27, 182, 0, 103, 153, 0, 19, 42, 180, 0, 10, 28, 182, 0, 103, 153, 0, 8, 27, 28] := fd_o cX5_give 0 _ (by decide +kernel)
theorem dcq_190 : (decode cX5_give 0 = .ok (.aload_n 0, 1)) ∧ (decode cX5_give 1 = .ok (.getfield 10, 3)) ∧ (decode cX5_give 4 = .ok (.iload_n 1, 1)) ∧ (decode cX5_give 5 = .ok (.invokevirtual 103, 3)) ∧ (decode cX5_give 8 = .ok (.ifCond .eq 19, 3)) ∧ (decode cX5_give 11 = .ok (.aload_n 0, 1)) ∧ (decode cX5_give 12 = .ok (.getfield 10, 3)) ∧ (decode cX5_give 15 = .ok (.iload_n 2, 1)) ∧ (decode cX5_give 16 = .ok (.invokevirtual 103, 3)) ∧ (decode cX5_give 19 = .ok (.ifCond .eq 8, 3)) ∧ (decode cX5_give 22 = .ok (.iload_n 1, 1)) ∧ (decode cX5_give 23 = .ok (.iload_n 2, 1)) := have h := dcb_190; ⟨fd_42 h, have h := fd_t1 h; ⟨fd_180 h rfl, have h := fd_t3 h; ⟨fd_27 h, have h := fd_t1 h; ⟨fd_182 h rfl, have h := fd_t3 h; ⟨fd_153 h (by decide +kernel), have h := fd_t3 h; ⟨fd_42 h, have h := fd_t1 h; ⟨fd_180 h rfl, have h := fd_t3 h; ⟨fd_28 h, have h := fd_t1 h; ⟨fd_182 h rfl, have h := fd_t3 h; ⟨fd_153 h (by decide +kernel), have h := fd_t3 h; ⟨fd_27 h, have h := fd_t1 h; fd_28 h⟩⟩⟩⟩⟩⟩⟩⟩⟩⟩⟩
theorem dX5_give_0 : decode cX5_give 0 = .ok (.aload_n 0, 1) := dcq_190.1
theorem dX5_give_1 : decode cX5_give 1 = .ok (.getfield 10, 3) := dcq_190.2.1
theorem dX5_give_4 : decode cX5_give 4 = .ok (.iload_n 1, 1) := dcq_190.2.2.1
theorem dX5_give_5 : decode cX5_give 5 = .ok (.invokevirtual 103, 3) := dcq_190.2.2.2.1
theorem dX5_give_8 : decode cX5_give 8 = .ok (.ifCond .eq 19, 3) := dcq_190.2.2.2.2.1
theorem dX5_give_11 : decode cX5_give 11 = .ok (.aload_n 0, 1) := dcq_190.2.2.2.2.2.1
theorem dX5_give_12 : decode cX5_give 12 = .ok (.getfield 10, 3) := dcq_190.2.2.2.2.2.2.1
theorem dX5_give_15 : decode cX5_give 15 = .ok (.iload_n 2, 1) := dcq_190.2.2.2.2.2.2.2.1
theorem dX5_give_16 : decode cX5_give 16 = .ok (.invokevirtual 103, 3) := dcq_190.2.2.2.2.2.2.2.2.1
theorem dX5_give_19 : decode cX5_give 19 = .ok (.ifCond .eq 8, 3) := dcq_190.2.2.2.2.2.2.2.2.2.1
theorem dX5_give_22 : decode cX5_give 22 = .ok (.iload_n 1, 1) := dcq_190.2.2.2.2.2.2.2.2.2.2.1
theorem dX5_give_23 : decode cX5_give 23 = .ok (.iload_n 2, 1) := dcq_190.2.2.2.2.2.2.2.2.2.2.2
set_option maxRecDepth 20000 in
theorem dcb_191 : fd_B cX5_give 24 [160, 0, 5, 2, 172, 42, 180, 0, 10, 180, 0, 115, 27, 46, 153, 0, 17, 42, 180, 0, 10, 180, 0, 115] := fd_o cX5_give 24 _ (by decide +kernel)
theorem dcq_191 : (decode cX5_give 24 = .ok (.if_icmp .ne 5, 3)) ∧ (decode cX5_give 27 = .ok (.iconst (-1), 1)) ∧ (decode cX5_give 28 = .ok (.ireturn, 1)) ∧ (decode cX5_give 29 = .ok (.aload_n 0, 1)) ∧ (decode cX5_give 30 = .ok (.getfield 10, 3)) ∧ (decode cX5_give 33 = .ok (.getfield 115, 3)) ∧ (decode cX5_give 36 = .ok (.iload_n 1, 1)) ∧ (decode cX5_give 37 = .ok (.iaload, 1)) ∧ (decode cX5_give 38 = .ok (.ifCond .eq 17, 3)) ∧ (decode cX5_give 41 = .ok (.aload_n 0, 1)) ∧ (decode cX5_give 42 = .ok (.getfield 10, 3)) ∧ (decode cX5_give 45 = .ok (.getfield 115, 3)) := have h := dcb_191; ⟨fd_160 h (by decide +kernel), have h := fd_t3 h; ⟨fd_2 h, have h := fd_t1 h; ⟨fd_172 h, have h := fd_t1 h; ⟨fd_42 h, have h := fd_t1 h; ⟨fd_180 h rfl, have h := fd_t3 h; ⟨fd_180 h rfl, have h := fd_t3 h; ⟨fd_27 h, have h := fd_t1 h; ⟨fd_46 h, have h := fd_t1 h; ⟨fd_153 h (by decide +kernel), have h := fd_t3 h; ⟨fd_42 h, have h := fd_t1 h; ⟨fd_180 h rfl, have h := fd_t3 h; fd_180 h rfl⟩⟩⟩⟩⟩⟩⟩⟩⟩⟩⟩
theorem dX5_give_24 : decode cX5_give 24 = .ok (.if_icmp .ne 5, 3) := dcq_191.1
theorem dX5_give_27 : decode cX5_give 27 = .ok (.iconst (-1), 1) := dcq_191.2.1
theorem dX5_give_28 : decode cX5_give 28 = .ok (.ireturn, 1) := dcq_191.2.2.1
theorem dX5_give_29 : decode cX5_give 29 = .ok (.aload_n 0, 1) := dcq_191.2.2.2.1
theorem dX5_give_30 : decode cX5_give 30 = .ok (.getfield 10, 3) := dcq_191.2.2.2.2.1
theorem dX5_give_33 : decode cX5_give 33 = .ok (.getfield 115, 3) := dcq_191.2.2.2.2.2.1
theorem dX5_give_36 : decode cX5_give 36 = .ok (.iload_n 1, 1) := dcq_191.2.2.2.2.2.2.1
theorem dX5_give_37 : decode cX5_give 37 = .ok (.iaload, 1) := dcq_191.2.2.2.2.2.2.2.1
theorem dX5_give_38 : decode cX5_give 38 = .ok (.ifCond .eq 17, 3) := dcq_191.2.2.2.2.2.2.2.2.1
theorem dX5_give_41 : decode cX5_give 41 = .ok (.aload_n 0, 1) := dcq_191.2.2.2.2.2.2.2.2.2.1
theorem dX5_give_42 : decode cX5_give 42 = .ok (.getfield 10, 3) := dcq_191.2.2.2.2.2.2.2.2.2.2.1
theorem dX5_give_45 : decode cX5_give 45 = .ok (.getfield 115, 3) := dcq_191.2.2.2.2.2.2.2.2.2.2.2
set_option maxRecDepth 20000 in
theorem dcb_192 : fd_B cX5_give 48 [28, 46, 16, 99, 161, 0, 6, 16, 253, 172, 42, 180, 0, 10, 180, 0, 115, 27, 92, 46] := fd_o cX5_give 48 _ (by decide +kernel)
theorem dcq_192 : (decode cX5_give 48 = .ok (.iload_n 2, 1)) ∧ (decode cX5_give 49 = .ok (.iaload, 1)) ∧ (decode cX5_give 50 = .ok (.bipush 99, 2)) ∧ (decode cX5_give 52 = .ok (.if_icmp .lt 6, 3)) ∧ (decode cX5_give 55 = .ok (.bipush (-3), 2)) ∧ (decode cX5_give 57 = .ok (.ireturn, 1)) ∧ (decode cX5_give 58 = .ok (.aload_n 0, 1)) ∧ (decode cX5_give 59 = .ok (.getfield 10, 3)) ∧ (decode cX5_give 62 = .ok (.getfield 115, 3)) ∧ (decode cX5_give 65 = .ok (.iload_n 1, 1)) ∧ (decode cX5_give 66 = .ok (.dup2, 1)) ∧ (decode cX5_give 67 = .ok (.iaload, 1)) := have h := dcb_192; ⟨fd_28 h, have h := fd_t1 h; ⟨fd_46 h, have h := fd_t1 h; ⟨fd_16 h (by decide +kernel), have h := fd_t2 h; ⟨fd_161 h (by decide +kernel), have h := fd_t3 h; ⟨fd_16 h (by decide +kernel), have h := fd_t2 h; ⟨fd_172 h, have h := fd_t1 h; ⟨fd_42 h, have h := fd_t1 h; ⟨fd_180 h rfl, have h := fd_t3 h; ⟨fd_180 h rfl, have h := fd_t3 h; ⟨fd_27 h, have h := fd_t1 h; ⟨fd_92 h, have h := fd_t1 h; fd_46 h⟩⟩⟩⟩⟩⟩⟩⟩⟩⟩⟩
theorem dX5_give_48 : decode cX5_give 48 = .ok (.iload_n 2, 1) := dcq_192.1
theorem dX5_give_49 : decode cX5_give 49 = .ok (.iaload, 1) := dcq_192.2.1
theorem dX5_give_50 : decode cX5_give 50 = .ok (.bipush 99, 2) := dcq_192.2.2.1
theorem dX5_give_52 : decode cX5_give 52 = .ok (.if_icmp .lt 6, 3) := dcq_192.2.2.2.1
theorem dX5_give_55 : decode cX5_give 55 = .ok (.bipush (-3), 2) := dcq_192.2.2.2.2.1
theorem dX5_give_57 : decode cX5_give 57 = .ok (.ireturn, 1) := dcq_192.2.2.2.2.2.1
theorem dX5_give_58 : decode cX5_give 58 = .ok (.aload_n 0, 1) := dcq_192.2.2.2.2.2.2.1
theorem dX5_give_59 : decode cX5_give 59 = .ok (.getfield 10, 3) := dcq_192.2.2.2.2.2.2.2.1
theorem dX5_give_62 : decode cX5_give 62 = .ok (.getfield 115, 3) := dcq_192.2.2.2.2.2.2.2.2.1
theorem dX5_give_65 : decode cX5_give 65 = .ok (.iload_n 1, 1) := dcq_192.2.2.2.2.2.2.2.2.2.1
theorem dX5_give_66 : decode cX5_give 66 = .ok (.dup2, 1) := dcq_192.2.2.2.2.2.2.2.2.2.2.1
theorem dX5_give_67 : decode cX5_give 67 = .ok (.iaload, 1) := dcq_192.2.2.2.2.2.2.2.2.2.2.2
set_option maxRecDepth 20000 in
theorem dcb_193 : fd_B cX5_give 68 [4, 100, 79, 42, 180, 0, 10, 180, 0, 115, 28, 92, 46, 4, 96, 79] := fd_o cX5_give 68 _ (by decide +kernel)
theorem dcq_193 : (decode cX5_give 68 = .ok (.iconst 1, 1)) ∧ (decode cX5_give 69 = .ok (.isub, 1)) ∧ (decode cX5_give 70 = .ok (.iastore, 1)) ∧ (decode cX5_give 71 = .ok (.aload_n 0, 1)) ∧ (decode cX5_give 72 = .ok (.getfield 10, 3)) ∧ (decode cX5_give 75 = .ok (.getfield 115, 3)) ∧ (decode cX5_give 78 = .ok (.iload_n 2, 1)) ∧ (decode cX5_give 79 = .ok (.dup2, 1)) ∧ (decode cX5_give 80 = .ok (.iaload, 1)) ∧ (decode cX5_give 81 = .ok (.iconst 1, 1)) ∧ (decode cX5_give 82 = .ok (.iadd, 1)) ∧ (decode cX5_give 83 = .ok (.iastore, 1)) := have h := dcb_193; ⟨fd_4 h, have h := fd_t1 h; ⟨fd_100 h, have h := fd_t1 h; ⟨fd_79 h, have h := fd_t1 h; ⟨fd_42 h, have h := fd_t1 h; ⟨fd_180 h rfl, have h := fd_t3 h; ⟨fd_180 h rfl, have h := fd_t3 h; ⟨fd_28 h, have h := fd_t1 h; ⟨fd_92 h, have h := fd_t1 h; ⟨fd_46 h, have h := fd_t1 h; ⟨fd_4 h, have h := fd_t1 h; ⟨fd_96 h, have h := fd_t1 h; fd_79 h⟩⟩⟩⟩⟩⟩⟩⟩⟩⟩⟩
theorem dX5_give_68 : decode cX5_give 68 = .ok (.iconst 1, 1) := dcq_193.1
theorem dX5_give_69 : decode cX5_give 69 = .ok (.isub, 1) := dcq_193.2.1
theorem dX5_give_70 : decode cX5_give 70 = .ok (.iastore, 1) := dcq_193.2.2.1
theorem dX5_give_71 : decode cX5_give 71 = .ok (.aload_n 0, 1) := dcq_193.2.2.2.1
theorem dX5_give_72 : decode cX5_give 72 = .ok (.getfield 10, 3) := dcq_193.2.2.2.2.1
theorem dX5_give_75 : decode cX5_give 75 = .ok (.getfield 115, 3) := dcq_193.2.2.2.2.2.1
theorem dX5_give_78 : decode cX5_give 78 = .ok (.iload_n 2, 1) := dcq_193.2.2.2.2.2.2.1
theorem dX5_give_79 : decode cX5_give 79 = .ok (.dup2, 1) := dcq_193.2.2.2.2.2.2.2.1
theorem dX5_give_80 : decode cX5_give 80 = .ok (.iaload, 1) := dcq_193.2.2.2.2.2.2.2.2.1
theorem dX5_give_81 : decode cX5_give 81 = .ok (.iconst 1, 1) := dcq_193.2.2.2.2.2.2.2.2.2.1
theorem dX5_give_82 : decode cX5_give 82 = .ok (.iadd, 1) := dcq_193.2.2.2.2.2.2.2.2.2.2.1
theorem dX5_give_83 : decode cX5_give 83 = .ok (.iastore, 1) := dcq_193.2.2.2.2.2.2.2.2.2.2.2
set_option maxRecDepth 20000 in
theorem dcb_194 : fd_B cX5_give 84 [42, 180, 0, 10, 180, 0, 115, 28, 46, 172] := fd_o cX5_give 84 _ (by decide +kernel)
theorem dcq_194 : (decode cX5_give 84 = .ok (.aload_n 0, 1)) ∧ (decode cX5_give 85 = .ok (.getfield 10, 3)) ∧ (decode cX5_give 88 = .ok (.getfield 115, 3)) ∧ (decode cX5_give 91 = .ok (.iload_n 2, 1)) ∧ (decode cX5_give 92 = .ok (.iaload, 1)) ∧ (decode cX5_give 93 = .ok (.ireturn, 1)) := have h := dcb_194; ⟨fd_42 h, have h := fd_t1 h; ⟨fd_180 h rfl, have h := fd_t3 h; ⟨fd_180 h rfl, have h := fd_t3 h; ⟨fd_28 h, have h := fd_t1 h; ⟨fd_46 h, have h := fd_t1 h; fd_172 h⟩⟩⟩⟩⟩
theorem dX5_give_84 : decode cX5_give 84 = .ok (.aload_n 0, 1) := dcq_194.1
theorem dX5_give_85 : decode cX5_give 85 = .ok (.getfield 10, 3) := dcq_194.2.1
theorem dX5_give_88 : decode cX5_give 88 = .ok (.getfield 115, 3) := dcq_194.2.2.1
theorem dX5_give_91 : decode cX5_give 91 = .ok (.iload_n 2, 1) := dcq_194.2.2.2.1
theorem dX5_give_92 : decode cX5_give 92 = .ok (.iaload, 1) := dcq_194.2.2.2.2.1
theorem dX5_give_93 : decode cX5_give 93 = .ok (.ireturn, 1) := dcq_194.2.2.2.2.2
set_option maxRecDepth 20000 in
theorem dcb_195 : fd_B cX5_weeks 0 [27, 4, 16, 60, 184, 0, 57, 154, 0, 5, 2, 172, 3, 61, 28, 27, 162, 0, 20] := fd_o cX5_weeks 0 _ (by decide +kernel)
theorem dcq_195 : (decode cX5_weeks 0 = .ok (.iload_n 1, 1)) ∧ (decode cX5_weeks 1 = .ok (.iconst 1, 1)) ∧ (decode cX5_weeks 2 = .ok (.bipush 60, 2)) ∧ (decode cX5_weeks 4 = .ok (.invokestatic 57, 3)) ∧ (decode cX5_weeks 7 = .ok (.ifCond .ne 5, 3)) ∧ (decode cX5_weeks 10 = .ok (.iconst (-1), 1)) ∧ (decode cX5_weeks 11 = .ok (.ireturn, 1)) ∧ (decode cX5_weeks 12 = .ok (.iconst 0, 1)) ∧ (decode cX5_weeks 13 = .ok (.istore_n 2, 1)) ∧ (decode cX5_weeks 14 = .ok (.iload_n 2, 1)) ∧ (decode cX5_weeks 15 = .ok (.iload_n 1, 1)) ∧ (decode cX5_weeks 16 = .ok (.if_icmp .ge 20, 3)) := have h := dcb_195; ⟨fd_27 h, have h := fd_t1 h; ⟨fd_4 h, have h := fd_t1 h; ⟨fd_16 h (by decide +kernel), have h := fd_t2 h; ⟨fd_184 h rfl, have h := fd_t3 h; ⟨fd_154 h (by decide +kernel), have h := fd_t3 h; ⟨fd_2 h, have h := fd_t1 h; ⟨fd_172 h, have h := fd_t1 h; ⟨fd_3 h, have h := fd_t1 h; ⟨fd_61 h, have h := fd_t1 h; ⟨fd_28 h, have h := fd_t1 h; ⟨fd_27 h, have h := fd_t1 h; fd_162 h (by decide +kernel)⟩⟩⟩⟩⟩⟩⟩⟩⟩⟩⟩
theorem dX5_weeks_0 : decode cX5_weeks 0 = .ok (.iload_n 1, 1) := dcq_195.1
theorem dX5_weeks_1 : decode cX5_weeks 1 = .ok (.iconst 1, 1) := dcq_195.2.1
theorem dX5_weeks_2 : decode cX5_weeks 2 = .ok (.bipush 60, 2) := dcq_195.2.2.1
theorem dX5_weeks_4 : decode cX5_weeks 4 = .ok (.invokestatic 57, 3) := dcq_195.2.2.2.1
theorem dX5_weeks_7 : decode cX5_weeks 7 = .ok (.ifCond .ne 5, 3) := dcq_195.2.2.2.2.1
theorem dX5_weeks_10 : decode cX5_weeks 10 = .ok (.iconst (-1), 1) := dcq_195.2.2.2.2.2.1
theorem dX5_weeks_11 : decode cX5_weeks 11 = .ok (.ireturn, 1) := dcq_195.2.2.2.2.2.2.1
theorem dX5_weeks_12 : decode cX5_weeks 12 = .ok (.iconst 0, 1) := dcq_195.2.2.2.2.2.2.2.1
theorem dX5_weeks_13 : decode cX5_weeks 13 = .ok (.istore_n 2, 1) := dcq_195.2.2.2.2.2.2.2.2.1
theorem dX5_weeks_14 : decode cX5_weeks 14 = .ok (.iload_n 2, 1) := dcq_195.2.2.2.2.2.2.2.2.2.1
theorem dX5_weeks_15 : decode cX5_weeks 15 = .ok (.iload_n 1, 1) := dcq_195.2.2.2.2.2.2.2.2.2.2.1
theorem dX5_weeks_16 : decode cX5_weeks 16 = .ok (.if_icmp .ge 20, 3) := dcq_195.2.2.2.2.2.2.2.2.2.2.2
set_option maxRecDepth 20000 in
theorem dcb_196 : fd_B cX5_weeks 19 [42, 180, 0, 10, 17, 0, 255, 182, 0, 137, 87, 132, 2, 1, 167, 255, 237, 42, 180, 0, 10, 42, 180, 0, 10, 180, 0, 115] := fd_o cX5_weeks 19 _ (by decide +kernel)
theorem dcq_196 : (decode cX5_weeks 19 = .ok (.aload_n 0, 1)) ∧ (decode cX5_weeks 20 = .ok (.getfield 10, 3)) ∧ (decode cX5_weeks 23 = .ok (.sipush 255, 3)) ∧ (decode cX5_weeks 26 = .ok (.invokevirtual 137, 3)) ∧ (decode cX5_weeks 29 = .ok (.pop, 1)) ∧ (decode cX5_weeks 30 = .ok (.iinc 2 1, 3)) ∧ (decode cX5_weeks 33 = .ok (.goto (-19), 3)) ∧ (decode cX5_weeks 36 = .ok (.aload_n 0, 1)) ∧ (decode cX5_weeks 37 = .ok (.getfield 10, 3)) ∧ (decode cX5_weeks 40 = .ok (.aload_n 0, 1)) ∧ (decode cX5_weeks 41 = .ok (.getfield 10, 3)) ∧ (decode cX5_weeks 44 = .ok (.getfield 115, 3)) := have h := dcb_196; ⟨fd_42 h, have h := fd_t1 h; ⟨fd_180 h rfl, have h := fd_t3 h; ⟨fd_17 h (by decide +kernel), have h := fd_t3 h; ⟨fd_182 h rfl, have h := fd_t3 h; ⟨fd_87 h, have h := fd_t1 h; ⟨fd_132 h rfl (by decide +kernel), have h := fd_t3 h; ⟨fd_167 h (by decide +kernel), have h := fd_t3 h; ⟨fd_42 h, have h := fd_t1 h; ⟨fd_180 h rfl, have h := fd_t3 h; ⟨fd_42 h, have h := fd_t1 h; ⟨fd_180 h rfl, have h := fd_t3 h; fd_180 h rfl⟩⟩⟩⟩⟩⟩⟩⟩⟩⟩⟩
theorem dX5_weeks_19 : decode cX5_weeks 19 = .ok (.aload_n 0, 1) := dcq_196.1
theorem dX5_weeks_20 : decode cX5_weeks 20 = .ok (.getfield 10, 3) := dcq_196.2.1
theorem dX5_weeks_23 : decode cX5_weeks 23 = .ok (.sipush 255, 3) := dcq_196.2.2.1
theorem dX5_weeks_26 : decode cX5_weeks 26 = .ok (.invokevirtual 137, 3) := dcq_196.2.2.2.1
theorem dX5_weeks_29 : decode cX5_weeks 29 = .ok (.pop, 1) := dcq_196.2.2.2.2.1
theorem dX5_weeks_30 : decode cX5_weeks 30 = .ok (.iinc 2 1, 3) := dcq_196.2.2.2.2.2.1
theorem dX5_weeks_33 : decode cX5_weeks 33 = .ok (.goto (-19), 3) := dcq_196.2.2.2.2.2.2.1
theorem dX5_weeks_36 : decode cX5_weeks 36 = .ok (.aload_n 0, 1) := dcq_196.2.2.2.2.2.2.2.1
theorem dX5_weeks_37 : decode cX5_weeks 37 = .ok (.getfield 10, 3) := dcq_196.2.2.2.2.2.2.2.2.1
theorem dX5_weeks_40 : decode cX5_weeks 40 = .ok (.aload_n 0, 1) := dcq_196.2.2.2.2.2.2.2.2.2.1
theorem dX5_weeks_41 : decode cX5_weeks 41 = .ok (.getfield 10, 3) := dcq_196.2.2.2.2.2.2.2.2.2.2.1
theorem dX5_weeks_44 : decode cX5_weeks 44 = .ok (.getfield 115, 3) := dcq_196.2.2.2.2.2.2.2.2.2.2.2
set_option maxRecDepth 20000 in
theorem dcb_197 : fd_B cX5_weeks 47 [182, 0, 140, 172] := fd_o cX5_weeks 47 _ (by decide +kernel)
theorem dcq_197 : (decode cX5_weeks 47 = .ok (.invokevirtual 140, 3)) ∧ (decode cX5_weeks 50 = .ok (.ireturn, 1)) := have h := dcb_197; ⟨fd_182 h rfl, have h := fd_t3 h; fd_172 h⟩
theorem dX5_weeks_47 : decode cX5_weeks 47 = .ok (.invokevirtual 140, 3) := dcq_197.1
theorem dX5_weeks_50 : decode cX5_weeks 50 = .ok (.ireturn, 1) := dcq_197.2
set_option maxRecDepth 20000 in
theorem dcb_198 : fd_B cX5_seed 0 [42, 180, 0, 10, 180, 0, 72, 61, 42, 180, 0, 10, 27, 181, 0, 72, 28, 172] := fd_o cX5_seed 0 _ (by decide +kernel)
theorem dcq_198 : (decode cX5_seed 0 = .ok (.aload_n 0, 1)) ∧ (decode cX5_seed 1 = .ok (.getfield 10, 3)) ∧ (decode cX5_seed 4 = .ok (.getfield 72, 3)) ∧ (decode cX5_seed 7 = .ok (.istore_n 2, 1)) ∧ (decode cX5_seed 8 = .ok (.aload_n 0, 1)) ∧ (decode cX5_seed 9 = .ok (.getfield 10, 3)) ∧ (decode cX5_seed 12 = .ok (.iload_n 1, 1)) ∧ (decode cX5_seed 13 = .ok (.putfield 72, 3)) ∧ (decode cX5_seed 16 = .ok (.iload_n 2, 1)) ∧ (decode cX5_seed 17 = .ok (.ireturn, 1)) := have h := dcb_198; ⟨fd_42 h, have h := fd_t1 h; ⟨fd_180 h rfl, have h := fd_t3 h; ⟨fd_180 h rfl, have h := fd_t3 h; ⟨fd_61 h, have h := fd_t1 h; ⟨fd_42 h, have h := fd_t1 h; ⟨fd_180 h rfl, have h := fd_t3 h; ⟨fd_27 h, have h := fd_t1 h; ⟨fd_181 h rfl, have h := fd_t3 h; ⟨fd_28 h, have h := fd_t1 h; fd_172 h⟩⟩⟩⟩⟩⟩⟩⟩⟩
theorem dX5_seed_0 : decode cX5_seed 0 = .ok (.aload_n 0, 1) := dcq_198.1
theorem dX5_seed_1 : decode cX5_seed 1 = .ok (.getfield 10, 3) := dcq_198.2.1
theorem dX5_seed_4 : decode cX5_seed 4 = .ok (.getfield 72, 3) := dcq_198.2.2.1
theorem dX5_seed_7 : decode cX5_seed 7 = .ok (.istore_n 2, 1) := dcq_198.2.2.2.1
theorem dX5_seed_8 : decode cX5_seed 8 = .ok (.aload_n 0, 1) := dcq_198.2.2.2.2.1
theorem dX5_seed_9 : decode cX5_seed 9 = .ok (.getfield 10, 3) := dcq_198.2.2.2.2.2.1
theorem dX5_seed_12 : decode cX5_seed 12 = .ok (.iload_n 1, 1) := dcq_198.2.2.2.2.2.2.1
theorem dX5_seed_13 : decode cX5_seed 13 = .ok (.putfield 72, 3) := dcq_198.2.2.2.2.2.2.2.1
theorem dX5_seed_16 : decode cX5_seed 16 = .ok (.iload_n 2, 1) := dcq_198.2.2.2.2.2.2.2.2.1
theorem dX5_seed_17 : decode cX5_seed 17 = .ok (.ireturn, 1) := dcq_198.2.2.2.2.2.2.2.2.2
set_option maxRecDepth 20000 in
theorem dcb_199 : fd_B cX5_week 0 [42, 180, 0, 10, 182, 0, 144, 172] := fd_o cX5_week 0 _ (by decide +kernel)
theorem dcq_199 : (decode cX5_week 0 = .ok (.aload_n 0, 1)) ∧ (decode cX5_week 1 = .ok (.getfield 10, 3)) ∧ (decode cX5_week 4 = .ok (.invokevirtual 144, 3)) ∧ (decode cX5_week 7 = .ok (.ireturn, 1)) := have h := dcb_199; ⟨fd_42 h, have h := fd_t1 h; ⟨fd_180 h rfl, have h := fd_t3 h; ⟨fd_182 h rfl, have h := fd_t3 h; fd_172 h⟩⟩⟩
theorem dX5_week_0 : decode cX5_week 0 = .ok (.aload_n 0, 1) := dcq_199.1
theorem dX5_week_1 : decode cX5_week 1 = .ok (.getfield 10, 3) := dcq_199.2.1
theorem dX5_week_4 : decode cX5_week 4 = .ok (.invokevirtual 144, 3) := dcq_199.2.2.1
theorem dX5_week_7 : decode cX5_week 7 = .ok (.ireturn, 1) := dcq_199.2.2.2
set_option maxRecDepth 20000 in
theorem dcb_200 : fd_B cX5_poor 0 [27, 4, 16, 30, 184, 0, 57, 154, 0, 5, 2, 172, 42, 182, 0, 148, 4, 17, 0, 255, 184, 0, 152] := fd_o cX5_poor 0 _ (by decide +kernel)
theorem dcq_200 : (decode cX5_poor 0 = .ok (.iload_n 1, 1)) ∧ (decode cX5_poor 1 = .ok (.iconst 1, 1)) ∧ (decode cX5_poor 2 = .ok (.bipush 30, 2)) ∧ (decode cX5_poor 4 = .ok (.invokestatic 57, 3)) ∧ (decode cX5_poor 7 = .ok (.ifCond .ne 5, 3)) ∧ (decode cX5_poor 10 = .ok (.iconst (-1), 1)) ∧ (decode cX5_poor 11 = .ok (.ireturn, 1)) ∧ (decode cX5_poor 12 = .ok (.aload_n 0, 1)) ∧ (decode cX5_poor 13 = .ok (.invokevirtual 148, 3)) ∧ (decode cX5_poor 16 = .ok (.iconst 1, 1)) ∧ (decode cX5_poor 17 = .ok (.sipush 255, 3)) ∧ (decode cX5_poor 20 = .ok (.invokestatic 152, 3)) := have h := dcb_200; ⟨fd_27 h, have h := fd_t1 h; ⟨fd_4 h, have h := fd_t1 h; ⟨fd_16 h (by decide +kernel), have h := fd_t2 h; ⟨fd_184 h rfl, have h := fd_t3 h; ⟨fd_154 h (by decide +kernel), have h := fd_t3 h; ⟨fd_2 h, have h := fd_t1 h; ⟨fd_172 h, have h := fd_t1 h; ⟨fd_42 h, have h := fd_t1 h; ⟨fd_182 h rfl, have h := fd_t3 h; ⟨fd_4 h, have h := fd_t1 h; ⟨fd_17 h (by decide +kernel), have h := fd_t3 h; fd_184 h rfl⟩⟩⟩⟩⟩⟩⟩⟩⟩⟩⟩
theorem dX5_poor_0 : decode cX5_poor 0 = .ok (.iload_n 1, 1) := dcq_200.1
theorem dX5_poor_1 : decode cX5_poor 1 = .ok (.iconst 1, 1) := dcq_200.2.1
theorem dX5_poor_2 : decode cX5_poor 2 = .ok (.bipush 30, 2) := dcq_200.2.2.1
theorem dX5_poor_4 : decode cX5_poor 4 = .ok (.invokestatic 57, 3) := dcq_200.2.2.2.1
theorem dX5_poor_7 : decode cX5_poor 7 = .ok (.ifCond .ne 5, 3) := dcq_200.2.2.2.2.1
theorem dX5_poor_10 : decode cX5_poor 10 = .ok (.iconst (-1), 1) := dcq_200.2.2.2.2.2.1
theorem dX5_poor_11 : decode cX5_poor 11 = .ok (.ireturn, 1) := dcq_200.2.2.2.2.2.2.1
theorem dX5_poor_12 : decode cX5_poor 12 = .ok (.aload_n 0, 1) := dcq_200.2.2.2.2.2.2.2.1
theorem dX5_poor_13 : decode cX5_poor 13 = .ok (.invokevirtual 148, 3) := dcq_200.2.2.2.2.2.2.2.2.1
theorem dX5_poor_16 : decode cX5_poor 16 = .ok (.iconst 1, 1) := dcq_200.2.2.2.2.2.2.2.2.2.1
theorem dX5_poor_17 : decode cX5_poor 17 = .ok (.sipush 255, 3) := dcq_200.2.2.2.2.2.2.2.2.2.2.1
theorem dX5_poor_20 : decode cX5_poor 20 = .ok (.invokestatic 152, 3) := dcq_200.2.2.2.2.2.2.2.2.2.2.2
