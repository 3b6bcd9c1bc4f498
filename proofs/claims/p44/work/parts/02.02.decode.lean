-- decode rows: a program laid them
set_option maxRecDepth 20000 in
theorem dcb_201 : fd_B cX5_poor 23 [61, 42, 180, 0, 10, 180, 0, 72, 62, 3, 54, 4, 3, 54, 5, 21, 5, 27, 162, 0, 39] := fd_o cX5_poor 23 _ (by decide +kernel)
theorem dcq_201 : (decode cX5_poor 23 = .ok (.istore_n 2, 1)) ∧ (decode cX5_poor 24 = .ok (.aload_n 0, 1)) ∧ (decode cX5_poor 25 = .ok (.getfield 10, 3)) ∧ (decode cX5_poor 28 = .ok (.getfield 72, 3)) ∧ (decode cX5_poor 31 = .ok (.istore_n 3, 1)) ∧ (decode cX5_poor 32 = .ok (.iconst 0, 1)) ∧ (decode cX5_poor 33 = .ok (.istore 4, 2)) ∧ (decode cX5_poor 35 = .ok (.iconst 0, 1)) ∧ (decode cX5_poor 36 = .ok (.istore 5, 2)) ∧ (decode cX5_poor 38 = .ok (.iload 5, 2)) ∧ (decode cX5_poor 40 = .ok (.iload_n 1, 1)) ∧ (decode cX5_poor 41 = .ok (.if_icmp .ge 39, 3)) := have h := dcb_201; ⟨fd_61 h, have h := fd_t1 h; ⟨fd_42 h, have h := fd_t1 h; ⟨fd_180 h rfl, have h := fd_t3 h; ⟨fd_180 h rfl, have h := fd_t3 h; ⟨fd_62 h, have h := fd_t1 h; ⟨fd_3 h, have h := fd_t1 h; ⟨fd_54 h rfl, have h := fd_t2 h; ⟨fd_3 h, have h := fd_t1 h; ⟨fd_54 h rfl, have h := fd_t2 h; ⟨fd_21 h rfl, have h := fd_t2 h; ⟨fd_27 h, have h := fd_t1 h; fd_162 h (by decide +kernel)⟩⟩⟩⟩⟩⟩⟩⟩⟩⟩⟩
theorem dX5_poor_23 : decode cX5_poor 23 = .ok (.istore_n 2, 1) := dcq_201.1
theorem dX5_poor_24 : decode cX5_poor 24 = .ok (.aload_n 0, 1) := dcq_201.2.1
theorem dX5_poor_25 : decode cX5_poor 25 = .ok (.getfield 10, 3) := dcq_201.2.2.1
theorem dX5_poor_28 : decode cX5_poor 28 = .ok (.getfield 72, 3) := dcq_201.2.2.2.1
theorem dX5_poor_31 : decode cX5_poor 31 = .ok (.istore_n 3, 1) := dcq_201.2.2.2.2.1
theorem dX5_poor_32 : decode cX5_poor 32 = .ok (.iconst 0, 1) := dcq_201.2.2.2.2.2.1
theorem dX5_poor_33 : decode cX5_poor 33 = .ok (.istore 4, 2) := dcq_201.2.2.2.2.2.2.1
theorem dX5_poor_35 : decode cX5_poor 35 = .ok (.iconst 0, 1) := dcq_201.2.2.2.2.2.2.2.1
theorem dX5_poor_36 : decode cX5_poor 36 = .ok (.istore 5, 2) := dcq_201.2.2.2.2.2.2.2.2.1
theorem dX5_poor_38 : decode cX5_poor 38 = .ok (.iload 5, 2) := dcq_201.2.2.2.2.2.2.2.2.2.1
theorem dX5_poor_40 : decode cX5_poor 40 = .ok (.iload_n 1, 1) := dcq_201.2.2.2.2.2.2.2.2.2.2.1
theorem dX5_poor_41 : decode cX5_poor 41 = .ok (.if_icmp .ge 39, 3) := dcq_201.2.2.2.2.2.2.2.2.2.2.2
set_option maxRecDepth 20000 in
theorem dcb_202 : fd_B cX5_poor 44 [42, 182, 0, 148, 58, 6, 25, 6, 29, 181, 0, 72, 25, 6, 182, 0, 144, 28, 162, 0, 6, 132, 4, 1, 25, 6] := fd_o cX5_poor 44 _ (by decide +kernel)
theorem dcq_202 : (decode cX5_poor 44 = .ok (.aload_n 0, 1)) ∧ (decode cX5_poor 45 = .ok (.invokevirtual 148, 3)) ∧ (decode cX5_poor 48 = .ok (.astore 6, 2)) ∧ (decode cX5_poor 50 = .ok (.aload 6, 2)) ∧ (decode cX5_poor 52 = .ok (.iload_n 3, 1)) ∧ (decode cX5_poor 53 = .ok (.putfield 72, 3)) ∧ (decode cX5_poor 56 = .ok (.aload 6, 2)) ∧ (decode cX5_poor 58 = .ok (.invokevirtual 144, 3)) ∧ (decode cX5_poor 61 = .ok (.iload_n 2, 1)) ∧ (decode cX5_poor 62 = .ok (.if_icmp .ge 6, 3)) ∧ (decode cX5_poor 65 = .ok (.iinc 4 1, 3)) ∧ (decode cX5_poor 68 = .ok (.aload 6, 2)) := have h := dcb_202; ⟨fd_42 h, have h := fd_t1 h; ⟨fd_182 h rfl, have h := fd_t3 h; ⟨fd_58 h rfl, have h := fd_t2 h; ⟨fd_25 h rfl, have h := fd_t2 h; ⟨fd_29 h, have h := fd_t1 h; ⟨fd_181 h rfl, have h := fd_t3 h; ⟨fd_25 h rfl, have h := fd_t2 h; ⟨fd_182 h rfl, have h := fd_t3 h; ⟨fd_28 h, have h := fd_t1 h; ⟨fd_162 h (by decide +kernel), have h := fd_t3 h; ⟨fd_132 h rfl (by decide +kernel), have h := fd_t3 h; fd_25 h rfl⟩⟩⟩⟩⟩⟩⟩⟩⟩⟩⟩
theorem dX5_poor_44 : decode cX5_poor 44 = .ok (.aload_n 0, 1) := dcq_202.1
theorem dX5_poor_45 : decode cX5_poor 45 = .ok (.invokevirtual 148, 3) := dcq_202.2.1
theorem dX5_poor_48 : decode cX5_poor 48 = .ok (.astore 6, 2) := dcq_202.2.2.1
theorem dX5_poor_50 : decode cX5_poor 50 = .ok (.aload 6, 2) := dcq_202.2.2.2.1
theorem dX5_poor_52 : decode cX5_poor 52 = .ok (.iload_n 3, 1) := dcq_202.2.2.2.2.1
theorem dX5_poor_53 : decode cX5_poor 53 = .ok (.putfield 72, 3) := dcq_202.2.2.2.2.2.1
theorem dX5_poor_56 : decode cX5_poor 56 = .ok (.aload 6, 2) := dcq_202.2.2.2.2.2.2.1
theorem dX5_poor_58 : decode cX5_poor 58 = .ok (.invokevirtual 144, 3) := dcq_202.2.2.2.2.2.2.2.1
theorem dX5_poor_61 : decode cX5_poor 61 = .ok (.iload_n 2, 1) := dcq_202.2.2.2.2.2.2.2.2.1
theorem dX5_poor_62 : decode cX5_poor 62 = .ok (.if_icmp .ge 6, 3) := dcq_202.2.2.2.2.2.2.2.2.2.1
theorem dX5_poor_65 : decode cX5_poor 65 = .ok (.iinc 4 1, 3) := dcq_202.2.2.2.2.2.2.2.2.2.2.1
theorem dX5_poor_68 : decode cX5_poor 68 = .ok (.aload 6, 2) := dcq_202.2.2.2.2.2.2.2.2.2.2.2
set_option maxRecDepth 20000 in
theorem dcb_203 : fd_B cX5_poor 70 [180, 0, 72, 62, 132, 5, 1, 167, 255, 217, 21, 4, 172] := fd_o cX5_poor 70 _ (by decide +kernel)
theorem dcq_203 : (decode cX5_poor 70 = .ok (.getfield 72, 3)) ∧ (decode cX5_poor 73 = .ok (.istore_n 3, 1)) ∧ (decode cX5_poor 74 = .ok (.iinc 5 1, 3)) ∧ (decode cX5_poor 77 = .ok (.goto (-39), 3)) ∧ (decode cX5_poor 80 = .ok (.iload 4, 2)) ∧ (decode cX5_poor 82 = .ok (.ireturn, 1)) := have h := dcb_203; ⟨fd_180 h rfl, have h := fd_t3 h; ⟨fd_62 h, have h := fd_t1 h; ⟨fd_132 h rfl (by decide +kernel), have h := fd_t3 h; ⟨fd_167 h (by decide +kernel), have h := fd_t3 h; ⟨fd_21 h rfl, have h := fd_t2 h; fd_172 h⟩⟩⟩⟩⟩
theorem dX5_poor_70 : decode cX5_poor 70 = .ok (.getfield 72, 3) := dcq_203.1
theorem dX5_poor_73 : decode cX5_poor 73 = .ok (.istore_n 3, 1) := dcq_203.2.1
theorem dX5_poor_74 : decode cX5_poor 74 = .ok (.iinc 5 1, 3) := dcq_203.2.2.1
theorem dX5_poor_77 : decode cX5_poor 77 = .ok (.goto (-39), 3) := dcq_203.2.2.2.1
theorem dX5_poor_80 : decode cX5_poor 80 = .ok (.iload 4, 2) := dcq_203.2.2.2.2.1
theorem dX5_poor_82 : decode cX5_poor 82 = .ok (.ireturn, 1) := dcq_203.2.2.2.2.2
set_option maxRecDepth 20000 in
theorem dcb_204 : fd_B cX5_state 0 [27] := fd_o cX5_state 0 _ (by decide +kernel)
theorem dX5_state_0 : decode cX5_state 0 = .ok (.iload_n 1, 1) := fd_27 dcb_204
set_option maxRecDepth 20000 in
theorem dX5_state_1 : decode cX5_state 1 = .ok (.tableswitch 108 0 5 #[39, 47, 55, 70, 85, 100], 39) := by decide +kernel
set_option maxRecDepth 20000 in
theorem dcb_205 : fd_B cX5_state 40 [42, 180, 0, 10, 180, 0, 156, 172, 42, 180, 0, 10, 180, 0, 159, 172, 42, 180, 0, 10, 42, 180, 0, 10] := fd_o cX5_state 40 _ (by decide +kernel)
theorem dcq_205 : (decode cX5_state 40 = .ok (.aload_n 0, 1)) ∧ (decode cX5_state 41 = .ok (.getfield 10, 3)) ∧ (decode cX5_state 44 = .ok (.getfield 156, 3)) ∧ (decode cX5_state 47 = .ok (.ireturn, 1)) ∧ (decode cX5_state 48 = .ok (.aload_n 0, 1)) ∧ (decode cX5_state 49 = .ok (.getfield 10, 3)) ∧ (decode cX5_state 52 = .ok (.getfield 159, 3)) ∧ (decode cX5_state 55 = .ok (.ireturn, 1)) ∧ (decode cX5_state 56 = .ok (.aload_n 0, 1)) ∧ (decode cX5_state 57 = .ok (.getfield 10, 3)) ∧ (decode cX5_state 60 = .ok (.aload_n 0, 1)) ∧ (decode cX5_state 61 = .ok (.getfield 10, 3)) := have h := dcb_205; ⟨fd_42 h, have h := fd_t1 h; ⟨fd_180 h rfl, have h := fd_t3 h; ⟨fd_180 h rfl, have h := fd_t3 h; ⟨fd_172 h, have h := fd_t1 h; ⟨fd_42 h, have h := fd_t1 h; ⟨fd_180 h rfl, have h := fd_t3 h; ⟨fd_180 h rfl, have h := fd_t3 h; ⟨fd_172 h, have h := fd_t1 h; ⟨fd_42 h, have h := fd_t1 h; ⟨fd_180 h rfl, have h := fd_t3 h; ⟨fd_42 h, have h := fd_t1 h; fd_180 h rfl⟩⟩⟩⟩⟩⟩⟩⟩⟩⟩⟩
theorem dX5_state_40 : decode cX5_state 40 = .ok (.aload_n 0, 1) := dcq_205.1
theorem dX5_state_41 : decode cX5_state 41 = .ok (.getfield 10, 3) := dcq_205.2.1
theorem dX5_state_44 : decode cX5_state 44 = .ok (.getfield 156, 3) := dcq_205.2.2.1
theorem dX5_state_47 : decode cX5_state 47 = .ok (.ireturn, 1) := dcq_205.2.2.2.1
theorem dX5_state_48 : decode cX5_state 48 = .ok (.aload_n 0, 1) := dcq_205.2.2.2.2.1
theorem dX5_state_49 : decode cX5_state 49 = .ok (.getfield 10, 3) := dcq_205.2.2.2.2.2.1
theorem dX5_state_52 : decode cX5_state 52 = .ok (.getfield 159, 3) := dcq_205.2.2.2.2.2.2.1
theorem dX5_state_55 : decode cX5_state 55 = .ok (.ireturn, 1) := dcq_205.2.2.2.2.2.2.2.1
theorem dX5_state_56 : decode cX5_state 56 = .ok (.aload_n 0, 1) := dcq_205.2.2.2.2.2.2.2.2.1
theorem dX5_state_57 : decode cX5_state 57 = .ok (.getfield 10, 3) := dcq_205.2.2.2.2.2.2.2.2.2.1
theorem dX5_state_60 : decode cX5_state 60 = .ok (.aload_n 0, 1) := dcq_205.2.2.2.2.2.2.2.2.2.2.1
theorem dX5_state_61 : decode cX5_state 61 = .ok (.getfield 10, 3) := dcq_205.2.2.2.2.2.2.2.2.2.2.2
set_option maxRecDepth 20000 in
theorem dcb_206 : fd_B cX5_state 64 [180, 0, 121, 182, 0, 140, 172, 42, 180, 0, 10, 42, 180, 0, 10, 180, 0, 115, 182, 0, 140, 172, 42, 180, 0, 10] := fd_o cX5_state 64 _ (by decide +kernel)
theorem dcq_206 : (decode cX5_state 64 = .ok (.getfield 121, 3)) ∧ (decode cX5_state 67 = .ok (.invokevirtual 140, 3)) ∧ (decode cX5_state 70 = .ok (.ireturn, 1)) ∧ (decode cX5_state 71 = .ok (.aload_n 0, 1)) ∧ (decode cX5_state 72 = .ok (.getfield 10, 3)) ∧ (decode cX5_state 75 = .ok (.aload_n 0, 1)) ∧ (decode cX5_state 76 = .ok (.getfield 10, 3)) ∧ (decode cX5_state 79 = .ok (.getfield 115, 3)) ∧ (decode cX5_state 82 = .ok (.invokevirtual 140, 3)) ∧ (decode cX5_state 85 = .ok (.ireturn, 1)) ∧ (decode cX5_state 86 = .ok (.aload_n 0, 1)) ∧ (decode cX5_state 87 = .ok (.getfield 10, 3)) := have h := dcb_206; ⟨fd_180 h rfl, have h := fd_t3 h; ⟨fd_182 h rfl, have h := fd_t3 h; ⟨fd_172 h, have h := fd_t1 h; ⟨fd_42 h, have h := fd_t1 h; ⟨fd_180 h rfl, have h := fd_t3 h; ⟨fd_42 h, have h := fd_t1 h; ⟨fd_180 h rfl, have h := fd_t3 h; ⟨fd_180 h rfl, have h := fd_t3 h; ⟨fd_182 h rfl, have h := fd_t3 h; ⟨fd_172 h, have h := fd_t1 h; ⟨fd_42 h, have h := fd_t1 h; fd_180 h rfl⟩⟩⟩⟩⟩⟩⟩⟩⟩⟩⟩
theorem dX5_state_64 : decode cX5_state 64 = .ok (.getfield 121, 3) := dcq_206.1
theorem dX5_state_67 : decode cX5_state 67 = .ok (.invokevirtual 140, 3) := dcq_206.2.1
theorem dX5_state_70 : decode cX5_state 70 = .ok (.ireturn, 1) := dcq_206.2.2.1
theorem dX5_state_71 : decode cX5_state 71 = .ok (.aload_n 0, 1) := dcq_206.2.2.2.1
theorem dX5_state_72 : decode cX5_state 72 = .ok (.getfield 10, 3) := dcq_206.2.2.2.2.1
theorem dX5_state_75 : decode cX5_state 75 = .ok (.aload_n 0, 1) := dcq_206.2.2.2.2.2.1
theorem dX5_state_76 : decode cX5_state 76 = .ok (.getfield 10, 3) := dcq_206.2.2.2.2.2.2.1
theorem dX5_state_79 : decode cX5_state 79 = .ok (.getfield 115, 3) := dcq_206.2.2.2.2.2.2.2.1
theorem dX5_state_82 : decode cX5_state 82 = .ok (.invokevirtual 140, 3) := dcq_206.2.2.2.2.2.2.2.2.1
theorem dX5_state_85 : decode cX5_state 85 = .ok (.ireturn, 1) := dcq_206.2.2.2.2.2.2.2.2.2.1
theorem dX5_state_86 : decode cX5_state 86 = .ok (.aload_n 0, 1) := dcq_206.2.2.2.2.2.2.2.2.2.2.1
theorem dX5_state_87 : decode cX5_state 87 = .ok (.getfield 10, 3) := dcq_206.2.2.2.2.2.2.2.2.2.2.2
set_option maxRecDepth 20000 in
theorem dcb_207 : fd_B cX5_state 90 [42, 180, 0, 10, 180, 0, 109, 182, 0, 140, 172, 42, 180, 0, 10, 182, 0, 162, 172, 2, 172] := fd_o cX5_state 90 _ (by decide +kernel)
theorem dcq_207 : (decode cX5_state 90 = .ok (.aload_n 0, 1)) ∧ (decode cX5_state 91 = .ok (.getfield 10, 3)) ∧ (decode cX5_state 94 = .ok (.getfield 109, 3)) ∧ (decode cX5_state 97 = .ok (.invokevirtual 140, 3)) ∧ (decode cX5_state 100 = .ok (.ireturn, 1)) ∧ (decode cX5_state 101 = .ok (.aload_n 0, 1)) ∧ (decode cX5_state 102 = .ok (.getfield 10, 3)) ∧ (decode cX5_state 105 = .ok (.invokevirtual 162, 3)) ∧ (decode cX5_state 108 = .ok (.ireturn, 1)) ∧ (decode cX5_state 109 = .ok (.iconst (-1), 1)) ∧ (decode cX5_state 110 = .ok (.ireturn, 1)) := have h := dcb_207; ⟨fd_42 h, have h := fd_t1 h; ⟨fd_180 h rfl, have h := fd_t3 h; ⟨fd_180 h rfl, have h := fd_t3 h; ⟨fd_182 h rfl, have h := fd_t3 h; ⟨fd_172 h, have h := fd_t1 h; ⟨fd_42 h, have h := fd_t1 h; ⟨fd_180 h rfl, have h := fd_t3 h; ⟨fd_182 h rfl, have h := fd_t3 h; ⟨fd_172 h, have h := fd_t1 h; ⟨fd_2 h, have h := fd_t1 h; fd_172 h⟩⟩⟩⟩⟩⟩⟩⟩⟩⟩
theorem dX5_state_90 : decode cX5_state 90 = .ok (.aload_n 0, 1) := dcq_207.1
theorem dX5_state_91 : decode cX5_state 91 = .ok (.getfield 10, 3) := dcq_207.2.1
theorem dX5_state_94 : decode cX5_state 94 = .ok (.getfield 109, 3) := dcq_207.2.2.1
theorem dX5_state_97 : decode cX5_state 97 = .ok (.invokevirtual 140, 3) := dcq_207.2.2.2.1
theorem dX5_state_100 : decode cX5_state 100 = .ok (.ireturn, 1) := dcq_207.2.2.2.2.1
theorem dX5_state_101 : decode cX5_state 101 = .ok (.aload_n 0, 1) := dcq_207.2.2.2.2.2.1
theorem dX5_state_102 : decode cX5_state 102 = .ok (.getfield 10, 3) := dcq_207.2.2.2.2.2.2.1
theorem dX5_state_105 : decode cX5_state 105 = .ok (.invokevirtual 162, 3) := dcq_207.2.2.2.2.2.2.2.1
theorem dX5_state_108 : decode cX5_state 108 = .ok (.ireturn, 1) := dcq_207.2.2.2.2.2.2.2.2.1
theorem dX5_state_109 : decode cX5_state 109 = .ok (.iconst (-1), 1) := dcq_207.2.2.2.2.2.2.2.2.2.1
theorem dX5_state_110 : decode cX5_state 110 = .ok (.ireturn, 1) := dcq_207.2.2.2.2.2.2.2.2.2.2
set_option maxRecDepth 20000 in
theorem dcb_208 : fd_B cX5_words 0 [27, 3, 16, 60, 184, 0, 57, 153, 0, 17, 42, 182, 0, 148, 27, 17, 0, 255, 184, 0, 152, 167, 0, 4, 2] := fd_o cX5_words 0 _ (by decide +kernel)
theorem dcq_208 : (decode cX5_words 0 = .ok (.iload_n 1, 1)) ∧ (decode cX5_words 1 = .ok (.iconst 0, 1)) ∧ (decode cX5_words 2 = .ok (.bipush 60, 2)) ∧ (decode cX5_words 4 = .ok (.invokestatic 57, 3)) ∧ (decode cX5_words 7 = .ok (.ifCond .eq 17, 3)) ∧ (decode cX5_words 10 = .ok (.aload_n 0, 1)) ∧ (decode cX5_words 11 = .ok (.invokevirtual 148, 3)) ∧ (decode cX5_words 14 = .ok (.iload_n 1, 1)) ∧ (decode cX5_words 15 = .ok (.sipush 255, 3)) ∧ (decode cX5_words 18 = .ok (.invokestatic 152, 3)) ∧ (decode cX5_words 21 = .ok (.goto 4, 3)) ∧ (decode cX5_words 24 = .ok (.iconst (-1), 1)) := have h := dcb_208; ⟨fd_27 h, have h := fd_t1 h; ⟨fd_3 h, have h := fd_t1 h; ⟨fd_16 h (by decide +kernel), have h := fd_t2 h; ⟨fd_184 h rfl, have h := fd_t3 h; ⟨fd_153 h (by decide +kernel), have h := fd_t3 h; ⟨fd_42 h, have h := fd_t1 h; ⟨fd_182 h rfl, have h := fd_t3 h; ⟨fd_27 h, have h := fd_t1 h; ⟨fd_17 h (by decide +kernel), have h := fd_t3 h; ⟨fd_184 h rfl, have h := fd_t3 h; ⟨fd_167 h (by decide +kernel), have h := fd_t3 h; fd_2 h⟩⟩⟩⟩⟩⟩⟩⟩⟩⟩⟩
theorem dX5_words_0 : decode cX5_words 0 = .ok (.iload_n 1, 1) := dcq_208.1
theorem dX5_words_1 : decode cX5_words 1 = .ok (.iconst 0, 1) := dcq_208.2.1
theorem dX5_words_2 : decode cX5_words 2 = .ok (.bipush 60, 2) := dcq_208.2.2.1
theorem dX5_words_4 : decode cX5_words 4 = .ok (.invokestatic 57, 3) := dcq_208.2.2.2.1
theorem dX5_words_7 : decode cX5_words 7 = .ok (.ifCond .eq 17, 3) := dcq_208.2.2.2.2.1
theorem dX5_words_10 : decode cX5_words 10 = .ok (.aload_n 0, 1) := dcq_208.2.2.2.2.2.1
theorem dX5_words_11 : decode cX5_words 11 = .ok (.invokevirtual 148, 3) := dcq_208.2.2.2.2.2.2.1
theorem dX5_words_14 : decode cX5_words 14 = .ok (.iload_n 1, 1) := dcq_208.2.2.2.2.2.2.2.1
theorem dX5_words_15 : decode cX5_words 15 = .ok (.sipush 255, 3) := dcq_208.2.2.2.2.2.2.2.2.1
theorem dX5_words_18 : decode cX5_words 18 = .ok (.invokestatic 152, 3) := dcq_208.2.2.2.2.2.2.2.2.2.1
theorem dX5_words_21 : decode cX5_words 21 = .ok (.goto 4, 3) := dcq_208.2.2.2.2.2.2.2.2.2.2.1
theorem dX5_words_24 : decode cX5_words 24 = .ok (.iconst (-1), 1) := dcq_208.2.2.2.2.2.2.2.2.2.2.2
set_option maxRecDepth 20000 in
theorem dcb_209 : fd_B cX5_words 25 [172] := fd_o cX5_words 25 _ (by decide +kernel)
theorem dX5_words_25 : decode cX5_words 25 = .ok (.ireturn, 1) := fd_172 dcb_209
set_option maxRecDepth 20000 in
theorem dcb_210 : fd_B cX5_gets 0 [42, 180, 0, 10, 27, 182, 0, 103, 154, 0, 5, 2, 172, 42, 182, 0, 148, 77, 4, 62] := fd_o cX5_gets 0 _ (by decide +kernel)
theorem dcq_210 : (decode cX5_gets 0 = .ok (.aload_n 0, 1)) ∧ (decode cX5_gets 1 = .ok (.getfield 10, 3)) ∧ (decode cX5_gets 4 = .ok (.iload_n 1, 1)) ∧ (decode cX5_gets 5 = .ok (.invokevirtual 103, 3)) ∧ (decode cX5_gets 8 = .ok (.ifCond .ne 5, 3)) ∧ (decode cX5_gets 11 = .ok (.iconst (-1), 1)) ∧ (decode cX5_gets 12 = .ok (.ireturn, 1)) ∧ (decode cX5_gets 13 = .ok (.aload_n 0, 1)) ∧ (decode cX5_gets 14 = .ok (.invokevirtual 148, 3)) ∧ (decode cX5_gets 17 = .ok (.astore_n 2, 1)) ∧ (decode cX5_gets 18 = .ok (.iconst 1, 1)) ∧ (decode cX5_gets 19 = .ok (.istore_n 3, 1)) := have h := dcb_210; ⟨fd_42 h, have h := fd_t1 h; ⟨fd_180 h rfl, have h := fd_t3 h; ⟨fd_27 h, have h := fd_t1 h; ⟨fd_182 h rfl, have h := fd_t3 h; ⟨fd_154 h (by decide +kernel), have h := fd_t3 h; ⟨fd_2 h, have h := fd_t1 h; ⟨fd_172 h, have h := fd_t1 h; ⟨fd_42 h, have h := fd_t1 h; ⟨fd_182 h rfl, have h := fd_t3 h; ⟨fd_77 h, have h := fd_t1 h; ⟨fd_4 h, have h := fd_t1 h; fd_62 h⟩⟩⟩⟩⟩⟩⟩⟩⟩⟩⟩
theorem dX5_gets_0 : decode cX5_gets 0 = .ok (.aload_n 0, 1) := dcq_210.1
theorem dX5_gets_1 : decode cX5_gets 1 = .ok (.getfield 10, 3) := dcq_210.2.1
theorem dX5_gets_4 : decode cX5_gets 4 = .ok (.iload_n 1, 1) := dcq_210.2.2.1
theorem dX5_gets_5 : decode cX5_gets 5 = .ok (.invokevirtual 103, 3) := dcq_210.2.2.2.1
theorem dX5_gets_8 : decode cX5_gets 8 = .ok (.ifCond .ne 5, 3) := dcq_210.2.2.2.2.1
theorem dX5_gets_11 : decode cX5_gets 11 = .ok (.iconst (-1), 1) := dcq_210.2.2.2.2.2.1
theorem dX5_gets_12 : decode cX5_gets 12 = .ok (.ireturn, 1) := dcq_210.2.2.2.2.2.2.1
theorem dX5_gets_13 : decode cX5_gets 13 = .ok (.aload_n 0, 1) := dcq_210.2.2.2.2.2.2.2.1
theorem dX5_gets_14 : decode cX5_gets 14 = .ok (.invokevirtual 148, 3) := dcq_210.2.2.2.2.2.2.2.2.1
theorem dX5_gets_17 : decode cX5_gets 17 = .ok (.astore_n 2, 1) := dcq_210.2.2.2.2.2.2.2.2.2.1
theorem dX5_gets_18 : decode cX5_gets 18 = .ok (.iconst 1, 1) := dcq_210.2.2.2.2.2.2.2.2.2.2.1
theorem dX5_gets_19 : decode cX5_gets 19 = .ok (.istore_n 3, 1) := dcq_210.2.2.2.2.2.2.2.2.2.2.2
set_option maxRecDepth 20000 in
theorem dcb_211 : fd_B cX5_gets 20 [29, 16, 60, 163, 0, 37, 44, 17, 0, 255, 182, 0, 137, 87, 44, 180, 0, 118, 27, 46, 42] := fd_o cX5_gets 20 _ (by decide +kernel)
theorem dcq_211 : (decode cX5_gets 20 = .ok (.iload_n 3, 1)) ∧ (decode cX5_gets 21 = .ok (.bipush 60, 2)) ∧ (decode cX5_gets 23 = .ok (.if_icmp .gt 37, 3)) ∧ (decode cX5_gets 26 = .ok (.aload_n 2, 1)) ∧ (decode cX5_gets 27 = .ok (.sipush 255, 3)) ∧ (decode cX5_gets 30 = .ok (.invokevirtual 137, 3)) ∧ (decode cX5_gets 33 = .ok (.pop, 1)) ∧ (decode cX5_gets 34 = .ok (.aload_n 2, 1)) ∧ (decode cX5_gets 35 = .ok (.getfield 118, 3)) ∧ (decode cX5_gets 38 = .ok (.iload_n 1, 1)) ∧ (decode cX5_gets 39 = .ok (.iaload, 1)) ∧ (decode cX5_gets 40 = .ok (.aload_n 0, 1)) := have h := dcb_211; ⟨fd_29 h, have h := fd_t1 h; ⟨fd_16 h (by decide +kernel), have h := fd_t2 h; ⟨fd_163 h (by decide +kernel), have h := fd_t3 h; ⟨fd_44 h, have h := fd_t1 h; ⟨fd_17 h (by decide +kernel), have h := fd_t3 h; ⟨fd_182 h rfl, have h := fd_t3 h; ⟨fd_87 h, have h := fd_t1 h; ⟨fd_44 h, have h := fd_t1 h; ⟨fd_180 h rfl, have h := fd_t3 h; ⟨fd_27 h, have h := fd_t1 h; ⟨fd_46 h, have h := fd_t1 h; fd_42 h⟩⟩⟩⟩⟩⟩⟩⟩⟩⟩⟩
theorem dX5_gets_20 : decode cX5_gets 20 = .ok (.iload_n 3, 1) := dcq_211.1
theorem dX5_gets_21 : decode cX5_gets 21 = .ok (.bipush 60, 2) := dcq_211.2.1
theorem dX5_gets_23 : decode cX5_gets 23 = .ok (.if_icmp .gt 37, 3) := dcq_211.2.2.1
theorem dX5_gets_26 : decode cX5_gets 26 = .ok (.aload_n 2, 1) := dcq_211.2.2.2.1
theorem dX5_gets_27 : decode cX5_gets 27 = .ok (.sipush 255, 3) := dcq_211.2.2.2.2.1
theorem dX5_gets_30 : decode cX5_gets 30 = .ok (.invokevirtual 137, 3) := dcq_211.2.2.2.2.2.1
theorem dX5_gets_33 : decode cX5_gets 33 = .ok (.pop, 1) := dcq_211.2.2.2.2.2.2.1
theorem dX5_gets_34 : decode cX5_gets 34 = .ok (.aload_n 2, 1) := dcq_211.2.2.2.2.2.2.2.1
theorem dX5_gets_35 : decode cX5_gets 35 = .ok (.getfield 118, 3) := dcq_211.2.2.2.2.2.2.2.2.1
theorem dX5_gets_38 : decode cX5_gets 38 = .ok (.iload_n 1, 1) := dcq_211.2.2.2.2.2.2.2.2.2.1
theorem dX5_gets_39 : decode cX5_gets 39 = .ok (.iaload, 1) := dcq_211.2.2.2.2.2.2.2.2.2.2.1
theorem dX5_gets_40 : decode cX5_gets 40 = .ok (.aload_n 0, 1) := dcq_211.2.2.2.2.2.2.2.2.2.2.2
set_option maxRecDepth 20000 in
theorem dcb_212 : fd_B cX5_gets 41 [180, 0, 10, 180, 0, 118, 27, 46, 164, 0, 5, 29, 172, 132, 3, 1, 167, 255, 219, 16, 253, 172] := fd_o cX5_gets 41 _ (by decide +kernel)
theorem dcq_212 : (decode cX5_gets 41 = .ok (.getfield 10, 3)) ∧ (decode cX5_gets 44 = .ok (.getfield 118, 3)) ∧ (decode cX5_gets 47 = .ok (.iload_n 1, 1)) ∧ (decode cX5_gets 48 = .ok (.iaload, 1)) ∧ (decode cX5_gets 49 = .ok (.if_icmp .le 5, 3)) ∧ (decode cX5_gets 52 = .ok (.iload_n 3, 1)) ∧ (decode cX5_gets 53 = .ok (.ireturn, 1)) ∧ (decode cX5_gets 54 = .ok (.iinc 3 1, 3)) ∧ (decode cX5_gets 57 = .ok (.goto (-37), 3)) ∧ (decode cX5_gets 60 = .ok (.bipush (-3), 2)) ∧ (decode cX5_gets 62 = .ok (.ireturn, 1)) := have h := dcb_212; ⟨fd_180 h rfl, have h := fd_t3 h; ⟨fd_180 h rfl, have h := fd_t3 h; ⟨fd_27 h, have h := fd_t1 h; ⟨fd_46 h, have h := fd_t1 h; ⟨fd_164 h (by decide +kernel), have h := fd_t3 h; ⟨fd_29 h, have h := fd_t1 h; ⟨fd_172 h, have h := fd_t1 h; ⟨fd_132 h rfl (by decide +kernel), have h := fd_t3 h; ⟨fd_167 h (by decide +kernel), have h := fd_t3 h; ⟨fd_16 h (by decide +kernel), have h := fd_t2 h; fd_172 h⟩⟩⟩⟩⟩⟩⟩⟩⟩⟩
theorem dX5_gets_41 : decode cX5_gets 41 = .ok (.getfield 10, 3) := dcq_212.1
theorem dX5_gets_44 : decode cX5_gets 44 = .ok (.getfield 118, 3) := dcq_212.2.1
theorem dX5_gets_47 : decode cX5_gets 47 = .ok (.iload_n 1, 1) := dcq_212.2.2.1
theorem dX5_gets_48 : decode cX5_gets 48 = .ok (.iaload, 1) := dcq_212.2.2.2.1
theorem dX5_gets_49 : decode cX5_gets 49 = .ok (.if_icmp .le 5, 3) := dcq_212.2.2.2.2.1
theorem dX5_gets_52 : decode cX5_gets 52 = .ok (.iload_n 3, 1) := dcq_212.2.2.2.2.2.1
theorem dX5_gets_53 : decode cX5_gets 53 = .ok (.ireturn, 1) := dcq_212.2.2.2.2.2.2.1
theorem dX5_gets_54 : decode cX5_gets 54 = .ok (.iinc 3 1, 3) := dcq_212.2.2.2.2.2.2.2.1
theorem dX5_gets_57 : decode cX5_gets 57 = .ok (.goto (-37), 3) := dcq_212.2.2.2.2.2.2.2.2.1
theorem dX5_gets_60 : decode cX5_gets 60 = .ok (.bipush (-3), 2) := dcq_212.2.2.2.2.2.2.2.2.2.1
theorem dX5_gets_62 : decode cX5_gets 62 = .ok (.ireturn, 1) := dcq_212.2.2.2.2.2.2.2.2.2.2
set_option maxRecDepth 20000 in
theorem dcb_213 : fd_B cX5_idle 0 [42, 182, 0, 148, 76, 3, 61, 28, 16, 60, 163, 0, 30, 43, 43, 180, 0, 115, 182, 0, 165] := fd_o cX5_idle 0 _ (by decide +kernel)
theorem dcq_213 : (decode cX5_idle 0 = .ok (.aload_n 0, 1)) ∧ (decode cX5_idle 1 = .ok (.invokevirtual 148, 3)) ∧ (decode cX5_idle 4 = .ok (.astore_n 1, 1)) ∧ (decode cX5_idle 5 = .ok (.iconst 0, 1)) ∧ (decode cX5_idle 6 = .ok (.istore_n 2, 1)) ∧ (decode cX5_idle 7 = .ok (.iload_n 2, 1)) ∧ (decode cX5_idle 8 = .ok (.bipush 60, 2)) ∧ (decode cX5_idle 10 = .ok (.if_icmp .gt 30, 3)) ∧ (decode cX5_idle 13 = .ok (.aload_n 1, 1)) ∧ (decode cX5_idle 14 = .ok (.aload_n 1, 1)) ∧ (decode cX5_idle 15 = .ok (.getfield 115, 3)) ∧ (decode cX5_idle 18 = .ok (.invokevirtual 165, 3)) := have h := dcb_213; ⟨fd_42 h, have h := fd_t1 h; ⟨fd_182 h rfl, have h := fd_t3 h; ⟨fd_76 h, have h := fd_t1 h; ⟨fd_3 h, have h := fd_t1 h; ⟨fd_61 h, have h := fd_t1 h; ⟨fd_28 h, have h := fd_t1 h; ⟨fd_16 h (by decide +kernel), have h := fd_t2 h; ⟨fd_163 h (by decide +kernel), have h := fd_t3 h; ⟨fd_43 h, have h := fd_t1 h; ⟨fd_43 h, have h := fd_t1 h; ⟨fd_180 h rfl, have h := fd_t3 h; fd_182 h rfl⟩⟩⟩⟩⟩⟩⟩⟩⟩⟩⟩
theorem dX5_idle_0 : decode cX5_idle 0 = .ok (.aload_n 0, 1) := dcq_213.1
theorem dX5_idle_1 : decode cX5_idle 1 = .ok (.invokevirtual 148, 3) := dcq_213.2.1
theorem dX5_idle_4 : decode cX5_idle 4 = .ok (.astore_n 1, 1) := dcq_213.2.2.1
theorem dX5_idle_5 : decode cX5_idle 5 = .ok (.iconst 0, 1) := dcq_213.2.2.2.1
theorem dX5_idle_6 : decode cX5_idle 6 = .ok (.istore_n 2, 1) := dcq_213.2.2.2.2.1
theorem dX5_idle_7 : decode cX5_idle 7 = .ok (.iload_n 2, 1) := dcq_213.2.2.2.2.2.1
theorem dX5_idle_8 : decode cX5_idle 8 = .ok (.bipush 60, 2) := dcq_213.2.2.2.2.2.2.1
theorem dX5_idle_10 : decode cX5_idle 10 = .ok (.if_icmp .gt 30, 3) := dcq_213.2.2.2.2.2.2.2.1
theorem dX5_idle_13 : decode cX5_idle 13 = .ok (.aload_n 1, 1) := dcq_213.2.2.2.2.2.2.2.2.1
theorem dX5_idle_14 : decode cX5_idle 14 = .ok (.aload_n 1, 1) := dcq_213.2.2.2.2.2.2.2.2.2.1
theorem dX5_idle_15 : decode cX5_idle 15 = .ok (.getfield 115, 3) := dcq_213.2.2.2.2.2.2.2.2.2.2.1
theorem dX5_idle_18 : decode cX5_idle 18 = .ok (.invokevirtual 165, 3) := dcq_213.2.2.2.2.2.2.2.2.2.2.2
set_option maxRecDepth 20000 in
theorem dcb_214 : fd_B cX5_idle 21 [154, 0, 5, 28, 172, 43, 17, 0, 255, 182, 0, 137, 87, 132, 2, 1, 167, 255, 226, 16, 253, 172] := fd_o cX5_idle 21 _ (by decide +kernel)
theorem dcq_214 : (decode cX5_idle 21 = .ok (.ifCond .ne 5, 3)) ∧ (decode cX5_idle 24 = .ok (.iload_n 2, 1)) ∧ (decode cX5_idle 25 = .ok (.ireturn, 1)) ∧ (decode cX5_idle 26 = .ok (.aload_n 1, 1)) ∧ (decode cX5_idle 27 = .ok (.sipush 255, 3)) ∧ (decode cX5_idle 30 = .ok (.invokevirtual 137, 3)) ∧ (decode cX5_idle 33 = .ok (.pop, 1)) ∧ (decode cX5_idle 34 = .ok (.iinc 2 1, 3)) ∧ (decode cX5_idle 37 = .ok (.goto (-30), 3)) ∧ (decode cX5_idle 40 = .ok (.bipush (-3), 2)) ∧ (decode cX5_idle 42 = .ok (.ireturn, 1)) := have h := dcb_214; ⟨fd_154 h (by decide +kernel), have h := fd_t3 h; ⟨fd_28 h, have h := fd_t1 h; ⟨fd_172 h, have h := fd_t1 h; ⟨fd_43 h, have h := fd_t1 h; ⟨fd_17 h (by decide +kernel), have h := fd_t3 h; ⟨fd_182 h rfl, have h := fd_t3 h; ⟨fd_87 h, have h := fd_t1 h; ⟨fd_132 h rfl (by decide +kernel), have h := fd_t3 h; ⟨fd_167 h (by decide +kernel), have h := fd_t3 h; ⟨fd_16 h (by decide +kernel), have h := fd_t2 h; fd_172 h⟩⟩⟩⟩⟩⟩⟩⟩⟩⟩
theorem dX5_idle_21 : decode cX5_idle 21 = .ok (.ifCond .ne 5, 3) := dcq_214.1
theorem dX5_idle_24 : decode cX5_idle 24 = .ok (.iload_n 2, 1) := dcq_214.2.1
theorem dX5_idle_25 : decode cX5_idle 25 = .ok (.ireturn, 1) := dcq_214.2.2.1
theorem dX5_idle_26 : decode cX5_idle 26 = .ok (.aload_n 1, 1) := dcq_214.2.2.2.1
theorem dX5_idle_27 : decode cX5_idle 27 = .ok (.sipush 255, 3) := dcq_214.2.2.2.2.1
theorem dX5_idle_30 : decode cX5_idle 30 = .ok (.invokevirtual 137, 3) := dcq_214.2.2.2.2.2.1
theorem dX5_idle_33 : decode cX5_idle 33 = .ok (.pop, 1) := dcq_214.2.2.2.2.2.2.1
theorem dX5_idle_34 : decode cX5_idle 34 = .ok (.iinc 2 1, 3) := dcq_214.2.2.2.2.2.2.2.1
theorem dX5_idle_37 : decode cX5_idle 37 = .ok (.goto (-30), 3) := dcq_214.2.2.2.2.2.2.2.2.1
theorem dX5_idle_40 : decode cX5_idle 40 = .ok (.bipush (-3), 2) := dcq_214.2.2.2.2.2.2.2.2.2.1
theorem dX5_idle_42 : decode cX5_idle 42 = .ok (.ireturn, 1) := dcq_214.2.2.2.2.2.2.2.2.2.2
set_option maxRecDepth 20000 in
theorem dcb_215 : fd_B cX5_vanFor 0 [27, 4, 16, 20, 184, 0, 57, 153, 0, 14, 28, 3, 17, 39, 15, 184, 0, 57, 154, 0, 5, 2, 172] := fd_o cX5_vanFor 0 _ (by decide +kernel)
theorem dcq_215 : (decode cX5_vanFor 0 = .ok (.iload_n 1, 1)) ∧ (decode cX5_vanFor 1 = .ok (.iconst 1, 1)) ∧ (decode cX5_vanFor 2 = .ok (.bipush 20, 2)) ∧ (decode cX5_vanFor 4 = .ok (.invokestatic 57, 3)) ∧ (decode cX5_vanFor 7 = .ok (.ifCond .eq 14, 3)) ∧ (decode cX5_vanFor 10 = .ok (.iload_n 2, 1)) ∧ (decode cX5_vanFor 11 = .ok (.iconst 0, 1)) ∧ (decode cX5_vanFor 12 = .ok (.sipush 9999, 3)) ∧ (decode cX5_vanFor 15 = .ok (.invokestatic 57, 3)) ∧ (decode cX5_vanFor 18 = .ok (.ifCond .ne 5, 3)) ∧ (decode cX5_vanFor 21 = .ok (.iconst (-1), 1)) ∧ (decode cX5_vanFor 22 = .ok (.ireturn, 1)) := have h := dcb_215; ⟨fd_27 h, have h := fd_t1 h; ⟨fd_4 h, have h := fd_t1 h; ⟨fd_16 h (by decide +kernel), have h := fd_t2 h; ⟨fd_184 h rfl, have h := fd_t3 h; ⟨fd_153 h (by decide +kernel), have h := fd_t3 h; ⟨fd_28 h, have h := fd_t1 h; ⟨fd_3 h, have h := fd_t1 h; ⟨fd_17 h (by decide +kernel), have h := fd_t3 h; ⟨fd_184 h rfl, have h := fd_t3 h; ⟨fd_154 h (by decide +kernel), have h := fd_t3 h; ⟨fd_2 h, have h := fd_t1 h; fd_172 h⟩⟩⟩⟩⟩⟩⟩⟩⟩⟩⟩
theorem dX5_vanFor_0 : decode cX5_vanFor 0 = .ok (.iload_n 1, 1) := dcq_215.1
theorem dX5_vanFor_1 : decode cX5_vanFor 1 = .ok (.iconst 1, 1) := dcq_215.2.1
theorem dX5_vanFor_2 : decode cX5_vanFor 2 = .ok (.bipush 20, 2) := dcq_215.2.2.1
theorem dX5_vanFor_4 : decode cX5_vanFor 4 = .ok (.invokestatic 57, 3) := dcq_215.2.2.2.1
theorem dX5_vanFor_7 : decode cX5_vanFor 7 = .ok (.ifCond .eq 14, 3) := dcq_215.2.2.2.2.1
theorem dX5_vanFor_10 : decode cX5_vanFor 10 = .ok (.iload_n 2, 1) := dcq_215.2.2.2.2.2.1
theorem dX5_vanFor_11 : decode cX5_vanFor 11 = .ok (.iconst 0, 1) := dcq_215.2.2.2.2.2.2.1
theorem dX5_vanFor_12 : decode cX5_vanFor 12 = .ok (.sipush 9999, 3) := dcq_215.2.2.2.2.2.2.2.1
theorem dX5_vanFor_15 : decode cX5_vanFor 15 = .ok (.invokestatic 57, 3) := dcq_215.2.2.2.2.2.2.2.2.1
theorem dX5_vanFor_18 : decode cX5_vanFor 18 = .ok (.ifCond .ne 5, 3) := dcq_215.2.2.2.2.2.2.2.2.2.1
theorem dX5_vanFor_21 : decode cX5_vanFor 21 = .ok (.iconst (-1), 1) := dcq_215.2.2.2.2.2.2.2.2.2.2.1
theorem dX5_vanFor_22 : decode cX5_vanFor 22 = .ok (.ireturn, 1) := dcq_215.2.2.2.2.2.2.2.2.2.2.2
set_option maxRecDepth 20000 in
theorem dcb_216 : fd_B cX5_vanFor 23 [3, 62, 29, 178, 0, 89, 3, 46, 163, 0, 38, 42, 182, 0, 148, 58, 4, 25, 4, 180, 0, 92] := fd_o cX5_vanFor 23 _ (by decide +kernel)
theorem dcq_216 : (decode cX5_vanFor 23 = .ok (.iconst 0, 1)) ∧ (decode cX5_vanFor 24 = .ok (.istore_n 3, 1)) ∧ (decode cX5_vanFor 25 = .ok (.iload_n 3, 1)) ∧ (decode cX5_vanFor 26 = .ok (.getstatic 89, 3)) ∧ (decode cX5_vanFor 29 = .ok (.iconst 0, 1)) ∧ (decode cX5_vanFor 30 = .ok (.iaload, 1)) ∧ (decode cX5_vanFor 31 = .ok (.if_icmp .gt 38, 3)) ∧ (decode cX5_vanFor 34 = .ok (.aload_n 0, 1)) ∧ (decode cX5_vanFor 35 = .ok (.invokevirtual 148, 3)) ∧ (decode cX5_vanFor 38 = .ok (.astore 4, 2)) ∧ (decode cX5_vanFor 40 = .ok (.aload 4, 2)) ∧ (decode cX5_vanFor 42 = .ok (.getfield 92, 3)) := have h := dcb_216; ⟨fd_3 h, have h := fd_t1 h; ⟨fd_62 h, have h := fd_t1 h; ⟨fd_29 h, have h := fd_t1 h; ⟨fd_178 h rfl, have h := fd_t3 h; ⟨fd_3 h, have h := fd_t1 h; ⟨fd_46 h, have h := fd_t1 h; ⟨fd_163 h (by decide +kernel), have h := fd_t3 h; ⟨fd_42 h, have h := fd_t1 h; ⟨fd_182 h rfl, have h := fd_t3 h; ⟨fd_58 h rfl, have h := fd_t2 h; ⟨fd_25 h rfl, have h := fd_t2 h; fd_180 h rfl⟩⟩⟩⟩⟩⟩⟩⟩⟩⟩⟩
theorem dX5_vanFor_23 : decode cX5_vanFor 23 = .ok (.iconst 0, 1) := dcq_216.1
theorem dX5_vanFor_24 : decode cX5_vanFor 24 = .ok (.istore_n 3, 1) := dcq_216.2.1
theorem dX5_vanFor_25 : decode cX5_vanFor 25 = .ok (.iload_n 3, 1) := dcq_216.2.2.1
theorem dX5_vanFor_26 : decode cX5_vanFor 26 = .ok (.getstatic 89, 3) := dcq_216.2.2.2.1
theorem dX5_vanFor_29 : decode cX5_vanFor 29 = .ok (.iconst 0, 1) := dcq_216.2.2.2.2.1
theorem dX5_vanFor_30 : decode cX5_vanFor 30 = .ok (.iaload, 1) := dcq_216.2.2.2.2.2.1
theorem dX5_vanFor_31 : decode cX5_vanFor 31 = .ok (.if_icmp .gt 38, 3) := dcq_216.2.2.2.2.2.2.1
theorem dX5_vanFor_34 : decode cX5_vanFor 34 = .ok (.aload_n 0, 1) := dcq_216.2.2.2.2.2.2.2.1
theorem dX5_vanFor_35 : decode cX5_vanFor 35 = .ok (.invokevirtual 148, 3) := dcq_216.2.2.2.2.2.2.2.2.1
theorem dX5_vanFor_38 : decode cX5_vanFor 38 = .ok (.astore 4, 2) := dcq_216.2.2.2.2.2.2.2.2.2.1
theorem dX5_vanFor_40 : decode cX5_vanFor 40 = .ok (.aload 4, 2) := dcq_216.2.2.2.2.2.2.2.2.2.2.1
theorem dX5_vanFor_42 : decode cX5_vanFor 42 = .ok (.getfield 92, 3) := dcq_216.2.2.2.2.2.2.2.2.2.2.2
set_option maxRecDepth 20000 in
theorem dcb_217 : fd_B cX5_vanFor 45 [3, 29, 79, 25, 4, 27, 17, 0, 255, 184, 0, 152, 28, 161, 0, 5, 29, 172, 132, 3, 1] := fd_o cX5_vanFor 45 _ (by decide +kernel)
theorem dcq_217 : (decode cX5_vanFor 45 = .ok (.iconst 0, 1)) ∧ (decode cX5_vanFor 46 = .ok (.iload_n 3, 1)) ∧ (decode cX5_vanFor 47 = .ok (.iastore, 1)) ∧ (decode cX5_vanFor 48 = .ok (.aload 4, 2)) ∧ (decode cX5_vanFor 50 = .ok (.iload_n 1, 1)) ∧ (decode cX5_vanFor 51 = .ok (.sipush 255, 3)) ∧ (decode cX5_vanFor 54 = .ok (.invokestatic 152, 3)) ∧ (decode cX5_vanFor 57 = .ok (.iload_n 2, 1)) ∧ (decode cX5_vanFor 58 = .ok (.if_icmp .lt 5, 3)) ∧ (decode cX5_vanFor 61 = .ok (.iload_n 3, 1)) ∧ (decode cX5_vanFor 62 = .ok (.ireturn, 1)) ∧ (decode cX5_vanFor 63 = .ok (.iinc 3 1, 3)) := have h := dcb_217; ⟨fd_3 h, have h := fd_t1 h; ⟨fd_29 h, have h := fd_t1 h; ⟨fd_79 h, have h := fd_t1 h; ⟨fd_25 h rfl, have h := fd_t2 h; ⟨fd_27 h, have h := fd_t1 h; ⟨fd_17 h (by decide +kernel), have h := fd_t3 h; ⟨fd_184 h rfl, have h := fd_t3 h; ⟨fd_28 h, have h := fd_t1 h; ⟨fd_161 h (by decide +kernel), have h := fd_t3 h; ⟨fd_29 h, have h := fd_t1 h; ⟨fd_172 h, have h := fd_t1 h; fd_132 h rfl (by decide +kernel)⟩⟩⟩⟩⟩⟩⟩⟩⟩⟩⟩
theorem dX5_vanFor_45 : decode cX5_vanFor 45 = .ok (.iconst 0, 1) := dcq_217.1
theorem dX5_vanFor_46 : decode cX5_vanFor 46 = .ok (.iload_n 3, 1) := dcq_217.2.1
theorem dX5_vanFor_47 : decode cX5_vanFor 47 = .ok (.iastore, 1) := dcq_217.2.2.1
theorem dX5_vanFor_48 : decode cX5_vanFor 48 = .ok (.aload 4, 2) := dcq_217.2.2.2.1
theorem dX5_vanFor_50 : decode cX5_vanFor 50 = .ok (.iload_n 1, 1) := dcq_217.2.2.2.2.1
theorem dX5_vanFor_51 : decode cX5_vanFor 51 = .ok (.sipush 255, 3) := dcq_217.2.2.2.2.2.1
theorem dX5_vanFor_54 : decode cX5_vanFor 54 = .ok (.invokestatic 152, 3) := dcq_217.2.2.2.2.2.2.1
theorem dX5_vanFor_57 : decode cX5_vanFor 57 = .ok (.iload_n 2, 1) := dcq_217.2.2.2.2.2.2.2.1
theorem dX5_vanFor_58 : decode cX5_vanFor 58 = .ok (.if_icmp .lt 5, 3) := dcq_217.2.2.2.2.2.2.2.2.1
theorem dX5_vanFor_61 : decode cX5_vanFor 61 = .ok (.iload_n 3, 1) := dcq_217.2.2.2.2.2.2.2.2.2.1
theorem dX5_vanFor_62 : decode cX5_vanFor 62 = .ok (.ireturn, 1) := dcq_217.2.2.2.2.2.2.2.2.2.2.1
theorem dX5_vanFor_63 : decode cX5_vanFor 63 = .ok (.iinc 3 1, 3) := dcq_217.2.2.2.2.2.2.2.2.2.2.2
set_option maxRecDepth 20000 in
theorem dcb_218 : fd_B cX5_vanFor 66 [167, 255, 215, 16, 253, 172] := fd_o cX5_vanFor 66 _ (by decide +kernel)
theorem dcq_218 : (decode cX5_vanFor 66 = .ok (.goto (-41), 3)) ∧ (decode cX5_vanFor 69 = .ok (.bipush (-3), 2)) ∧ (decode cX5_vanFor 71 = .ok (.ireturn, 1)) := have h := dcb_218; ⟨fd_167 h (by decide +kernel), have h := fd_t3 h; ⟨fd_16 h (by decide +kernel), have h := fd_t2 h; fd_172 h⟩⟩
theorem dX5_vanFor_66 : decode cX5_vanFor 66 = .ok (.goto (-41), 3) := dcq_218.1
theorem dX5_vanFor_69 : decode cX5_vanFor 69 = .ok (.bipush (-3), 2) := dcq_218.2.1
theorem dX5_vanFor_71 : decode cX5_vanFor 71 = .ok (.ireturn, 1) := dcq_218.2.2
set_option maxRecDepth 20000 in
theorem dcb_219 : fd_B cX5_kindFor 0 [42, 180, 0, 10, 27, 182, 0, 103, 153, 0, 13, 28, 4, 16, 20, 184, 0, 57, 154, 0, 5, 2, 172] := fd_o cX5_kindFor 0 _ (by decide +kernel)
theorem dcq_219 : (decode cX5_kindFor 0 = .ok (.aload_n 0, 1)) ∧ (decode cX5_kindFor 1 = .ok (.getfield 10, 3)) ∧ (decode cX5_kindFor 4 = .ok (.iload_n 1, 1)) ∧ (decode cX5_kindFor 5 = .ok (.invokevirtual 103, 3)) ∧ (decode cX5_kindFor 8 = .ok (.ifCond .eq 13, 3)) ∧ (decode cX5_kindFor 11 = .ok (.iload_n 2, 1)) ∧ (decode cX5_kindFor 12 = .ok (.iconst 1, 1)) ∧ (decode cX5_kindFor 13 = .ok (.bipush 20, 2)) ∧ (decode cX5_kindFor 15 = .ok (.invokestatic 57, 3)) ∧ (decode cX5_kindFor 18 = .ok (.ifCond .ne 5, 3)) ∧ (decode cX5_kindFor 21 = .ok (.iconst (-1), 1)) ∧ (decode cX5_kindFor 22 = .ok (.ireturn, 1)) := have h := dcb_219; ⟨fd_42 h, have h := fd_t1 h; ⟨fd_180 h rfl, have h := fd_t3 h; ⟨fd_27 h, have h := fd_t1 h; ⟨fd_182 h rfl, have h := fd_t3 h; ⟨fd_153 h (by decide +kernel), have h := fd_t3 h; ⟨fd_28 h, have h := fd_t1 h; ⟨fd_4 h, have h := fd_t1 h; ⟨fd_16 h (by decide +kernel), have h := fd_t2 h; ⟨fd_184 h rfl, have h := fd_t3 h; ⟨fd_154 h (by decide +kernel), have h := fd_t3 h; ⟨fd_2 h, have h := fd_t1 h; fd_172 h⟩⟩⟩⟩⟩⟩⟩⟩⟩⟩⟩
theorem dX5_kindFor_0 : decode cX5_kindFor 0 = .ok (.aload_n 0, 1) := dcq_219.1
theorem dX5_kindFor_1 : decode cX5_kindFor 1 = .ok (.getfield 10, 3) := dcq_219.2.1
theorem dX5_kindFor_4 : decode cX5_kindFor 4 = .ok (.iload_n 1, 1) := dcq_219.2.2.1
theorem dX5_kindFor_5 : decode cX5_kindFor 5 = .ok (.invokevirtual 103, 3) := dcq_219.2.2.2.1
theorem dX5_kindFor_8 : decode cX5_kindFor 8 = .ok (.ifCond .eq 13, 3) := dcq_219.2.2.2.2.1
theorem dX5_kindFor_11 : decode cX5_kindFor 11 = .ok (.iload_n 2, 1) := dcq_219.2.2.2.2.2.1
theorem dX5_kindFor_12 : decode cX5_kindFor 12 = .ok (.iconst 1, 1) := dcq_219.2.2.2.2.2.2.1
theorem dX5_kindFor_13 : decode cX5_kindFor 13 = .ok (.bipush 20, 2) := dcq_219.2.2.2.2.2.2.2.1
theorem dX5_kindFor_15 : decode cX5_kindFor 15 = .ok (.invokestatic 57, 3) := dcq_219.2.2.2.2.2.2.2.2.1
theorem dX5_kindFor_18 : decode cX5_kindFor 18 = .ok (.ifCond .ne 5, 3) := dcq_219.2.2.2.2.2.2.2.2.2.1
theorem dX5_kindFor_21 : decode cX5_kindFor 21 = .ok (.iconst (-1), 1) := dcq_219.2.2.2.2.2.2.2.2.2.2.1
theorem dX5_kindFor_22 : decode cX5_kindFor 22 = .ok (.ireturn, 1) := dcq_219.2.2.2.2.2.2.2.2.2.2.2
set_option maxRecDepth 20000 in
theorem dcb_220 : fd_B cX5_kindFor 23 [3, 62, 2, 54, 4, 3, 54, 5, 21, 5, 8, 163, 0, 49, 42, 182, 0, 148, 58, 6] := fd_o cX5_kindFor 23 _ (by decide +kernel)
theorem dcq_220 : (decode cX5_kindFor 23 = .ok (.iconst 0, 1)) ∧ (decode cX5_kindFor 24 = .ok (.istore_n 3, 1)) ∧ (decode cX5_kindFor 25 = .ok (.iconst (-1), 1)) ∧ (decode cX5_kindFor 26 = .ok (.istore 4, 2)) ∧ (decode cX5_kindFor 28 = .ok (.iconst 0, 1)) ∧ (decode cX5_kindFor 29 = .ok (.istore 5, 2)) ∧ (decode cX5_kindFor 31 = .ok (.iload 5, 2)) ∧ (decode cX5_kindFor 33 = .ok (.iconst 5, 1)) ∧ (decode cX5_kindFor 34 = .ok (.if_icmp .gt 49, 3)) ∧ (decode cX5_kindFor 37 = .ok (.aload_n 0, 1)) ∧ (decode cX5_kindFor 38 = .ok (.invokevirtual 148, 3)) ∧ (decode cX5_kindFor 41 = .ok (.astore 6, 2)) := have h := dcb_220; ⟨fd_3 h, have h := fd_t1 h; ⟨fd_62 h, have h := fd_t1 h; ⟨fd_2 h, have h := fd_t1 h; ⟨fd_54 h rfl, have h := fd_t2 h; ⟨fd_3 h, have h := fd_t1 h; ⟨fd_54 h rfl, have h := fd_t2 h; ⟨fd_21 h rfl, have h := fd_t2 h; ⟨fd_8 h, have h := fd_t1 h; ⟨fd_163 h (by decide +kernel), have h := fd_t3 h; ⟨fd_42 h, have h := fd_t1 h; ⟨fd_182 h rfl, have h := fd_t3 h; fd_58 h rfl⟩⟩⟩⟩⟩⟩⟩⟩⟩⟩⟩
theorem dX5_kindFor_23 : decode cX5_kindFor 23 = .ok (.iconst 0, 1) := dcq_220.1
theorem dX5_kindFor_24 : decode cX5_kindFor 24 = .ok (.istore_n 3, 1) := dcq_220.2.1
theorem dX5_kindFor_25 : decode cX5_kindFor 25 = .ok (.iconst (-1), 1) := dcq_220.2.2.1
theorem dX5_kindFor_26 : decode cX5_kindFor 26 = .ok (.istore 4, 2) := dcq_220.2.2.2.1
theorem dX5_kindFor_28 : decode cX5_kindFor 28 = .ok (.iconst 0, 1) := dcq_220.2.2.2.2.1
theorem dX5_kindFor_29 : decode cX5_kindFor 29 = .ok (.istore 5, 2) := dcq_220.2.2.2.2.2.1
theorem dX5_kindFor_31 : decode cX5_kindFor 31 = .ok (.iload 5, 2) := dcq_220.2.2.2.2.2.2.1
theorem dX5_kindFor_33 : decode cX5_kindFor 33 = .ok (.iconst 5, 1) := dcq_220.2.2.2.2.2.2.2.1
theorem dX5_kindFor_34 : decode cX5_kindFor 34 = .ok (.if_icmp .gt 49, 3) := dcq_220.2.2.2.2.2.2.2.2.1
theorem dX5_kindFor_37 : decode cX5_kindFor 37 = .ok (.aload_n 0, 1) := dcq_220.2.2.2.2.2.2.2.2.2.1
theorem dX5_kindFor_38 : decode cX5_kindFor 38 = .ok (.invokevirtual 148, 3) := dcq_220.2.2.2.2.2.2.2.2.2.2.1
theorem dX5_kindFor_41 : decode cX5_kindFor 41 = .ok (.astore 6, 2) := dcq_220.2.2.2.2.2.2.2.2.2.2.2
set_option maxRecDepth 20000 in
theorem dcb_221 : fd_B cX5_kindFor 43 [25, 6, 180, 0, 106, 27, 21, 5, 79, 25, 6, 28, 17, 0, 255, 184, 0, 152, 54, 7, 21, 7, 21, 4] := fd_o cX5_kindFor 43 _ (by decide +kernel)
theorem dcq_221 : (decode cX5_kindFor 43 = .ok (.aload 6, 2)) ∧ (decode cX5_kindFor 45 = .ok (.getfield 106, 3)) ∧ (decode cX5_kindFor 48 = .ok (.iload_n 1, 1)) ∧ (decode cX5_kindFor 49 = .ok (.iload 5, 2)) ∧ (decode cX5_kindFor 51 = .ok (.iastore, 1)) ∧ (decode cX5_kindFor 52 = .ok (.aload 6, 2)) ∧ (decode cX5_kindFor 54 = .ok (.iload_n 2, 1)) ∧ (decode cX5_kindFor 55 = .ok (.sipush 255, 3)) ∧ (decode cX5_kindFor 58 = .ok (.invokestatic 152, 3)) ∧ (decode cX5_kindFor 61 = .ok (.istore 7, 2)) ∧ (decode cX5_kindFor 63 = .ok (.iload 7, 2)) ∧ (decode cX5_kindFor 65 = .ok (.iload 4, 2)) := have h := dcb_221; ⟨fd_25 h rfl, have h := fd_t2 h; ⟨fd_180 h rfl, have h := fd_t3 h; ⟨fd_27 h, have h := fd_t1 h; ⟨fd_21 h rfl, have h := fd_t2 h; ⟨fd_79 h, have h := fd_t1 h; ⟨fd_25 h rfl, have h := fd_t2 h; ⟨fd_28 h, have h := fd_t1 h; ⟨fd_17 h (by decide +kernel), have h := fd_t3 h; ⟨fd_184 h rfl, have h := fd_t3 h; ⟨fd_54 h rfl, have h := fd_t2 h; ⟨fd_21 h rfl, have h := fd_t2 h; fd_21 h rfl⟩⟩⟩⟩⟩⟩⟩⟩⟩⟩⟩
theorem dX5_kindFor_43 : decode cX5_kindFor 43 = .ok (.aload 6, 2) := dcq_221.1
theorem dX5_kindFor_45 : decode cX5_kindFor 45 = .ok (.getfield 106, 3) := dcq_221.2.1
theorem dX5_kindFor_48 : decode cX5_kindFor 48 = .ok (.iload_n 1, 1) := dcq_221.2.2.1
theorem dX5_kindFor_49 : decode cX5_kindFor 49 = .ok (.iload 5, 2) := dcq_221.2.2.2.1
theorem dX5_kindFor_51 : decode cX5_kindFor 51 = .ok (.iastore, 1) := dcq_221.2.2.2.2.1
theorem dX5_kindFor_52 : decode cX5_kindFor 52 = .ok (.aload 6, 2) := dcq_221.2.2.2.2.2.1
theorem dX5_kindFor_54 : decode cX5_kindFor 54 = .ok (.iload_n 2, 1) := dcq_221.2.2.2.2.2.2.1
theorem dX5_kindFor_55 : decode cX5_kindFor 55 = .ok (.sipush 255, 3) := dcq_221.2.2.2.2.2.2.2.1
theorem dX5_kindFor_58 : decode cX5_kindFor 58 = .ok (.invokestatic 152, 3) := dcq_221.2.2.2.2.2.2.2.2.1
theorem dX5_kindFor_61 : decode cX5_kindFor 61 = .ok (.istore 7, 2) := dcq_221.2.2.2.2.2.2.2.2.2.1
theorem dX5_kindFor_63 : decode cX5_kindFor 63 = .ok (.iload 7, 2) := dcq_221.2.2.2.2.2.2.2.2.2.2.1
theorem dX5_kindFor_65 : decode cX5_kindFor 65 = .ok (.iload 4, 2) := dcq_221.2.2.2.2.2.2.2.2.2.2.2
set_option maxRecDepth 20000 in
theorem dcb_222 : fd_B cX5_kindFor 67 [164, 0, 10, 21, 7, 54, 4, 21, 5, 62, 132, 5, 1, 167, 255, 207, 29, 172] := fd_o cX5_kindFor 67 _ (by decide +kernel)
theorem dcq_222 : (decode cX5_kindFor 67 = .ok (.if_icmp .le 10, 3)) ∧ (decode cX5_kindFor 70 = .ok (.iload 7, 2)) ∧ (decode cX5_kindFor 72 = .ok (.istore 4, 2)) ∧ (decode cX5_kindFor 74 = .ok (.iload 5, 2)) ∧ (decode cX5_kindFor 76 = .ok (.istore_n 3, 1)) ∧ (decode cX5_kindFor 77 = .ok (.iinc 5 1, 3)) ∧ (decode cX5_kindFor 80 = .ok (.goto (-49), 3)) ∧ (decode cX5_kindFor 83 = .ok (.iload_n 3, 1)) ∧ (decode cX5_kindFor 84 = .ok (.ireturn, 1)) := have h := dcb_222; ⟨fd_164 h (by decide +kernel), have h := fd_t3 h; ⟨fd_21 h rfl, have h := fd_t2 h; ⟨fd_54 h rfl, have h := fd_t2 h; ⟨fd_21 h rfl, have h := fd_t2 h; ⟨fd_62 h, have h := fd_t1 h; ⟨fd_132 h rfl (by decide +kernel), have h := fd_t3 h; ⟨fd_167 h (by decide +kernel), have h := fd_t3 h; ⟨fd_29 h, have h := fd_t1 h; fd_172 h⟩⟩⟩⟩⟩⟩⟩⟩
theorem dX5_kindFor_67 : decode cX5_kindFor 67 = .ok (.if_icmp .le 10, 3) := dcq_222.1
theorem dX5_kindFor_70 : decode cX5_kindFor 70 = .ok (.iload 7, 2) := dcq_222.2.1
theorem dX5_kindFor_72 : decode cX5_kindFor 72 = .ok (.istore 4, 2) := dcq_222.2.2.1
theorem dX5_kindFor_74 : decode cX5_kindFor 74 = .ok (.iload 5, 2) := dcq_222.2.2.2.1
theorem dX5_kindFor_76 : decode cX5_kindFor 76 = .ok (.istore_n 3, 1) := dcq_222.2.2.2.2.1
theorem dX5_kindFor_77 : decode cX5_kindFor 77 = .ok (.iinc 5 1, 3) := dcq_222.2.2.2.2.2.1
theorem dX5_kindFor_80 : decode cX5_kindFor 80 = .ok (.goto (-49), 3) := dcq_222.2.2.2.2.2.2.1
theorem dX5_kindFor_83 : decode cX5_kindFor 83 = .ok (.iload_n 3, 1) := dcq_222.2.2.2.2.2.2.2.1
theorem dX5_kindFor_84 : decode cX5_kindFor 84 = .ok (.ireturn, 1) := dcq_222.2.2.2.2.2.2.2.2
set_option maxRecDepth 20000 in
theorem dcb_223 : fd_B cX5_thoughtFor 0 [42, 180, 0, 10, 27, 182, 0, 103, 153, 0, 13, 28, 4, 16, 20, 184, 0, 57, 154, 0, 5, 2, 172] := fd_o cX5_thoughtFor 0 _ (by decide +kernel)
theorem dcq_223 : (decode cX5_thoughtFor 0 = .ok (.aload_n 0, 1)) ∧ (decode cX5_thoughtFor 1 = .ok (.getfield 10, 3)) ∧ (decode cX5_thoughtFor 4 = .ok (.iload_n 1, 1)) ∧ (decode cX5_thoughtFor 5 = .ok (.invokevirtual 103, 3)) ∧ (decode cX5_thoughtFor 8 = .ok (.ifCond .eq 13, 3)) ∧ (decode cX5_thoughtFor 11 = .ok (.iload_n 2, 1)) ∧ (decode cX5_thoughtFor 12 = .ok (.iconst 1, 1)) ∧ (decode cX5_thoughtFor 13 = .ok (.bipush 20, 2)) ∧ (decode cX5_thoughtFor 15 = .ok (.invokestatic 57, 3)) ∧ (decode cX5_thoughtFor 18 = .ok (.ifCond .ne 5, 3)) ∧ (decode cX5_thoughtFor 21 = .ok (.iconst (-1), 1)) ∧ (decode cX5_thoughtFor 22 = .ok (.ireturn, 1)) := have h := dcb_223; ⟨fd_42 h, have h := fd_t1 h; ⟨fd_180 h rfl, have h := fd_t3 h; ⟨fd_27 h, have h := fd_t1 h; ⟨fd_182 h rfl, have h := fd_t3 h; ⟨fd_153 h (by decide +kernel), have h := fd_t3 h; ⟨fd_28 h, have h := fd_t1 h; ⟨fd_4 h, have h := fd_t1 h; ⟨fd_16 h (by decide +kernel), have h := fd_t2 h; ⟨fd_184 h rfl, have h := fd_t3 h; ⟨fd_154 h (by decide +kernel), have h := fd_t3 h; ⟨fd_2 h, have h := fd_t1 h; fd_172 h⟩⟩⟩⟩⟩⟩⟩⟩⟩⟩⟩
theorem dX5_thoughtFor_0 : decode cX5_thoughtFor 0 = .ok (.aload_n 0, 1) := dcq_223.1
theorem dX5_thoughtFor_1 : decode cX5_thoughtFor 1 = .ok (.getfield 10, 3) := dcq_223.2.1
theorem dX5_thoughtFor_4 : decode cX5_thoughtFor 4 = .ok (.iload_n 1, 1) := dcq_223.2.2.1
theorem dX5_thoughtFor_5 : decode cX5_thoughtFor 5 = .ok (.invokevirtual 103, 3) := dcq_223.2.2.2.1
theorem dX5_thoughtFor_8 : decode cX5_thoughtFor 8 = .ok (.ifCond .eq 13, 3) := dcq_223.2.2.2.2.1
theorem dX5_thoughtFor_11 : decode cX5_thoughtFor 11 = .ok (.iload_n 2, 1) := dcq_223.2.2.2.2.2.1
theorem dX5_thoughtFor_12 : decode cX5_thoughtFor 12 = .ok (.iconst 1, 1) := dcq_223.2.2.2.2.2.2.1
theorem dX5_thoughtFor_13 : decode cX5_thoughtFor 13 = .ok (.bipush 20, 2) := dcq_223.2.2.2.2.2.2.2.1
theorem dX5_thoughtFor_15 : decode cX5_thoughtFor 15 = .ok (.invokestatic 57, 3) := dcq_223.2.2.2.2.2.2.2.2.1
theorem dX5_thoughtFor_18 : decode cX5_thoughtFor 18 = .ok (.ifCond .ne 5, 3) := dcq_223.2.2.2.2.2.2.2.2.2.1
theorem dX5_thoughtFor_21 : decode cX5_thoughtFor 21 = .ok (.iconst (-1), 1) := dcq_223.2.2.2.2.2.2.2.2.2.2.1
theorem dX5_thoughtFor_22 : decode cX5_thoughtFor 22 = .ok (.ireturn, 1) := dcq_223.2.2.2.2.2.2.2.2.2.2.2
set_option maxRecDepth 20000 in
theorem dcb_224 : fd_B cX5_thoughtFor 23 [3, 62, 29, 16, 99, 163, 0, 77, 42, 182, 0, 148, 58, 4, 25, 4, 180, 0, 109, 27, 29] := fd_o cX5_thoughtFor 23 _ (by decide +kernel)
theorem dcq_224 : (decode cX5_thoughtFor 23 = .ok (.iconst 0, 1)) ∧ (decode cX5_thoughtFor 24 = .ok (.istore_n 3, 1)) ∧ (decode cX5_thoughtFor 25 = .ok (.iload_n 3, 1)) ∧ (decode cX5_thoughtFor 26 = .ok (.bipush 99, 2)) ∧ (decode cX5_thoughtFor 28 = .ok (.if_icmp .gt 77, 3)) ∧ (decode cX5_thoughtFor 31 = .ok (.aload_n 0, 1)) ∧ (decode cX5_thoughtFor 32 = .ok (.invokevirtual 148, 3)) ∧ (decode cX5_thoughtFor 35 = .ok (.astore 4, 2)) ∧ (decode cX5_thoughtFor 37 = .ok (.aload 4, 2)) ∧ (decode cX5_thoughtFor 39 = .ok (.getfield 109, 3)) ∧ (decode cX5_thoughtFor 42 = .ok (.iload_n 1, 1)) ∧ (decode cX5_thoughtFor 43 = .ok (.iload_n 3, 1)) := have h := dcb_224; ⟨fd_3 h, have h := fd_t1 h; ⟨fd_62 h, have h := fd_t1 h; ⟨fd_29 h, have h := fd_t1 h; ⟨fd_16 h (by decide +kernel), have h := fd_t2 h; ⟨fd_163 h (by decide +kernel), have h := fd_t3 h; ⟨fd_42 h, have h := fd_t1 h; ⟨fd_182 h rfl, have h := fd_t3 h; ⟨fd_58 h rfl, have h := fd_t2 h; ⟨fd_25 h rfl, have h := fd_t2 h; ⟨fd_180 h rfl, have h := fd_t3 h; ⟨fd_27 h, have h := fd_t1 h; fd_29 h⟩⟩⟩⟩⟩⟩⟩⟩⟩⟩⟩
theorem dX5_thoughtFor_23 : decode cX5_thoughtFor 23 = .ok (.iconst 0, 1) := dcq_224.1
theorem dX5_thoughtFor_24 : decode cX5_thoughtFor 24 = .ok (.istore_n 3, 1) := dcq_224.2.1
theorem dX5_thoughtFor_25 : decode cX5_thoughtFor 25 = .ok (.iload_n 3, 1) := dcq_224.2.2.1
theorem dX5_thoughtFor_26 : decode cX5_thoughtFor 26 = .ok (.bipush 99, 2) := dcq_224.2.2.2.1
theorem dX5_thoughtFor_28 : decode cX5_thoughtFor 28 = .ok (.if_icmp .gt 77, 3) := dcq_224.2.2.2.2.1
theorem dX5_thoughtFor_31 : decode cX5_thoughtFor 31 = .ok (.aload_n 0, 1) := dcq_224.2.2.2.2.2.1
theorem dX5_thoughtFor_32 : decode cX5_thoughtFor 32 = .ok (.invokevirtual 148, 3) := dcq_224.2.2.2.2.2.2.1
theorem dX5_thoughtFor_35 : decode cX5_thoughtFor 35 = .ok (.astore 4, 2) := dcq_224.2.2.2.2.2.2.2.1
theorem dX5_thoughtFor_37 : decode cX5_thoughtFor 37 = .ok (.aload 4, 2) := dcq_224.2.2.2.2.2.2.2.2.1
theorem dX5_thoughtFor_39 : decode cX5_thoughtFor 39 = .ok (.getfield 109, 3) := dcq_224.2.2.2.2.2.2.2.2.2.1
theorem dX5_thoughtFor_42 : decode cX5_thoughtFor 42 = .ok (.iload_n 1, 1) := dcq_224.2.2.2.2.2.2.2.2.2.2.1
theorem dX5_thoughtFor_43 : decode cX5_thoughtFor 43 = .ok (.iload_n 3, 1) := dcq_224.2.2.2.2.2.2.2.2.2.2.2
set_option maxRecDepth 20000 in
theorem dcb_225 : fd_B cX5_thoughtFor 44 [79, 25, 4, 180, 0, 118, 27, 3, 79, 3, 54, 5, 21, 5, 28, 162, 0, 28, 25, 4] := fd_o cX5_thoughtFor 44 _ (by decide +kernel)
theorem dcq_225 : (decode cX5_thoughtFor 44 = .ok (.iastore, 1)) ∧ (decode cX5_thoughtFor 45 = .ok (.aload 4, 2)) ∧ (decode cX5_thoughtFor 47 = .ok (.getfield 118, 3)) ∧ (decode cX5_thoughtFor 50 = .ok (.iload_n 1, 1)) ∧ (decode cX5_thoughtFor 51 = .ok (.iconst 0, 1)) ∧ (decode cX5_thoughtFor 52 = .ok (.iastore, 1)) ∧ (decode cX5_thoughtFor 53 = .ok (.iconst 0, 1)) ∧ (decode cX5_thoughtFor 54 = .ok (.istore 5, 2)) ∧ (decode cX5_thoughtFor 56 = .ok (.iload 5, 2)) ∧ (decode cX5_thoughtFor 58 = .ok (.iload_n 2, 1)) ∧ (decode cX5_thoughtFor 59 = .ok (.if_icmp .ge 28, 3)) ∧ (decode cX5_thoughtFor 62 = .ok (.aload 4, 2)) := have h := dcb_225; ⟨fd_79 h, have h := fd_t1 h; ⟨fd_25 h rfl, have h := fd_t2 h; ⟨fd_180 h rfl, have h := fd_t3 h; ⟨fd_27 h, have h := fd_t1 h; ⟨fd_3 h, have h := fd_t1 h; ⟨fd_79 h, have h := fd_t1 h; ⟨fd_3 h, have h := fd_t1 h; ⟨fd_54 h rfl, have h := fd_t2 h; ⟨fd_21 h rfl, have h := fd_t2 h; ⟨fd_28 h, have h := fd_t1 h; ⟨fd_162 h (by decide +kernel), have h := fd_t3 h; fd_25 h rfl⟩⟩⟩⟩⟩⟩⟩⟩⟩⟩⟩
theorem dX5_thoughtFor_44 : decode cX5_thoughtFor 44 = .ok (.iastore, 1) := dcq_225.1
theorem dX5_thoughtFor_45 : decode cX5_thoughtFor 45 = .ok (.aload 4, 2) := dcq_225.2.1
theorem dX5_thoughtFor_47 : decode cX5_thoughtFor 47 = .ok (.getfield 118, 3) := dcq_225.2.2.1
theorem dX5_thoughtFor_50 : decode cX5_thoughtFor 50 = .ok (.iload_n 1, 1) := dcq_225.2.2.2.1
theorem dX5_thoughtFor_51 : decode cX5_thoughtFor 51 = .ok (.iconst 0, 1) := dcq_225.2.2.2.2.1
theorem dX5_thoughtFor_52 : decode cX5_thoughtFor 52 = .ok (.iastore, 1) := dcq_225.2.2.2.2.2.1
theorem dX5_thoughtFor_53 : decode cX5_thoughtFor 53 = .ok (.iconst 0, 1) := dcq_225.2.2.2.2.2.2.1
theorem dX5_thoughtFor_54 : decode cX5_thoughtFor 54 = .ok (.istore 5, 2) := dcq_225.2.2.2.2.2.2.2.1
theorem dX5_thoughtFor_56 : decode cX5_thoughtFor 56 = .ok (.iload 5, 2) := dcq_225.2.2.2.2.2.2.2.2.1
theorem dX5_thoughtFor_58 : decode cX5_thoughtFor 58 = .ok (.iload_n 2, 1) := dcq_225.2.2.2.2.2.2.2.2.2.1
theorem dX5_thoughtFor_59 : decode cX5_thoughtFor 59 = .ok (.if_icmp .ge 28, 3) := dcq_225.2.2.2.2.2.2.2.2.2.2.1
theorem dX5_thoughtFor_62 : decode cX5_thoughtFor 62 = .ok (.aload 4, 2) := dcq_225.2.2.2.2.2.2.2.2.2.2.2
set_option maxRecDepth 20000 in
theorem dcb_226 : fd_B cX5_thoughtFor 64 [180, 0, 118, 27, 46, 154, 0, 18, 25, 4, 17, 0, 255, 182, 0, 137, 87, 132, 5, 1, 167, 255, 228, 25, 4, 180, 0, 118] := fd_o cX5_thoughtFor 64 _ (by decide +kernel)
theorem dcq_226 : (decode cX5_thoughtFor 64 = .ok (.getfield 118, 3)) ∧ (decode cX5_thoughtFor 67 = .ok (.iload_n 1, 1)) ∧ (decode cX5_thoughtFor 68 = .ok (.iaload, 1)) ∧ (decode cX5_thoughtFor 69 = .ok (.ifCond .ne 18, 3)) ∧ (decode cX5_thoughtFor 72 = .ok (.aload 4, 2)) ∧ (decode cX5_thoughtFor 74 = .ok (.sipush 255, 3)) ∧ (decode cX5_thoughtFor 77 = .ok (.invokevirtual 137, 3)) ∧ (decode cX5_thoughtFor 80 = .ok (.pop, 1)) ∧ (decode cX5_thoughtFor 81 = .ok (.iinc 5 1, 3)) ∧ (decode cX5_thoughtFor 84 = .ok (.goto (-28), 3)) ∧ (decode cX5_thoughtFor 87 = .ok (.aload 4, 2)) ∧ (decode cX5_thoughtFor 89 = .ok (.getfield 118, 3)) := have h := dcb_226; ⟨fd_180 h rfl, have h := fd_t3 h; ⟨fd_27 h, have h := fd_t1 h; ⟨fd_46 h, have h := fd_t1 h; ⟨fd_154 h (by decide +kernel), have h := fd_t3 h; ⟨fd_25 h rfl, have h := fd_t2 h; ⟨fd_17 h (by decide +kernel), have h := fd_t3 h; ⟨fd_182 h rfl, have h := fd_t3 h; ⟨fd_87 h, have h := fd_t1 h; ⟨fd_132 h rfl (by decide +kernel), have h := fd_t3 h; ⟨fd_167 h (by decide +kernel), have h := fd_t3 h; ⟨fd_25 h rfl, have h := fd_t2 h; fd_180 h rfl⟩⟩⟩⟩⟩⟩⟩⟩⟩⟩⟩
theorem dX5_thoughtFor_64 : decode cX5_thoughtFor 64 = .ok (.getfield 118, 3) := dcq_226.1
theorem dX5_thoughtFor_67 : decode cX5_thoughtFor 67 = .ok (.iload_n 1, 1) := dcq_226.2.1
theorem dX5_thoughtFor_68 : decode cX5_thoughtFor 68 = .ok (.iaload, 1) := dcq_226.2.2.1
theorem dX5_thoughtFor_69 : decode cX5_thoughtFor 69 = .ok (.ifCond .ne 18, 3) := dcq_226.2.2.2.1
theorem dX5_thoughtFor_72 : decode cX5_thoughtFor 72 = .ok (.aload 4, 2) := dcq_226.2.2.2.2.1
theorem dX5_thoughtFor_74 : decode cX5_thoughtFor 74 = .ok (.sipush 255, 3) := dcq_226.2.2.2.2.2.1
theorem dX5_thoughtFor_77 : decode cX5_thoughtFor 77 = .ok (.invokevirtual 137, 3) := dcq_226.2.2.2.2.2.2.1
theorem dX5_thoughtFor_80 : decode cX5_thoughtFor 80 = .ok (.pop, 1) := dcq_226.2.2.2.2.2.2.2.1
theorem dX5_thoughtFor_81 : decode cX5_thoughtFor 81 = .ok (.iinc 5 1, 3) := dcq_226.2.2.2.2.2.2.2.2.1
theorem dX5_thoughtFor_84 : decode cX5_thoughtFor 84 = .ok (.goto (-28), 3) := dcq_226.2.2.2.2.2.2.2.2.2.1
theorem dX5_thoughtFor_87 : decode cX5_thoughtFor 87 = .ok (.aload 4, 2) := dcq_226.2.2.2.2.2.2.2.2.2.2.1
theorem dX5_thoughtFor_89 : decode cX5_thoughtFor 89 = .ok (.getfield 118, 3) := dcq_226.2.2.2.2.2.2.2.2.2.2.2
set_option maxRecDepth 20000 in
theorem dcb_227 : fd_B cX5_thoughtFor 92 [27, 46, 158, 0, 5, 29, 172, 132, 3, 1, 167, 255, 179, 16, 253, 172] := fd_o cX5_thoughtFor 92 _ (by decide +kernel)
theorem dcq_227 : (decode cX5_thoughtFor 92 = .ok (.iload_n 1, 1)) ∧ (decode cX5_thoughtFor 93 = .ok (.iaload, 1)) ∧ (decode cX5_thoughtFor 94 = .ok (.ifCond .le 5, 3)) ∧ (decode cX5_thoughtFor 97 = .ok (.iload_n 3, 1)) ∧ (decode cX5_thoughtFor 98 = .ok (.ireturn, 1)) ∧ (decode cX5_thoughtFor 99 = .ok (.iinc 3 1, 3)) ∧ (decode cX5_thoughtFor 102 = .ok (.goto (-77), 3)) ∧ (decode cX5_thoughtFor 105 = .ok (.bipush (-3), 2)) ∧ (decode cX5_thoughtFor 107 = .ok (.ireturn, 1)) := have h := dcb_227; ⟨fd_27 h, have h := fd_t1 h; ⟨fd_46 h, have h := fd_t1 h; ⟨fd_158 h (by decide +kernel), have h := fd_t3 h; ⟨fd_29 h, have h := fd_t1 h; ⟨fd_172 h, have h := fd_t1 h; ⟨fd_132 h rfl (by decide +kernel), have h := fd_t3 h; ⟨fd_167 h (by decide +kernel), have h := fd_t3 h; ⟨fd_16 h (by decide +kernel), have h := fd_t2 h; fd_172 h⟩⟩⟩⟩⟩⟩⟩⟩
theorem dX5_thoughtFor_92 : decode cX5_thoughtFor 92 = .ok (.iload_n 1, 1) := dcq_227.1
theorem dX5_thoughtFor_93 : decode cX5_thoughtFor 93 = .ok (.iaload, 1) := dcq_227.2.1
theorem dX5_thoughtFor_94 : decode cX5_thoughtFor 94 = .ok (.ifCond .le 5, 3) := dcq_227.2.2.1
theorem dX5_thoughtFor_97 : decode cX5_thoughtFor 97 = .ok (.iload_n 3, 1) := dcq_227.2.2.2.1
theorem dX5_thoughtFor_98 : decode cX5_thoughtFor 98 = .ok (.ireturn, 1) := dcq_227.2.2.2.2.1
theorem dX5_thoughtFor_99 : decode cX5_thoughtFor 99 = .ok (.iinc 3 1, 3) := dcq_227.2.2.2.2.2.1
theorem dX5_thoughtFor_102 : decode cX5_thoughtFor 102 = .ok (.goto (-77), 3) := dcq_227.2.2.2.2.2.2.1
theorem dX5_thoughtFor_105 : decode cX5_thoughtFor 105 = .ok (.bipush (-3), 2) := dcq_227.2.2.2.2.2.2.2.1
theorem dX5_thoughtFor_107 : decode cX5_thoughtFor 107 = .ok (.ireturn, 1) := dcq_227.2.2.2.2.2.2.2.2
set_option maxRecDepth 20000 in
theorem dcb_228 : fd_B cX5_needed 0 [27, 4, 16, 20, 184, 0, 57, 154, 0, 5, 2, 172, 16, 253, 61, 42, 182, 0, 148, 27] := fd_o cX5_needed 0 _ (by decide +kernel)
theorem dcq_228 : (decode cX5_needed 0 = .ok (.iload_n 1, 1)) ∧ (decode cX5_needed 1 = .ok (.iconst 1, 1)) ∧ (decode cX5_needed 2 = .ok (.bipush 20, 2)) ∧ (decode cX5_needed 4 = .ok (.invokestatic 57, 3)) ∧ (decode cX5_needed 7 = .ok (.ifCond .ne 5, 3)) ∧ (decode cX5_needed 10 = .ok (.iconst (-1), 1)) ∧ (decode cX5_needed 11 = .ok (.ireturn, 1)) ∧ (decode cX5_needed 12 = .ok (.bipush (-3), 2)) ∧ (decode cX5_needed 14 = .ok (.istore_n 2, 1)) ∧ (decode cX5_needed 15 = .ok (.aload_n 0, 1)) ∧ (decode cX5_needed 16 = .ok (.invokevirtual 148, 3)) ∧ (decode cX5_needed 19 = .ok (.iload_n 1, 1)) := have h := dcb_228; ⟨fd_27 h, have h := fd_t1 h; ⟨fd_4 h, have h := fd_t1 h; ⟨fd_16 h (by decide +kernel), have h := fd_t2 h; ⟨fd_184 h rfl, have h := fd_t3 h; ⟨fd_154 h (by decide +kernel), have h := fd_t3 h; ⟨fd_2 h, have h := fd_t1 h; ⟨fd_172 h, have h := fd_t1 h; ⟨fd_16 h (by decide +kernel), have h := fd_t2 h; ⟨fd_61 h, have h := fd_t1 h; ⟨fd_42 h, have h := fd_t1 h; ⟨fd_182 h rfl, have h := fd_t3 h; fd_27 h⟩⟩⟩⟩⟩⟩⟩⟩⟩⟩⟩
theorem dX5_needed_0 : decode cX5_needed 0 = .ok (.iload_n 1, 1) := dcq_228.1
theorem dX5_needed_1 : decode cX5_needed 1 = .ok (.iconst 1, 1) := dcq_228.2.1
theorem dX5_needed_2 : decode cX5_needed 2 = .ok (.bipush 20, 2) := dcq_228.2.2.1
theorem dX5_needed_4 : decode cX5_needed 4 = .ok (.invokestatic 57, 3) := dcq_228.2.2.2.1
theorem dX5_needed_7 : decode cX5_needed 7 = .ok (.ifCond .ne 5, 3) := dcq_228.2.2.2.2.1
theorem dX5_needed_10 : decode cX5_needed 10 = .ok (.iconst (-1), 1) := dcq_228.2.2.2.2.2.1
theorem dX5_needed_11 : decode cX5_needed 11 = .ok (.ireturn, 1) := dcq_228.2.2.2.2.2.2.1
theorem dX5_needed_12 : decode cX5_needed 12 = .ok (.bipush (-3), 2) := dcq_228.2.2.2.2.2.2.2.1
theorem dX5_needed_14 : decode cX5_needed 14 = .ok (.istore_n 2, 1) := dcq_228.2.2.2.2.2.2.2.2.1
theorem dX5_needed_15 : decode cX5_needed 15 = .ok (.aload_n 0, 1) := dcq_228.2.2.2.2.2.2.2.2.2.1
theorem dX5_needed_16 : decode cX5_needed 16 = .ok (.invokevirtual 148, 3) := dcq_228.2.2.2.2.2.2.2.2.2.2.1
theorem dX5_needed_19 : decode cX5_needed 19 = .ok (.iload_n 1, 1) := dcq_228.2.2.2.2.2.2.2.2.2.2.2
set_option maxRecDepth 20000 in
theorem dcb_229 : fd_B cX5_needed 20 [17, 0, 255, 184, 0, 152, 62, 3, 54, 4, 21, 4, 42, 180, 0, 10, 180, 0, 86, 162, 0, 41, 42, 182, 0, 148] := fd_o cX5_needed 20 _ (by decide +kernel)
theorem dcq_229 : (decode cX5_needed 20 = .ok (.sipush 255, 3)) ∧ (decode cX5_needed 23 = .ok (.invokestatic 152, 3)) ∧ (decode cX5_needed 26 = .ok (.istore_n 3, 1)) ∧ (decode cX5_needed 27 = .ok (.iconst 0, 1)) ∧ (decode cX5_needed 28 = .ok (.istore 4, 2)) ∧ (decode cX5_needed 30 = .ok (.iload 4, 2)) ∧ (decode cX5_needed 32 = .ok (.aload_n 0, 1)) ∧ (decode cX5_needed 33 = .ok (.getfield 10, 3)) ∧ (decode cX5_needed 36 = .ok (.getfield 86, 3)) ∧ (decode cX5_needed 39 = .ok (.if_icmp .ge 41, 3)) ∧ (decode cX5_needed 42 = .ok (.aload_n 0, 1)) ∧ (decode cX5_needed 43 = .ok (.invokevirtual 148, 3)) := have h := dcb_229; ⟨fd_17 h (by decide +kernel), have h := fd_t3 h; ⟨fd_184 h rfl, have h := fd_t3 h; ⟨fd_62 h, have h := fd_t1 h; ⟨fd_3 h, have h := fd_t1 h; ⟨fd_54 h rfl, have h := fd_t2 h; ⟨fd_21 h rfl, have h := fd_t2 h; ⟨fd_42 h, have h := fd_t1 h; ⟨fd_180 h rfl, have h := fd_t3 h; ⟨fd_180 h rfl, have h := fd_t3 h; ⟨fd_162 h (by decide +kernel), have h := fd_t3 h; ⟨fd_42 h, have h := fd_t1 h; fd_182 h rfl⟩⟩⟩⟩⟩⟩⟩⟩⟩⟩⟩
theorem dX5_needed_20 : decode cX5_needed 20 = .ok (.sipush 255, 3) := dcq_229.1
theorem dX5_needed_23 : decode cX5_needed 23 = .ok (.invokestatic 152, 3) := dcq_229.2.1
theorem dX5_needed_26 : decode cX5_needed 26 = .ok (.istore_n 3, 1) := dcq_229.2.2.1
theorem dX5_needed_27 : decode cX5_needed 27 = .ok (.iconst 0, 1) := dcq_229.2.2.2.1
theorem dX5_needed_28 : decode cX5_needed 28 = .ok (.istore 4, 2) := dcq_229.2.2.2.2.1
theorem dX5_needed_30 : decode cX5_needed 30 = .ok (.iload 4, 2) := dcq_229.2.2.2.2.2.1
theorem dX5_needed_32 : decode cX5_needed 32 = .ok (.aload_n 0, 1) := dcq_229.2.2.2.2.2.2.1
theorem dX5_needed_33 : decode cX5_needed 33 = .ok (.getfield 10, 3) := dcq_229.2.2.2.2.2.2.2.1
theorem dX5_needed_36 : decode cX5_needed 36 = .ok (.getfield 86, 3) := dcq_229.2.2.2.2.2.2.2.2.1
theorem dX5_needed_39 : decode cX5_needed 39 = .ok (.if_icmp .ge 41, 3) := dcq_229.2.2.2.2.2.2.2.2.2.1
theorem dX5_needed_42 : decode cX5_needed 42 = .ok (.aload_n 0, 1) := dcq_229.2.2.2.2.2.2.2.2.2.2.1
theorem dX5_needed_43 : decode cX5_needed 43 = .ok (.invokevirtual 148, 3) := dcq_229.2.2.2.2.2.2.2.2.2.2.2
set_option maxRecDepth 20000 in
theorem dcb_230 : fd_B cX5_needed 46 [27, 17, 0, 255, 4, 21, 4, 120, 2, 130, 126, 184, 0, 152, 54, 5, 21, 5, 29] := fd_o cX5_needed 46 _ (by decide +kernel)
theorem dcq_230 : (decode cX5_needed 46 = .ok (.iload_n 1, 1)) ∧ (decode cX5_needed 47 = .ok (.sipush 255, 3)) ∧ (decode cX5_needed 50 = .ok (.iconst 1, 1)) ∧ (decode cX5_needed 51 = .ok (.iload 4, 2)) ∧ (decode cX5_needed 53 = .ok (.ishl, 1)) ∧ (decode cX5_needed 54 = .ok (.iconst (-1), 1)) ∧ (decode cX5_needed 55 = .ok (.ixor, 1)) ∧ (decode cX5_needed 56 = .ok (.iand, 1)) ∧ (decode cX5_needed 57 = .ok (.invokestatic 152, 3)) ∧ (decode cX5_needed 60 = .ok (.istore 5, 2)) ∧ (decode cX5_needed 62 = .ok (.iload 5, 2)) ∧ (decode cX5_needed 64 = .ok (.iload_n 3, 1)) := have h := dcb_230; ⟨fd_27 h, have h := fd_t1 h; ⟨fd_17 h (by decide +kernel), have h := fd_t3 h; ⟨fd_4 h, have h := fd_t1 h; ⟨fd_21 h rfl, have h := fd_t2 h; ⟨fd_120 h, have h := fd_t1 h; ⟨fd_2 h, have h := fd_t1 h; ⟨fd_130 h, have h := fd_t1 h; ⟨fd_126 h, have h := fd_t1 h; ⟨fd_184 h rfl, have h := fd_t3 h; ⟨fd_54 h rfl, have h := fd_t2 h; ⟨fd_21 h rfl, have h := fd_t2 h; fd_29 h⟩⟩⟩⟩⟩⟩⟩⟩⟩⟩⟩
theorem dX5_needed_46 : decode cX5_needed 46 = .ok (.iload_n 1, 1) := dcq_230.1
theorem dX5_needed_47 : decode cX5_needed 47 = .ok (.sipush 255, 3) := dcq_230.2.1
theorem dX5_needed_50 : decode cX5_needed 50 = .ok (.iconst 1, 1) := dcq_230.2.2.1
theorem dX5_needed_51 : decode cX5_needed 51 = .ok (.iload 4, 2) := dcq_230.2.2.2.1
theorem dX5_needed_53 : decode cX5_needed 53 = .ok (.ishl, 1) := dcq_230.2.2.2.2.1
theorem dX5_needed_54 : decode cX5_needed 54 = .ok (.iconst (-1), 1) := dcq_230.2.2.2.2.2.1
theorem dX5_needed_55 : decode cX5_needed 55 = .ok (.ixor, 1) := dcq_230.2.2.2.2.2.2.1
theorem dX5_needed_56 : decode cX5_needed 56 = .ok (.iand, 1) := dcq_230.2.2.2.2.2.2.2.1
theorem dX5_needed_57 : decode cX5_needed 57 = .ok (.invokestatic 152, 3) := dcq_230.2.2.2.2.2.2.2.2.1
theorem dX5_needed_60 : decode cX5_needed 60 = .ok (.istore 5, 2) := dcq_230.2.2.2.2.2.2.2.2.2.1
theorem dX5_needed_62 : decode cX5_needed 62 = .ok (.iload 5, 2) := dcq_230.2.2.2.2.2.2.2.2.2.2.1
theorem dX5_needed_64 : decode cX5_needed 64 = .ok (.iload_n 3, 1) := dcq_230.2.2.2.2.2.2.2.2.2.2.2
set_option maxRecDepth 20000 in
theorem dcb_231 : fd_B cX5_needed 65 [162, 0, 9, 21, 5, 62, 21, 4, 61, 132, 4, 1, 167, 255, 209, 28, 172] := fd_o cX5_needed 65 _ (by decide +kernel)
theorem dcq_231 : (decode cX5_needed 65 = .ok (.if_icmp .ge 9, 3)) ∧ (decode cX5_needed 68 = .ok (.iload 5, 2)) ∧ (decode cX5_needed 70 = .ok (.istore_n 3, 1)) ∧ (decode cX5_needed 71 = .ok (.iload 4, 2)) ∧ (decode cX5_needed 73 = .ok (.istore_n 2, 1)) ∧ (decode cX5_needed 74 = .ok (.iinc 4 1, 3)) ∧ (decode cX5_needed 77 = .ok (.goto (-47), 3)) ∧ (decode cX5_needed 80 = .ok (.iload_n 2, 1)) ∧ (decode cX5_needed 81 = .ok (.ireturn, 1)) := have h := dcb_231; ⟨fd_162 h (by decide +kernel), have h := fd_t3 h; ⟨fd_21 h rfl, have h := fd_t2 h; ⟨fd_62 h, have h := fd_t1 h; ⟨fd_21 h rfl, have h := fd_t2 h; ⟨fd_61 h, have h := fd_t1 h; ⟨fd_132 h rfl (by decide +kernel), have h := fd_t3 h; ⟨fd_167 h (by decide +kernel), have h := fd_t3 h; ⟨fd_28 h, have h := fd_t1 h; fd_172 h⟩⟩⟩⟩⟩⟩⟩⟩
theorem dX5_needed_65 : decode cX5_needed 65 = .ok (.if_icmp .ge 9, 3) := dcq_231.1
theorem dX5_needed_68 : decode cX5_needed 68 = .ok (.iload 5, 2) := dcq_231.2.1
theorem dX5_needed_70 : decode cX5_needed 70 = .ok (.istore_n 3, 1) := dcq_231.2.2.1
theorem dX5_needed_71 : decode cX5_needed 71 = .ok (.iload 4, 2) := dcq_231.2.2.2.1
theorem dX5_needed_73 : decode cX5_needed 73 = .ok (.istore_n 2, 1) := dcq_231.2.2.2.2.1
theorem dX5_needed_74 : decode cX5_needed 74 = .ok (.iinc 4 1, 3) := dcq_231.2.2.2.2.2.1
theorem dX5_needed_77 : decode cX5_needed 77 = .ok (.goto (-47), 3) := dcq_231.2.2.2.2.2.2.1
theorem dX5_needed_80 : decode cX5_needed 80 = .ok (.iload_n 2, 1) := dcq_231.2.2.2.2.2.2.2.1
theorem dX5_needed_81 : decode cX5_needed 81 = .ok (.ireturn, 1) := dcq_231.2.2.2.2.2.2.2.2
set_option maxRecDepth 20000 in
theorem dcb_232 : fd_B cX5_fewest 0 [27, 4, 16, 10, 184, 0, 57, 153, 0, 14, 28, 3, 17, 39, 15, 184, 0, 57, 154, 0, 5, 2, 172] := fd_o cX5_fewest 0 _ (by decide +kernel)
theorem dcq_232 : (decode cX5_fewest 0 = .ok (.iload_n 1, 1)) ∧ (decode cX5_fewest 1 = .ok (.iconst 1, 1)) ∧ (decode cX5_fewest 2 = .ok (.bipush 10, 2)) ∧ (decode cX5_fewest 4 = .ok (.invokestatic 57, 3)) ∧ (decode cX5_fewest 7 = .ok (.ifCond .eq 14, 3)) ∧ (decode cX5_fewest 10 = .ok (.iload_n 2, 1)) ∧ (decode cX5_fewest 11 = .ok (.iconst 0, 1)) ∧ (decode cX5_fewest 12 = .ok (.sipush 9999, 3)) ∧ (decode cX5_fewest 15 = .ok (.invokestatic 57, 3)) ∧ (decode cX5_fewest 18 = .ok (.ifCond .ne 5, 3)) ∧ (decode cX5_fewest 21 = .ok (.iconst (-1), 1)) ∧ (decode cX5_fewest 22 = .ok (.ireturn, 1)) := have h := dcb_232; ⟨fd_27 h, have h := fd_t1 h; ⟨fd_4 h, have h := fd_t1 h; ⟨fd_16 h (by decide +kernel), have h := fd_t2 h; ⟨fd_184 h rfl, have h := fd_t3 h; ⟨fd_153 h (by decide +kernel), have h := fd_t3 h; ⟨fd_28 h, have h := fd_t1 h; ⟨fd_3 h, have h := fd_t1 h; ⟨fd_17 h (by decide +kernel), have h := fd_t3 h; ⟨fd_184 h rfl, have h := fd_t3 h; ⟨fd_154 h (by decide +kernel), have h := fd_t3 h; ⟨fd_2 h, have h := fd_t1 h; fd_172 h⟩⟩⟩⟩⟩⟩⟩⟩⟩⟩⟩
theorem dX5_fewest_0 : decode cX5_fewest 0 = .ok (.iload_n 1, 1) := dcq_232.1
theorem dX5_fewest_1 : decode cX5_fewest 1 = .ok (.iconst 1, 1) := dcq_232.2.1
theorem dX5_fewest_2 : decode cX5_fewest 2 = .ok (.bipush 10, 2) := dcq_232.2.2.1
theorem dX5_fewest_4 : decode cX5_fewest 4 = .ok (.invokestatic 57, 3) := dcq_232.2.2.2.1
theorem dX5_fewest_7 : decode cX5_fewest 7 = .ok (.ifCond .eq 14, 3) := dcq_232.2.2.2.2.1
theorem dX5_fewest_10 : decode cX5_fewest 10 = .ok (.iload_n 2, 1) := dcq_232.2.2.2.2.2.1
theorem dX5_fewest_11 : decode cX5_fewest 11 = .ok (.iconst 0, 1) := dcq_232.2.2.2.2.2.2.1
theorem dX5_fewest_12 : decode cX5_fewest 12 = .ok (.sipush 9999, 3) := dcq_232.2.2.2.2.2.2.2.1
theorem dX5_fewest_15 : decode cX5_fewest 15 = .ok (.invokestatic 57, 3) := dcq_232.2.2.2.2.2.2.2.2.1
theorem dX5_fewest_18 : decode cX5_fewest 18 = .ok (.ifCond .ne 5, 3) := dcq_232.2.2.2.2.2.2.2.2.2.1
theorem dX5_fewest_21 : decode cX5_fewest 21 = .ok (.iconst (-1), 1) := dcq_232.2.2.2.2.2.2.2.2.2.2.1
theorem dX5_fewest_22 : decode cX5_fewest 22 = .ok (.ireturn, 1) := dcq_232.2.2.2.2.2.2.2.2.2.2.2
set_option maxRecDepth 20000 in
theorem dcb_233 : fd_B cX5_fewest 23 [4, 42, 180, 0, 10, 180, 0, 86, 120, 62, 3, 54, 4, 21, 4, 42, 180, 0, 10, 180, 0, 86] := fd_o cX5_fewest 23 _ (by decide +kernel)
theorem dcq_233 : (decode cX5_fewest 23 = .ok (.iconst 1, 1)) ∧ (decode cX5_fewest 24 = .ok (.aload_n 0, 1)) ∧ (decode cX5_fewest 25 = .ok (.getfield 10, 3)) ∧ (decode cX5_fewest 28 = .ok (.getfield 86, 3)) ∧ (decode cX5_fewest 31 = .ok (.ishl, 1)) ∧ (decode cX5_fewest 32 = .ok (.istore_n 3, 1)) ∧ (decode cX5_fewest 33 = .ok (.iconst 0, 1)) ∧ (decode cX5_fewest 34 = .ok (.istore 4, 2)) ∧ (decode cX5_fewest 36 = .ok (.iload 4, 2)) ∧ (decode cX5_fewest 38 = .ok (.aload_n 0, 1)) ∧ (decode cX5_fewest 39 = .ok (.getfield 10, 3)) ∧ (decode cX5_fewest 42 = .ok (.getfield 86, 3)) := have h := dcb_233; ⟨fd_4 h, have h := fd_t1 h; ⟨fd_42 h, have h := fd_t1 h; ⟨fd_180 h rfl, have h := fd_t3 h; ⟨fd_180 h rfl, have h := fd_t3 h; ⟨fd_120 h, have h := fd_t1 h; ⟨fd_62 h, have h := fd_t1 h; ⟨fd_3 h, have h := fd_t1 h; ⟨fd_54 h rfl, have h := fd_t2 h; ⟨fd_21 h rfl, have h := fd_t2 h; ⟨fd_42 h, have h := fd_t1 h; ⟨fd_180 h rfl, have h := fd_t3 h; fd_180 h rfl⟩⟩⟩⟩⟩⟩⟩⟩⟩⟩⟩
theorem dX5_fewest_23 : decode cX5_fewest 23 = .ok (.iconst 1, 1) := dcq_233.1
theorem dX5_fewest_24 : decode cX5_fewest 24 = .ok (.aload_n 0, 1) := dcq_233.2.1
theorem dX5_fewest_25 : decode cX5_fewest 25 = .ok (.getfield 10, 3) := dcq_233.2.2.1
theorem dX5_fewest_28 : decode cX5_fewest 28 = .ok (.getfield 86, 3) := dcq_233.2.2.2.1
theorem dX5_fewest_31 : decode cX5_fewest 31 = .ok (.ishl, 1) := dcq_233.2.2.2.2.1
theorem dX5_fewest_32 : decode cX5_fewest 32 = .ok (.istore_n 3, 1) := dcq_233.2.2.2.2.2.1
theorem dX5_fewest_33 : decode cX5_fewest 33 = .ok (.iconst 0, 1) := dcq_233.2.2.2.2.2.2.1
theorem dX5_fewest_34 : decode cX5_fewest 34 = .ok (.istore 4, 2) := dcq_233.2.2.2.2.2.2.2.1
theorem dX5_fewest_36 : decode cX5_fewest 36 = .ok (.iload 4, 2) := dcq_233.2.2.2.2.2.2.2.2.1
theorem dX5_fewest_38 : decode cX5_fewest 38 = .ok (.aload_n 0, 1) := dcq_233.2.2.2.2.2.2.2.2.2.1
theorem dX5_fewest_39 : decode cX5_fewest 39 = .ok (.getfield 10, 3) := dcq_233.2.2.2.2.2.2.2.2.2.2.1
theorem dX5_fewest_42 : decode cX5_fewest 42 = .ok (.getfield 86, 3) := dcq_233.2.2.2.2.2.2.2.2.2.2.2
set_option maxRecDepth 20000 in
theorem dcb_234 : fd_B cX5_fewest 45 [163, 0, 51, 3, 54, 5, 21, 5, 29, 162, 0, 36, 21, 5, 184, 0, 168, 21, 4, 160, 0, 20, 42, 182, 0, 148] := fd_o cX5_fewest 45 _ (by decide +kernel)
theorem dcq_234 : (decode cX5_fewest 45 = .ok (.if_icmp .gt 51, 3)) ∧ (decode cX5_fewest 48 = .ok (.iconst 0, 1)) ∧ (decode cX5_fewest 49 = .ok (.istore 5, 2)) ∧ (decode cX5_fewest 51 = .ok (.iload 5, 2)) ∧ (decode cX5_fewest 53 = .ok (.iload_n 3, 1)) ∧ (decode cX5_fewest 54 = .ok (.if_icmp .ge 36, 3)) ∧ (decode cX5_fewest 57 = .ok (.iload 5, 2)) ∧ (decode cX5_fewest 59 = .ok (.invokestatic 168, 3)) ∧ (decode cX5_fewest 62 = .ok (.iload 4, 2)) ∧ (decode cX5_fewest 64 = .ok (.if_icmp .ne 20, 3)) ∧ (decode cX5_fewest 67 = .ok (.aload_n 0, 1)) ∧ (decode cX5_fewest 68 = .ok (.invokevirtual 148, 3)) := have h := dcb_234; ⟨fd_163 h (by decide +kernel), have h := fd_t3 h; ⟨fd_3 h, have h := fd_t1 h; ⟨fd_54 h rfl, have h := fd_t2 h; ⟨fd_21 h rfl, have h := fd_t2 h; ⟨fd_29 h, have h := fd_t1 h; ⟨fd_162 h (by decide +kernel), have h := fd_t3 h; ⟨fd_21 h rfl, have h := fd_t2 h; ⟨fd_184 h rfl, have h := fd_t3 h; ⟨fd_21 h rfl, have h := fd_t2 h; ⟨fd_160 h (by decide +kernel), have h := fd_t3 h; ⟨fd_42 h, have h := fd_t1 h; fd_182 h rfl⟩⟩⟩⟩⟩⟩⟩⟩⟩⟩⟩
theorem dX5_fewest_45 : decode cX5_fewest 45 = .ok (.if_icmp .gt 51, 3) := dcq_234.1
theorem dX5_fewest_48 : decode cX5_fewest 48 = .ok (.iconst 0, 1) := dcq_234.2.1
theorem dX5_fewest_49 : decode cX5_fewest 49 = .ok (.istore 5, 2) := dcq_234.2.2.1
theorem dX5_fewest_51 : decode cX5_fewest 51 = .ok (.iload 5, 2) := dcq_234.2.2.2.1
theorem dX5_fewest_53 : decode cX5_fewest 53 = .ok (.iload_n 3, 1) := dcq_234.2.2.2.2.1
theorem dX5_fewest_54 : decode cX5_fewest 54 = .ok (.if_icmp .ge 36, 3) := dcq_234.2.2.2.2.2.1
theorem dX5_fewest_57 : decode cX5_fewest 57 = .ok (.iload 5, 2) := dcq_234.2.2.2.2.2.2.1
theorem dX5_fewest_59 : decode cX5_fewest 59 = .ok (.invokestatic 168, 3) := dcq_234.2.2.2.2.2.2.2.1
theorem dX5_fewest_62 : decode cX5_fewest 62 = .ok (.iload 4, 2) := dcq_234.2.2.2.2.2.2.2.2.1
theorem dX5_fewest_64 : decode cX5_fewest 64 = .ok (.if_icmp .ne 20, 3) := dcq_234.2.2.2.2.2.2.2.2.2.1
theorem dX5_fewest_67 : decode cX5_fewest 67 = .ok (.aload_n 0, 1) := dcq_234.2.2.2.2.2.2.2.2.2.2.1
theorem dX5_fewest_68 : decode cX5_fewest 68 = .ok (.invokevirtual 148, 3) := dcq_234.2.2.2.2.2.2.2.2.2.2.2
set_option maxRecDepth 20000 in
theorem dcb_235 : fd_B cX5_fewest 71 [27, 21, 5, 184, 0, 152, 28, 161, 0, 6, 21, 5, 172, 132, 5, 1, 167, 255, 220, 132, 4, 1, 167, 255, 199, 16, 253] := fd_o cX5_fewest 71 _ (by decide +kernel)
theorem dcq_235 : (decode cX5_fewest 71 = .ok (.iload_n 1, 1)) ∧ (decode cX5_fewest 72 = .ok (.iload 5, 2)) ∧ (decode cX5_fewest 74 = .ok (.invokestatic 152, 3)) ∧ (decode cX5_fewest 77 = .ok (.iload_n 2, 1)) ∧ (decode cX5_fewest 78 = .ok (.if_icmp .lt 6, 3)) ∧ (decode cX5_fewest 81 = .ok (.iload 5, 2)) ∧ (decode cX5_fewest 83 = .ok (.ireturn, 1)) ∧ (decode cX5_fewest 84 = .ok (.iinc 5 1, 3)) ∧ (decode cX5_fewest 87 = .ok (.goto (-36), 3)) ∧ (decode cX5_fewest 90 = .ok (.iinc 4 1, 3)) ∧ (decode cX5_fewest 93 = .ok (.goto (-57), 3)) ∧ (decode cX5_fewest 96 = .ok (.bipush (-3), 2)) := have h := dcb_235; ⟨fd_27 h, have h := fd_t1 h; ⟨fd_21 h rfl, have h := fd_t2 h; ⟨fd_184 h rfl, have h := fd_t3 h; ⟨fd_28 h, have h := fd_t1 h; ⟨fd_161 h (by decide +kernel), have h := fd_t3 h; ⟨fd_21 h rfl, have h := fd_t2 h; ⟨fd_172 h, have h := fd_t1 h; ⟨fd_132 h rfl (by decide +kernel), have h := fd_t3 h; ⟨fd_167 h (by decide +kernel), have h := fd_t3 h; ⟨fd_132 h rfl (by decide +kernel), have h := fd_t3 h; ⟨fd_167 h (by decide +kernel), have h := fd_t3 h; fd_16 h (by decide +kernel)⟩⟩⟩⟩⟩⟩⟩⟩⟩⟩⟩
theorem dX5_fewest_71 : decode cX5_fewest 71 = .ok (.iload_n 1, 1) := dcq_235.1
theorem dX5_fewest_72 : decode cX5_fewest 72 = .ok (.iload 5, 2) := dcq_235.2.1
theorem dX5_fewest_74 : decode cX5_fewest 74 = .ok (.invokestatic 152, 3) := dcq_235.2.2.1
theorem dX5_fewest_77 : decode cX5_fewest 77 = .ok (.iload_n 2, 1) := dcq_235.2.2.2.1
theorem dX5_fewest_78 : decode cX5_fewest 78 = .ok (.if_icmp .lt 6, 3) := dcq_235.2.2.2.2.1
theorem dX5_fewest_81 : decode cX5_fewest 81 = .ok (.iload 5, 2) := dcq_235.2.2.2.2.2.1
theorem dX5_fewest_83 : decode cX5_fewest 83 = .ok (.ireturn, 1) := dcq_235.2.2.2.2.2.2.1
theorem dX5_fewest_84 : decode cX5_fewest 84 = .ok (.iinc 5 1, 3) := dcq_235.2.2.2.2.2.2.2.1
theorem dX5_fewest_87 : decode cX5_fewest 87 = .ok (.goto (-36), 3) := dcq_235.2.2.2.2.2.2.2.2.1
theorem dX5_fewest_90 : decode cX5_fewest 90 = .ok (.iinc 4 1, 3) := dcq_235.2.2.2.2.2.2.2.2.2.1
theorem dX5_fewest_93 : decode cX5_fewest 93 = .ok (.goto (-57), 3) := dcq_235.2.2.2.2.2.2.2.2.2.2.1
theorem dX5_fewest_96 : decode cX5_fewest 96 = .ok (.bipush (-3), 2) := dcq_235.2.2.2.2.2.2.2.2.2.2.2
set_option maxRecDepth 20000 in
theorem dcb_236 : fd_B cX5_fewest 98 [172] := fd_o cX5_fewest 98 _ (by decide +kernel)
theorem dX5_fewest_98 : decode cX5_fewest 98 = .ok (.ireturn, 1) := fd_172 dcb_236
set_option maxRecDepth 20000 in
theorem dcb_237 : fd_B cX5_packed 0 [27, 4, 16, 99, 184, 0, 57, 154, 0, 5, 2, 172, 3, 61, 28, 42, 180, 0, 10] := fd_o cX5_packed 0 _ (by decide +kernel)
theorem dcq_237 : (decode cX5_packed 0 = .ok (.iload_n 1, 1)) ∧ (decode cX5_packed 1 = .ok (.iconst 1, 1)) ∧ (decode cX5_packed 2 = .ok (.bipush 99, 2)) ∧ (decode cX5_packed 4 = .ok (.invokestatic 57, 3)) ∧ (decode cX5_packed 7 = .ok (.ifCond .ne 5, 3)) ∧ (decode cX5_packed 10 = .ok (.iconst (-1), 1)) ∧ (decode cX5_packed 11 = .ok (.ireturn, 1)) ∧ (decode cX5_packed 12 = .ok (.iconst 0, 1)) ∧ (decode cX5_packed 13 = .ok (.istore_n 2, 1)) ∧ (decode cX5_packed 14 = .ok (.iload_n 2, 1)) ∧ (decode cX5_packed 15 = .ok (.aload_n 0, 1)) ∧ (decode cX5_packed 16 = .ok (.getfield 10, 3)) := have h := dcb_237; ⟨fd_27 h, have h := fd_t1 h; ⟨fd_4 h, have h := fd_t1 h; ⟨fd_16 h (by decide +kernel), have h := fd_t2 h; ⟨fd_184 h rfl, have h := fd_t3 h; ⟨fd_154 h (by decide +kernel), have h := fd_t3 h; ⟨fd_2 h, have h := fd_t1 h; ⟨fd_172 h, have h := fd_t1 h; ⟨fd_3 h, have h := fd_t1 h; ⟨fd_61 h, have h := fd_t1 h; ⟨fd_28 h, have h := fd_t1 h; ⟨fd_42 h, have h := fd_t1 h; fd_180 h rfl⟩⟩⟩⟩⟩⟩⟩⟩⟩⟩⟩
theorem dX5_packed_0 : decode cX5_packed 0 = .ok (.iload_n 1, 1) := dcq_237.1
theorem dX5_packed_1 : decode cX5_packed 1 = .ok (.iconst 1, 1) := dcq_237.2.1
theorem dX5_packed_2 : decode cX5_packed 2 = .ok (.bipush 99, 2) := dcq_237.2.2.1
theorem dX5_packed_4 : decode cX5_packed 4 = .ok (.invokestatic 57, 3) := dcq_237.2.2.2.1
theorem dX5_packed_7 : decode cX5_packed 7 = .ok (.ifCond .ne 5, 3) := dcq_237.2.2.2.2.1
theorem dX5_packed_10 : decode cX5_packed 10 = .ok (.iconst (-1), 1) := dcq_237.2.2.2.2.2.1
theorem dX5_packed_11 : decode cX5_packed 11 = .ok (.ireturn, 1) := dcq_237.2.2.2.2.2.2.1
theorem dX5_packed_12 : decode cX5_packed 12 = .ok (.iconst 0, 1) := dcq_237.2.2.2.2.2.2.2.1
theorem dX5_packed_13 : decode cX5_packed 13 = .ok (.istore_n 2, 1) := dcq_237.2.2.2.2.2.2.2.2.1
theorem dX5_packed_14 : decode cX5_packed 14 = .ok (.iload_n 2, 1) := dcq_237.2.2.2.2.2.2.2.2.2.1
theorem dX5_packed_15 : decode cX5_packed 15 = .ok (.aload_n 0, 1) := dcq_237.2.2.2.2.2.2.2.2.2.2.1
theorem dX5_packed_16 : decode cX5_packed 16 = .ok (.getfield 10, 3) := dcq_237.2.2.2.2.2.2.2.2.2.2.2
set_option maxRecDepth 20000 in
theorem dcb_238 : fd_B cX5_packed 19 [180, 0, 86, 162, 0, 25, 42, 180, 0, 10, 180, 0, 109, 28, 46, 27, 164, 0, 6, 16, 253, 172, 132, 2, 1] := fd_o cX5_packed 19 _ (by decide +kernel)
theorem dcq_238 : (decode cX5_packed 19 = .ok (.getfield 86, 3)) ∧ (decode cX5_packed 22 = .ok (.if_icmp .ge 25, 3)) ∧ (decode cX5_packed 25 = .ok (.aload_n 0, 1)) ∧ (decode cX5_packed 26 = .ok (.getfield 10, 3)) ∧ (decode cX5_packed 29 = .ok (.getfield 109, 3)) ∧ (decode cX5_packed 32 = .ok (.iload_n 2, 1)) ∧ (decode cX5_packed 33 = .ok (.iaload, 1)) ∧ (decode cX5_packed 34 = .ok (.iload_n 1, 1)) ∧ (decode cX5_packed 35 = .ok (.if_icmp .le 6, 3)) ∧ (decode cX5_packed 38 = .ok (.bipush (-3), 2)) ∧ (decode cX5_packed 40 = .ok (.ireturn, 1)) ∧ (decode cX5_packed 41 = .ok (.iinc 2 1, 3)) := have h := dcb_238; ⟨fd_180 h rfl, have h := fd_t3 h; ⟨fd_162 h (by decide +kernel), have h := fd_t3 h; ⟨fd_42 h, have h := fd_t1 h; ⟨fd_180 h rfl, have h := fd_t3 h; ⟨fd_180 h rfl, have h := fd_t3 h; ⟨fd_28 h, have h := fd_t1 h; ⟨fd_46 h, have h := fd_t1 h; ⟨fd_27 h, have h := fd_t1 h; ⟨fd_164 h (by decide +kernel), have h := fd_t3 h; ⟨fd_16 h (by decide +kernel), have h := fd_t2 h; ⟨fd_172 h, have h := fd_t1 h; fd_132 h rfl (by decide +kernel)⟩⟩⟩⟩⟩⟩⟩⟩⟩⟩⟩
theorem dX5_packed_19 : decode cX5_packed 19 = .ok (.getfield 86, 3) := dcq_238.1
theorem dX5_packed_22 : decode cX5_packed 22 = .ok (.if_icmp .ge 25, 3) := dcq_238.2.1
theorem dX5_packed_25 : decode cX5_packed 25 = .ok (.aload_n 0, 1) := dcq_238.2.2.1
theorem dX5_packed_26 : decode cX5_packed 26 = .ok (.getfield 10, 3) := dcq_238.2.2.2.1
theorem dX5_packed_29 : decode cX5_packed 29 = .ok (.getfield 109, 3) := dcq_238.2.2.2.2.1
theorem dX5_packed_32 : decode cX5_packed 32 = .ok (.iload_n 2, 1) := dcq_238.2.2.2.2.2.1
theorem dX5_packed_33 : decode cX5_packed 33 = .ok (.iaload, 1) := dcq_238.2.2.2.2.2.2.1
theorem dX5_packed_34 : decode cX5_packed 34 = .ok (.iload_n 1, 1) := dcq_238.2.2.2.2.2.2.2.1
theorem dX5_packed_35 : decode cX5_packed 35 = .ok (.if_icmp .le 6, 3) := dcq_238.2.2.2.2.2.2.2.2.1
theorem dX5_packed_38 : decode cX5_packed 38 = .ok (.bipush (-3), 2) := dcq_238.2.2.2.2.2.2.2.2.2.1
theorem dX5_packed_40 : decode cX5_packed 40 = .ok (.ireturn, 1) := dcq_238.2.2.2.2.2.2.2.2.2.2.1
theorem dX5_packed_41 : decode cX5_packed 41 = .ok (.iinc 2 1, 3) := dcq_238.2.2.2.2.2.2.2.2.2.2.2
set_option maxRecDepth 20000 in
theorem dcb_239 : fd_B cX5_packed 44 [167, 255, 226, 42, 180, 0, 54, 3, 27, 79, 4, 42, 180, 0, 10, 180, 0, 86, 120, 61] := fd_o cX5_packed 44 _ (by decide +kernel)
theorem dcq_239 : (decode cX5_packed 44 = .ok (.goto (-30), 3)) ∧ (decode cX5_packed 47 = .ok (.aload_n 0, 1)) ∧ (decode cX5_packed 48 = .ok (.getfield 54, 3)) ∧ (decode cX5_packed 51 = .ok (.iconst 0, 1)) ∧ (decode cX5_packed 52 = .ok (.iload_n 1, 1)) ∧ (decode cX5_packed 53 = .ok (.iastore, 1)) ∧ (decode cX5_packed 54 = .ok (.iconst 1, 1)) ∧ (decode cX5_packed 55 = .ok (.aload_n 0, 1)) ∧ (decode cX5_packed 56 = .ok (.getfield 10, 3)) ∧ (decode cX5_packed 59 = .ok (.getfield 86, 3)) ∧ (decode cX5_packed 62 = .ok (.ishl, 1)) ∧ (decode cX5_packed 63 = .ok (.istore_n 2, 1)) := have h := dcb_239; ⟨fd_167 h (by decide +kernel), have h := fd_t3 h; ⟨fd_42 h, have h := fd_t1 h; ⟨fd_180 h rfl, have h := fd_t3 h; ⟨fd_3 h, have h := fd_t1 h; ⟨fd_27 h, have h := fd_t1 h; ⟨fd_79 h, have h := fd_t1 h; ⟨fd_4 h, have h := fd_t1 h; ⟨fd_42 h, have h := fd_t1 h; ⟨fd_180 h rfl, have h := fd_t3 h; ⟨fd_180 h rfl, have h := fd_t3 h; ⟨fd_120 h, have h := fd_t1 h; fd_61 h⟩⟩⟩⟩⟩⟩⟩⟩⟩⟩⟩
theorem dX5_packed_44 : decode cX5_packed 44 = .ok (.goto (-30), 3) := dcq_239.1
theorem dX5_packed_47 : decode cX5_packed 47 = .ok (.aload_n 0, 1) := dcq_239.2.1
theorem dX5_packed_48 : decode cX5_packed 48 = .ok (.getfield 54, 3) := dcq_239.2.2.1
theorem dX5_packed_51 : decode cX5_packed 51 = .ok (.iconst 0, 1) := dcq_239.2.2.2.1
theorem dX5_packed_52 : decode cX5_packed 52 = .ok (.iload_n 1, 1) := dcq_239.2.2.2.2.1
theorem dX5_packed_53 : decode cX5_packed 53 = .ok (.iastore, 1) := dcq_239.2.2.2.2.2.1
theorem dX5_packed_54 : decode cX5_packed 54 = .ok (.iconst 1, 1) := dcq_239.2.2.2.2.2.2.1
theorem dX5_packed_55 : decode cX5_packed 55 = .ok (.aload_n 0, 1) := dcq_239.2.2.2.2.2.2.2.1
theorem dX5_packed_56 : decode cX5_packed 56 = .ok (.getfield 10, 3) := dcq_239.2.2.2.2.2.2.2.2.1
theorem dX5_packed_59 : decode cX5_packed 59 = .ok (.getfield 86, 3) := dcq_239.2.2.2.2.2.2.2.2.2.1
theorem dX5_packed_62 : decode cX5_packed 62 = .ok (.ishl, 1) := dcq_239.2.2.2.2.2.2.2.2.2.2.1
theorem dX5_packed_63 : decode cX5_packed 63 = .ok (.istore_n 2, 1) := dcq_239.2.2.2.2.2.2.2.2.2.2.2
set_option maxRecDepth 20000 in
theorem dcb_240 : fd_B cX5_packed 64 [4, 62, 29, 28, 162, 0, 21, 42, 180, 0, 54, 29, 42, 29, 27, 182, 0, 173] := fd_o cX5_packed 64 _ (by decide +kernel)
theorem dcq_240 : (decode cX5_packed 64 = .ok (.iconst 1, 1)) ∧ (decode cX5_packed 65 = .ok (.istore_n 3, 1)) ∧ (decode cX5_packed 66 = .ok (.iload_n 3, 1)) ∧ (decode cX5_packed 67 = .ok (.iload_n 2, 1)) ∧ (decode cX5_packed 68 = .ok (.if_icmp .ge 21, 3)) ∧ (decode cX5_packed 71 = .ok (.aload_n 0, 1)) ∧ (decode cX5_packed 72 = .ok (.getfield 54, 3)) ∧ (decode cX5_packed 75 = .ok (.iload_n 3, 1)) ∧ (decode cX5_packed 76 = .ok (.aload_n 0, 1)) ∧ (decode cX5_packed 77 = .ok (.iload_n 3, 1)) ∧ (decode cX5_packed 78 = .ok (.iload_n 1, 1)) ∧ (decode cX5_packed 79 = .ok (.invokevirtual 173, 3)) := have h := dcb_240; ⟨fd_4 h, have h := fd_t1 h; ⟨fd_62 h, have h := fd_t1 h; ⟨fd_29 h, have h := fd_t1 h; ⟨fd_28 h, have h := fd_t1 h; ⟨fd_162 h (by decide +kernel), have h := fd_t3 h; ⟨fd_42 h, have h := fd_t1 h; ⟨fd_180 h rfl, have h := fd_t3 h; ⟨fd_29 h, have h := fd_t1 h; ⟨fd_42 h, have h := fd_t1 h; ⟨fd_29 h, have h := fd_t1 h; ⟨fd_27 h, have h := fd_t1 h; fd_182 h rfl⟩⟩⟩⟩⟩⟩⟩⟩⟩⟩⟩
theorem dX5_packed_64 : decode cX5_packed 64 = .ok (.iconst 1, 1) := dcq_240.1
theorem dX5_packed_65 : decode cX5_packed 65 = .ok (.istore_n 3, 1) := dcq_240.2.1
theorem dX5_packed_66 : decode cX5_packed 66 = .ok (.iload_n 3, 1) := dcq_240.2.2.1
theorem dX5_packed_67 : decode cX5_packed 67 = .ok (.iload_n 2, 1) := dcq_240.2.2.2.1
theorem dX5_packed_68 : decode cX5_packed 68 = .ok (.if_icmp .ge 21, 3) := dcq_240.2.2.2.2.1
theorem dX5_packed_71 : decode cX5_packed 71 = .ok (.aload_n 0, 1) := dcq_240.2.2.2.2.2.1
theorem dX5_packed_72 : decode cX5_packed 72 = .ok (.getfield 54, 3) := dcq_240.2.2.2.2.2.2.1
theorem dX5_packed_75 : decode cX5_packed 75 = .ok (.iload_n 3, 1) := dcq_240.2.2.2.2.2.2.2.1
theorem dX5_packed_76 : decode cX5_packed 76 = .ok (.aload_n 0, 1) := dcq_240.2.2.2.2.2.2.2.2.1
theorem dX5_packed_77 : decode cX5_packed 77 = .ok (.iload_n 3, 1) := dcq_240.2.2.2.2.2.2.2.2.2.1
theorem dX5_packed_78 : decode cX5_packed 78 = .ok (.iload_n 1, 1) := dcq_240.2.2.2.2.2.2.2.2.2.2.1
theorem dX5_packed_79 : decode cX5_packed 79 = .ok (.invokevirtual 173, 3) := dcq_240.2.2.2.2.2.2.2.2.2.2.2
set_option maxRecDepth 20000 in
theorem dcb_241 : fd_B cX5_packed 82 [79, 132, 3, 1, 167, 255, 236, 42, 180, 0, 54, 28, 4, 100, 46, 16, 100, 108, 172] := fd_o cX5_packed 82 _ (by decide +kernel)
theorem dcq_241 : (decode cX5_packed 82 = .ok (.iastore, 1)) ∧ (decode cX5_packed 83 = .ok (.iinc 3 1, 3)) ∧ (decode cX5_packed 86 = .ok (.goto (-20), 3)) ∧ (decode cX5_packed 89 = .ok (.aload_n 0, 1)) ∧ (decode cX5_packed 90 = .ok (.getfield 54, 3)) ∧ (decode cX5_packed 93 = .ok (.iload_n 2, 1)) ∧ (decode cX5_packed 94 = .ok (.iconst 1, 1)) ∧ (decode cX5_packed 95 = .ok (.isub, 1)) ∧ (decode cX5_packed 96 = .ok (.iaload, 1)) ∧ (decode cX5_packed 97 = .ok (.bipush 100, 2)) ∧ (decode cX5_packed 99 = .ok (.idiv, 1)) ∧ (decode cX5_packed 100 = .ok (.ireturn, 1)) := have h := dcb_241; ⟨fd_79 h, have h := fd_t1 h; ⟨fd_132 h rfl (by decide +kernel), have h := fd_t3 h; ⟨fd_167 h (by decide +kernel), have h := fd_t3 h; ⟨fd_42 h, have h := fd_t1 h; ⟨fd_180 h rfl, have h := fd_t3 h; ⟨fd_28 h, have h := fd_t1 h; ⟨fd_4 h, have h := fd_t1 h; ⟨fd_100 h, have h := fd_t1 h; ⟨fd_46 h, have h := fd_t1 h; ⟨fd_16 h (by decide +kernel), have h := fd_t2 h; ⟨fd_108 h, have h := fd_t1 h; fd_172 h⟩⟩⟩⟩⟩⟩⟩⟩⟩⟩⟩
theorem dX5_packed_82 : decode cX5_packed 82 = .ok (.iastore, 1) := dcq_241.1
theorem dX5_packed_83 : decode cX5_packed 83 = .ok (.iinc 3 1, 3) := dcq_241.2.1
theorem dX5_packed_86 : decode cX5_packed 86 = .ok (.goto (-20), 3) := dcq_241.2.2.1
theorem dX5_packed_89 : decode cX5_packed 89 = .ok (.aload_n 0, 1) := dcq_241.2.2.2.1
theorem dX5_packed_90 : decode cX5_packed 90 = .ok (.getfield 54, 3) := dcq_241.2.2.2.2.1
theorem dX5_packed_93 : decode cX5_packed 93 = .ok (.iload_n 2, 1) := dcq_241.2.2.2.2.2.1
theorem dX5_packed_94 : decode cX5_packed 94 = .ok (.iconst 1, 1) := dcq_241.2.2.2.2.2.2.1
theorem dX5_packed_95 : decode cX5_packed 95 = .ok (.isub, 1) := dcq_241.2.2.2.2.2.2.2.1
theorem dX5_packed_96 : decode cX5_packed 96 = .ok (.iaload, 1) := dcq_241.2.2.2.2.2.2.2.2.1
theorem dX5_packed_97 : decode cX5_packed 97 = .ok (.bipush 100, 2) := dcq_241.2.2.2.2.2.2.2.2.2.1
theorem dX5_packed_99 : decode cX5_packed 99 = .ok (.idiv, 1) := dcq_241.2.2.2.2.2.2.2.2.2.2.1
theorem dX5_packed_100 : decode cX5_packed 100 = .ok (.ireturn, 1) := dcq_241.2.2.2.2.2.2.2.2.2.2.2
set_option maxRecDepth 20000 in
theorem dcb_242 : fd_B cX5_fits 0 [27, 184, 0, 177, 153, 0, 23, 42, 180, 0, 10, 28, 182, 0, 103, 153, 0, 12, 29, 3, 4, 184, 0, 57] := fd_o cX5_fits 0 _ (by decide +kernel)
theorem dcq_242 : (decode cX5_fits 0 = .ok (.iload_n 1, 1)) ∧ (decode cX5_fits 1 = .ok (.invokestatic 177, 3)) ∧ (decode cX5_fits 4 = .ok (.ifCond .eq 23, 3)) ∧ (decode cX5_fits 7 = .ok (.aload_n 0, 1)) ∧ (decode cX5_fits 8 = .ok (.getfield 10, 3)) ∧ (decode cX5_fits 11 = .ok (.iload_n 2, 1)) ∧ (decode cX5_fits 12 = .ok (.invokevirtual 103, 3)) ∧ (decode cX5_fits 15 = .ok (.ifCond .eq 12, 3)) ∧ (decode cX5_fits 18 = .ok (.iload_n 3, 1)) ∧ (decode cX5_fits 19 = .ok (.iconst 0, 1)) ∧ (decode cX5_fits 20 = .ok (.iconst 1, 1)) ∧ (decode cX5_fits 21 = .ok (.invokestatic 57, 3)) := have h := dcb_242; ⟨fd_27 h, have h := fd_t1 h; ⟨fd_184 h rfl, have h := fd_t3 h; ⟨fd_153 h (by decide +kernel), have h := fd_t3 h; ⟨fd_42 h, have h := fd_t1 h; ⟨fd_180 h rfl, have h := fd_t3 h; ⟨fd_28 h, have h := fd_t1 h; ⟨fd_182 h rfl, have h := fd_t3 h; ⟨fd_153 h (by decide +kernel), have h := fd_t3 h; ⟨fd_29 h, have h := fd_t1 h; ⟨fd_3 h, have h := fd_t1 h; ⟨fd_4 h, have h := fd_t1 h; fd_184 h rfl⟩⟩⟩⟩⟩⟩⟩⟩⟩⟩⟩
theorem dX5_fits_0 : decode cX5_fits 0 = .ok (.iload_n 1, 1) := dcq_242.1
theorem dX5_fits_1 : decode cX5_fits 1 = .ok (.invokestatic 177, 3) := dcq_242.2.1
theorem dX5_fits_4 : decode cX5_fits 4 = .ok (.ifCond .eq 23, 3) := dcq_242.2.2.1
theorem dX5_fits_7 : decode cX5_fits 7 = .ok (.aload_n 0, 1) := dcq_242.2.2.2.1
theorem dX5_fits_8 : decode cX5_fits 8 = .ok (.getfield 10, 3) := dcq_242.2.2.2.2.1
theorem dX5_fits_11 : decode cX5_fits 11 = .ok (.iload_n 2, 1) := dcq_242.2.2.2.2.2.1
theorem dX5_fits_12 : decode cX5_fits 12 = .ok (.invokevirtual 103, 3) := dcq_242.2.2.2.2.2.2.1
theorem dX5_fits_15 : decode cX5_fits 15 = .ok (.ifCond .eq 12, 3) := dcq_242.2.2.2.2.2.2.2.1
theorem dX5_fits_18 : decode cX5_fits 18 = .ok (.iload_n 3, 1) := dcq_242.2.2.2.2.2.2.2.2.1
theorem dX5_fits_19 : decode cX5_fits 19 = .ok (.iconst 0, 1) := dcq_242.2.2.2.2.2.2.2.2.2.1
theorem dX5_fits_20 : decode cX5_fits 20 = .ok (.iconst 1, 1) := dcq_242.2.2.2.2.2.2.2.2.2.2.1
theorem dX5_fits_21 : decode cX5_fits 21 = .ok (.invokestatic 57, 3) := dcq_242.2.2.2.2.2.2.2.2.2.2.2
set_option maxRecDepth 20000 in
theorem dcb_243 : fd_B cX5_fits 24 [154, 0, 5, 2, 172, 42, 180, 0, 38, 27, 50, 58, 4, 25, 4, 180, 0, 180, 2, 160, 0, 6] := fd_o cX5_fits 24 _ (by decide +kernel)
theorem dcq_243 : (decode cX5_fits 24 = .ok (.ifCond .ne 5, 3)) ∧ (decode cX5_fits 27 = .ok (.iconst (-1), 1)) ∧ (decode cX5_fits 28 = .ok (.ireturn, 1)) ∧ (decode cX5_fits 29 = .ok (.aload_n 0, 1)) ∧ (decode cX5_fits 30 = .ok (.getfield 38, 3)) ∧ (decode cX5_fits 33 = .ok (.iload_n 1, 1)) ∧ (decode cX5_fits 34 = .ok (.aaload, 1)) ∧ (decode cX5_fits 35 = .ok (.astore 4, 2)) ∧ (decode cX5_fits 37 = .ok (.aload 4, 2)) ∧ (decode cX5_fits 39 = .ok (.getfield 180, 3)) ∧ (decode cX5_fits 42 = .ok (.iconst (-1), 1)) ∧ (decode cX5_fits 43 = .ok (.if_icmp .ne 6, 3)) := have h := dcb_243; ⟨fd_154 h (by decide +kernel), have h := fd_t3 h; ⟨fd_2 h, have h := fd_t1 h; ⟨fd_172 h, have h := fd_t1 h; ⟨fd_42 h, have h := fd_t1 h; ⟨fd_180 h rfl, have h := fd_t3 h; ⟨fd_27 h, have h := fd_t1 h; ⟨fd_50 h, have h := fd_t1 h; ⟨fd_58 h rfl, have h := fd_t2 h; ⟨fd_25 h rfl, have h := fd_t2 h; ⟨fd_180 h rfl, have h := fd_t3 h; ⟨fd_2 h, have h := fd_t1 h; fd_160 h (by decide +kernel)⟩⟩⟩⟩⟩⟩⟩⟩⟩⟩⟩
theorem dX5_fits_24 : decode cX5_fits 24 = .ok (.ifCond .ne 5, 3) := dcq_243.1
theorem dX5_fits_27 : decode cX5_fits 27 = .ok (.iconst (-1), 1) := dcq_243.2.1
theorem dX5_fits_28 : decode cX5_fits 28 = .ok (.ireturn, 1) := dcq_243.2.2.1
theorem dX5_fits_29 : decode cX5_fits 29 = .ok (.aload_n 0, 1) := dcq_243.2.2.2.1
theorem dX5_fits_30 : decode cX5_fits 30 = .ok (.getfield 38, 3) := dcq_243.2.2.2.2.1
theorem dX5_fits_33 : decode cX5_fits 33 = .ok (.iload_n 1, 1) := dcq_243.2.2.2.2.2.1
theorem dX5_fits_34 : decode cX5_fits 34 = .ok (.aaload, 1) := dcq_243.2.2.2.2.2.2.1
theorem dX5_fits_35 : decode cX5_fits 35 = .ok (.astore 4, 2) := dcq_243.2.2.2.2.2.2.2.1
theorem dX5_fits_37 : decode cX5_fits 37 = .ok (.aload 4, 2) := dcq_243.2.2.2.2.2.2.2.2.1
theorem dX5_fits_39 : decode cX5_fits 39 = .ok (.getfield 180, 3) := dcq_243.2.2.2.2.2.2.2.2.2.1
theorem dX5_fits_42 : decode cX5_fits 42 = .ok (.iconst (-1), 1) := dcq_243.2.2.2.2.2.2.2.2.2.2.1
theorem dX5_fits_43 : decode cX5_fits 43 = .ok (.if_icmp .ne 6, 3) := dcq_243.2.2.2.2.2.2.2.2.2.2.2
set_option maxRecDepth 20000 in
theorem dcb_244 : fd_B cX5_fits 46 [16, 245, 172, 3, 54, 5, 16, 253, 54, 6, 3, 54, 7, 21, 7, 16, 99, 163, 0, 38, 42] := fd_o cX5_fits 46 _ (by decide +kernel)
theorem dcq_244 : (decode cX5_fits 46 = .ok (.bipush (-11), 2)) ∧ (decode cX5_fits 48 = .ok (.ireturn, 1)) ∧ (decode cX5_fits 49 = .ok (.iconst 0, 1)) ∧ (decode cX5_fits 50 = .ok (.istore 5, 2)) ∧ (decode cX5_fits 52 = .ok (.bipush (-3), 2)) ∧ (decode cX5_fits 54 = .ok (.istore 6, 2)) ∧ (decode cX5_fits 56 = .ok (.iconst 0, 1)) ∧ (decode cX5_fits 57 = .ok (.istore 7, 2)) ∧ (decode cX5_fits 59 = .ok (.iload 7, 2)) ∧ (decode cX5_fits 61 = .ok (.bipush 99, 2)) ∧ (decode cX5_fits 63 = .ok (.if_icmp .gt 38, 3)) ∧ (decode cX5_fits 66 = .ok (.aload_n 0, 1)) := have h := dcb_244; ⟨fd_16 h (by decide +kernel), have h := fd_t2 h; ⟨fd_172 h, have h := fd_t1 h; ⟨fd_3 h, have h := fd_t1 h; ⟨fd_54 h rfl, have h := fd_t2 h; ⟨fd_16 h (by decide +kernel), have h := fd_t2 h; ⟨fd_54 h rfl, have h := fd_t2 h; ⟨fd_3 h, have h := fd_t1 h; ⟨fd_54 h rfl, have h := fd_t2 h; ⟨fd_21 h rfl, have h := fd_t2 h; ⟨fd_16 h (by decide +kernel), have h := fd_t2 h; ⟨fd_163 h (by decide +kernel), have h := fd_t3 h; fd_42 h⟩⟩⟩⟩⟩⟩⟩⟩⟩⟩⟩
theorem dX5_fits_46 : decode cX5_fits 46 = .ok (.bipush (-11), 2) := dcq_244.1
theorem dX5_fits_48 : decode cX5_fits 48 = .ok (.ireturn, 1) := dcq_244.2.1
theorem dX5_fits_49 : decode cX5_fits 49 = .ok (.iconst 0, 1) := dcq_244.2.2.1
theorem dX5_fits_50 : decode cX5_fits 50 = .ok (.istore 5, 2) := dcq_244.2.2.2.1
theorem dX5_fits_52 : decode cX5_fits 52 = .ok (.bipush (-3), 2) := dcq_244.2.2.2.2.1
theorem dX5_fits_54 : decode cX5_fits 54 = .ok (.istore 6, 2) := dcq_244.2.2.2.2.2.1
theorem dX5_fits_56 : decode cX5_fits 56 = .ok (.iconst 0, 1) := dcq_244.2.2.2.2.2.2.1
theorem dX5_fits_57 : decode cX5_fits 57 = .ok (.istore 7, 2) := dcq_244.2.2.2.2.2.2.2.1
theorem dX5_fits_59 : decode cX5_fits 59 = .ok (.iload 7, 2) := dcq_244.2.2.2.2.2.2.2.2.1
theorem dX5_fits_61 : decode cX5_fits 61 = .ok (.bipush 99, 2) := dcq_244.2.2.2.2.2.2.2.2.2.1
theorem dX5_fits_63 : decode cX5_fits 63 = .ok (.if_icmp .gt 38, 3) := dcq_244.2.2.2.2.2.2.2.2.2.2.1
theorem dX5_fits_66 : decode cX5_fits 66 = .ok (.aload_n 0, 1) := dcq_244.2.2.2.2.2.2.2.2.2.2.2
set_option maxRecDepth 20000 in
theorem dcb_245 : fd_B cX5_fits 67 [25, 4, 28, 21, 7, 182, 0, 183, 153, 0, 20, 21, 5, 154, 0, 8, 21, 7, 167, 0, 5, 21, 6, 54, 6, 132, 5, 1] := fd_o cX5_fits 67 _ (by decide +kernel)
theorem dcq_245 : (decode cX5_fits 67 = .ok (.aload 4, 2)) ∧ (decode cX5_fits 69 = .ok (.iload_n 2, 1)) ∧ (decode cX5_fits 70 = .ok (.iload 7, 2)) ∧ (decode cX5_fits 72 = .ok (.invokevirtual 183, 3)) ∧ (decode cX5_fits 75 = .ok (.ifCond .eq 20, 3)) ∧ (decode cX5_fits 78 = .ok (.iload 5, 2)) ∧ (decode cX5_fits 80 = .ok (.ifCond .ne 8, 3)) ∧ (decode cX5_fits 83 = .ok (.iload 7, 2)) ∧ (decode cX5_fits 85 = .ok (.goto 5, 3)) ∧ (decode cX5_fits 88 = .ok (.iload 6, 2)) ∧ (decode cX5_fits 90 = .ok (.istore 6, 2)) ∧ (decode cX5_fits 92 = .ok (.iinc 5 1, 3)) := have h := dcb_245; ⟨fd_25 h rfl, have h := fd_t2 h; ⟨fd_28 h, have h := fd_t1 h; ⟨fd_21 h rfl, have h := fd_t2 h; ⟨fd_182 h rfl, have h := fd_t3 h; ⟨fd_153 h (by decide +kernel), have h := fd_t3 h; ⟨fd_21 h rfl, have h := fd_t2 h; ⟨fd_154 h (by decide +kernel), have h := fd_t3 h; ⟨fd_21 h rfl, have h := fd_t2 h; ⟨fd_167 h (by decide +kernel), have h := fd_t3 h; ⟨fd_21 h rfl, have h := fd_t2 h; ⟨fd_54 h rfl, have h := fd_t2 h; fd_132 h rfl (by decide +kernel)⟩⟩⟩⟩⟩⟩⟩⟩⟩⟩⟩
theorem dX5_fits_67 : decode cX5_fits 67 = .ok (.aload 4, 2) := dcq_245.1
theorem dX5_fits_69 : decode cX5_fits 69 = .ok (.iload_n 2, 1) := dcq_245.2.1
theorem dX5_fits_70 : decode cX5_fits 70 = .ok (.iload 7, 2) := dcq_245.2.2.1
theorem dX5_fits_72 : decode cX5_fits 72 = .ok (.invokevirtual 183, 3) := dcq_245.2.2.2.1
theorem dX5_fits_75 : decode cX5_fits 75 = .ok (.ifCond .eq 20, 3) := dcq_245.2.2.2.2.1
theorem dX5_fits_78 : decode cX5_fits 78 = .ok (.iload 5, 2) := dcq_245.2.2.2.2.2.1
theorem dX5_fits_80 : decode cX5_fits 80 = .ok (.ifCond .ne 8, 3) := dcq_245.2.2.2.2.2.2.1
theorem dX5_fits_83 : decode cX5_fits 83 = .ok (.iload 7, 2) := dcq_245.2.2.2.2.2.2.2.1
theorem dX5_fits_85 : decode cX5_fits 85 = .ok (.goto 5, 3) := dcq_245.2.2.2.2.2.2.2.2.1
theorem dX5_fits_88 : decode cX5_fits 88 = .ok (.iload 6, 2) := dcq_245.2.2.2.2.2.2.2.2.2.1
theorem dX5_fits_90 : decode cX5_fits 90 = .ok (.istore 6, 2) := dcq_245.2.2.2.2.2.2.2.2.2.2.1
theorem dX5_fits_92 : decode cX5_fits 92 = .ok (.iinc 5 1, 3) := dcq_245.2.2.2.2.2.2.2.2.2.2.2
set_option maxRecDepth 20000 in
theorem dcb_246 : fd_B cX5_fits 95 [132, 7, 1, 167, 255, 217, 29, 154, 0, 8, 21, 5, 167, 0, 5, 21, 6, 172] := fd_o cX5_fits 95 _ (by decide +kernel)
theorem dcq_246 : (decode cX5_fits 95 = .ok (.iinc 7 1, 3)) ∧ (decode cX5_fits 98 = .ok (.goto (-39), 3)) ∧ (decode cX5_fits 101 = .ok (.iload_n 3, 1)) ∧ (decode cX5_fits 102 = .ok (.ifCond .ne 8, 3)) ∧ (decode cX5_fits 105 = .ok (.iload 5, 2)) ∧ (decode cX5_fits 107 = .ok (.goto 5, 3)) ∧ (decode cX5_fits 110 = .ok (.iload 6, 2)) ∧ (decode cX5_fits 112 = .ok (.ireturn, 1)) := have h := dcb_246; ⟨fd_132 h rfl (by decide +kernel), have h := fd_t3 h; ⟨fd_167 h (by decide +kernel), have h := fd_t3 h; ⟨fd_29 h, have h := fd_t1 h; ⟨fd_154 h (by decide +kernel), have h := fd_t3 h; ⟨fd_21 h rfl, have h := fd_t2 h; ⟨fd_167 h (by decide +kernel), have h := fd_t3 h; ⟨fd_21 h rfl, have h := fd_t2 h; fd_172 h⟩⟩⟩⟩⟩⟩⟩
theorem dX5_fits_95 : decode cX5_fits 95 = .ok (.iinc 7 1, 3) := dcq_246.1
theorem dX5_fits_98 : decode cX5_fits 98 = .ok (.goto (-39), 3) := dcq_246.2.1
theorem dX5_fits_101 : decode cX5_fits 101 = .ok (.iload_n 3, 1) := dcq_246.2.2.1
theorem dX5_fits_102 : decode cX5_fits 102 = .ok (.ifCond .ne 8, 3) := dcq_246.2.2.2.1
theorem dX5_fits_105 : decode cX5_fits 105 = .ok (.iload 5, 2) := dcq_246.2.2.2.2.1
theorem dX5_fits_107 : decode cX5_fits 107 = .ok (.goto 5, 3) := dcq_246.2.2.2.2.2.1
theorem dX5_fits_110 : decode cX5_fits 110 = .ok (.iload 6, 2) := dcq_246.2.2.2.2.2.2.1
theorem dX5_fits_112 : decode cX5_fits 112 = .ok (.ireturn, 1) := dcq_246.2.2.2.2.2.2.2
set_option maxRecDepth 20000 in
theorem dcb_247 : fd_B cX5_odds 0 [27, 3, 16, 8, 184, 0, 57, 153, 0, 21, 28, 3, 27, 184, 0, 57, 153, 0, 12, 29, 3] := fd_o cX5_odds 0 _ (by decide +kernel)
theorem dcq_247 : (decode cX5_odds 0 = .ok (.iload_n 1, 1)) ∧ (decode cX5_odds 1 = .ok (.iconst 0, 1)) ∧ (decode cX5_odds 2 = .ok (.bipush 8, 2)) ∧ (decode cX5_odds 4 = .ok (.invokestatic 57, 3)) ∧ (decode cX5_odds 7 = .ok (.ifCond .eq 21, 3)) ∧ (decode cX5_odds 10 = .ok (.iload_n 2, 1)) ∧ (decode cX5_odds 11 = .ok (.iconst 0, 1)) ∧ (decode cX5_odds 12 = .ok (.iload_n 1, 1)) ∧ (decode cX5_odds 13 = .ok (.invokestatic 57, 3)) ∧ (decode cX5_odds 16 = .ok (.ifCond .eq 12, 3)) ∧ (decode cX5_odds 19 = .ok (.iload_n 3, 1)) ∧ (decode cX5_odds 20 = .ok (.iconst 0, 1)) := have h := dcb_247; ⟨fd_27 h, have h := fd_t1 h; ⟨fd_3 h, have h := fd_t1 h; ⟨fd_16 h (by decide +kernel), have h := fd_t2 h; ⟨fd_184 h rfl, have h := fd_t3 h; ⟨fd_153 h (by decide +kernel), have h := fd_t3 h; ⟨fd_28 h, have h := fd_t1 h; ⟨fd_3 h, have h := fd_t1 h; ⟨fd_27 h, have h := fd_t1 h; ⟨fd_184 h rfl, have h := fd_t3 h; ⟨fd_153 h (by decide +kernel), have h := fd_t3 h; ⟨fd_29 h, have h := fd_t1 h; fd_3 h⟩⟩⟩⟩⟩⟩⟩⟩⟩⟩⟩
theorem dX5_odds_0 : decode cX5_odds 0 = .ok (.iload_n 1, 1) := dcq_247.1
theorem dX5_odds_1 : decode cX5_odds 1 = .ok (.iconst 0, 1) := dcq_247.2.1
theorem dX5_odds_2 : decode cX5_odds 2 = .ok (.bipush 8, 2) := dcq_247.2.2.1
theorem dX5_odds_4 : decode cX5_odds 4 = .ok (.invokestatic 57, 3) := dcq_247.2.2.2.1
theorem dX5_odds_7 : decode cX5_odds 7 = .ok (.ifCond .eq 21, 3) := dcq_247.2.2.2.2.1
theorem dX5_odds_10 : decode cX5_odds 10 = .ok (.iload_n 2, 1) := dcq_247.2.2.2.2.2.1
theorem dX5_odds_11 : decode cX5_odds 11 = .ok (.iconst 0, 1) := dcq_247.2.2.2.2.2.2.1
theorem dX5_odds_12 : decode cX5_odds 12 = .ok (.iload_n 1, 1) := dcq_247.2.2.2.2.2.2.2.1
theorem dX5_odds_13 : decode cX5_odds 13 = .ok (.invokestatic 57, 3) := dcq_247.2.2.2.2.2.2.2.2.1
theorem dX5_odds_16 : decode cX5_odds 16 = .ok (.ifCond .eq 12, 3) := dcq_247.2.2.2.2.2.2.2.2.2.1
theorem dX5_odds_19 : decode cX5_odds 19 = .ok (.iload_n 3, 1) := dcq_247.2.2.2.2.2.2.2.2.2.2.1
theorem dX5_odds_20 : decode cX5_odds 20 = .ok (.iconst 0, 1) := dcq_247.2.2.2.2.2.2.2.2.2.2.2
set_option maxRecDepth 20000 in
theorem dcb_248 : fd_B cX5_odds 21 [4, 184, 0, 57, 154, 0, 7, 20, 0, 187, 173, 42, 180, 0, 10, 180, 0, 92, 6, 46, 54, 4, 10] := fd_o cX5_odds 21 _ (by decide +kernel)
theorem dcq_248 : (decode cX5_odds 21 = .ok (.iconst 1, 1)) ∧ (decode cX5_odds 22 = .ok (.invokestatic 57, 3)) ∧ (decode cX5_odds 25 = .ok (.ifCond .ne 7, 3)) ∧ (decode cX5_odds 28 = .ok (.ldc2_w 187, 3)) ∧ (decode cX5_odds 31 = .ok (.lreturn, 1)) ∧ (decode cX5_odds 32 = .ok (.aload_n 0, 1)) ∧ (decode cX5_odds 33 = .ok (.getfield 10, 3)) ∧ (decode cX5_odds 36 = .ok (.getfield 92, 3)) ∧ (decode cX5_odds 39 = .ok (.iconst 3, 1)) ∧ (decode cX5_odds 40 = .ok (.iaload, 1)) ∧ (decode cX5_odds 41 = .ok (.istore 4, 2)) ∧ (decode cX5_odds 43 = .ok (.lconst 1, 1)) := have h := dcb_248; ⟨fd_4 h, have h := fd_t1 h; ⟨fd_184 h rfl, have h := fd_t3 h; ⟨fd_154 h (by decide +kernel), have h := fd_t3 h; ⟨fd_20 h rfl, have h := fd_t3 h; ⟨fd_173 h, have h := fd_t1 h; ⟨fd_42 h, have h := fd_t1 h; ⟨fd_180 h rfl, have h := fd_t3 h; ⟨fd_180 h rfl, have h := fd_t3 h; ⟨fd_6 h, have h := fd_t1 h; ⟨fd_46 h, have h := fd_t1 h; ⟨fd_54 h rfl, have h := fd_t2 h; fd_10 h⟩⟩⟩⟩⟩⟩⟩⟩⟩⟩⟩
theorem dX5_odds_21 : decode cX5_odds 21 = .ok (.iconst 1, 1) := dcq_248.1
theorem dX5_odds_22 : decode cX5_odds 22 = .ok (.invokestatic 57, 3) := dcq_248.2.1
theorem dX5_odds_25 : decode cX5_odds 25 = .ok (.ifCond .ne 7, 3) := dcq_248.2.2.1
theorem dX5_odds_28 : decode cX5_odds 28 = .ok (.ldc2_w 187, 3) := dcq_248.2.2.2.1
theorem dX5_odds_31 : decode cX5_odds 31 = .ok (.lreturn, 1) := dcq_248.2.2.2.2.1
theorem dX5_odds_32 : decode cX5_odds 32 = .ok (.aload_n 0, 1) := dcq_248.2.2.2.2.2.1
theorem dX5_odds_33 : decode cX5_odds 33 = .ok (.getfield 10, 3) := dcq_248.2.2.2.2.2.2.1
theorem dX5_odds_36 : decode cX5_odds 36 = .ok (.getfield 92, 3) := dcq_248.2.2.2.2.2.2.2.1
theorem dX5_odds_39 : decode cX5_odds 39 = .ok (.iconst 3, 1) := dcq_248.2.2.2.2.2.2.2.2.1
theorem dX5_odds_40 : decode cX5_odds 40 = .ok (.iaload, 1) := dcq_248.2.2.2.2.2.2.2.2.2.1
theorem dX5_odds_41 : decode cX5_odds 41 = .ok (.istore 4, 2) := dcq_248.2.2.2.2.2.2.2.2.2.2.1
theorem dX5_odds_43 : decode cX5_odds 43 = .ok (.lconst 1, 1) := dcq_248.2.2.2.2.2.2.2.2.2.2.2
set_option maxRecDepth 20000 in
theorem dcb_249 : fd_B cX5_odds 44 [55, 5, 10, 55, 7, 3, 54, 9, 21, 9, 27, 162, 0, 40, 22, 5, 21, 9, 28, 162, 0, 9] := fd_o cX5_odds 44 _ (by decide +kernel)
theorem dcq_249 : (decode cX5_odds 44 = .ok (.lstore 5, 2)) ∧ (decode cX5_odds 46 = .ok (.lconst 1, 1)) ∧ (decode cX5_odds 47 = .ok (.lstore 7, 2)) ∧ (decode cX5_odds 49 = .ok (.iconst 0, 1)) ∧ (decode cX5_odds 50 = .ok (.istore 9, 2)) ∧ (decode cX5_odds 52 = .ok (.iload 9, 2)) ∧ (decode cX5_odds 54 = .ok (.iload_n 1, 1)) ∧ (decode cX5_odds 55 = .ok (.if_icmp .ge 40, 3)) ∧ (decode cX5_odds 58 = .ok (.lload 5, 2)) ∧ (decode cX5_odds 60 = .ok (.iload 9, 2)) ∧ (decode cX5_odds 62 = .ok (.iload_n 2, 1)) ∧ (decode cX5_odds 63 = .ok (.if_icmp .ge 9, 3)) := have h := dcb_249; ⟨fd_55 h rfl, have h := fd_t2 h; ⟨fd_10 h, have h := fd_t1 h; ⟨fd_55 h rfl, have h := fd_t2 h; ⟨fd_3 h, have h := fd_t1 h; ⟨fd_54 h rfl, have h := fd_t2 h; ⟨fd_21 h rfl, have h := fd_t2 h; ⟨fd_27 h, have h := fd_t1 h; ⟨fd_162 h (by decide +kernel), have h := fd_t3 h; ⟨fd_22 h rfl, have h := fd_t2 h; ⟨fd_21 h rfl, have h := fd_t2 h; ⟨fd_28 h, have h := fd_t1 h; fd_162 h (by decide +kernel)⟩⟩⟩⟩⟩⟩⟩⟩⟩⟩⟩
theorem dX5_odds_44 : decode cX5_odds 44 = .ok (.lstore 5, 2) := dcq_249.1
theorem dX5_odds_46 : decode cX5_odds 46 = .ok (.lconst 1, 1) := dcq_249.2.1
theorem dX5_odds_47 : decode cX5_odds 47 = .ok (.lstore 7, 2) := dcq_249.2.2.1
theorem dX5_odds_49 : decode cX5_odds 49 = .ok (.iconst 0, 1) := dcq_249.2.2.2.1
theorem dX5_odds_50 : decode cX5_odds 50 = .ok (.istore 9, 2) := dcq_249.2.2.2.2.1
theorem dX5_odds_52 : decode cX5_odds 52 = .ok (.iload 9, 2) := dcq_249.2.2.2.2.2.1
theorem dX5_odds_54 : decode cX5_odds 54 = .ok (.iload_n 1, 1) := dcq_249.2.2.2.2.2.2.1
theorem dX5_odds_55 : decode cX5_odds 55 = .ok (.if_icmp .ge 40, 3) := dcq_249.2.2.2.2.2.2.2.1
theorem dX5_odds_58 : decode cX5_odds 58 = .ok (.lload 5, 2) := dcq_249.2.2.2.2.2.2.2.2.1
theorem dX5_odds_60 : decode cX5_odds 60 = .ok (.iload 9, 2) := dcq_249.2.2.2.2.2.2.2.2.2.1
theorem dX5_odds_62 : decode cX5_odds 62 = .ok (.iload_n 2, 1) := dcq_249.2.2.2.2.2.2.2.2.2.2.1
theorem dX5_odds_63 : decode cX5_odds 63 = .ok (.if_icmp .ge 9, 3) := dcq_249.2.2.2.2.2.2.2.2.2.2.2
set_option maxRecDepth 20000 in
theorem dcb_250 : fd_B cX5_odds 66 [21, 4, 133, 167, 0, 9, 16, 100, 21, 4, 100, 133, 105, 55, 5, 22, 7, 20, 0, 189, 105] := fd_o cX5_odds 66 _ (by decide +kernel)
theorem dcq_250 : (decode cX5_odds 66 = .ok (.iload 4, 2)) ∧ (decode cX5_odds 68 = .ok (.i2l, 1)) ∧ (decode cX5_odds 69 = .ok (.goto 9, 3)) ∧ (decode cX5_odds 72 = .ok (.bipush 100, 2)) ∧ (decode cX5_odds 74 = .ok (.iload 4, 2)) ∧ (decode cX5_odds 76 = .ok (.isub, 1)) ∧ (decode cX5_odds 77 = .ok (.i2l, 1)) ∧ (decode cX5_odds 78 = .ok (.lmul, 1)) ∧ (decode cX5_odds 79 = .ok (.lstore 5, 2)) ∧ (decode cX5_odds 81 = .ok (.lload 7, 2)) ∧ (decode cX5_odds 83 = .ok (.ldc2_w 189, 3)) ∧ (decode cX5_odds 86 = .ok (.lmul, 1)) := have h := dcb_250; ⟨fd_21 h rfl, have h := fd_t2 h; ⟨fd_133 h, have h := fd_t1 h; ⟨fd_167 h (by decide +kernel), have h := fd_t3 h; ⟨fd_16 h (by decide +kernel), have h := fd_t2 h; ⟨fd_21 h rfl, have h := fd_t2 h; ⟨fd_100 h, have h := fd_t1 h; ⟨fd_133 h, have h := fd_t1 h; ⟨fd_105 h, have h := fd_t1 h; ⟨fd_55 h rfl, have h := fd_t2 h; ⟨fd_22 h rfl, have h := fd_t2 h; ⟨fd_20 h rfl, have h := fd_t3 h; fd_105 h⟩⟩⟩⟩⟩⟩⟩⟩⟩⟩⟩
theorem dX5_odds_66 : decode cX5_odds 66 = .ok (.iload 4, 2) := dcq_250.1
theorem dX5_odds_68 : decode cX5_odds 68 = .ok (.i2l, 1) := dcq_250.2.1
theorem dX5_odds_69 : decode cX5_odds 69 = .ok (.goto 9, 3) := dcq_250.2.2.1
theorem dX5_odds_72 : decode cX5_odds 72 = .ok (.bipush 100, 2) := dcq_250.2.2.2.1
theorem dX5_odds_74 : decode cX5_odds 74 = .ok (.iload 4, 2) := dcq_250.2.2.2.2.1
theorem dX5_odds_76 : decode cX5_odds 76 = .ok (.isub, 1) := dcq_250.2.2.2.2.2.1
theorem dX5_odds_77 : decode cX5_odds 77 = .ok (.i2l, 1) := dcq_250.2.2.2.2.2.2.1
theorem dX5_odds_78 : decode cX5_odds 78 = .ok (.lmul, 1) := dcq_250.2.2.2.2.2.2.2.1
theorem dX5_odds_79 : decode cX5_odds 79 = .ok (.lstore 5, 2) := dcq_250.2.2.2.2.2.2.2.2.1
theorem dX5_odds_81 : decode cX5_odds 81 = .ok (.lload 7, 2) := dcq_250.2.2.2.2.2.2.2.2.2.1
theorem dX5_odds_83 : decode cX5_odds 83 = .ok (.ldc2_w 189, 3) := dcq_250.2.2.2.2.2.2.2.2.2.2.1
theorem dX5_odds_86 : decode cX5_odds 86 = .ok (.lmul, 1) := dcq_250.2.2.2.2.2.2.2.2.2.2.2
set_option maxRecDepth 20000 in
theorem dcb_251 : fd_B cX5_odds 87 [55, 7, 132, 9, 1, 167, 255, 216, 22, 5, 27, 28, 184, 0, 191, 105, 22, 7, 29, 184, 0, 195, 173] := fd_o cX5_odds 87 _ (by decide +kernel)
theorem dcq_251 : (decode cX5_odds 87 = .ok (.lstore 7, 2)) ∧ (decode cX5_odds 89 = .ok (.iinc 9 1, 3)) ∧ (decode cX5_odds 92 = .ok (.goto (-40), 3)) ∧ (decode cX5_odds 95 = .ok (.lload 5, 2)) ∧ (decode cX5_odds 97 = .ok (.iload_n 1, 1)) ∧ (decode cX5_odds 98 = .ok (.iload_n 2, 1)) ∧ (decode cX5_odds 99 = .ok (.invokestatic 191, 3)) ∧ (decode cX5_odds 102 = .ok (.lmul, 1)) ∧ (decode cX5_odds 103 = .ok (.lload 7, 2)) ∧ (decode cX5_odds 105 = .ok (.iload_n 3, 1)) ∧ (decode cX5_odds 106 = .ok (.invokestatic 195, 3)) ∧ (decode cX5_odds 109 = .ok (.lreturn, 1)) := have h := dcb_251; ⟨fd_55 h rfl, have h := fd_t2 h; ⟨fd_132 h rfl (by decide +kernel), have h := fd_t3 h; ⟨fd_167 h (by decide +kernel), have h := fd_t3 h; ⟨fd_22 h rfl, have h := fd_t2 h; ⟨fd_27 h, have h := fd_t1 h; ⟨fd_28 h, have h := fd_t1 h; ⟨fd_184 h rfl, have h := fd_t3 h; ⟨fd_105 h, have h := fd_t1 h; ⟨fd_22 h rfl, have h := fd_t2 h; ⟨fd_29 h, have h := fd_t1 h; ⟨fd_184 h rfl, have h := fd_t3 h; fd_173 h⟩⟩⟩⟩⟩⟩⟩⟩⟩⟩⟩
theorem dX5_odds_87 : decode cX5_odds 87 = .ok (.lstore 7, 2) := dcq_251.1
theorem dX5_odds_89 : decode cX5_odds 89 = .ok (.iinc 9 1, 3) := dcq_251.2.1
theorem dX5_odds_92 : decode cX5_odds 92 = .ok (.goto (-40), 3) := dcq_251.2.2.1
theorem dX5_odds_95 : decode cX5_odds 95 = .ok (.lload 5, 2) := dcq_251.2.2.2.1
theorem dX5_odds_97 : decode cX5_odds 97 = .ok (.iload_n 1, 1) := dcq_251.2.2.2.2.1
theorem dX5_odds_98 : decode cX5_odds 98 = .ok (.iload_n 2, 1) := dcq_251.2.2.2.2.2.1
theorem dX5_odds_99 : decode cX5_odds 99 = .ok (.invokestatic 191, 3) := dcq_251.2.2.2.2.2.2.1
theorem dX5_odds_102 : decode cX5_odds 102 = .ok (.lmul, 1) := dcq_251.2.2.2.2.2.2.2.1
theorem dX5_odds_103 : decode cX5_odds 103 = .ok (.lload 7, 2) := dcq_251.2.2.2.2.2.2.2.2.1
theorem dX5_odds_105 : decode cX5_odds 105 = .ok (.iload_n 3, 1) := dcq_251.2.2.2.2.2.2.2.2.2.1
theorem dX5_odds_106 : decode cX5_odds 106 = .ok (.invokestatic 195, 3) := dcq_251.2.2.2.2.2.2.2.2.2.2.1
theorem dX5_odds_109 : decode cX5_odds 109 = .ok (.lreturn, 1) := dcq_251.2.2.2.2.2.2.2.2.2.2.2
set_option maxRecDepth 20000 in
theorem dcb_252 : fd_B cX5_hope 0 [27, 3, 16, 99, 184, 0, 57, 153, 0, 12, 28, 3, 4, 184, 0, 57, 154, 0, 7, 20, 0, 187, 173] := fd_o cX5_hope 0 _ (by decide +kernel)
theorem dcq_252 : (decode cX5_hope 0 = .ok (.iload_n 1, 1)) ∧ (decode cX5_hope 1 = .ok (.iconst 0, 1)) ∧ (decode cX5_hope 2 = .ok (.bipush 99, 2)) ∧ (decode cX5_hope 4 = .ok (.invokestatic 57, 3)) ∧ (decode cX5_hope 7 = .ok (.ifCond .eq 12, 3)) ∧ (decode cX5_hope 10 = .ok (.iload_n 2, 1)) ∧ (decode cX5_hope 11 = .ok (.iconst 0, 1)) ∧ (decode cX5_hope 12 = .ok (.iconst 1, 1)) ∧ (decode cX5_hope 13 = .ok (.invokestatic 57, 3)) ∧ (decode cX5_hope 16 = .ok (.ifCond .ne 7, 3)) ∧ (decode cX5_hope 19 = .ok (.ldc2_w 187, 3)) ∧ (decode cX5_hope 22 = .ok (.lreturn, 1)) := have h := dcb_252; ⟨fd_27 h, have h := fd_t1 h; ⟨fd_3 h, have h := fd_t1 h; ⟨fd_16 h (by decide +kernel), have h := fd_t2 h; ⟨fd_184 h rfl, have h := fd_t3 h; ⟨fd_153 h (by decide +kernel), have h := fd_t3 h; ⟨fd_28 h, have h := fd_t1 h; ⟨fd_3 h, have h := fd_t1 h; ⟨fd_4 h, have h := fd_t1 h; ⟨fd_184 h rfl, have h := fd_t3 h; ⟨fd_154 h (by decide +kernel), have h := fd_t3 h; ⟨fd_20 h rfl, have h := fd_t3 h; fd_173 h⟩⟩⟩⟩⟩⟩⟩⟩⟩⟩⟩
theorem dX5_hope_0 : decode cX5_hope 0 = .ok (.iload_n 1, 1) := dcq_252.1
theorem dX5_hope_1 : decode cX5_hope 1 = .ok (.iconst 0, 1) := dcq_252.2.1
theorem dX5_hope_2 : decode cX5_hope 2 = .ok (.bipush 99, 2) := dcq_252.2.2.1
theorem dX5_hope_4 : decode cX5_hope 4 = .ok (.invokestatic 57, 3) := dcq_252.2.2.2.1
theorem dX5_hope_7 : decode cX5_hope 7 = .ok (.ifCond .eq 12, 3) := dcq_252.2.2.2.2.1
theorem dX5_hope_10 : decode cX5_hope 10 = .ok (.iload_n 2, 1) := dcq_252.2.2.2.2.2.1
theorem dX5_hope_11 : decode cX5_hope 11 = .ok (.iconst 0, 1) := dcq_252.2.2.2.2.2.2.1
theorem dX5_hope_12 : decode cX5_hope 12 = .ok (.iconst 1, 1) := dcq_252.2.2.2.2.2.2.2.1
theorem dX5_hope_13 : decode cX5_hope 13 = .ok (.invokestatic 57, 3) := dcq_252.2.2.2.2.2.2.2.2.1
theorem dX5_hope_16 : decode cX5_hope 16 = .ok (.ifCond .ne 7, 3) := dcq_252.2.2.2.2.2.2.2.2.2.1
theorem dX5_hope_19 : decode cX5_hope 19 = .ok (.ldc2_w 187, 3) := dcq_252.2.2.2.2.2.2.2.2.2.2.1
theorem dX5_hope_22 : decode cX5_hope 22 = .ok (.lreturn, 1) := dcq_252.2.2.2.2.2.2.2.2.2.2.2
set_option maxRecDepth 20000 in
theorem dcb_253 : fd_B cX5_hope 23 [27, 133, 42, 180, 0, 10, 180, 0, 92, 6, 46, 133, 105, 20, 0, 189, 28, 184, 0, 195] := fd_o cX5_hope 23 _ (by decide +kernel)
theorem dcq_253 : (decode cX5_hope 23 = .ok (.iload_n 1, 1)) ∧ (decode cX5_hope 24 = .ok (.i2l, 1)) ∧ (decode cX5_hope 25 = .ok (.aload_n 0, 1)) ∧ (decode cX5_hope 26 = .ok (.getfield 10, 3)) ∧ (decode cX5_hope 29 = .ok (.getfield 92, 3)) ∧ (decode cX5_hope 32 = .ok (.iconst 3, 1)) ∧ (decode cX5_hope 33 = .ok (.iaload, 1)) ∧ (decode cX5_hope 34 = .ok (.i2l, 1)) ∧ (decode cX5_hope 35 = .ok (.lmul, 1)) ∧ (decode cX5_hope 36 = .ok (.ldc2_w 189, 3)) ∧ (decode cX5_hope 39 = .ok (.iload_n 2, 1)) ∧ (decode cX5_hope 40 = .ok (.invokestatic 195, 3)) := have h := dcb_253; ⟨fd_27 h, have h := fd_t1 h; ⟨fd_133 h, have h := fd_t1 h; ⟨fd_42 h, have h := fd_t1 h; ⟨fd_180 h rfl, have h := fd_t3 h; ⟨fd_180 h rfl, have h := fd_t3 h; ⟨fd_6 h, have h := fd_t1 h; ⟨fd_46 h, have h := fd_t1 h; ⟨fd_133 h, have h := fd_t1 h; ⟨fd_105 h, have h := fd_t1 h; ⟨fd_20 h rfl, have h := fd_t3 h; ⟨fd_28 h, have h := fd_t1 h; fd_184 h rfl⟩⟩⟩⟩⟩⟩⟩⟩⟩⟩⟩
theorem dX5_hope_23 : decode cX5_hope 23 = .ok (.iload_n 1, 1) := dcq_253.1
theorem dX5_hope_24 : decode cX5_hope 24 = .ok (.i2l, 1) := dcq_253.2.1
theorem dX5_hope_25 : decode cX5_hope 25 = .ok (.aload_n 0, 1) := dcq_253.2.2.1
theorem dX5_hope_26 : decode cX5_hope 26 = .ok (.getfield 10, 3) := dcq_253.2.2.2.1
theorem dX5_hope_29 : decode cX5_hope 29 = .ok (.getfield 92, 3) := dcq_253.2.2.2.2.1
theorem dX5_hope_32 : decode cX5_hope 32 = .ok (.iconst 3, 1) := dcq_253.2.2.2.2.2.1
theorem dX5_hope_33 : decode cX5_hope 33 = .ok (.iaload, 1) := dcq_253.2.2.2.2.2.2.1
theorem dX5_hope_34 : decode cX5_hope 34 = .ok (.i2l, 1) := dcq_253.2.2.2.2.2.2.2.1
theorem dX5_hope_35 : decode cX5_hope 35 = .ok (.lmul, 1) := dcq_253.2.2.2.2.2.2.2.2.1
theorem dX5_hope_36 : decode cX5_hope 36 = .ok (.ldc2_w 189, 3) := dcq_253.2.2.2.2.2.2.2.2.2.1
theorem dX5_hope_39 : decode cX5_hope 39 = .ok (.iload_n 2, 1) := dcq_253.2.2.2.2.2.2.2.2.2.2.1
theorem dX5_hope_40 : decode cX5_hope 40 = .ok (.invokestatic 195, 3) := dcq_253.2.2.2.2.2.2.2.2.2.2.2
set_option maxRecDepth 20000 in
theorem dcb_254 : fd_B cX5_hope 43 [173] := fd_o cX5_hope 43 _ (by decide +kernel)
theorem dX5_hope_43 : decode cX5_hope 43 = .ok (.lreturn, 1) := fd_173 dcb_254
set_option maxRecDepth 20000 in
theorem dcb_255 : fd_B cX5_prove 0 [42, 180, 0, 10, 27, 182, 0, 103, 153, 0, 13, 28, 4, 16, 10, 184, 0, 57, 154, 0, 5, 2, 172] := fd_o cX5_prove 0 _ (by decide +kernel)
theorem dcq_255 : (decode cX5_prove 0 = .ok (.aload_n 0, 1)) ∧ (decode cX5_prove 1 = .ok (.getfield 10, 3)) ∧ (decode cX5_prove 4 = .ok (.iload_n 1, 1)) ∧ (decode cX5_prove 5 = .ok (.invokevirtual 103, 3)) ∧ (decode cX5_prove 8 = .ok (.ifCond .eq 13, 3)) ∧ (decode cX5_prove 11 = .ok (.iload_n 2, 1)) ∧ (decode cX5_prove 12 = .ok (.iconst 1, 1)) ∧ (decode cX5_prove 13 = .ok (.bipush 10, 2)) ∧ (decode cX5_prove 15 = .ok (.invokestatic 57, 3)) ∧ (decode cX5_prove 18 = .ok (.ifCond .ne 5, 3)) ∧ (decode cX5_prove 21 = .ok (.iconst (-1), 1)) ∧ (decode cX5_prove 22 = .ok (.ireturn, 1)) := have h := dcb_255; ⟨fd_42 h, have h := fd_t1 h; ⟨fd_180 h rfl, have h := fd_t3 h; ⟨fd_27 h, have h := fd_t1 h; ⟨fd_182 h rfl, have h := fd_t3 h; ⟨fd_153 h (by decide +kernel), have h := fd_t3 h; ⟨fd_28 h, have h := fd_t1 h; ⟨fd_4 h, have h := fd_t1 h; ⟨fd_16 h (by decide +kernel), have h := fd_t2 h; ⟨fd_184 h rfl, have h := fd_t3 h; ⟨fd_154 h (by decide +kernel), have h := fd_t3 h; ⟨fd_2 h, have h := fd_t1 h; fd_172 h⟩⟩⟩⟩⟩⟩⟩⟩⟩⟩⟩
theorem dX5_prove_0 : decode cX5_prove 0 = .ok (.aload_n 0, 1) := dcq_255.1
theorem dX5_prove_1 : decode cX5_prove 1 = .ok (.getfield 10, 3) := dcq_255.2.1
theorem dX5_prove_4 : decode cX5_prove 4 = .ok (.iload_n 1, 1) := dcq_255.2.2.1
theorem dX5_prove_5 : decode cX5_prove 5 = .ok (.invokevirtual 103, 3) := dcq_255.2.2.2.1
theorem dX5_prove_8 : decode cX5_prove 8 = .ok (.ifCond .eq 13, 3) := dcq_255.2.2.2.2.1
theorem dX5_prove_11 : decode cX5_prove 11 = .ok (.iload_n 2, 1) := dcq_255.2.2.2.2.2.1
theorem dX5_prove_12 : decode cX5_prove 12 = .ok (.iconst 1, 1) := dcq_255.2.2.2.2.2.2.1
theorem dX5_prove_13 : decode cX5_prove 13 = .ok (.bipush 10, 2) := dcq_255.2.2.2.2.2.2.2.1
theorem dX5_prove_15 : decode cX5_prove 15 = .ok (.invokestatic 57, 3) := dcq_255.2.2.2.2.2.2.2.2.1
theorem dX5_prove_18 : decode cX5_prove 18 = .ok (.ifCond .ne 5, 3) := dcq_255.2.2.2.2.2.2.2.2.2.1
theorem dX5_prove_21 : decode cX5_prove 21 = .ok (.iconst (-1), 1) := dcq_255.2.2.2.2.2.2.2.2.2.2.1
theorem dX5_prove_22 : decode cX5_prove 22 = .ok (.ireturn, 1) := dcq_255.2.2.2.2.2.2.2.2.2.2.2
set_option maxRecDepth 20000 in
theorem dcb_256 : fd_B cX5_prove 23 [42, 182, 0, 148, 78, 3, 54, 4, 21, 4, 28, 162, 0, 63, 45, 17, 0, 255, 182, 0, 137, 54, 5] := fd_o cX5_prove 23 _ (by decide +kernel)
theorem dcq_256 : (decode cX5_prove 23 = .ok (.aload_n 0, 1)) ∧ (decode cX5_prove 24 = .ok (.invokevirtual 148, 3)) ∧ (decode cX5_prove 27 = .ok (.astore_n 3, 1)) ∧ (decode cX5_prove 28 = .ok (.iconst 0, 1)) ∧ (decode cX5_prove 29 = .ok (.istore 4, 2)) ∧ (decode cX5_prove 31 = .ok (.iload 4, 2)) ∧ (decode cX5_prove 33 = .ok (.iload_n 2, 1)) ∧ (decode cX5_prove 34 = .ok (.if_icmp .ge 63, 3)) ∧ (decode cX5_prove 37 = .ok (.aload_n 3, 1)) ∧ (decode cX5_prove 38 = .ok (.sipush 255, 3)) ∧ (decode cX5_prove 41 = .ok (.invokevirtual 137, 3)) ∧ (decode cX5_prove 44 = .ok (.istore 5, 2)) := have h := dcb_256; ⟨fd_42 h, have h := fd_t1 h; ⟨fd_182 h rfl, have h := fd_t3 h; ⟨fd_78 h, have h := fd_t1 h; ⟨fd_3 h, have h := fd_t1 h; ⟨fd_54 h rfl, have h := fd_t2 h; ⟨fd_21 h rfl, have h := fd_t2 h; ⟨fd_28 h, have h := fd_t1 h; ⟨fd_162 h (by decide +kernel), have h := fd_t3 h; ⟨fd_45 h, have h := fd_t1 h; ⟨fd_17 h (by decide +kernel), have h := fd_t3 h; ⟨fd_182 h rfl, have h := fd_t3 h; fd_54 h rfl⟩⟩⟩⟩⟩⟩⟩⟩⟩⟩⟩
theorem dX5_prove_23 : decode cX5_prove 23 = .ok (.aload_n 0, 1) := dcq_256.1
theorem dX5_prove_24 : decode cX5_prove 24 = .ok (.invokevirtual 148, 3) := dcq_256.2.1
theorem dX5_prove_27 : decode cX5_prove 27 = .ok (.astore_n 3, 1) := dcq_256.2.2.1
theorem dX5_prove_28 : decode cX5_prove 28 = .ok (.iconst 0, 1) := dcq_256.2.2.2.1
theorem dX5_prove_29 : decode cX5_prove 29 = .ok (.istore 4, 2) := dcq_256.2.2.2.2.1
theorem dX5_prove_31 : decode cX5_prove 31 = .ok (.iload 4, 2) := dcq_256.2.2.2.2.2.1
theorem dX5_prove_33 : decode cX5_prove 33 = .ok (.iload_n 2, 1) := dcq_256.2.2.2.2.2.2.1
theorem dX5_prove_34 : decode cX5_prove 34 = .ok (.if_icmp .ge 63, 3) := dcq_256.2.2.2.2.2.2.2.1
theorem dX5_prove_37 : decode cX5_prove 37 = .ok (.aload_n 3, 1) := dcq_256.2.2.2.2.2.2.2.2.1
theorem dX5_prove_38 : decode cX5_prove 38 = .ok (.sipush 255, 3) := dcq_256.2.2.2.2.2.2.2.2.2.1
theorem dX5_prove_41 : decode cX5_prove 41 = .ok (.invokevirtual 137, 3) := dcq_256.2.2.2.2.2.2.2.2.2.2.1
theorem dX5_prove_44 : decode cX5_prove 44 = .ok (.istore 5, 2) := dcq_256.2.2.2.2.2.2.2.2.2.2.2
set_option maxRecDepth 20000 in
theorem dcb_257 : fd_B cX5_prove 46 [42, 180, 0, 50, 21, 4, 6, 104, 45, 180, 0, 109, 27, 46, 79, 42, 180, 0, 50] := fd_o cX5_prove 46 _ (by decide +kernel)
theorem dcq_257 : (decode cX5_prove 46 = .ok (.aload_n 0, 1)) ∧ (decode cX5_prove 47 = .ok (.getfield 50, 3)) ∧ (decode cX5_prove 50 = .ok (.iload 4, 2)) ∧ (decode cX5_prove 52 = .ok (.iconst 3, 1)) ∧ (decode cX5_prove 53 = .ok (.imul, 1)) ∧ (decode cX5_prove 54 = .ok (.aload_n 3, 1)) ∧ (decode cX5_prove 55 = .ok (.getfield 109, 3)) ∧ (decode cX5_prove 58 = .ok (.iload_n 1, 1)) ∧ (decode cX5_prove 59 = .ok (.iaload, 1)) ∧ (decode cX5_prove 60 = .ok (.iastore, 1)) ∧ (decode cX5_prove 61 = .ok (.aload_n 0, 1)) ∧ (decode cX5_prove 62 = .ok (.getfield 50, 3)) := have h := dcb_257; ⟨fd_42 h, have h := fd_t1 h; ⟨fd_180 h rfl, have h := fd_t3 h; ⟨fd_21 h rfl, have h := fd_t2 h; ⟨fd_6 h, have h := fd_t1 h; ⟨fd_104 h, have h := fd_t1 h; ⟨fd_45 h, have h := fd_t1 h; ⟨fd_180 h rfl, have h := fd_t3 h; ⟨fd_27 h, have h := fd_t1 h; ⟨fd_46 h, have h := fd_t1 h; ⟨fd_79 h, have h := fd_t1 h; ⟨fd_42 h, have h := fd_t1 h; fd_180 h rfl⟩⟩⟩⟩⟩⟩⟩⟩⟩⟩⟩
theorem dX5_prove_46 : decode cX5_prove 46 = .ok (.aload_n 0, 1) := dcq_257.1
theorem dX5_prove_47 : decode cX5_prove 47 = .ok (.getfield 50, 3) := dcq_257.2.1
theorem dX5_prove_50 : decode cX5_prove 50 = .ok (.iload 4, 2) := dcq_257.2.2.1
theorem dX5_prove_52 : decode cX5_prove 52 = .ok (.iconst 3, 1) := dcq_257.2.2.2.1
theorem dX5_prove_53 : decode cX5_prove 53 = .ok (.imul, 1) := dcq_257.2.2.2.2.1
theorem dX5_prove_54 : decode cX5_prove 54 = .ok (.aload_n 3, 1) := dcq_257.2.2.2.2.2.1
theorem dX5_prove_55 : decode cX5_prove 55 = .ok (.getfield 109, 3) := dcq_257.2.2.2.2.2.2.1
theorem dX5_prove_58 : decode cX5_prove 58 = .ok (.iload_n 1, 1) := dcq_257.2.2.2.2.2.2.2.1
theorem dX5_prove_59 : decode cX5_prove 59 = .ok (.iaload, 1) := dcq_257.2.2.2.2.2.2.2.2.1
theorem dX5_prove_60 : decode cX5_prove 60 = .ok (.iastore, 1) := dcq_257.2.2.2.2.2.2.2.2.2.1
theorem dX5_prove_61 : decode cX5_prove 61 = .ok (.aload_n 0, 1) := dcq_257.2.2.2.2.2.2.2.2.2.2.1
theorem dX5_prove_62 : decode cX5_prove 62 = .ok (.getfield 50, 3) := dcq_257.2.2.2.2.2.2.2.2.2.2.2
set_option maxRecDepth 20000 in
theorem dcb_258 : fd_B cX5_prove 65 [21, 4, 6, 104, 4, 96, 45, 180, 0, 115, 27, 46, 79, 42, 180, 0, 50] := fd_o cX5_prove 65 _ (by decide +kernel)
theorem dcq_258 : (decode cX5_prove 65 = .ok (.iload 4, 2)) ∧ (decode cX5_prove 67 = .ok (.iconst 3, 1)) ∧ (decode cX5_prove 68 = .ok (.imul, 1)) ∧ (decode cX5_prove 69 = .ok (.iconst 1, 1)) ∧ (decode cX5_prove 70 = .ok (.iadd, 1)) ∧ (decode cX5_prove 71 = .ok (.aload_n 3, 1)) ∧ (decode cX5_prove 72 = .ok (.getfield 115, 3)) ∧ (decode cX5_prove 75 = .ok (.iload_n 1, 1)) ∧ (decode cX5_prove 76 = .ok (.iaload, 1)) ∧ (decode cX5_prove 77 = .ok (.iastore, 1)) ∧ (decode cX5_prove 78 = .ok (.aload_n 0, 1)) ∧ (decode cX5_prove 79 = .ok (.getfield 50, 3)) := have h := dcb_258; ⟨fd_21 h rfl, have h := fd_t2 h; ⟨fd_6 h, have h := fd_t1 h; ⟨fd_104 h, have h := fd_t1 h; ⟨fd_4 h, have h := fd_t1 h; ⟨fd_96 h, have h := fd_t1 h; ⟨fd_45 h, have h := fd_t1 h; ⟨fd_180 h rfl, have h := fd_t3 h; ⟨fd_27 h, have h := fd_t1 h; ⟨fd_46 h, have h := fd_t1 h; ⟨fd_79 h, have h := fd_t1 h; ⟨fd_42 h, have h := fd_t1 h; fd_180 h rfl⟩⟩⟩⟩⟩⟩⟩⟩⟩⟩⟩
theorem dX5_prove_65 : decode cX5_prove 65 = .ok (.iload 4, 2) := dcq_258.1
theorem dX5_prove_67 : decode cX5_prove 67 = .ok (.iconst 3, 1) := dcq_258.2.1
theorem dX5_prove_68 : decode cX5_prove 68 = .ok (.imul, 1) := dcq_258.2.2.1
theorem dX5_prove_69 : decode cX5_prove 69 = .ok (.iconst 1, 1) := dcq_258.2.2.2.1
theorem dX5_prove_70 : decode cX5_prove 70 = .ok (.iadd, 1) := dcq_258.2.2.2.2.1
theorem dX5_prove_71 : decode cX5_prove 71 = .ok (.aload_n 3, 1) := dcq_258.2.2.2.2.2.1
theorem dX5_prove_72 : decode cX5_prove 72 = .ok (.getfield 115, 3) := dcq_258.2.2.2.2.2.2.1
theorem dX5_prove_75 : decode cX5_prove 75 = .ok (.iload_n 1, 1) := dcq_258.2.2.2.2.2.2.2.1
theorem dX5_prove_76 : decode cX5_prove 76 = .ok (.iaload, 1) := dcq_258.2.2.2.2.2.2.2.2.1
theorem dX5_prove_77 : decode cX5_prove 77 = .ok (.iastore, 1) := dcq_258.2.2.2.2.2.2.2.2.2.1
theorem dX5_prove_78 : decode cX5_prove 78 = .ok (.aload_n 0, 1) := dcq_258.2.2.2.2.2.2.2.2.2.2.1
theorem dX5_prove_79 : decode cX5_prove 79 = .ok (.getfield 50, 3) := dcq_258.2.2.2.2.2.2.2.2.2.2.2
set_option maxRecDepth 20000 in
theorem dcb_259 : fd_B cX5_prove 82 [21, 4, 6, 104, 5, 96, 21, 5, 79, 132, 4, 1, 167, 255, 193, 42, 28, 181, 0, 83] := fd_o cX5_prove 82 _ (by decide +kernel)
theorem dcq_259 : (decode cX5_prove 82 = .ok (.iload 4, 2)) ∧ (decode cX5_prove 84 = .ok (.iconst 3, 1)) ∧ (decode cX5_prove 85 = .ok (.imul, 1)) ∧ (decode cX5_prove 86 = .ok (.iconst 2, 1)) ∧ (decode cX5_prove 87 = .ok (.iadd, 1)) ∧ (decode cX5_prove 88 = .ok (.iload 5, 2)) ∧ (decode cX5_prove 90 = .ok (.iastore, 1)) ∧ (decode cX5_prove 91 = .ok (.iinc 4 1, 3)) ∧ (decode cX5_prove 94 = .ok (.goto (-63), 3)) ∧ (decode cX5_prove 97 = .ok (.aload_n 0, 1)) ∧ (decode cX5_prove 98 = .ok (.iload_n 2, 1)) ∧ (decode cX5_prove 99 = .ok (.putfield 83, 3)) := have h := dcb_259; ⟨fd_21 h rfl, have h := fd_t2 h; ⟨fd_6 h, have h := fd_t1 h; ⟨fd_104 h, have h := fd_t1 h; ⟨fd_5 h, have h := fd_t1 h; ⟨fd_96 h, have h := fd_t1 h; ⟨fd_21 h rfl, have h := fd_t2 h; ⟨fd_79 h, have h := fd_t1 h; ⟨fd_132 h rfl (by decide +kernel), have h := fd_t3 h; ⟨fd_167 h (by decide +kernel), have h := fd_t3 h; ⟨fd_42 h, have h := fd_t1 h; ⟨fd_28 h, have h := fd_t1 h; fd_181 h rfl⟩⟩⟩⟩⟩⟩⟩⟩⟩⟩⟩
theorem dX5_prove_82 : decode cX5_prove 82 = .ok (.iload 4, 2) := dcq_259.1
theorem dX5_prove_84 : decode cX5_prove 84 = .ok (.iconst 3, 1) := dcq_259.2.1
theorem dX5_prove_85 : decode cX5_prove 85 = .ok (.imul, 1) := dcq_259.2.2.1
theorem dX5_prove_86 : decode cX5_prove 86 = .ok (.iconst 2, 1) := dcq_259.2.2.2.1
theorem dX5_prove_87 : decode cX5_prove 87 = .ok (.iadd, 1) := dcq_259.2.2.2.2.1
theorem dX5_prove_88 : decode cX5_prove 88 = .ok (.iload 5, 2) := dcq_259.2.2.2.2.2.1
theorem dX5_prove_90 : decode cX5_prove 90 = .ok (.iastore, 1) := dcq_259.2.2.2.2.2.2.1
theorem dX5_prove_91 : decode cX5_prove 91 = .ok (.iinc 4 1, 3) := dcq_259.2.2.2.2.2.2.2.1
theorem dX5_prove_94 : decode cX5_prove 94 = .ok (.goto (-63), 3) := dcq_259.2.2.2.2.2.2.2.2.1
theorem dX5_prove_97 : decode cX5_prove 97 = .ok (.aload_n 0, 1) := dcq_259.2.2.2.2.2.2.2.2.2.1
theorem dX5_prove_98 : decode cX5_prove 98 = .ok (.iload_n 2, 1) := dcq_259.2.2.2.2.2.2.2.2.2.2.1
theorem dX5_prove_99 : decode cX5_prove 99 = .ok (.putfield 83, 3) := dcq_259.2.2.2.2.2.2.2.2.2.2.2
set_option maxRecDepth 20000 in
theorem dcb_260 : fd_B cX5_prove 102 [28, 172] := fd_o cX5_prove 102 _ (by decide +kernel)
theorem dcq_260 : (decode cX5_prove 102 = .ok (.iload_n 2, 1)) ∧ (decode cX5_prove 103 = .ok (.ireturn, 1)) := have h := dcb_260; ⟨fd_28 h, have h := fd_t1 h; fd_172 h⟩
theorem dX5_prove_102 : decode cX5_prove 102 = .ok (.iload_n 2, 1) := dcq_260.1
theorem dX5_prove_103 : decode cX5_prove 103 = .ok (.ireturn, 1) := dcq_260.2
set_option maxRecDepth 20000 in
theorem dcb_261 : fd_B cX5_row 0 [42, 27, 28, 182, 0, 199, 153, 0, 16, 42, 180, 0, 50, 27, 6, 104, 28, 96] := fd_o cX5_row 0 _ (by decide +kernel)
theorem dcq_261 : (decode cX5_row 0 = .ok (.aload_n 0, 1)) ∧ (decode cX5_row 1 = .ok (.iload_n 1, 1)) ∧ (decode cX5_row 2 = .ok (.iload_n 2, 1)) ∧ (decode cX5_row 3 = .ok (.invokevirtual 199, 3)) ∧ (decode cX5_row 6 = .ok (.ifCond .eq 16, 3)) ∧ (decode cX5_row 9 = .ok (.aload_n 0, 1)) ∧ (decode cX5_row 10 = .ok (.getfield 50, 3)) ∧ (decode cX5_row 13 = .ok (.iload_n 1, 1)) ∧ (decode cX5_row 14 = .ok (.iconst 3, 1)) ∧ (decode cX5_row 15 = .ok (.imul, 1)) ∧ (decode cX5_row 16 = .ok (.iload_n 2, 1)) ∧ (decode cX5_row 17 = .ok (.iadd, 1)) := have h := dcb_261; ⟨fd_42 h, have h := fd_t1 h; ⟨fd_27 h, have h := fd_t1 h; ⟨fd_28 h, have h := fd_t1 h; ⟨fd_182 h rfl, have h := fd_t3 h; ⟨fd_153 h (by decide +kernel), have h := fd_t3 h; ⟨fd_42 h, have h := fd_t1 h; ⟨fd_180 h rfl, have h := fd_t3 h; ⟨fd_27 h, have h := fd_t1 h; ⟨fd_6 h, have h := fd_t1 h; ⟨fd_104 h, have h := fd_t1 h; ⟨fd_28 h, have h := fd_t1 h; fd_96 h⟩⟩⟩⟩⟩⟩⟩⟩⟩⟩⟩
theorem dX5_row_0 : decode cX5_row 0 = .ok (.aload_n 0, 1) := dcq_261.1
theorem dX5_row_1 : decode cX5_row 1 = .ok (.iload_n 1, 1) := dcq_261.2.1
theorem dX5_row_2 : decode cX5_row 2 = .ok (.iload_n 2, 1) := dcq_261.2.2.1
theorem dX5_row_3 : decode cX5_row 3 = .ok (.invokevirtual 199, 3) := dcq_261.2.2.2.1
theorem dX5_row_6 : decode cX5_row 6 = .ok (.ifCond .eq 16, 3) := dcq_261.2.2.2.2.1
theorem dX5_row_9 : decode cX5_row 9 = .ok (.aload_n 0, 1) := dcq_261.2.2.2.2.2.1
theorem dX5_row_10 : decode cX5_row 10 = .ok (.getfield 50, 3) := dcq_261.2.2.2.2.2.2.1
theorem dX5_row_13 : decode cX5_row 13 = .ok (.iload_n 1, 1) := dcq_261.2.2.2.2.2.2.2.1
theorem dX5_row_14 : decode cX5_row 14 = .ok (.iconst 3, 1) := dcq_261.2.2.2.2.2.2.2.2.1
theorem dX5_row_15 : decode cX5_row 15 = .ok (.imul, 1) := dcq_261.2.2.2.2.2.2.2.2.2.1
theorem dX5_row_16 : decode cX5_row 16 = .ok (.iload_n 2, 1) := dcq_261.2.2.2.2.2.2.2.2.2.2.1
theorem dX5_row_17 : decode cX5_row 17 = .ok (.iadd, 1) := dcq_261.2.2.2.2.2.2.2.2.2.2.2
set_option maxRecDepth 20000 in
theorem dcb_262 : fd_B cX5_row 18 [46, 167, 0, 5, 16, 247, 172] := fd_o cX5_row 18 _ (by decide +kernel)
theorem dcq_262 : (decode cX5_row 18 = .ok (.iaload, 1)) ∧ (decode cX5_row 19 = .ok (.goto 5, 3)) ∧ (decode cX5_row 22 = .ok (.bipush (-9), 2)) ∧ (decode cX5_row 24 = .ok (.ireturn, 1)) := have h := dcb_262; ⟨fd_46 h, have h := fd_t1 h; ⟨fd_167 h (by decide +kernel), have h := fd_t3 h; ⟨fd_16 h (by decide +kernel), have h := fd_t2 h; fd_172 h⟩⟩⟩
theorem dX5_row_18 : decode cX5_row 18 = .ok (.iaload, 1) := dcq_262.1
theorem dX5_row_19 : decode cX5_row 19 = .ok (.goto 5, 3) := dcq_262.2.1
theorem dX5_row_22 : decode cX5_row 22 = .ok (.bipush (-9), 2) := dcq_262.2.2.1
theorem dX5_row_24 : decode cX5_row 24 = .ok (.ireturn, 1) := dcq_262.2.2.2
set_option maxRecDepth 20000 in
theorem dcb_263 : fd_B cX5_alterRow 0 [42, 27, 28, 182, 0, 199, 154, 0, 6, 16, 247, 172, 42, 180, 0, 50, 27, 6, 104] := fd_o cX5_alterRow 0 _ (by decide +kernel)
theorem dcq_263 : (decode cX5_alterRow 0 = .ok (.aload_n 0, 1)) ∧ (decode cX5_alterRow 1 = .ok (.iload_n 1, 1)) ∧ (decode cX5_alterRow 2 = .ok (.iload_n 2, 1)) ∧ (decode cX5_alterRow 3 = .ok (.invokevirtual 199, 3)) ∧ (decode cX5_alterRow 6 = .ok (.ifCond .ne 6, 3)) ∧ (decode cX5_alterRow 9 = .ok (.bipush (-9), 2)) ∧ (decode cX5_alterRow 11 = .ok (.ireturn, 1)) ∧ (decode cX5_alterRow 12 = .ok (.aload_n 0, 1)) ∧ (decode cX5_alterRow 13 = .ok (.getfield 50, 3)) ∧ (decode cX5_alterRow 16 = .ok (.iload_n 1, 1)) ∧ (decode cX5_alterRow 17 = .ok (.iconst 3, 1)) ∧ (decode cX5_alterRow 18 = .ok (.imul, 1)) := have h := dcb_263; ⟨fd_42 h, have h := fd_t1 h; ⟨fd_27 h, have h := fd_t1 h; ⟨fd_28 h, have h := fd_t1 h; ⟨fd_182 h rfl, have h := fd_t3 h; ⟨fd_154 h (by decide +kernel), have h := fd_t3 h; ⟨fd_16 h (by decide +kernel), have h := fd_t2 h; ⟨fd_172 h, have h := fd_t1 h; ⟨fd_42 h, have h := fd_t1 h; ⟨fd_180 h rfl, have h := fd_t3 h; ⟨fd_27 h, have h := fd_t1 h; ⟨fd_6 h, have h := fd_t1 h; fd_104 h⟩⟩⟩⟩⟩⟩⟩⟩⟩⟩⟩
theorem dX5_alterRow_0 : decode cX5_alterRow 0 = .ok (.aload_n 0, 1) := dcq_263.1
theorem dX5_alterRow_1 : decode cX5_alterRow 1 = .ok (.iload_n 1, 1) := dcq_263.2.1
theorem dX5_alterRow_2 : decode cX5_alterRow 2 = .ok (.iload_n 2, 1) := dcq_263.2.2.1
theorem dX5_alterRow_3 : decode cX5_alterRow 3 = .ok (.invokevirtual 199, 3) := dcq_263.2.2.2.1
theorem dX5_alterRow_6 : decode cX5_alterRow 6 = .ok (.ifCond .ne 6, 3) := dcq_263.2.2.2.2.1
theorem dX5_alterRow_9 : decode cX5_alterRow 9 = .ok (.bipush (-9), 2) := dcq_263.2.2.2.2.2.1
theorem dX5_alterRow_11 : decode cX5_alterRow 11 = .ok (.ireturn, 1) := dcq_263.2.2.2.2.2.2.1
theorem dX5_alterRow_12 : decode cX5_alterRow 12 = .ok (.aload_n 0, 1) := dcq_263.2.2.2.2.2.2.2.1
theorem dX5_alterRow_13 : decode cX5_alterRow 13 = .ok (.getfield 50, 3) := dcq_263.2.2.2.2.2.2.2.2.1
theorem dX5_alterRow_16 : decode cX5_alterRow 16 = .ok (.iload_n 1, 1) := dcq_263.2.2.2.2.2.2.2.2.2.1
theorem dX5_alterRow_17 : decode cX5_alterRow 17 = .ok (.iconst 3, 1) := dcq_263.2.2.2.2.2.2.2.2.2.2.1
theorem dX5_alterRow_18 : decode cX5_alterRow 18 = .ok (.imul, 1) := dcq_263.2.2.2.2.2.2.2.2.2.2.2
set_option maxRecDepth 20000 in
theorem dcb_264 : fd_B cX5_alterRow 19 [28, 96, 46, 54, 4, 42, 180, 0, 50, 27, 6, 104, 28, 96, 29] := fd_o cX5_alterRow 19 _ (by decide +kernel)
theorem dcq_264 : (decode cX5_alterRow 19 = .ok (.iload_n 2, 1)) ∧ (decode cX5_alterRow 20 = .ok (.iadd, 1)) ∧ (decode cX5_alterRow 21 = .ok (.iaload, 1)) ∧ (decode cX5_alterRow 22 = .ok (.istore 4, 2)) ∧ (decode cX5_alterRow 24 = .ok (.aload_n 0, 1)) ∧ (decode cX5_alterRow 25 = .ok (.getfield 50, 3)) ∧ (decode cX5_alterRow 28 = .ok (.iload_n 1, 1)) ∧ (decode cX5_alterRow 29 = .ok (.iconst 3, 1)) ∧ (decode cX5_alterRow 30 = .ok (.imul, 1)) ∧ (decode cX5_alterRow 31 = .ok (.iload_n 2, 1)) ∧ (decode cX5_alterRow 32 = .ok (.iadd, 1)) ∧ (decode cX5_alterRow 33 = .ok (.iload_n 3, 1)) := have h := dcb_264; ⟨fd_28 h, have h := fd_t1 h; ⟨fd_96 h, have h := fd_t1 h; ⟨fd_46 h, have h := fd_t1 h; ⟨fd_54 h rfl, have h := fd_t2 h; ⟨fd_42 h, have h := fd_t1 h; ⟨fd_180 h rfl, have h := fd_t3 h; ⟨fd_27 h, have h := fd_t1 h; ⟨fd_6 h, have h := fd_t1 h; ⟨fd_104 h, have h := fd_t1 h; ⟨fd_28 h, have h := fd_t1 h; ⟨fd_96 h, have h := fd_t1 h; fd_29 h⟩⟩⟩⟩⟩⟩⟩⟩⟩⟩⟩
theorem dX5_alterRow_19 : decode cX5_alterRow 19 = .ok (.iload_n 2, 1) := dcq_264.1
theorem dX5_alterRow_20 : decode cX5_alterRow 20 = .ok (.iadd, 1) := dcq_264.2.1
theorem dX5_alterRow_21 : decode cX5_alterRow 21 = .ok (.iaload, 1) := dcq_264.2.2.1
theorem dX5_alterRow_22 : decode cX5_alterRow 22 = .ok (.istore 4, 2) := dcq_264.2.2.2.1
theorem dX5_alterRow_24 : decode cX5_alterRow 24 = .ok (.aload_n 0, 1) := dcq_264.2.2.2.2.1
theorem dX5_alterRow_25 : decode cX5_alterRow 25 = .ok (.getfield 50, 3) := dcq_264.2.2.2.2.2.1
theorem dX5_alterRow_28 : decode cX5_alterRow 28 = .ok (.iload_n 1, 1) := dcq_264.2.2.2.2.2.2.1
theorem dX5_alterRow_29 : decode cX5_alterRow 29 = .ok (.iconst 3, 1) := dcq_264.2.2.2.2.2.2.2.1
theorem dX5_alterRow_30 : decode cX5_alterRow 30 = .ok (.imul, 1) := dcq_264.2.2.2.2.2.2.2.2.1
theorem dX5_alterRow_31 : decode cX5_alterRow 31 = .ok (.iload_n 2, 1) := dcq_264.2.2.2.2.2.2.2.2.2.1
theorem dX5_alterRow_32 : decode cX5_alterRow 32 = .ok (.iadd, 1) := dcq_264.2.2.2.2.2.2.2.2.2.2.1
theorem dX5_alterRow_33 : decode cX5_alterRow 33 = .ok (.iload_n 3, 1) := dcq_264.2.2.2.2.2.2.2.2.2.2.2
set_option maxRecDepth 20000 in
theorem dcb_265 : fd_B cX5_alterRow 34 [79, 21, 4, 172] := fd_o cX5_alterRow 34 _ (by decide +kernel)
theorem dcq_265 : (decode cX5_alterRow 34 = .ok (.iastore, 1)) ∧ (decode cX5_alterRow 35 = .ok (.iload 4, 2)) ∧ (decode cX5_alterRow 37 = .ok (.ireturn, 1)) := have h := dcb_265; ⟨fd_79 h, have h := fd_t1 h; ⟨fd_21 h rfl, have h := fd_t2 h; fd_172 h⟩⟩
theorem dX5_alterRow_34 : decode cX5_alterRow 34 = .ok (.iastore, 1) := dcq_265.1
theorem dX5_alterRow_35 : decode cX5_alterRow 35 = .ok (.iload 4, 2) := dcq_265.2.1
theorem dX5_alterRow_37 : decode cX5_alterRow 37 = .ok (.ireturn, 1) := dcq_265.2.2
set_option maxRecDepth 20000 in
theorem dcb_266 : fd_B cX5_judge 0 [42, 180, 0, 10, 27, 182, 0, 103, 154, 0, 5, 2, 172, 42, 182, 0, 148, 77, 3, 62] := fd_o cX5_judge 0 _ (by decide +kernel)
theorem dcq_266 : (decode cX5_judge 0 = .ok (.aload_n 0, 1)) ∧ (decode cX5_judge 1 = .ok (.getfield 10, 3)) ∧ (decode cX5_judge 4 = .ok (.iload_n 1, 1)) ∧ (decode cX5_judge 5 = .ok (.invokevirtual 103, 3)) ∧ (decode cX5_judge 8 = .ok (.ifCond .ne 5, 3)) ∧ (decode cX5_judge 11 = .ok (.iconst (-1), 1)) ∧ (decode cX5_judge 12 = .ok (.ireturn, 1)) ∧ (decode cX5_judge 13 = .ok (.aload_n 0, 1)) ∧ (decode cX5_judge 14 = .ok (.invokevirtual 148, 3)) ∧ (decode cX5_judge 17 = .ok (.astore_n 2, 1)) ∧ (decode cX5_judge 18 = .ok (.iconst 0, 1)) ∧ (decode cX5_judge 19 = .ok (.istore_n 3, 1)) := have h := dcb_266; ⟨fd_42 h, have h := fd_t1 h; ⟨fd_180 h rfl, have h := fd_t3 h; ⟨fd_27 h, have h := fd_t1 h; ⟨fd_182 h rfl, have h := fd_t3 h; ⟨fd_154 h (by decide +kernel), have h := fd_t3 h; ⟨fd_2 h, have h := fd_t1 h; ⟨fd_172 h, have h := fd_t1 h; ⟨fd_42 h, have h := fd_t1 h; ⟨fd_182 h rfl, have h := fd_t3 h; ⟨fd_77 h, have h := fd_t1 h; ⟨fd_3 h, have h := fd_t1 h; fd_62 h⟩⟩⟩⟩⟩⟩⟩⟩⟩⟩⟩
theorem dX5_judge_0 : decode cX5_judge 0 = .ok (.aload_n 0, 1) := dcq_266.1
theorem dX5_judge_1 : decode cX5_judge 1 = .ok (.getfield 10, 3) := dcq_266.2.1
theorem dX5_judge_4 : decode cX5_judge 4 = .ok (.iload_n 1, 1) := dcq_266.2.2.1
theorem dX5_judge_5 : decode cX5_judge 5 = .ok (.invokevirtual 103, 3) := dcq_266.2.2.2.1
theorem dX5_judge_8 : decode cX5_judge 8 = .ok (.ifCond .ne 5, 3) := dcq_266.2.2.2.2.1
theorem dX5_judge_11 : decode cX5_judge 11 = .ok (.iconst (-1), 1) := dcq_266.2.2.2.2.2.1
theorem dX5_judge_12 : decode cX5_judge 12 = .ok (.ireturn, 1) := dcq_266.2.2.2.2.2.2.1
theorem dX5_judge_13 : decode cX5_judge 13 = .ok (.aload_n 0, 1) := dcq_266.2.2.2.2.2.2.2.1
theorem dX5_judge_14 : decode cX5_judge 14 = .ok (.invokevirtual 148, 3) := dcq_266.2.2.2.2.2.2.2.2.1
theorem dX5_judge_17 : decode cX5_judge 17 = .ok (.astore_n 2, 1) := dcq_266.2.2.2.2.2.2.2.2.2.1
theorem dX5_judge_18 : decode cX5_judge 18 = .ok (.iconst 0, 1) := dcq_266.2.2.2.2.2.2.2.2.2.2.1
theorem dX5_judge_19 : decode cX5_judge 19 = .ok (.istore_n 3, 1) := dcq_266.2.2.2.2.2.2.2.2.2.2.2
set_option maxRecDepth 20000 in
theorem dcb_267 : fd_B cX5_judge 20 [29, 42, 180, 0, 83, 162, 0, 73, 44, 17, 0, 255, 182, 0, 137, 54, 4, 42, 180, 0, 50, 29, 6] := fd_o cX5_judge 20 _ (by decide +kernel)
theorem dcq_267 : (decode cX5_judge 20 = .ok (.iload_n 3, 1)) ∧ (decode cX5_judge 21 = .ok (.aload_n 0, 1)) ∧ (decode cX5_judge 22 = .ok (.getfield 83, 3)) ∧ (decode cX5_judge 25 = .ok (.if_icmp .ge 73, 3)) ∧ (decode cX5_judge 28 = .ok (.aload_n 2, 1)) ∧ (decode cX5_judge 29 = .ok (.sipush 255, 3)) ∧ (decode cX5_judge 32 = .ok (.invokevirtual 137, 3)) ∧ (decode cX5_judge 35 = .ok (.istore 4, 2)) ∧ (decode cX5_judge 37 = .ok (.aload_n 0, 1)) ∧ (decode cX5_judge 38 = .ok (.getfield 50, 3)) ∧ (decode cX5_judge 41 = .ok (.iload_n 3, 1)) ∧ (decode cX5_judge 42 = .ok (.iconst 3, 1)) := have h := dcb_267; ⟨fd_29 h, have h := fd_t1 h; ⟨fd_42 h, have h := fd_t1 h; ⟨fd_180 h rfl, have h := fd_t3 h; ⟨fd_162 h (by decide +kernel), have h := fd_t3 h; ⟨fd_44 h, have h := fd_t1 h; ⟨fd_17 h (by decide +kernel), have h := fd_t3 h; ⟨fd_182 h rfl, have h := fd_t3 h; ⟨fd_54 h rfl, have h := fd_t2 h; ⟨fd_42 h, have h := fd_t1 h; ⟨fd_180 h rfl, have h := fd_t3 h; ⟨fd_29 h, have h := fd_t1 h; fd_6 h⟩⟩⟩⟩⟩⟩⟩⟩⟩⟩⟩
theorem dX5_judge_20 : decode cX5_judge 20 = .ok (.iload_n 3, 1) := dcq_267.1
theorem dX5_judge_21 : decode cX5_judge 21 = .ok (.aload_n 0, 1) := dcq_267.2.1
theorem dX5_judge_22 : decode cX5_judge 22 = .ok (.getfield 83, 3) := dcq_267.2.2.1
theorem dX5_judge_25 : decode cX5_judge 25 = .ok (.if_icmp .ge 73, 3) := dcq_267.2.2.2.1
theorem dX5_judge_28 : decode cX5_judge 28 = .ok (.aload_n 2, 1) := dcq_267.2.2.2.2.1
theorem dX5_judge_29 : decode cX5_judge 29 = .ok (.sipush 255, 3) := dcq_267.2.2.2.2.2.1
theorem dX5_judge_32 : decode cX5_judge 32 = .ok (.invokevirtual 137, 3) := dcq_267.2.2.2.2.2.2.1
theorem dX5_judge_35 : decode cX5_judge 35 = .ok (.istore 4, 2) := dcq_267.2.2.2.2.2.2.2.1
theorem dX5_judge_37 : decode cX5_judge 37 = .ok (.aload_n 0, 1) := dcq_267.2.2.2.2.2.2.2.2.1
theorem dX5_judge_38 : decode cX5_judge 38 = .ok (.getfield 50, 3) := dcq_267.2.2.2.2.2.2.2.2.2.1
theorem dX5_judge_41 : decode cX5_judge 41 = .ok (.iload_n 3, 1) := dcq_267.2.2.2.2.2.2.2.2.2.2.1
theorem dX5_judge_42 : decode cX5_judge 42 = .ok (.iconst 3, 1) := dcq_267.2.2.2.2.2.2.2.2.2.2.2
set_option maxRecDepth 20000 in
theorem dcb_268 : fd_B cX5_judge 43 [104, 46, 44, 180, 0, 109, 27, 46, 160, 0, 37, 42, 180, 0, 50, 29, 6, 104] := fd_o cX5_judge 43 _ (by decide +kernel)
theorem dcq_268 : (decode cX5_judge 43 = .ok (.imul, 1)) ∧ (decode cX5_judge 44 = .ok (.iaload, 1)) ∧ (decode cX5_judge 45 = .ok (.aload_n 2, 1)) ∧ (decode cX5_judge 46 = .ok (.getfield 109, 3)) ∧ (decode cX5_judge 49 = .ok (.iload_n 1, 1)) ∧ (decode cX5_judge 50 = .ok (.iaload, 1)) ∧ (decode cX5_judge 51 = .ok (.if_icmp .ne 37, 3)) ∧ (decode cX5_judge 54 = .ok (.aload_n 0, 1)) ∧ (decode cX5_judge 55 = .ok (.getfield 50, 3)) ∧ (decode cX5_judge 58 = .ok (.iload_n 3, 1)) ∧ (decode cX5_judge 59 = .ok (.iconst 3, 1)) ∧ (decode cX5_judge 60 = .ok (.imul, 1)) := have h := dcb_268; ⟨fd_104 h, have h := fd_t1 h; ⟨fd_46 h, have h := fd_t1 h; ⟨fd_44 h, have h := fd_t1 h; ⟨fd_180 h rfl, have h := fd_t3 h; ⟨fd_27 h, have h := fd_t1 h; ⟨fd_46 h, have h := fd_t1 h; ⟨fd_160 h (by decide +kernel), have h := fd_t3 h; ⟨fd_42 h, have h := fd_t1 h; ⟨fd_180 h rfl, have h := fd_t3 h; ⟨fd_29 h, have h := fd_t1 h; ⟨fd_6 h, have h := fd_t1 h; fd_104 h⟩⟩⟩⟩⟩⟩⟩⟩⟩⟩⟩
theorem dX5_judge_43 : decode cX5_judge 43 = .ok (.imul, 1) := dcq_268.1
theorem dX5_judge_44 : decode cX5_judge 44 = .ok (.iaload, 1) := dcq_268.2.1
theorem dX5_judge_45 : decode cX5_judge 45 = .ok (.aload_n 2, 1) := dcq_268.2.2.1
theorem dX5_judge_46 : decode cX5_judge 46 = .ok (.getfield 109, 3) := dcq_268.2.2.2.1
theorem dX5_judge_49 : decode cX5_judge 49 = .ok (.iload_n 1, 1) := dcq_268.2.2.2.2.1
theorem dX5_judge_50 : decode cX5_judge 50 = .ok (.iaload, 1) := dcq_268.2.2.2.2.2.1
theorem dX5_judge_51 : decode cX5_judge 51 = .ok (.if_icmp .ne 37, 3) := dcq_268.2.2.2.2.2.2.1
theorem dX5_judge_54 : decode cX5_judge 54 = .ok (.aload_n 0, 1) := dcq_268.2.2.2.2.2.2.2.1
theorem dX5_judge_55 : decode cX5_judge 55 = .ok (.getfield 50, 3) := dcq_268.2.2.2.2.2.2.2.2.1
theorem dX5_judge_58 : decode cX5_judge 58 = .ok (.iload_n 3, 1) := dcq_268.2.2.2.2.2.2.2.2.2.1
theorem dX5_judge_59 : decode cX5_judge 59 = .ok (.iconst 3, 1) := dcq_268.2.2.2.2.2.2.2.2.2.2.1
theorem dX5_judge_60 : decode cX5_judge 60 = .ok (.imul, 1) := dcq_268.2.2.2.2.2.2.2.2.2.2.2
set_option maxRecDepth 20000 in
theorem dcb_269 : fd_B cX5_judge 61 [4, 96, 46, 44, 180, 0, 115, 27, 46, 160, 0, 18, 42, 180, 0, 50, 29, 6] := fd_o cX5_judge 61 _ (by decide +kernel)
theorem dcq_269 : (decode cX5_judge 61 = .ok (.iconst 1, 1)) ∧ (decode cX5_judge 62 = .ok (.iadd, 1)) ∧ (decode cX5_judge 63 = .ok (.iaload, 1)) ∧ (decode cX5_judge 64 = .ok (.aload_n 2, 1)) ∧ (decode cX5_judge 65 = .ok (.getfield 115, 3)) ∧ (decode cX5_judge 68 = .ok (.iload_n 1, 1)) ∧ (decode cX5_judge 69 = .ok (.iaload, 1)) ∧ (decode cX5_judge 70 = .ok (.if_icmp .ne 18, 3)) ∧ (decode cX5_judge 73 = .ok (.aload_n 0, 1)) ∧ (decode cX5_judge 74 = .ok (.getfield 50, 3)) ∧ (decode cX5_judge 77 = .ok (.iload_n 3, 1)) ∧ (decode cX5_judge 78 = .ok (.iconst 3, 1)) := have h := dcb_269; ⟨fd_4 h, have h := fd_t1 h; ⟨fd_96 h, have h := fd_t1 h; ⟨fd_46 h, have h := fd_t1 h; ⟨fd_44 h, have h := fd_t1 h; ⟨fd_180 h rfl, have h := fd_t3 h; ⟨fd_27 h, have h := fd_t1 h; ⟨fd_46 h, have h := fd_t1 h; ⟨fd_160 h (by decide +kernel), have h := fd_t3 h; ⟨fd_42 h, have h := fd_t1 h; ⟨fd_180 h rfl, have h := fd_t3 h; ⟨fd_29 h, have h := fd_t1 h; fd_6 h⟩⟩⟩⟩⟩⟩⟩⟩⟩⟩⟩
theorem dX5_judge_61 : decode cX5_judge 61 = .ok (.iconst 1, 1) := dcq_269.1
theorem dX5_judge_62 : decode cX5_judge 62 = .ok (.iadd, 1) := dcq_269.2.1
theorem dX5_judge_63 : decode cX5_judge 63 = .ok (.iaload, 1) := dcq_269.2.2.1
theorem dX5_judge_64 : decode cX5_judge 64 = .ok (.aload_n 2, 1) := dcq_269.2.2.2.1
theorem dX5_judge_65 : decode cX5_judge 65 = .ok (.getfield 115, 3) := dcq_269.2.2.2.2.1
theorem dX5_judge_68 : decode cX5_judge 68 = .ok (.iload_n 1, 1) := dcq_269.2.2.2.2.2.1
theorem dX5_judge_69 : decode cX5_judge 69 = .ok (.iaload, 1) := dcq_269.2.2.2.2.2.2.1
theorem dX5_judge_70 : decode cX5_judge 70 = .ok (.if_icmp .ne 18, 3) := dcq_269.2.2.2.2.2.2.2.1
theorem dX5_judge_73 : decode cX5_judge 73 = .ok (.aload_n 0, 1) := dcq_269.2.2.2.2.2.2.2.2.1
theorem dX5_judge_74 : decode cX5_judge 74 = .ok (.getfield 50, 3) := dcq_269.2.2.2.2.2.2.2.2.2.1
theorem dX5_judge_77 : decode cX5_judge 77 = .ok (.iload_n 3, 1) := dcq_269.2.2.2.2.2.2.2.2.2.2.1
theorem dX5_judge_78 : decode cX5_judge 78 = .ok (.iconst 3, 1) := dcq_269.2.2.2.2.2.2.2.2.2.2.2
set_option maxRecDepth 20000 in
theorem dcb_270 : fd_B cX5_judge 79 [104, 5, 96, 46, 21, 4, 159, 0, 7, 29, 4, 96, 172, 132, 3, 1, 167, 255, 181] := fd_o cX5_judge 79 _ (by decide +kernel)
theorem dcq_270 : (decode cX5_judge 79 = .ok (.imul, 1)) ∧ (decode cX5_judge 80 = .ok (.iconst 2, 1)) ∧ (decode cX5_judge 81 = .ok (.iadd, 1)) ∧ (decode cX5_judge 82 = .ok (.iaload, 1)) ∧ (decode cX5_judge 83 = .ok (.iload 4, 2)) ∧ (decode cX5_judge 85 = .ok (.if_icmp .eq 7, 3)) ∧ (decode cX5_judge 88 = .ok (.iload_n 3, 1)) ∧ (decode cX5_judge 89 = .ok (.iconst 1, 1)) ∧ (decode cX5_judge 90 = .ok (.iadd, 1)) ∧ (decode cX5_judge 91 = .ok (.ireturn, 1)) ∧ (decode cX5_judge 92 = .ok (.iinc 3 1, 3)) ∧ (decode cX5_judge 95 = .ok (.goto (-75), 3)) := have h := dcb_270; ⟨fd_104 h, have h := fd_t1 h; ⟨fd_5 h, have h := fd_t1 h; ⟨fd_96 h, have h := fd_t1 h; ⟨fd_46 h, have h := fd_t1 h; ⟨fd_21 h rfl, have h := fd_t2 h; ⟨fd_159 h (by decide +kernel), have h := fd_t3 h; ⟨fd_29 h, have h := fd_t1 h; ⟨fd_4 h, have h := fd_t1 h; ⟨fd_96 h, have h := fd_t1 h; ⟨fd_172 h, have h := fd_t1 h; ⟨fd_132 h rfl (by decide +kernel), have h := fd_t3 h; fd_167 h (by decide +kernel)⟩⟩⟩⟩⟩⟩⟩⟩⟩⟩⟩
theorem dX5_judge_79 : decode cX5_judge 79 = .ok (.imul, 1) := dcq_270.1
theorem dX5_judge_80 : decode cX5_judge 80 = .ok (.iconst 2, 1) := dcq_270.2.1
theorem dX5_judge_81 : decode cX5_judge 81 = .ok (.iadd, 1) := dcq_270.2.2.1
theorem dX5_judge_82 : decode cX5_judge 82 = .ok (.iaload, 1) := dcq_270.2.2.2.1
theorem dX5_judge_83 : decode cX5_judge 83 = .ok (.iload 4, 2) := dcq_270.2.2.2.2.1
theorem dX5_judge_85 : decode cX5_judge 85 = .ok (.if_icmp .eq 7, 3) := dcq_270.2.2.2.2.2.1
theorem dX5_judge_88 : decode cX5_judge 88 = .ok (.iload_n 3, 1) := dcq_270.2.2.2.2.2.2.1
theorem dX5_judge_89 : decode cX5_judge 89 = .ok (.iconst 1, 1) := dcq_270.2.2.2.2.2.2.2.1
theorem dX5_judge_90 : decode cX5_judge 90 = .ok (.iadd, 1) := dcq_270.2.2.2.2.2.2.2.2.1
theorem dX5_judge_91 : decode cX5_judge 91 = .ok (.ireturn, 1) := dcq_270.2.2.2.2.2.2.2.2.2.1
theorem dX5_judge_92 : decode cX5_judge 92 = .ok (.iinc 3 1, 3) := dcq_270.2.2.2.2.2.2.2.2.2.2.1
theorem dX5_judge_95 : decode cX5_judge 95 = .ok (.goto (-75), 3) := dcq_270.2.2.2.2.2.2.2.2.2.2.2
set_option maxRecDepth 20000 in
theorem dcb_271 : fd_B cX5_judge 98 [3, 172] := fd_o cX5_judge 98 _ (by decide +kernel)
theorem dcq_271 : (decode cX5_judge 98 = .ok (.iconst 0, 1)) ∧ (decode cX5_judge 99 = .ok (.ireturn, 1)) := have h := dcb_271; ⟨fd_3 h, have h := fd_t1 h; fd_172 h⟩
theorem dX5_judge_98 : decode cX5_judge 98 = .ok (.iconst 0, 1) := dcq_271.1
theorem dX5_judge_99 : decode cX5_judge 99 = .ok (.ireturn, 1) := dcq_271.2
set_option maxRecDepth 20000 in
theorem dcb_272 : fd_B cX5_minds 0 [27, 184, 0, 177, 153, 0, 39, 42, 180, 0, 10, 29, 182, 0, 103, 153, 0, 28, 21, 4, 3, 16, 8, 184, 0, 57] := fd_o cX5_minds 0 _ (by decide +kernel)
theorem dcq_272 : (decode cX5_minds 0 = .ok (.iload_n 1, 1)) ∧ (decode cX5_minds 1 = .ok (.invokestatic 177, 3)) ∧ (decode cX5_minds 4 = .ok (.ifCond .eq 39, 3)) ∧ (decode cX5_minds 7 = .ok (.aload_n 0, 1)) ∧ (decode cX5_minds 8 = .ok (.getfield 10, 3)) ∧ (decode cX5_minds 11 = .ok (.iload_n 3, 1)) ∧ (decode cX5_minds 12 = .ok (.invokevirtual 103, 3)) ∧ (decode cX5_minds 15 = .ok (.ifCond .eq 28, 3)) ∧ (decode cX5_minds 18 = .ok (.iload 4, 2)) ∧ (decode cX5_minds 20 = .ok (.iconst 0, 1)) ∧ (decode cX5_minds 21 = .ok (.bipush 8, 2)) ∧ (decode cX5_minds 23 = .ok (.invokestatic 57, 3)) := have h := dcb_272; ⟨fd_27 h, have h := fd_t1 h; ⟨fd_184 h rfl, have h := fd_t3 h; ⟨fd_153 h (by decide +kernel), have h := fd_t3 h; ⟨fd_42 h, have h := fd_t1 h; ⟨fd_180 h rfl, have h := fd_t3 h; ⟨fd_29 h, have h := fd_t1 h; ⟨fd_182 h rfl, have h := fd_t3 h; ⟨fd_153 h (by decide +kernel), have h := fd_t3 h; ⟨fd_21 h rfl, have h := fd_t2 h; ⟨fd_3 h, have h := fd_t1 h; ⟨fd_16 h (by decide +kernel), have h := fd_t2 h; fd_184 h rfl⟩⟩⟩⟩⟩⟩⟩⟩⟩⟩⟩
theorem dX5_minds_0 : decode cX5_minds 0 = .ok (.iload_n 1, 1) := dcq_272.1
theorem dX5_minds_1 : decode cX5_minds 1 = .ok (.invokestatic 177, 3) := dcq_272.2.1
theorem dX5_minds_4 : decode cX5_minds 4 = .ok (.ifCond .eq 39, 3) := dcq_272.2.2.1
theorem dX5_minds_7 : decode cX5_minds 7 = .ok (.aload_n 0, 1) := dcq_272.2.2.2.1
theorem dX5_minds_8 : decode cX5_minds 8 = .ok (.getfield 10, 3) := dcq_272.2.2.2.2.1
theorem dX5_minds_11 : decode cX5_minds 11 = .ok (.iload_n 3, 1) := dcq_272.2.2.2.2.2.1
theorem dX5_minds_12 : decode cX5_minds 12 = .ok (.invokevirtual 103, 3) := dcq_272.2.2.2.2.2.2.1
theorem dX5_minds_15 : decode cX5_minds 15 = .ok (.ifCond .eq 28, 3) := dcq_272.2.2.2.2.2.2.2.1
theorem dX5_minds_18 : decode cX5_minds 18 = .ok (.iload 4, 2) := dcq_272.2.2.2.2.2.2.2.2.1
theorem dX5_minds_20 : decode cX5_minds 20 = .ok (.iconst 0, 1) := dcq_272.2.2.2.2.2.2.2.2.2.1
theorem dX5_minds_21 : decode cX5_minds 21 = .ok (.bipush 8, 2) := dcq_272.2.2.2.2.2.2.2.2.2.2.1
theorem dX5_minds_23 : decode cX5_minds 23 = .ok (.invokestatic 57, 3) := dcq_272.2.2.2.2.2.2.2.2.2.2.2
set_option maxRecDepth 20000 in
theorem dcb_273 : fd_B cX5_minds 26 [153, 0, 17, 21, 4, 42, 180, 0, 10, 180, 0, 86, 29, 100, 164, 0, 5, 2, 172, 42, 180, 0, 38] := fd_o cX5_minds 26 _ (by decide +kernel)
theorem dcq_273 : (decode cX5_minds 26 = .ok (.ifCond .eq 17, 3)) ∧ (decode cX5_minds 29 = .ok (.iload 4, 2)) ∧ (decode cX5_minds 31 = .ok (.aload_n 0, 1)) ∧ (decode cX5_minds 32 = .ok (.getfield 10, 3)) ∧ (decode cX5_minds 35 = .ok (.getfield 86, 3)) ∧ (decode cX5_minds 38 = .ok (.iload_n 3, 1)) ∧ (decode cX5_minds 39 = .ok (.isub, 1)) ∧ (decode cX5_minds 40 = .ok (.if_icmp .le 5, 3)) ∧ (decode cX5_minds 43 = .ok (.iconst (-1), 1)) ∧ (decode cX5_minds 44 = .ok (.ireturn, 1)) ∧ (decode cX5_minds 45 = .ok (.aload_n 0, 1)) ∧ (decode cX5_minds 46 = .ok (.getfield 38, 3)) := have h := dcb_273; ⟨fd_153 h (by decide +kernel), have h := fd_t3 h; ⟨fd_21 h rfl, have h := fd_t2 h; ⟨fd_42 h, have h := fd_t1 h; ⟨fd_180 h rfl, have h := fd_t3 h; ⟨fd_180 h rfl, have h := fd_t3 h; ⟨fd_29 h, have h := fd_t1 h; ⟨fd_100 h, have h := fd_t1 h; ⟨fd_164 h (by decide +kernel), have h := fd_t3 h; ⟨fd_2 h, have h := fd_t1 h; ⟨fd_172 h, have h := fd_t1 h; ⟨fd_42 h, have h := fd_t1 h; fd_180 h rfl⟩⟩⟩⟩⟩⟩⟩⟩⟩⟩⟩
theorem dX5_minds_26 : decode cX5_minds 26 = .ok (.ifCond .eq 17, 3) := dcq_273.1
theorem dX5_minds_29 : decode cX5_minds 29 = .ok (.iload 4, 2) := dcq_273.2.1
theorem dX5_minds_31 : decode cX5_minds 31 = .ok (.aload_n 0, 1) := dcq_273.2.2.1
theorem dX5_minds_32 : decode cX5_minds 32 = .ok (.getfield 10, 3) := dcq_273.2.2.2.1
theorem dX5_minds_35 : decode cX5_minds 35 = .ok (.getfield 86, 3) := dcq_273.2.2.2.2.1
theorem dX5_minds_38 : decode cX5_minds 38 = .ok (.iload_n 3, 1) := dcq_273.2.2.2.2.2.1
theorem dX5_minds_39 : decode cX5_minds 39 = .ok (.isub, 1) := dcq_273.2.2.2.2.2.2.1
theorem dX5_minds_40 : decode cX5_minds 40 = .ok (.if_icmp .le 5, 3) := dcq_273.2.2.2.2.2.2.2.1
theorem dX5_minds_43 : decode cX5_minds 43 = .ok (.iconst (-1), 1) := dcq_273.2.2.2.2.2.2.2.2.1
theorem dX5_minds_44 : decode cX5_minds 44 = .ok (.ireturn, 1) := dcq_273.2.2.2.2.2.2.2.2.2.1
theorem dX5_minds_45 : decode cX5_minds 45 = .ok (.aload_n 0, 1) := dcq_273.2.2.2.2.2.2.2.2.2.2.1
theorem dX5_minds_46 : decode cX5_minds 46 = .ok (.getfield 38, 3) := dcq_273.2.2.2.2.2.2.2.2.2.2.2
set_option maxRecDepth 20000 in
theorem dcb_274 : fd_B cX5_minds 49 [27, 50, 58, 5, 25, 5, 180, 0, 180, 2, 160, 0, 6, 16, 245, 172, 25, 5, 180, 0, 180, 153, 0, 6] := fd_o cX5_minds 49 _ (by decide +kernel)
theorem dcq_274 : (decode cX5_minds 49 = .ok (.iload_n 1, 1)) ∧ (decode cX5_minds 50 = .ok (.aaload, 1)) ∧ (decode cX5_minds 51 = .ok (.astore 5, 2)) ∧ (decode cX5_minds 53 = .ok (.aload 5, 2)) ∧ (decode cX5_minds 55 = .ok (.getfield 180, 3)) ∧ (decode cX5_minds 58 = .ok (.iconst (-1), 1)) ∧ (decode cX5_minds 59 = .ok (.if_icmp .ne 6, 3)) ∧ (decode cX5_minds 62 = .ok (.bipush (-11), 2)) ∧ (decode cX5_minds 64 = .ok (.ireturn, 1)) ∧ (decode cX5_minds 65 = .ok (.aload 5, 2)) ∧ (decode cX5_minds 67 = .ok (.getfield 180, 3)) ∧ (decode cX5_minds 70 = .ok (.ifCond .eq 6, 3)) := have h := dcb_274; ⟨fd_27 h, have h := fd_t1 h; ⟨fd_50 h, have h := fd_t1 h; ⟨fd_58 h rfl, have h := fd_t2 h; ⟨fd_25 h rfl, have h := fd_t2 h; ⟨fd_180 h rfl, have h := fd_t3 h; ⟨fd_2 h, have h := fd_t1 h; ⟨fd_160 h (by decide +kernel), have h := fd_t3 h; ⟨fd_16 h (by decide +kernel), have h := fd_t2 h; ⟨fd_172 h, have h := fd_t1 h; ⟨fd_25 h rfl, have h := fd_t2 h; ⟨fd_180 h rfl, have h := fd_t3 h; fd_153 h (by decide +kernel)⟩⟩⟩⟩⟩⟩⟩⟩⟩⟩⟩
theorem dX5_minds_49 : decode cX5_minds 49 = .ok (.iload_n 1, 1) := dcq_274.1
theorem dX5_minds_50 : decode cX5_minds 50 = .ok (.aaload, 1) := dcq_274.2.1
theorem dX5_minds_51 : decode cX5_minds 51 = .ok (.astore 5, 2) := dcq_274.2.2.1
theorem dX5_minds_53 : decode cX5_minds 53 = .ok (.aload 5, 2) := dcq_274.2.2.2.1
theorem dX5_minds_55 : decode cX5_minds 55 = .ok (.getfield 180, 3) := dcq_274.2.2.2.2.1
theorem dX5_minds_58 : decode cX5_minds 58 = .ok (.iconst (-1), 1) := dcq_274.2.2.2.2.2.1
theorem dX5_minds_59 : decode cX5_minds 59 = .ok (.if_icmp .ne 6, 3) := dcq_274.2.2.2.2.2.2.1
theorem dX5_minds_62 : decode cX5_minds 62 = .ok (.bipush (-11), 2) := dcq_274.2.2.2.2.2.2.2.1
theorem dX5_minds_64 : decode cX5_minds 64 = .ok (.ireturn, 1) := dcq_274.2.2.2.2.2.2.2.2.1
theorem dX5_minds_65 : decode cX5_minds 65 = .ok (.aload 5, 2) := dcq_274.2.2.2.2.2.2.2.2.2.1
theorem dX5_minds_67 : decode cX5_minds 67 = .ok (.getfield 180, 3) := dcq_274.2.2.2.2.2.2.2.2.2.2.1
theorem dX5_minds_70 : decode cX5_minds 70 = .ok (.ifCond .eq 6, 3) := dcq_274.2.2.2.2.2.2.2.2.2.2.2
set_option maxRecDepth 20000 in
theorem dcb_275 : fd_B cX5_minds 73 [16, 243, 172, 28, 3, 25, 5, 180, 0, 203, 184, 0, 57, 153, 0, 15, 21, 4, 25, 5, 180, 0, 203, 28] := fd_o cX5_minds 73 _ (by decide +kernel)
theorem dcq_275 : (decode cX5_minds 73 = .ok (.bipush (-13), 2)) ∧ (decode cX5_minds 75 = .ok (.ireturn, 1)) ∧ (decode cX5_minds 76 = .ok (.iload_n 2, 1)) ∧ (decode cX5_minds 77 = .ok (.iconst 0, 1)) ∧ (decode cX5_minds 78 = .ok (.aload 5, 2)) ∧ (decode cX5_minds 80 = .ok (.getfield 203, 3)) ∧ (decode cX5_minds 83 = .ok (.invokestatic 57, 3)) ∧ (decode cX5_minds 86 = .ok (.ifCond .eq 15, 3)) ∧ (decode cX5_minds 89 = .ok (.iload 4, 2)) ∧ (decode cX5_minds 91 = .ok (.aload 5, 2)) ∧ (decode cX5_minds 93 = .ok (.getfield 203, 3)) ∧ (decode cX5_minds 96 = .ok (.iload_n 2, 1)) := have h := dcb_275; ⟨fd_16 h (by decide +kernel), have h := fd_t2 h; ⟨fd_172 h, have h := fd_t1 h; ⟨fd_28 h, have h := fd_t1 h; ⟨fd_3 h, have h := fd_t1 h; ⟨fd_25 h rfl, have h := fd_t2 h; ⟨fd_180 h rfl, have h := fd_t3 h; ⟨fd_184 h rfl, have h := fd_t3 h; ⟨fd_153 h (by decide +kernel), have h := fd_t3 h; ⟨fd_21 h rfl, have h := fd_t2 h; ⟨fd_25 h rfl, have h := fd_t2 h; ⟨fd_180 h rfl, have h := fd_t3 h; fd_28 h⟩⟩⟩⟩⟩⟩⟩⟩⟩⟩⟩
theorem dX5_minds_73 : decode cX5_minds 73 = .ok (.bipush (-13), 2) := dcq_275.1
theorem dX5_minds_75 : decode cX5_minds 75 = .ok (.ireturn, 1) := dcq_275.2.1
theorem dX5_minds_76 : decode cX5_minds 76 = .ok (.iload_n 2, 1) := dcq_275.2.2.1
theorem dX5_minds_77 : decode cX5_minds 77 = .ok (.iconst 0, 1) := dcq_275.2.2.2.1
theorem dX5_minds_78 : decode cX5_minds 78 = .ok (.aload 5, 2) := dcq_275.2.2.2.2.1
theorem dX5_minds_80 : decode cX5_minds 80 = .ok (.getfield 203, 3) := dcq_275.2.2.2.2.2.1
theorem dX5_minds_83 : decode cX5_minds 83 = .ok (.invokestatic 57, 3) := dcq_275.2.2.2.2.2.2.1
theorem dX5_minds_86 : decode cX5_minds 86 = .ok (.ifCond .eq 15, 3) := dcq_275.2.2.2.2.2.2.2.1
theorem dX5_minds_89 : decode cX5_minds 89 = .ok (.iload 4, 2) := dcq_275.2.2.2.2.2.2.2.2.1
theorem dX5_minds_91 : decode cX5_minds 91 = .ok (.aload 5, 2) := dcq_275.2.2.2.2.2.2.2.2.2.1
theorem dX5_minds_93 : decode cX5_minds 93 = .ok (.getfield 203, 3) := dcq_275.2.2.2.2.2.2.2.2.2.2.1
theorem dX5_minds_96 : decode cX5_minds 96 = .ok (.iload_n 2, 1) := dcq_275.2.2.2.2.2.2.2.2.2.2.2
set_option maxRecDepth 20000 in
theorem dcb_276 : fd_B cX5_minds 97 [100, 164, 0, 6, 16, 244, 172, 3, 54, 6, 21, 6, 21, 4, 162, 0, 45, 25, 5, 180, 0, 204, 28] := fd_o cX5_minds 97 _ (by decide +kernel)
theorem dcq_276 : (decode cX5_minds 97 = .ok (.isub, 1)) ∧ (decode cX5_minds 98 = .ok (.if_icmp .le 6, 3)) ∧ (decode cX5_minds 101 = .ok (.bipush (-12), 2)) ∧ (decode cX5_minds 103 = .ok (.ireturn, 1)) ∧ (decode cX5_minds 104 = .ok (.iconst 0, 1)) ∧ (decode cX5_minds 105 = .ok (.istore 6, 2)) ∧ (decode cX5_minds 107 = .ok (.iload 6, 2)) ∧ (decode cX5_minds 109 = .ok (.iload 4, 2)) ∧ (decode cX5_minds 111 = .ok (.if_icmp .ge 45, 3)) ∧ (decode cX5_minds 114 = .ok (.aload 5, 2)) ∧ (decode cX5_minds 116 = .ok (.getfield 204, 3)) ∧ (decode cX5_minds 119 = .ok (.iload_n 2, 1)) := have h := dcb_276; ⟨fd_100 h, have h := fd_t1 h; ⟨fd_164 h (by decide +kernel), have h := fd_t3 h; ⟨fd_16 h (by decide +kernel), have h := fd_t2 h; ⟨fd_172 h, have h := fd_t1 h; ⟨fd_3 h, have h := fd_t1 h; ⟨fd_54 h rfl, have h := fd_t2 h; ⟨fd_21 h rfl, have h := fd_t2 h; ⟨fd_21 h rfl, have h := fd_t2 h; ⟨fd_162 h (by decide +kernel), have h := fd_t3 h; ⟨fd_25 h rfl, have h := fd_t2 h; ⟨fd_180 h rfl, have h := fd_t3 h; fd_28 h⟩⟩⟩⟩⟩⟩⟩⟩⟩⟩⟩
theorem dX5_minds_97 : decode cX5_minds 97 = .ok (.isub, 1) := dcq_276.1
theorem dX5_minds_98 : decode cX5_minds 98 = .ok (.if_icmp .le 6, 3) := dcq_276.2.1
theorem dX5_minds_101 : decode cX5_minds 101 = .ok (.bipush (-12), 2) := dcq_276.2.2.1
theorem dX5_minds_103 : decode cX5_minds 103 = .ok (.ireturn, 1) := dcq_276.2.2.2.1
theorem dX5_minds_104 : decode cX5_minds 104 = .ok (.iconst 0, 1) := dcq_276.2.2.2.2.1
theorem dX5_minds_105 : decode cX5_minds 105 = .ok (.istore 6, 2) := dcq_276.2.2.2.2.2.1
theorem dX5_minds_107 : decode cX5_minds 107 = .ok (.iload 6, 2) := dcq_276.2.2.2.2.2.2.1
theorem dX5_minds_109 : decode cX5_minds 109 = .ok (.iload 4, 2) := dcq_276.2.2.2.2.2.2.2.1
theorem dX5_minds_111 : decode cX5_minds 111 = .ok (.if_icmp .ge 45, 3) := dcq_276.2.2.2.2.2.2.2.2.1
theorem dX5_minds_114 : decode cX5_minds 114 = .ok (.aload 5, 2) := dcq_276.2.2.2.2.2.2.2.2.2.1
theorem dX5_minds_116 : decode cX5_minds 116 = .ok (.getfield 204, 3) := dcq_276.2.2.2.2.2.2.2.2.2.2.1
theorem dX5_minds_119 : decode cX5_minds 119 = .ok (.iload_n 2, 1) := dcq_276.2.2.2.2.2.2.2.2.2.2.2
set_option maxRecDepth 20000 in
theorem dcb_277 : fd_B cX5_minds 120 [21, 6, 96, 47, 136, 54, 7, 42, 180, 0, 10, 180, 0, 109, 29, 21, 6, 96, 3] := fd_o cX5_minds 120 _ (by decide +kernel)
theorem dcq_277 : (decode cX5_minds 120 = .ok (.iload 6, 2)) ∧ (decode cX5_minds 122 = .ok (.iadd, 1)) ∧ (decode cX5_minds 123 = .ok (.laload, 1)) ∧ (decode cX5_minds 124 = .ok (.l2i, 1)) ∧ (decode cX5_minds 125 = .ok (.istore 7, 2)) ∧ (decode cX5_minds 127 = .ok (.aload_n 0, 1)) ∧ (decode cX5_minds 128 = .ok (.getfield 10, 3)) ∧ (decode cX5_minds 131 = .ok (.getfield 109, 3)) ∧ (decode cX5_minds 134 = .ok (.iload_n 3, 1)) ∧ (decode cX5_minds 135 = .ok (.iload 6, 2)) ∧ (decode cX5_minds 137 = .ok (.iadd, 1)) ∧ (decode cX5_minds 138 = .ok (.iconst 0, 1)) := have h := dcb_277; ⟨fd_21 h rfl, have h := fd_t2 h; ⟨fd_96 h, have h := fd_t1 h; ⟨fd_47 h, have h := fd_t1 h; ⟨fd_136 h, have h := fd_t1 h; ⟨fd_54 h rfl, have h := fd_t2 h; ⟨fd_42 h, have h := fd_t1 h; ⟨fd_180 h rfl, have h := fd_t3 h; ⟨fd_180 h rfl, have h := fd_t3 h; ⟨fd_29 h, have h := fd_t1 h; ⟨fd_21 h rfl, have h := fd_t2 h; ⟨fd_96 h, have h := fd_t1 h; fd_3 h⟩⟩⟩⟩⟩⟩⟩⟩⟩⟩⟩
theorem dX5_minds_120 : decode cX5_minds 120 = .ok (.iload 6, 2) := dcq_277.1
theorem dX5_minds_122 : decode cX5_minds 122 = .ok (.iadd, 1) := dcq_277.2.1
theorem dX5_minds_123 : decode cX5_minds 123 = .ok (.laload, 1) := dcq_277.2.2.1
theorem dX5_minds_124 : decode cX5_minds 124 = .ok (.l2i, 1) := dcq_277.2.2.2.1
theorem dX5_minds_125 : decode cX5_minds 125 = .ok (.istore 7, 2) := dcq_277.2.2.2.2.1
theorem dX5_minds_127 : decode cX5_minds 127 = .ok (.aload_n 0, 1) := dcq_277.2.2.2.2.2.1
theorem dX5_minds_128 : decode cX5_minds 128 = .ok (.getfield 10, 3) := dcq_277.2.2.2.2.2.2.1
theorem dX5_minds_131 : decode cX5_minds 131 = .ok (.getfield 109, 3) := dcq_277.2.2.2.2.2.2.2.1
theorem dX5_minds_134 : decode cX5_minds 134 = .ok (.iload_n 3, 1) := dcq_277.2.2.2.2.2.2.2.2.1
theorem dX5_minds_135 : decode cX5_minds 135 = .ok (.iload 6, 2) := dcq_277.2.2.2.2.2.2.2.2.2.1
theorem dX5_minds_137 : decode cX5_minds 137 = .ok (.iadd, 1) := dcq_277.2.2.2.2.2.2.2.2.2.2.1
theorem dX5_minds_138 : decode cX5_minds 138 = .ok (.iconst 0, 1) := dcq_277.2.2.2.2.2.2.2.2.2.2.2
set_option maxRecDepth 20000 in
theorem dcb_278 : fd_B cX5_minds 139 [16, 99, 21, 7, 184, 0, 208, 184, 0, 213, 79, 132, 6, 1, 167, 255, 210, 21, 4, 172] := fd_o cX5_minds 139 _ (by decide +kernel)
theorem dcq_278 : (decode cX5_minds 139 = .ok (.bipush 99, 2)) ∧ (decode cX5_minds 141 = .ok (.iload 7, 2)) ∧ (decode cX5_minds 143 = .ok (.invokestatic 208, 3)) ∧ (decode cX5_minds 146 = .ok (.invokestatic 213, 3)) ∧ (decode cX5_minds 149 = .ok (.iastore, 1)) ∧ (decode cX5_minds 150 = .ok (.iinc 6 1, 3)) ∧ (decode cX5_minds 153 = .ok (.goto (-46), 3)) ∧ (decode cX5_minds 156 = .ok (.iload 4, 2)) ∧ (decode cX5_minds 158 = .ok (.ireturn, 1)) := have h := dcb_278; ⟨fd_16 h (by decide +kernel), have h := fd_t2 h; ⟨fd_21 h rfl, have h := fd_t2 h; ⟨fd_184 h rfl, have h := fd_t3 h; ⟨fd_184 h rfl, have h := fd_t3 h; ⟨fd_79 h, have h := fd_t1 h; ⟨fd_132 h rfl (by decide +kernel), have h := fd_t3 h; ⟨fd_167 h (by decide +kernel), have h := fd_t3 h; ⟨fd_21 h rfl, have h := fd_t2 h; fd_172 h⟩⟩⟩⟩⟩⟩⟩⟩
theorem dX5_minds_139 : decode cX5_minds 139 = .ok (.bipush 99, 2) := dcq_278.1
theorem dX5_minds_141 : decode cX5_minds 141 = .ok (.iload 7, 2) := dcq_278.2.1
theorem dX5_minds_143 : decode cX5_minds 143 = .ok (.invokestatic 208, 3) := dcq_278.2.2.1
theorem dX5_minds_146 : decode cX5_minds 146 = .ok (.invokestatic 213, 3) := dcq_278.2.2.2.1
theorem dX5_minds_149 : decode cX5_minds 149 = .ok (.iastore, 1) := dcq_278.2.2.2.2.1
theorem dX5_minds_150 : decode cX5_minds 150 = .ok (.iinc 6 1, 3) := dcq_278.2.2.2.2.2.1
theorem dX5_minds_153 : decode cX5_minds 153 = .ok (.goto (-46), 3) := dcq_278.2.2.2.2.2.2.1
theorem dX5_minds_156 : decode cX5_minds 156 = .ok (.iload 4, 2) := dcq_278.2.2.2.2.2.2.2.1
theorem dX5_minds_158 : decode cX5_minds 158 = .ok (.ireturn, 1) := dcq_278.2.2.2.2.2.2.2.2
set_option maxRecDepth 20000 in
theorem dcb_279 : fd_B cX5_sheet 0 [27, 184, 0, 177, 153, 0, 12, 28, 2, 6, 184, 0, 57, 154, 0, 5, 2, 172, 28, 2] := fd_o cX5_sheet 0 _ (by decide +kernel)
theorem dcq_279 : (decode cX5_sheet 0 = .ok (.iload_n 1, 1)) ∧ (decode cX5_sheet 1 = .ok (.invokestatic 177, 3)) ∧ (decode cX5_sheet 4 = .ok (.ifCond .eq 12, 3)) ∧ (decode cX5_sheet 7 = .ok (.iload_n 2, 1)) ∧ (decode cX5_sheet 8 = .ok (.iconst (-1), 1)) ∧ (decode cX5_sheet 9 = .ok (.iconst 3, 1)) ∧ (decode cX5_sheet 10 = .ok (.invokestatic 57, 3)) ∧ (decode cX5_sheet 13 = .ok (.ifCond .ne 5, 3)) ∧ (decode cX5_sheet 16 = .ok (.iconst (-1), 1)) ∧ (decode cX5_sheet 17 = .ok (.ireturn, 1)) ∧ (decode cX5_sheet 18 = .ok (.iload_n 2, 1)) ∧ (decode cX5_sheet 19 = .ok (.iconst (-1), 1)) := have h := dcb_279; ⟨fd_27 h, have h := fd_t1 h; ⟨fd_184 h rfl, have h := fd_t3 h; ⟨fd_153 h (by decide +kernel), have h := fd_t3 h; ⟨fd_28 h, have h := fd_t1 h; ⟨fd_2 h, have h := fd_t1 h; ⟨fd_6 h, have h := fd_t1 h; ⟨fd_184 h rfl, have h := fd_t3 h; ⟨fd_154 h (by decide +kernel), have h := fd_t3 h; ⟨fd_2 h, have h := fd_t1 h; ⟨fd_172 h, have h := fd_t1 h; ⟨fd_28 h, have h := fd_t1 h; fd_2 h⟩⟩⟩⟩⟩⟩⟩⟩⟩⟩⟩
theorem dX5_sheet_0 : decode cX5_sheet 0 = .ok (.iload_n 1, 1) := dcq_279.1
theorem dX5_sheet_1 : decode cX5_sheet 1 = .ok (.invokestatic 177, 3) := dcq_279.2.1
theorem dX5_sheet_4 : decode cX5_sheet 4 = .ok (.ifCond .eq 12, 3) := dcq_279.2.2.1
theorem dX5_sheet_7 : decode cX5_sheet 7 = .ok (.iload_n 2, 1) := dcq_279.2.2.2.1
theorem dX5_sheet_8 : decode cX5_sheet 8 = .ok (.iconst (-1), 1) := dcq_279.2.2.2.2.1
theorem dX5_sheet_9 : decode cX5_sheet 9 = .ok (.iconst 3, 1) := dcq_279.2.2.2.2.2.1
theorem dX5_sheet_10 : decode cX5_sheet 10 = .ok (.invokestatic 57, 3) := dcq_279.2.2.2.2.2.2.1
theorem dX5_sheet_13 : decode cX5_sheet 13 = .ok (.ifCond .ne 5, 3) := dcq_279.2.2.2.2.2.2.2.1
theorem dX5_sheet_16 : decode cX5_sheet 16 = .ok (.iconst (-1), 1) := dcq_279.2.2.2.2.2.2.2.2.1
theorem dX5_sheet_17 : decode cX5_sheet 17 = .ok (.ireturn, 1) := dcq_279.2.2.2.2.2.2.2.2.2.1
theorem dX5_sheet_18 : decode cX5_sheet 18 = .ok (.iload_n 2, 1) := dcq_279.2.2.2.2.2.2.2.2.2.2.1
theorem dX5_sheet_19 : decode cX5_sheet 19 = .ok (.iconst (-1), 1) := dcq_279.2.2.2.2.2.2.2.2.2.2.2
set_option maxRecDepth 20000 in
theorem dcb_280 : fd_B cX5_sheet 20 [160, 0, 15, 42, 180, 0, 38, 27, 50, 2, 181, 0, 180, 4, 172, 29, 16, 40, 164, 0, 5] := fd_o cX5_sheet 20 _ (by decide +kernel)
theorem dcq_280 : (decode cX5_sheet 20 = .ok (.if_icmp .ne 15, 3)) ∧ (decode cX5_sheet 23 = .ok (.aload_n 0, 1)) ∧ (decode cX5_sheet 24 = .ok (.getfield 38, 3)) ∧ (decode cX5_sheet 27 = .ok (.iload_n 1, 1)) ∧ (decode cX5_sheet 28 = .ok (.aaload, 1)) ∧ (decode cX5_sheet 29 = .ok (.iconst (-1), 1)) ∧ (decode cX5_sheet 30 = .ok (.putfield 180, 3)) ∧ (decode cX5_sheet 33 = .ok (.iconst 1, 1)) ∧ (decode cX5_sheet 34 = .ok (.ireturn, 1)) ∧ (decode cX5_sheet 35 = .ok (.iload_n 3, 1)) ∧ (decode cX5_sheet 36 = .ok (.bipush 40, 2)) ∧ (decode cX5_sheet 38 = .ok (.if_icmp .le 5, 3)) := have h := dcb_280; ⟨fd_160 h (by decide +kernel), have h := fd_t3 h; ⟨fd_42 h, have h := fd_t1 h; ⟨fd_180 h rfl, have h := fd_t3 h; ⟨fd_27 h, have h := fd_t1 h; ⟨fd_50 h, have h := fd_t1 h; ⟨fd_2 h, have h := fd_t1 h; ⟨fd_181 h rfl, have h := fd_t3 h; ⟨fd_4 h, have h := fd_t1 h; ⟨fd_172 h, have h := fd_t1 h; ⟨fd_29 h, have h := fd_t1 h; ⟨fd_16 h (by decide +kernel), have h := fd_t2 h; fd_164 h (by decide +kernel)⟩⟩⟩⟩⟩⟩⟩⟩⟩⟩⟩
theorem dX5_sheet_20 : decode cX5_sheet 20 = .ok (.if_icmp .ne 15, 3) := dcq_280.1
theorem dX5_sheet_23 : decode cX5_sheet 23 = .ok (.aload_n 0, 1) := dcq_280.2.1
theorem dX5_sheet_24 : decode cX5_sheet 24 = .ok (.getfield 38, 3) := dcq_280.2.2.1
theorem dX5_sheet_27 : decode cX5_sheet 27 = .ok (.iload_n 1, 1) := dcq_280.2.2.2.1
theorem dX5_sheet_28 : decode cX5_sheet 28 = .ok (.aaload, 1) := dcq_280.2.2.2.2.1
theorem dX5_sheet_29 : decode cX5_sheet 29 = .ok (.iconst (-1), 1) := dcq_280.2.2.2.2.2.1
theorem dX5_sheet_30 : decode cX5_sheet 30 = .ok (.putfield 180, 3) := dcq_280.2.2.2.2.2.2.1
theorem dX5_sheet_33 : decode cX5_sheet 33 = .ok (.iconst 1, 1) := dcq_280.2.2.2.2.2.2.2.1
theorem dX5_sheet_34 : decode cX5_sheet 34 = .ok (.ireturn, 1) := dcq_280.2.2.2.2.2.2.2.2.1
theorem dX5_sheet_35 : decode cX5_sheet 35 = .ok (.iload_n 3, 1) := dcq_280.2.2.2.2.2.2.2.2.2.1
theorem dX5_sheet_36 : decode cX5_sheet 36 = .ok (.bipush 40, 2) := dcq_280.2.2.2.2.2.2.2.2.2.2.1
theorem dX5_sheet_38 : decode cX5_sheet 38 = .ok (.if_icmp .le 5, 3) := dcq_280.2.2.2.2.2.2.2.2.2.2.2
set_option maxRecDepth 20000 in
theorem dcb_281 : fd_B cX5_sheet 41 [2, 172, 29, 156, 0, 6, 16, 242, 172, 42, 180, 0, 38, 27, 50, 28, 29] := fd_o cX5_sheet 41 _ (by decide +kernel)
theorem dcq_281 : (decode cX5_sheet 41 = .ok (.iconst (-1), 1)) ∧ (decode cX5_sheet 42 = .ok (.ireturn, 1)) ∧ (decode cX5_sheet 43 = .ok (.iload_n 3, 1)) ∧ (decode cX5_sheet 44 = .ok (.ifCond .ge 6, 3)) ∧ (decode cX5_sheet 47 = .ok (.bipush (-14), 2)) ∧ (decode cX5_sheet 49 = .ok (.ireturn, 1)) ∧ (decode cX5_sheet 50 = .ok (.aload_n 0, 1)) ∧ (decode cX5_sheet 51 = .ok (.getfield 38, 3)) ∧ (decode cX5_sheet 54 = .ok (.iload_n 1, 1)) ∧ (decode cX5_sheet 55 = .ok (.aaload, 1)) ∧ (decode cX5_sheet 56 = .ok (.iload_n 2, 1)) ∧ (decode cX5_sheet 57 = .ok (.iload_n 3, 1)) := have h := dcb_281; ⟨fd_2 h, have h := fd_t1 h; ⟨fd_172 h, have h := fd_t1 h; ⟨fd_29 h, have h := fd_t1 h; ⟨fd_156 h (by decide +kernel), have h := fd_t3 h; ⟨fd_16 h (by decide +kernel), have h := fd_t2 h; ⟨fd_172 h, have h := fd_t1 h; ⟨fd_42 h, have h := fd_t1 h; ⟨fd_180 h rfl, have h := fd_t3 h; ⟨fd_27 h, have h := fd_t1 h; ⟨fd_50 h, have h := fd_t1 h; ⟨fd_28 h, have h := fd_t1 h; fd_29 h⟩⟩⟩⟩⟩⟩⟩⟩⟩⟩⟩
theorem dX5_sheet_41 : decode cX5_sheet 41 = .ok (.iconst (-1), 1) := dcq_281.1
theorem dX5_sheet_42 : decode cX5_sheet 42 = .ok (.ireturn, 1) := dcq_281.2.1
theorem dX5_sheet_43 : decode cX5_sheet 43 = .ok (.iload_n 3, 1) := dcq_281.2.2.1
theorem dX5_sheet_44 : decode cX5_sheet 44 = .ok (.ifCond .ge 6, 3) := dcq_281.2.2.2.1
theorem dX5_sheet_47 : decode cX5_sheet 47 = .ok (.bipush (-14), 2) := dcq_281.2.2.2.2.1
theorem dX5_sheet_49 : decode cX5_sheet 49 = .ok (.ireturn, 1) := dcq_281.2.2.2.2.2.1
theorem dX5_sheet_50 : decode cX5_sheet 50 = .ok (.aload_n 0, 1) := dcq_281.2.2.2.2.2.2.1
theorem dX5_sheet_51 : decode cX5_sheet 51 = .ok (.getfield 38, 3) := dcq_281.2.2.2.2.2.2.2.1
theorem dX5_sheet_54 : decode cX5_sheet 54 = .ok (.iload_n 1, 1) := dcq_281.2.2.2.2.2.2.2.2.1
theorem dX5_sheet_55 : decode cX5_sheet 55 = .ok (.aaload, 1) := dcq_281.2.2.2.2.2.2.2.2.2.1
theorem dX5_sheet_56 : decode cX5_sheet 56 = .ok (.iload_n 2, 1) := dcq_281.2.2.2.2.2.2.2.2.2.2.1
theorem dX5_sheet_57 : decode cX5_sheet 57 = .ok (.iload_n 3, 1) := dcq_281.2.2.2.2.2.2.2.2.2.2.2
set_option maxRecDepth 20000 in
theorem dcb_282 : fd_B cX5_sheet 58 [182, 0, 216, 4, 172] := fd_o cX5_sheet 58 _ (by decide +kernel)
theorem dcq_282 : (decode cX5_sheet 58 = .ok (.invokevirtual 216, 3)) ∧ (decode cX5_sheet 61 = .ok (.iconst 1, 1)) ∧ (decode cX5_sheet 62 = .ok (.ireturn, 1)) := have h := dcb_282; ⟨fd_182 h rfl, have h := fd_t3 h; ⟨fd_4 h, have h := fd_t1 h; fd_172 h⟩⟩
theorem dX5_sheet_58 : decode cX5_sheet 58 = .ok (.invokevirtual 216, 3) := dcq_282.1
theorem dX5_sheet_61 : decode cX5_sheet 61 = .ok (.iconst 1, 1) := dcq_282.2.1
theorem dX5_sheet_62 : decode cX5_sheet 62 = .ok (.ireturn, 1) := dcq_282.2.2
set_option maxRecDepth 20000 in
theorem dcb_283 : fd_B cX5_put 0 [27, 184, 0, 177, 154, 0, 5, 2, 172, 42, 180, 0, 38, 27, 50, 58, 4, 25, 4, 180, 0, 180] := fd_o cX5_put 0 _ (by decide +kernel)
theorem dcq_283 : (decode cX5_put 0 = .ok (.iload_n 1, 1)) ∧ (decode cX5_put 1 = .ok (.invokestatic 177, 3)) ∧ (decode cX5_put 4 = .ok (.ifCond .ne 5, 3)) ∧ (decode cX5_put 7 = .ok (.iconst (-1), 1)) ∧ (decode cX5_put 8 = .ok (.ireturn, 1)) ∧ (decode cX5_put 9 = .ok (.aload_n 0, 1)) ∧ (decode cX5_put 10 = .ok (.getfield 38, 3)) ∧ (decode cX5_put 13 = .ok (.iload_n 1, 1)) ∧ (decode cX5_put 14 = .ok (.aaload, 1)) ∧ (decode cX5_put 15 = .ok (.astore 4, 2)) ∧ (decode cX5_put 17 = .ok (.aload 4, 2)) ∧ (decode cX5_put 19 = .ok (.getfield 180, 3)) := have h := dcb_283; ⟨fd_27 h, have h := fd_t1 h; ⟨fd_184 h rfl, have h := fd_t3 h; ⟨fd_154 h (by decide +kernel), have h := fd_t3 h; ⟨fd_2 h, have h := fd_t1 h; ⟨fd_172 h, have h := fd_t1 h; ⟨fd_42 h, have h := fd_t1 h; ⟨fd_180 h rfl, have h := fd_t3 h; ⟨fd_27 h, have h := fd_t1 h; ⟨fd_50 h, have h := fd_t1 h; ⟨fd_58 h rfl, have h := fd_t2 h; ⟨fd_25 h rfl, have h := fd_t2 h; fd_180 h rfl⟩⟩⟩⟩⟩⟩⟩⟩⟩⟩⟩
theorem dX5_put_0 : decode cX5_put 0 = .ok (.iload_n 1, 1) := dcq_283.1
theorem dX5_put_1 : decode cX5_put 1 = .ok (.invokestatic 177, 3) := dcq_283.2.1
theorem dX5_put_4 : decode cX5_put 4 = .ok (.ifCond .ne 5, 3) := dcq_283.2.2.1
theorem dX5_put_7 : decode cX5_put 7 = .ok (.iconst (-1), 1) := dcq_283.2.2.2.1
theorem dX5_put_8 : decode cX5_put 8 = .ok (.ireturn, 1) := dcq_283.2.2.2.2.1
theorem dX5_put_9 : decode cX5_put 9 = .ok (.aload_n 0, 1) := dcq_283.2.2.2.2.2.1
theorem dX5_put_10 : decode cX5_put 10 = .ok (.getfield 38, 3) := dcq_283.2.2.2.2.2.2.1
theorem dX5_put_13 : decode cX5_put 13 = .ok (.iload_n 1, 1) := dcq_283.2.2.2.2.2.2.2.1
theorem dX5_put_14 : decode cX5_put 14 = .ok (.aaload, 1) := dcq_283.2.2.2.2.2.2.2.2.1
theorem dX5_put_15 : decode cX5_put 15 = .ok (.astore 4, 2) := dcq_283.2.2.2.2.2.2.2.2.2.1
theorem dX5_put_17 : decode cX5_put 17 = .ok (.aload 4, 2) := dcq_283.2.2.2.2.2.2.2.2.2.2.1
theorem dX5_put_19 : decode cX5_put 19 = .ok (.getfield 180, 3) := dcq_283.2.2.2.2.2.2.2.2.2.2.2
set_option maxRecDepth 20000 in
theorem dcb_284 : fd_B cX5_put 22 [2, 160, 0, 6, 16, 245, 172, 28, 3, 25, 4, 180, 0, 203, 4, 100, 184, 0, 57, 154, 0, 6] := fd_o cX5_put 22 _ (by decide +kernel)
theorem dcq_284 : (decode cX5_put 22 = .ok (.iconst (-1), 1)) ∧ (decode cX5_put 23 = .ok (.if_icmp .ne 6, 3)) ∧ (decode cX5_put 26 = .ok (.bipush (-11), 2)) ∧ (decode cX5_put 28 = .ok (.ireturn, 1)) ∧ (decode cX5_put 29 = .ok (.iload_n 2, 1)) ∧ (decode cX5_put 30 = .ok (.iconst 0, 1)) ∧ (decode cX5_put 31 = .ok (.aload 4, 2)) ∧ (decode cX5_put 33 = .ok (.getfield 203, 3)) ∧ (decode cX5_put 36 = .ok (.iconst 1, 1)) ∧ (decode cX5_put 37 = .ok (.isub, 1)) ∧ (decode cX5_put 38 = .ok (.invokestatic 57, 3)) ∧ (decode cX5_put 41 = .ok (.ifCond .ne 6, 3)) := have h := dcb_284; ⟨fd_2 h, have h := fd_t1 h; ⟨fd_160 h (by decide +kernel), have h := fd_t3 h; ⟨fd_16 h (by decide +kernel), have h := fd_t2 h; ⟨fd_172 h, have h := fd_t1 h; ⟨fd_28 h, have h := fd_t1 h; ⟨fd_3 h, have h := fd_t1 h; ⟨fd_25 h rfl, have h := fd_t2 h; ⟨fd_180 h rfl, have h := fd_t3 h; ⟨fd_4 h, have h := fd_t1 h; ⟨fd_100 h, have h := fd_t1 h; ⟨fd_184 h rfl, have h := fd_t3 h; fd_154 h (by decide +kernel)⟩⟩⟩⟩⟩⟩⟩⟩⟩⟩⟩
theorem dX5_put_22 : decode cX5_put 22 = .ok (.iconst (-1), 1) := dcq_284.1
theorem dX5_put_23 : decode cX5_put 23 = .ok (.if_icmp .ne 6, 3) := dcq_284.2.1
theorem dX5_put_26 : decode cX5_put 26 = .ok (.bipush (-11), 2) := dcq_284.2.2.1
theorem dX5_put_28 : decode cX5_put 28 = .ok (.ireturn, 1) := dcq_284.2.2.2.1
theorem dX5_put_29 : decode cX5_put 29 = .ok (.iload_n 2, 1) := dcq_284.2.2.2.2.1
theorem dX5_put_30 : decode cX5_put 30 = .ok (.iconst 0, 1) := dcq_284.2.2.2.2.2.1
theorem dX5_put_31 : decode cX5_put 31 = .ok (.aload 4, 2) := dcq_284.2.2.2.2.2.2.1
theorem dX5_put_33 : decode cX5_put 33 = .ok (.getfield 203, 3) := dcq_284.2.2.2.2.2.2.2.1
theorem dX5_put_36 : decode cX5_put 36 = .ok (.iconst 1, 1) := dcq_284.2.2.2.2.2.2.2.2.1
theorem dX5_put_37 : decode cX5_put 37 = .ok (.isub, 1) := dcq_284.2.2.2.2.2.2.2.2.2.1
theorem dX5_put_38 : decode cX5_put 38 = .ok (.invokestatic 57, 3) := dcq_284.2.2.2.2.2.2.2.2.2.2.1
theorem dX5_put_41 : decode cX5_put 41 = .ok (.ifCond .ne 6, 3) := dcq_284.2.2.2.2.2.2.2.2.2.2.2
set_option maxRecDepth 20000 in
theorem dcb_285 : fd_B cX5_put 44 [16, 244, 172, 25, 4, 180, 0, 204, 28, 25, 4, 180, 0, 180, 29, 184, 0, 219, 80, 4, 172] := fd_o cX5_put 44 _ (by decide +kernel)
theorem dcq_285 : (decode cX5_put 44 = .ok (.bipush (-12), 2)) ∧ (decode cX5_put 46 = .ok (.ireturn, 1)) ∧ (decode cX5_put 47 = .ok (.aload 4, 2)) ∧ (decode cX5_put 49 = .ok (.getfield 204, 3)) ∧ (decode cX5_put 52 = .ok (.iload_n 2, 1)) ∧ (decode cX5_put 53 = .ok (.aload 4, 2)) ∧ (decode cX5_put 55 = .ok (.getfield 180, 3)) ∧ (decode cX5_put 58 = .ok (.iload_n 3, 1)) ∧ (decode cX5_put 59 = .ok (.invokestatic 219, 3)) ∧ (decode cX5_put 62 = .ok (.lastore, 1)) ∧ (decode cX5_put 63 = .ok (.iconst 1, 1)) ∧ (decode cX5_put 64 = .ok (.ireturn, 1)) := have h := dcb_285; ⟨fd_16 h (by decide +kernel), have h := fd_t2 h; ⟨fd_172 h, have h := fd_t1 h; ⟨fd_25 h rfl, have h := fd_t2 h; ⟨fd_180 h rfl, have h := fd_t3 h; ⟨fd_28 h, have h := fd_t1 h; ⟨fd_25 h rfl, have h := fd_t2 h; ⟨fd_180 h rfl, have h := fd_t3 h; ⟨fd_29 h, have h := fd_t1 h; ⟨fd_184 h rfl, have h := fd_t3 h; ⟨fd_80 h, have h := fd_t1 h; ⟨fd_4 h, have h := fd_t1 h; fd_172 h⟩⟩⟩⟩⟩⟩⟩⟩⟩⟩⟩
theorem dX5_put_44 : decode cX5_put 44 = .ok (.bipush (-12), 2) := dcq_285.1
theorem dX5_put_46 : decode cX5_put 46 = .ok (.ireturn, 1) := dcq_285.2.1
theorem dX5_put_47 : decode cX5_put 47 = .ok (.aload 4, 2) := dcq_285.2.2.1
theorem dX5_put_49 : decode cX5_put 49 = .ok (.getfield 204, 3) := dcq_285.2.2.2.1
theorem dX5_put_52 : decode cX5_put 52 = .ok (.iload_n 2, 1) := dcq_285.2.2.2.2.1
theorem dX5_put_53 : decode cX5_put 53 = .ok (.aload 4, 2) := dcq_285.2.2.2.2.2.1
theorem dX5_put_55 : decode cX5_put 55 = .ok (.getfield 180, 3) := dcq_285.2.2.2.2.2.2.1
theorem dX5_put_58 : decode cX5_put 58 = .ok (.iload_n 3, 1) := dcq_285.2.2.2.2.2.2.2.1
theorem dX5_put_59 : decode cX5_put 59 = .ok (.invokestatic 219, 3) := dcq_285.2.2.2.2.2.2.2.2.1
theorem dX5_put_62 : decode cX5_put 62 = .ok (.lastore, 1) := dcq_285.2.2.2.2.2.2.2.2.2.1
theorem dX5_put_63 : decode cX5_put 63 = .ok (.iconst 1, 1) := dcq_285.2.2.2.2.2.2.2.2.2.2.1
theorem dX5_put_64 : decode cX5_put 64 = .ok (.ireturn, 1) := dcq_285.2.2.2.2.2.2.2.2.2.2.2
set_option maxRecDepth 20000 in
theorem dcb_286 : fd_B cX5_item 0 [27, 184, 0, 177, 153, 0, 12, 28, 3, 6, 184, 0, 57, 154, 0, 5, 2, 172, 42, 180, 0, 38] := fd_o cX5_item 0 _ (by decide +kernel)
theorem dcq_286 : (decode cX5_item 0 = .ok (.iload_n 1, 1)) ∧ (decode cX5_item 1 = .ok (.invokestatic 177, 3)) ∧ (decode cX5_item 4 = .ok (.ifCond .eq 12, 3)) ∧ (decode cX5_item 7 = .ok (.iload_n 2, 1)) ∧ (decode cX5_item 8 = .ok (.iconst 0, 1)) ∧ (decode cX5_item 9 = .ok (.iconst 3, 1)) ∧ (decode cX5_item 10 = .ok (.invokestatic 57, 3)) ∧ (decode cX5_item 13 = .ok (.ifCond .ne 5, 3)) ∧ (decode cX5_item 16 = .ok (.iconst (-1), 1)) ∧ (decode cX5_item 17 = .ok (.ireturn, 1)) ∧ (decode cX5_item 18 = .ok (.aload_n 0, 1)) ∧ (decode cX5_item 19 = .ok (.getfield 38, 3)) := have h := dcb_286; ⟨fd_27 h, have h := fd_t1 h; ⟨fd_184 h rfl, have h := fd_t3 h; ⟨fd_153 h (by decide +kernel), have h := fd_t3 h; ⟨fd_28 h, have h := fd_t1 h; ⟨fd_3 h, have h := fd_t1 h; ⟨fd_6 h, have h := fd_t1 h; ⟨fd_184 h rfl, have h := fd_t3 h; ⟨fd_154 h (by decide +kernel), have h := fd_t3 h; ⟨fd_2 h, have h := fd_t1 h; ⟨fd_172 h, have h := fd_t1 h; ⟨fd_42 h, have h := fd_t1 h; fd_180 h rfl⟩⟩⟩⟩⟩⟩⟩⟩⟩⟩⟩
theorem dX5_item_0 : decode cX5_item 0 = .ok (.iload_n 1, 1) := dcq_286.1
theorem dX5_item_1 : decode cX5_item 1 = .ok (.invokestatic 177, 3) := dcq_286.2.1
theorem dX5_item_4 : decode cX5_item 4 = .ok (.ifCond .eq 12, 3) := dcq_286.2.2.1
theorem dX5_item_7 : decode cX5_item 7 = .ok (.iload_n 2, 1) := dcq_286.2.2.2.1
theorem dX5_item_8 : decode cX5_item 8 = .ok (.iconst 0, 1) := dcq_286.2.2.2.2.1
theorem dX5_item_9 : decode cX5_item 9 = .ok (.iconst 3, 1) := dcq_286.2.2.2.2.2.1
theorem dX5_item_10 : decode cX5_item 10 = .ok (.invokestatic 57, 3) := dcq_286.2.2.2.2.2.2.1
theorem dX5_item_13 : decode cX5_item 13 = .ok (.ifCond .ne 5, 3) := dcq_286.2.2.2.2.2.2.2.1
theorem dX5_item_16 : decode cX5_item 16 = .ok (.iconst (-1), 1) := dcq_286.2.2.2.2.2.2.2.2.1
theorem dX5_item_17 : decode cX5_item 17 = .ok (.ireturn, 1) := dcq_286.2.2.2.2.2.2.2.2.2.1
theorem dX5_item_18 : decode cX5_item 18 = .ok (.aload_n 0, 1) := dcq_286.2.2.2.2.2.2.2.2.2.2.1
theorem dX5_item_19 : decode cX5_item 19 = .ok (.getfield 38, 3) := dcq_286.2.2.2.2.2.2.2.2.2.2.2
set_option maxRecDepth 20000 in
theorem dcb_287 : fd_B cX5_item 22 [27, 50, 58, 4, 25, 4, 180, 0, 180, 2, 160, 0, 6, 16, 245, 172, 25, 4, 180, 0, 180, 28] := fd_o cX5_item 22 _ (by decide +kernel)
theorem dcq_287 : (decode cX5_item 22 = .ok (.iload_n 1, 1)) ∧ (decode cX5_item 23 = .ok (.aaload, 1)) ∧ (decode cX5_item 24 = .ok (.astore 4, 2)) ∧ (decode cX5_item 26 = .ok (.aload 4, 2)) ∧ (decode cX5_item 28 = .ok (.getfield 180, 3)) ∧ (decode cX5_item 31 = .ok (.iconst (-1), 1)) ∧ (decode cX5_item 32 = .ok (.if_icmp .ne 6, 3)) ∧ (decode cX5_item 35 = .ok (.bipush (-11), 2)) ∧ (decode cX5_item 37 = .ok (.ireturn, 1)) ∧ (decode cX5_item 38 = .ok (.aload 4, 2)) ∧ (decode cX5_item 40 = .ok (.getfield 180, 3)) ∧ (decode cX5_item 43 = .ok (.iload_n 2, 1)) := have h := dcb_287; ⟨fd_27 h, have h := fd_t1 h; ⟨fd_50 h, have h := fd_t1 h; ⟨fd_58 h rfl, have h := fd_t2 h; ⟨fd_25 h rfl, have h := fd_t2 h; ⟨fd_180 h rfl, have h := fd_t3 h; ⟨fd_2 h, have h := fd_t1 h; ⟨fd_160 h (by decide +kernel), have h := fd_t3 h; ⟨fd_16 h (by decide +kernel), have h := fd_t2 h; ⟨fd_172 h, have h := fd_t1 h; ⟨fd_25 h rfl, have h := fd_t2 h; ⟨fd_180 h rfl, have h := fd_t3 h; fd_28 h⟩⟩⟩⟩⟩⟩⟩⟩⟩⟩⟩
theorem dX5_item_22 : decode cX5_item 22 = .ok (.iload_n 1, 1) := dcq_287.1
theorem dX5_item_23 : decode cX5_item 23 = .ok (.aaload, 1) := dcq_287.2.1
theorem dX5_item_24 : decode cX5_item 24 = .ok (.astore 4, 2) := dcq_287.2.2.1
theorem dX5_item_26 : decode cX5_item 26 = .ok (.aload 4, 2) := dcq_287.2.2.2.1
theorem dX5_item_28 : decode cX5_item 28 = .ok (.getfield 180, 3) := dcq_287.2.2.2.2.1
theorem dX5_item_31 : decode cX5_item 31 = .ok (.iconst (-1), 1) := dcq_287.2.2.2.2.2.1
theorem dX5_item_32 : decode cX5_item 32 = .ok (.if_icmp .ne 6, 3) := dcq_287.2.2.2.2.2.2.1
theorem dX5_item_35 : decode cX5_item 35 = .ok (.bipush (-11), 2) := dcq_287.2.2.2.2.2.2.2.1
theorem dX5_item_37 : decode cX5_item 37 = .ok (.ireturn, 1) := dcq_287.2.2.2.2.2.2.2.2.1
theorem dX5_item_38 : decode cX5_item 38 = .ok (.aload 4, 2) := dcq_287.2.2.2.2.2.2.2.2.2.1
theorem dX5_item_40 : decode cX5_item 40 = .ok (.getfield 180, 3) := dcq_287.2.2.2.2.2.2.2.2.2.2.1
theorem dX5_item_43 : decode cX5_item 43 = .ok (.iload_n 2, 1) := dcq_287.2.2.2.2.2.2.2.2.2.2.2
set_option maxRecDepth 20000 in
theorem dcb_288 : fd_B cX5_item 44 [159, 0, 6, 16, 243, 172, 29, 3, 25, 4, 180, 0, 203, 4, 100, 184, 0, 57, 153, 0, 14, 25, 4] := fd_o cX5_item 44 _ (by decide +kernel)
theorem dcq_288 : (decode cX5_item 44 = .ok (.if_icmp .eq 6, 3)) ∧ (decode cX5_item 47 = .ok (.bipush (-13), 2)) ∧ (decode cX5_item 49 = .ok (.ireturn, 1)) ∧ (decode cX5_item 50 = .ok (.iload_n 3, 1)) ∧ (decode cX5_item 51 = .ok (.iconst 0, 1)) ∧ (decode cX5_item 52 = .ok (.aload 4, 2)) ∧ (decode cX5_item 54 = .ok (.getfield 203, 3)) ∧ (decode cX5_item 57 = .ok (.iconst 1, 1)) ∧ (decode cX5_item 58 = .ok (.isub, 1)) ∧ (decode cX5_item 59 = .ok (.invokestatic 57, 3)) ∧ (decode cX5_item 62 = .ok (.ifCond .eq 14, 3)) ∧ (decode cX5_item 65 = .ok (.aload 4, 2)) := have h := dcb_288; ⟨fd_159 h (by decide +kernel), have h := fd_t3 h; ⟨fd_16 h (by decide +kernel), have h := fd_t2 h; ⟨fd_172 h, have h := fd_t1 h; ⟨fd_29 h, have h := fd_t1 h; ⟨fd_3 h, have h := fd_t1 h; ⟨fd_25 h rfl, have h := fd_t2 h; ⟨fd_180 h rfl, have h := fd_t3 h; ⟨fd_4 h, have h := fd_t1 h; ⟨fd_100 h, have h := fd_t1 h; ⟨fd_184 h rfl, have h := fd_t3 h; ⟨fd_153 h (by decide +kernel), have h := fd_t3 h; fd_25 h rfl⟩⟩⟩⟩⟩⟩⟩⟩⟩⟩⟩
theorem dX5_item_44 : decode cX5_item 44 = .ok (.if_icmp .eq 6, 3) := dcq_288.1
theorem dX5_item_47 : decode cX5_item 47 = .ok (.bipush (-13), 2) := dcq_288.2.1
theorem dX5_item_49 : decode cX5_item 49 = .ok (.ireturn, 1) := dcq_288.2.2.1
theorem dX5_item_50 : decode cX5_item 50 = .ok (.iload_n 3, 1) := dcq_288.2.2.2.1
theorem dX5_item_51 : decode cX5_item 51 = .ok (.iconst 0, 1) := dcq_288.2.2.2.2.1
theorem dX5_item_52 : decode cX5_item 52 = .ok (.aload 4, 2) := dcq_288.2.2.2.2.2.1
theorem dX5_item_54 : decode cX5_item 54 = .ok (.getfield 203, 3) := dcq_288.2.2.2.2.2.2.1
theorem dX5_item_57 : decode cX5_item 57 = .ok (.iconst 1, 1) := dcq_288.2.2.2.2.2.2.2.1
theorem dX5_item_58 : decode cX5_item 58 = .ok (.isub, 1) := dcq_288.2.2.2.2.2.2.2.2.1
theorem dX5_item_59 : decode cX5_item 59 = .ok (.invokestatic 57, 3) := dcq_288.2.2.2.2.2.2.2.2.2.1
theorem dX5_item_62 : decode cX5_item 62 = .ok (.ifCond .eq 14, 3) := dcq_288.2.2.2.2.2.2.2.2.2.2.1
theorem dX5_item_65 : decode cX5_item 65 = .ok (.aload 4, 2) := dcq_288.2.2.2.2.2.2.2.2.2.2.2
set_option maxRecDepth 20000 in
theorem dcb_289 : fd_B cX5_item 67 [180, 0, 204, 29, 47, 136, 167, 0, 5, 16, 244, 172] := fd_o cX5_item 67 _ (by decide +kernel)
theorem dcq_289 : (decode cX5_item 67 = .ok (.getfield 204, 3)) ∧ (decode cX5_item 70 = .ok (.iload_n 3, 1)) ∧ (decode cX5_item 71 = .ok (.laload, 1)) ∧ (decode cX5_item 72 = .ok (.l2i, 1)) ∧ (decode cX5_item 73 = .ok (.goto 5, 3)) ∧ (decode cX5_item 76 = .ok (.bipush (-12), 2)) ∧ (decode cX5_item 78 = .ok (.ireturn, 1)) := have h := dcb_289; ⟨fd_180 h rfl, have h := fd_t3 h; ⟨fd_29 h, have h := fd_t1 h; ⟨fd_47 h, have h := fd_t1 h; ⟨fd_136 h, have h := fd_t1 h; ⟨fd_167 h (by decide +kernel), have h := fd_t3 h; ⟨fd_16 h (by decide +kernel), have h := fd_t2 h; fd_172 h⟩⟩⟩⟩⟩⟩
theorem dX5_item_67 : decode cX5_item 67 = .ok (.getfield 204, 3) := dcq_289.1
theorem dX5_item_70 : decode cX5_item 70 = .ok (.iload_n 3, 1) := dcq_289.2.1
theorem dX5_item_71 : decode cX5_item 71 = .ok (.laload, 1) := dcq_289.2.2.1
theorem dX5_item_72 : decode cX5_item 72 = .ok (.l2i, 1) := dcq_289.2.2.2.1
theorem dX5_item_73 : decode cX5_item 73 = .ok (.goto 5, 3) := dcq_289.2.2.2.2.1
theorem dX5_item_76 : decode cX5_item 76 = .ok (.bipush (-12), 2) := dcq_289.2.2.2.2.2.1
theorem dX5_item_78 : decode cX5_item 78 = .ok (.ireturn, 1) := dcq_289.2.2.2.2.2.2
set_option maxRecDepth 20000 in
theorem dcb_290 : fd_B cX5_shelf 0 [27, 184, 0, 177, 154, 0, 5, 2, 172, 28, 154, 0, 26, 42, 180, 0, 10, 29, 182, 0, 103, 153, 0, 15] := fd_o cX5_shelf 0 _ (by decide +kernel)
theorem dcq_290 : (decode cX5_shelf 0 = .ok (.iload_n 1, 1)) ∧ (decode cX5_shelf 1 = .ok (.invokestatic 177, 3)) ∧ (decode cX5_shelf 4 = .ok (.ifCond .ne 5, 3)) ∧ (decode cX5_shelf 7 = .ok (.iconst (-1), 1)) ∧ (decode cX5_shelf 8 = .ok (.ireturn, 1)) ∧ (decode cX5_shelf 9 = .ok (.iload_n 2, 1)) ∧ (decode cX5_shelf 10 = .ok (.ifCond .ne 26, 3)) ∧ (decode cX5_shelf 13 = .ok (.aload_n 0, 1)) ∧ (decode cX5_shelf 14 = .ok (.getfield 10, 3)) ∧ (decode cX5_shelf 17 = .ok (.iload_n 3, 1)) ∧ (decode cX5_shelf 18 = .ok (.invokevirtual 103, 3)) ∧ (decode cX5_shelf 21 = .ok (.ifCond .eq 15, 3)) := have h := dcb_290; ⟨fd_27 h, have h := fd_t1 h; ⟨fd_184 h rfl, have h := fd_t3 h; ⟨fd_154 h (by decide +kernel), have h := fd_t3 h; ⟨fd_2 h, have h := fd_t1 h; ⟨fd_172 h, have h := fd_t1 h; ⟨fd_28 h, have h := fd_t1 h; ⟨fd_154 h (by decide +kernel), have h := fd_t3 h; ⟨fd_42 h, have h := fd_t1 h; ⟨fd_180 h rfl, have h := fd_t3 h; ⟨fd_29 h, have h := fd_t1 h; ⟨fd_182 h rfl, have h := fd_t3 h; fd_153 h (by decide +kernel)⟩⟩⟩⟩⟩⟩⟩⟩⟩⟩⟩
theorem dX5_shelf_0 : decode cX5_shelf 0 = .ok (.iload_n 1, 1) := dcq_290.1
theorem dX5_shelf_1 : decode cX5_shelf 1 = .ok (.invokestatic 177, 3) := dcq_290.2.1
theorem dX5_shelf_4 : decode cX5_shelf 4 = .ok (.ifCond .ne 5, 3) := dcq_290.2.2.1
theorem dX5_shelf_7 : decode cX5_shelf 7 = .ok (.iconst (-1), 1) := dcq_290.2.2.2.1
theorem dX5_shelf_8 : decode cX5_shelf 8 = .ok (.ireturn, 1) := dcq_290.2.2.2.2.1
theorem dX5_shelf_9 : decode cX5_shelf 9 = .ok (.iload_n 2, 1) := dcq_290.2.2.2.2.2.1
theorem dX5_shelf_10 : decode cX5_shelf 10 = .ok (.ifCond .ne 26, 3) := dcq_290.2.2.2.2.2.2.1
theorem dX5_shelf_13 : decode cX5_shelf 13 = .ok (.aload_n 0, 1) := dcq_290.2.2.2.2.2.2.2.1
theorem dX5_shelf_14 : decode cX5_shelf 14 = .ok (.getfield 10, 3) := dcq_290.2.2.2.2.2.2.2.2.1
theorem dX5_shelf_17 : decode cX5_shelf 17 = .ok (.iload_n 3, 1) := dcq_290.2.2.2.2.2.2.2.2.2.1
theorem dX5_shelf_18 : decode cX5_shelf 18 = .ok (.invokevirtual 103, 3) := dcq_290.2.2.2.2.2.2.2.2.2.2.1
theorem dX5_shelf_21 : decode cX5_shelf 21 = .ok (.ifCond .eq 15, 3) := dcq_290.2.2.2.2.2.2.2.2.2.2.2
set_option maxRecDepth 20000 in
theorem dcb_291 : fd_B cX5_shelf 24 [42, 180, 0, 44, 27, 50, 29, 182, 0, 222, 4, 172, 28, 4, 160, 0, 27, 29] := fd_o cX5_shelf 24 _ (by decide +kernel)
theorem dcq_291 : (decode cX5_shelf 24 = .ok (.aload_n 0, 1)) ∧ (decode cX5_shelf 25 = .ok (.getfield 44, 3)) ∧ (decode cX5_shelf 28 = .ok (.iload_n 1, 1)) ∧ (decode cX5_shelf 29 = .ok (.aaload, 1)) ∧ (decode cX5_shelf 30 = .ok (.iload_n 3, 1)) ∧ (decode cX5_shelf 31 = .ok (.invokevirtual 222, 3)) ∧ (decode cX5_shelf 34 = .ok (.iconst 1, 1)) ∧ (decode cX5_shelf 35 = .ok (.ireturn, 1)) ∧ (decode cX5_shelf 36 = .ok (.iload_n 2, 1)) ∧ (decode cX5_shelf 37 = .ok (.iconst 1, 1)) ∧ (decode cX5_shelf 38 = .ok (.if_icmp .ne 27, 3)) ∧ (decode cX5_shelf 41 = .ok (.iload_n 3, 1)) := have h := dcb_291; ⟨fd_42 h, have h := fd_t1 h; ⟨fd_180 h rfl, have h := fd_t3 h; ⟨fd_27 h, have h := fd_t1 h; ⟨fd_50 h, have h := fd_t1 h; ⟨fd_29 h, have h := fd_t1 h; ⟨fd_182 h rfl, have h := fd_t3 h; ⟨fd_4 h, have h := fd_t1 h; ⟨fd_172 h, have h := fd_t1 h; ⟨fd_28 h, have h := fd_t1 h; ⟨fd_4 h, have h := fd_t1 h; ⟨fd_160 h (by decide +kernel), have h := fd_t3 h; fd_29 h⟩⟩⟩⟩⟩⟩⟩⟩⟩⟩⟩
theorem dX5_shelf_24 : decode cX5_shelf 24 = .ok (.aload_n 0, 1) := dcq_291.1
theorem dX5_shelf_25 : decode cX5_shelf 25 = .ok (.getfield 44, 3) := dcq_291.2.1
theorem dX5_shelf_28 : decode cX5_shelf 28 = .ok (.iload_n 1, 1) := dcq_291.2.2.1
theorem dX5_shelf_29 : decode cX5_shelf 29 = .ok (.aaload, 1) := dcq_291.2.2.2.1
theorem dX5_shelf_30 : decode cX5_shelf 30 = .ok (.iload_n 3, 1) := dcq_291.2.2.2.2.1
theorem dX5_shelf_31 : decode cX5_shelf 31 = .ok (.invokevirtual 222, 3) := dcq_291.2.2.2.2.2.1
theorem dX5_shelf_34 : decode cX5_shelf 34 = .ok (.iconst 1, 1) := dcq_291.2.2.2.2.2.2.1
theorem dX5_shelf_35 : decode cX5_shelf 35 = .ok (.ireturn, 1) := dcq_291.2.2.2.2.2.2.2.1
theorem dX5_shelf_36 : decode cX5_shelf 36 = .ok (.iload_n 2, 1) := dcq_291.2.2.2.2.2.2.2.2.1
theorem dX5_shelf_37 : decode cX5_shelf 37 = .ok (.iconst 1, 1) := dcq_291.2.2.2.2.2.2.2.2.2.1
theorem dX5_shelf_38 : decode cX5_shelf 38 = .ok (.if_icmp .ne 27, 3) := dcq_291.2.2.2.2.2.2.2.2.2.2.1
theorem dX5_shelf_41 : decode cX5_shelf 41 = .ok (.iload_n 3, 1) := dcq_291.2.2.2.2.2.2.2.2.2.2.2
set_option maxRecDepth 20000 in
theorem dcb_292 : fd_B cX5_shelf 42 [184, 0, 177, 153, 0, 20, 42, 180, 0, 44, 27, 50, 42, 180, 0, 38, 29, 50, 182, 0, 226, 4] := fd_o cX5_shelf 42 _ (by decide +kernel)
theorem dcq_292 : (decode cX5_shelf 42 = .ok (.invokestatic 177, 3)) ∧ (decode cX5_shelf 45 = .ok (.ifCond .eq 20, 3)) ∧ (decode cX5_shelf 48 = .ok (.aload_n 0, 1)) ∧ (decode cX5_shelf 49 = .ok (.getfield 44, 3)) ∧ (decode cX5_shelf 52 = .ok (.iload_n 1, 1)) ∧ (decode cX5_shelf 53 = .ok (.aaload, 1)) ∧ (decode cX5_shelf 54 = .ok (.aload_n 0, 1)) ∧ (decode cX5_shelf 55 = .ok (.getfield 38, 3)) ∧ (decode cX5_shelf 58 = .ok (.iload_n 3, 1)) ∧ (decode cX5_shelf 59 = .ok (.aaload, 1)) ∧ (decode cX5_shelf 60 = .ok (.invokevirtual 226, 3)) ∧ (decode cX5_shelf 63 = .ok (.iconst 1, 1)) := have h := dcb_292; ⟨fd_184 h rfl, have h := fd_t3 h; ⟨fd_153 h (by decide +kernel), have h := fd_t3 h; ⟨fd_42 h, have h := fd_t1 h; ⟨fd_180 h rfl, have h := fd_t3 h; ⟨fd_27 h, have h := fd_t1 h; ⟨fd_50 h, have h := fd_t1 h; ⟨fd_42 h, have h := fd_t1 h; ⟨fd_180 h rfl, have h := fd_t3 h; ⟨fd_29 h, have h := fd_t1 h; ⟨fd_50 h, have h := fd_t1 h; ⟨fd_182 h rfl, have h := fd_t3 h; fd_4 h⟩⟩⟩⟩⟩⟩⟩⟩⟩⟩⟩
theorem dX5_shelf_42 : decode cX5_shelf 42 = .ok (.invokestatic 177, 3) := dcq_292.1
theorem dX5_shelf_45 : decode cX5_shelf 45 = .ok (.ifCond .eq 20, 3) := dcq_292.2.1
theorem dX5_shelf_48 : decode cX5_shelf 48 = .ok (.aload_n 0, 1) := dcq_292.2.2.1
theorem dX5_shelf_49 : decode cX5_shelf 49 = .ok (.getfield 44, 3) := dcq_292.2.2.2.1
theorem dX5_shelf_52 : decode cX5_shelf 52 = .ok (.iload_n 1, 1) := dcq_292.2.2.2.2.1
theorem dX5_shelf_53 : decode cX5_shelf 53 = .ok (.aaload, 1) := dcq_292.2.2.2.2.2.1
theorem dX5_shelf_54 : decode cX5_shelf 54 = .ok (.aload_n 0, 1) := dcq_292.2.2.2.2.2.2.1
theorem dX5_shelf_55 : decode cX5_shelf 55 = .ok (.getfield 38, 3) := dcq_292.2.2.2.2.2.2.2.1
theorem dX5_shelf_58 : decode cX5_shelf 58 = .ok (.iload_n 3, 1) := dcq_292.2.2.2.2.2.2.2.2.1
theorem dX5_shelf_59 : decode cX5_shelf 59 = .ok (.aaload, 1) := dcq_292.2.2.2.2.2.2.2.2.2.1
theorem dX5_shelf_60 : decode cX5_shelf 60 = .ok (.invokevirtual 226, 3) := dcq_292.2.2.2.2.2.2.2.2.2.2.1
theorem dX5_shelf_63 : decode cX5_shelf 63 = .ok (.iconst 1, 1) := dcq_292.2.2.2.2.2.2.2.2.2.2.2
set_option maxRecDepth 20000 in
theorem dcb_293 : fd_B cX5_shelf 64 [172, 28, 5, 160, 0, 15, 42, 180, 0, 44, 27, 50, 5, 181, 0, 230, 4, 172] := fd_o cX5_shelf 64 _ (by decide +kernel)
theorem dcq_293 : (decode cX5_shelf 64 = .ok (.ireturn, 1)) ∧ (decode cX5_shelf 65 = .ok (.iload_n 2, 1)) ∧ (decode cX5_shelf 66 = .ok (.iconst 2, 1)) ∧ (decode cX5_shelf 67 = .ok (.if_icmp .ne 15, 3)) ∧ (decode cX5_shelf 70 = .ok (.aload_n 0, 1)) ∧ (decode cX5_shelf 71 = .ok (.getfield 44, 3)) ∧ (decode cX5_shelf 74 = .ok (.iload_n 1, 1)) ∧ (decode cX5_shelf 75 = .ok (.aaload, 1)) ∧ (decode cX5_shelf 76 = .ok (.iconst 2, 1)) ∧ (decode cX5_shelf 77 = .ok (.putfield 230, 3)) ∧ (decode cX5_shelf 80 = .ok (.iconst 1, 1)) ∧ (decode cX5_shelf 81 = .ok (.ireturn, 1)) := have h := dcb_293; ⟨fd_172 h, have h := fd_t1 h; ⟨fd_28 h, have h := fd_t1 h; ⟨fd_5 h, have h := fd_t1 h; ⟨fd_160 h (by decide +kernel), have h := fd_t3 h; ⟨fd_42 h, have h := fd_t1 h; ⟨fd_180 h rfl, have h := fd_t3 h; ⟨fd_27 h, have h := fd_t1 h; ⟨fd_50 h, have h := fd_t1 h; ⟨fd_5 h, have h := fd_t1 h; ⟨fd_181 h rfl, have h := fd_t3 h; ⟨fd_4 h, have h := fd_t1 h; fd_172 h⟩⟩⟩⟩⟩⟩⟩⟩⟩⟩⟩
theorem dX5_shelf_64 : decode cX5_shelf 64 = .ok (.ireturn, 1) := dcq_293.1
theorem dX5_shelf_65 : decode cX5_shelf 65 = .ok (.iload_n 2, 1) := dcq_293.2.1
theorem dX5_shelf_66 : decode cX5_shelf 66 = .ok (.iconst 2, 1) := dcq_293.2.2.1
theorem dX5_shelf_67 : decode cX5_shelf 67 = .ok (.if_icmp .ne 15, 3) := dcq_293.2.2.2.1
theorem dX5_shelf_70 : decode cX5_shelf 70 = .ok (.aload_n 0, 1) := dcq_293.2.2.2.2.1
theorem dX5_shelf_71 : decode cX5_shelf 71 = .ok (.getfield 44, 3) := dcq_293.2.2.2.2.2.1
theorem dX5_shelf_74 : decode cX5_shelf 74 = .ok (.iload_n 1, 1) := dcq_293.2.2.2.2.2.2.1
theorem dX5_shelf_75 : decode cX5_shelf 75 = .ok (.aaload, 1) := dcq_293.2.2.2.2.2.2.2.1
theorem dX5_shelf_76 : decode cX5_shelf 76 = .ok (.iconst 2, 1) := dcq_293.2.2.2.2.2.2.2.2.1
theorem dX5_shelf_77 : decode cX5_shelf 77 = .ok (.putfield 230, 3) := dcq_293.2.2.2.2.2.2.2.2.2.1
theorem dX5_shelf_80 : decode cX5_shelf 80 = .ok (.iconst 1, 1) := dcq_293.2.2.2.2.2.2.2.2.2.2.1
theorem dX5_shelf_81 : decode cX5_shelf 81 = .ok (.ireturn, 1) := dcq_293.2.2.2.2.2.2.2.2.2.2.2
set_option maxRecDepth 20000 in
theorem dcb_294 : fd_B cX5_shelf 82 [2, 172] := fd_o cX5_shelf 82 _ (by decide +kernel)
theorem dcq_294 : (decode cX5_shelf 82 = .ok (.iconst (-1), 1)) ∧ (decode cX5_shelf 83 = .ok (.ireturn, 1)) := have h := dcb_294; ⟨fd_2 h, have h := fd_t1 h; fd_172 h⟩
theorem dX5_shelf_82 : decode cX5_shelf 82 = .ok (.iconst (-1), 1) := dcq_294.1
theorem dX5_shelf_83 : decode cX5_shelf 83 = .ok (.ireturn, 1) := dcq_294.2
set_option maxRecDepth 20000 in
theorem dcb_295 : fd_B cX5_taken 0 [28, 16, 10, 16, 13, 184, 0, 57, 62, 27, 184, 0, 177, 153, 0, 14, 28, 184, 0, 95, 154, 0, 9, 29] := fd_o cX5_taken 0 _ (by decide +kernel)
theorem dcq_295 : (decode cX5_taken 0 = .ok (.iload_n 2, 1)) ∧ (decode cX5_taken 1 = .ok (.bipush 10, 2)) ∧ (decode cX5_taken 3 = .ok (.bipush 13, 2)) ∧ (decode cX5_taken 5 = .ok (.invokestatic 57, 3)) ∧ (decode cX5_taken 8 = .ok (.istore_n 3, 1)) ∧ (decode cX5_taken 9 = .ok (.iload_n 1, 1)) ∧ (decode cX5_taken 10 = .ok (.invokestatic 177, 3)) ∧ (decode cX5_taken 13 = .ok (.ifCond .eq 14, 3)) ∧ (decode cX5_taken 16 = .ok (.iload_n 2, 1)) ∧ (decode cX5_taken 17 = .ok (.invokestatic 95, 3)) ∧ (decode cX5_taken 20 = .ok (.ifCond .ne 9, 3)) ∧ (decode cX5_taken 23 = .ok (.iload_n 3, 1)) := have h := dcb_295; ⟨fd_28 h, have h := fd_t1 h; ⟨fd_16 h (by decide +kernel), have h := fd_t2 h; ⟨fd_16 h (by decide +kernel), have h := fd_t2 h; ⟨fd_184 h rfl, have h := fd_t3 h; ⟨fd_62 h, have h := fd_t1 h; ⟨fd_27 h, have h := fd_t1 h; ⟨fd_184 h rfl, have h := fd_t3 h; ⟨fd_153 h (by decide +kernel), have h := fd_t3 h; ⟨fd_28 h, have h := fd_t1 h; ⟨fd_184 h rfl, have h := fd_t3 h; ⟨fd_154 h (by decide +kernel), have h := fd_t3 h; fd_29 h⟩⟩⟩⟩⟩⟩⟩⟩⟩⟩⟩
theorem dX5_taken_0 : decode cX5_taken 0 = .ok (.iload_n 2, 1) := dcq_295.1
theorem dX5_taken_1 : decode cX5_taken 1 = .ok (.bipush 10, 2) := dcq_295.2.1
theorem dX5_taken_3 : decode cX5_taken 3 = .ok (.bipush 13, 2) := dcq_295.2.2.1
theorem dX5_taken_5 : decode cX5_taken 5 = .ok (.invokestatic 57, 3) := dcq_295.2.2.2.1
theorem dX5_taken_8 : decode cX5_taken 8 = .ok (.istore_n 3, 1) := dcq_295.2.2.2.2.1
theorem dX5_taken_9 : decode cX5_taken 9 = .ok (.iload_n 1, 1) := dcq_295.2.2.2.2.2.1
theorem dX5_taken_10 : decode cX5_taken 10 = .ok (.invokestatic 177, 3) := dcq_295.2.2.2.2.2.2.1
theorem dX5_taken_13 : decode cX5_taken 13 = .ok (.ifCond .eq 14, 3) := dcq_295.2.2.2.2.2.2.2.1
theorem dX5_taken_16 : decode cX5_taken 16 = .ok (.iload_n 2, 1) := dcq_295.2.2.2.2.2.2.2.2.1
theorem dX5_taken_17 : decode cX5_taken 17 = .ok (.invokestatic 95, 3) := dcq_295.2.2.2.2.2.2.2.2.2.1
