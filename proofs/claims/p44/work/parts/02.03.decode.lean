-- decode rows: a program laid them
theorem dX5_taken_20 : decode cX5_taken 20 = .ok (.ifCond .ne 9, 3) := dcq_295.2.2.2.2.2.2.2.2.2.2.1
theorem dX5_taken_23 : decode cX5_taken 23 = .ok (.iload_n 3, 1) := dcq_295.2.2.2.2.2.2.2.2.2.2.2
set_option maxRecDepth 20000 in
theorem dcb_296 : fd_B cX5_taken 24 [154, 0, 5, 2, 172, 42, 180, 0, 44, 27, 50, 58, 4, 25, 4, 180, 0, 230, 4, 160, 0, 26] := fd_o cX5_taken 24 _ (by decide +kernel)
theorem dcq_296 : (decode cX5_taken 24 = .ok (.ifCond .ne 5, 3)) ∧ (decode cX5_taken 27 = .ok (.iconst (-1), 1)) ∧ (decode cX5_taken 28 = .ok (.ireturn, 1)) ∧ (decode cX5_taken 29 = .ok (.aload_n 0, 1)) ∧ (decode cX5_taken 30 = .ok (.getfield 44, 3)) ∧ (decode cX5_taken 33 = .ok (.iload_n 1, 1)) ∧ (decode cX5_taken 34 = .ok (.aaload, 1)) ∧ (decode cX5_taken 35 = .ok (.astore 4, 2)) ∧ (decode cX5_taken 37 = .ok (.aload 4, 2)) ∧ (decode cX5_taken 39 = .ok (.getfield 230, 3)) ∧ (decode cX5_taken 42 = .ok (.iconst 1, 1)) ∧ (decode cX5_taken 43 = .ok (.if_icmp .ne 26, 3)) := have h := dcb_296; ⟨fd_154 h (by decide +kernel), have h := fd_t3 h; ⟨fd_2 h, have h := fd_t1 h; ⟨fd_172 h, have h := fd_t1 h; ⟨fd_42 h, have h := fd_t1 h; ⟨fd_180 h rfl, have h := fd_t3 h; ⟨fd_27 h, have h := fd_t1 h; ⟨fd_50 h, have h := fd_t1 h; ⟨fd_58 h rfl, have h := fd_t2 h; ⟨fd_25 h rfl, have h := fd_t2 h; ⟨fd_180 h rfl, have h := fd_t3 h; ⟨fd_4 h, have h := fd_t1 h; fd_160 h (by decide +kernel)⟩⟩⟩⟩⟩⟩⟩⟩⟩⟩⟩
theorem dX5_taken_24 : decode cX5_taken 24 = .ok (.ifCond .ne 5, 3) := dcq_296.1
theorem dX5_taken_27 : decode cX5_taken 27 = .ok (.iconst (-1), 1) := dcq_296.2.1
theorem dX5_taken_28 : decode cX5_taken 28 = .ok (.ireturn, 1) := dcq_296.2.2.1
theorem dX5_taken_29 : decode cX5_taken 29 = .ok (.aload_n 0, 1) := dcq_296.2.2.2.1
theorem dX5_taken_30 : decode cX5_taken 30 = .ok (.getfield 44, 3) := dcq_296.2.2.2.2.1
theorem dX5_taken_33 : decode cX5_taken 33 = .ok (.iload_n 1, 1) := dcq_296.2.2.2.2.2.1
theorem dX5_taken_34 : decode cX5_taken 34 = .ok (.aaload, 1) := dcq_296.2.2.2.2.2.2.1
theorem dX5_taken_35 : decode cX5_taken 35 = .ok (.astore 4, 2) := dcq_296.2.2.2.2.2.2.2.1
theorem dX5_taken_37 : decode cX5_taken 37 = .ok (.aload 4, 2) := dcq_296.2.2.2.2.2.2.2.2.1
theorem dX5_taken_39 : decode cX5_taken 39 = .ok (.getfield 230, 3) := dcq_296.2.2.2.2.2.2.2.2.2.1
theorem dX5_taken_42 : decode cX5_taken 42 = .ok (.iconst 1, 1) := dcq_296.2.2.2.2.2.2.2.2.2.2.1
theorem dX5_taken_43 : decode cX5_taken 43 = .ok (.if_icmp .ne 26, 3) := dcq_296.2.2.2.2.2.2.2.2.2.2.2
set_option maxRecDepth 20000 in
theorem dcb_297 : fd_B cX5_taken 46 [25, 4, 180, 0, 233, 28, 16, 10, 100, 160, 0, 11, 25, 4, 180, 0, 234, 167, 0, 5, 16, 243, 172, 25, 4] := fd_o cX5_taken 46 _ (by decide +kernel)
theorem dcq_297 : (decode cX5_taken 46 = .ok (.aload 4, 2)) ∧ (decode cX5_taken 48 = .ok (.getfield 233, 3)) ∧ (decode cX5_taken 51 = .ok (.iload_n 2, 1)) ∧ (decode cX5_taken 52 = .ok (.bipush 10, 2)) ∧ (decode cX5_taken 54 = .ok (.isub, 1)) ∧ (decode cX5_taken 55 = .ok (.if_icmp .ne 11, 3)) ∧ (decode cX5_taken 58 = .ok (.aload 4, 2)) ∧ (decode cX5_taken 60 = .ok (.getfield 234, 3)) ∧ (decode cX5_taken 63 = .ok (.goto 5, 3)) ∧ (decode cX5_taken 66 = .ok (.bipush (-13), 2)) ∧ (decode cX5_taken 68 = .ok (.ireturn, 1)) ∧ (decode cX5_taken 69 = .ok (.aload 4, 2)) := have h := dcb_297; ⟨fd_25 h rfl, have h := fd_t2 h; ⟨fd_180 h rfl, have h := fd_t3 h; ⟨fd_28 h, have h := fd_t1 h; ⟨fd_16 h (by decide +kernel), have h := fd_t2 h; ⟨fd_100 h, have h := fd_t1 h; ⟨fd_160 h (by decide +kernel), have h := fd_t3 h; ⟨fd_25 h rfl, have h := fd_t2 h; ⟨fd_180 h rfl, have h := fd_t3 h; ⟨fd_167 h (by decide +kernel), have h := fd_t3 h; ⟨fd_16 h (by decide +kernel), have h := fd_t2 h; ⟨fd_172 h, have h := fd_t1 h; fd_25 h rfl⟩⟩⟩⟩⟩⟩⟩⟩⟩⟩⟩
theorem dX5_taken_46 : decode cX5_taken 46 = .ok (.aload 4, 2) := dcq_297.1
theorem dX5_taken_48 : decode cX5_taken 48 = .ok (.getfield 233, 3) := dcq_297.2.1
theorem dX5_taken_51 : decode cX5_taken 51 = .ok (.iload_n 2, 1) := dcq_297.2.2.1
theorem dX5_taken_52 : decode cX5_taken 52 = .ok (.bipush 10, 2) := dcq_297.2.2.2.1
theorem dX5_taken_54 : decode cX5_taken 54 = .ok (.isub, 1) := dcq_297.2.2.2.2.1
theorem dX5_taken_55 : decode cX5_taken 55 = .ok (.if_icmp .ne 11, 3) := dcq_297.2.2.2.2.2.1
theorem dX5_taken_58 : decode cX5_taken 58 = .ok (.aload 4, 2) := dcq_297.2.2.2.2.2.2.1
theorem dX5_taken_60 : decode cX5_taken 60 = .ok (.getfield 234, 3) := dcq_297.2.2.2.2.2.2.2.1
theorem dX5_taken_63 : decode cX5_taken 63 = .ok (.goto 5, 3) := dcq_297.2.2.2.2.2.2.2.2.1
theorem dX5_taken_66 : decode cX5_taken 66 = .ok (.bipush (-13), 2) := dcq_297.2.2.2.2.2.2.2.2.2.1
theorem dX5_taken_68 : decode cX5_taken 68 = .ok (.ireturn, 1) := dcq_297.2.2.2.2.2.2.2.2.2.2.1
theorem dX5_taken_69 : decode cX5_taken 69 = .ok (.aload 4, 2) := dcq_297.2.2.2.2.2.2.2.2.2.2.2
set_option maxRecDepth 20000 in
theorem dcb_298 : fd_B cX5_taken 71 [180, 0, 230, 5, 159, 0, 18, 42, 180, 0, 10, 25, 4, 180, 0, 235, 182, 0, 103, 154, 0, 6, 16, 245, 172, 29] := fd_o cX5_taken 71 _ (by decide +kernel)
theorem dcq_298 : (decode cX5_taken 71 = .ok (.getfield 230, 3)) ∧ (decode cX5_taken 74 = .ok (.iconst 2, 1)) ∧ (decode cX5_taken 75 = .ok (.if_icmp .eq 18, 3)) ∧ (decode cX5_taken 78 = .ok (.aload_n 0, 1)) ∧ (decode cX5_taken 79 = .ok (.getfield 10, 3)) ∧ (decode cX5_taken 82 = .ok (.aload 4, 2)) ∧ (decode cX5_taken 84 = .ok (.getfield 235, 3)) ∧ (decode cX5_taken 87 = .ok (.invokevirtual 103, 3)) ∧ (decode cX5_taken 90 = .ok (.ifCond .ne 6, 3)) ∧ (decode cX5_taken 93 = .ok (.bipush (-11), 2)) ∧ (decode cX5_taken 95 = .ok (.ireturn, 1)) ∧ (decode cX5_taken 96 = .ok (.iload_n 3, 1)) := have h := dcb_298; ⟨fd_180 h rfl, have h := fd_t3 h; ⟨fd_5 h, have h := fd_t1 h; ⟨fd_159 h (by decide +kernel), have h := fd_t3 h; ⟨fd_42 h, have h := fd_t1 h; ⟨fd_180 h rfl, have h := fd_t3 h; ⟨fd_25 h rfl, have h := fd_t2 h; ⟨fd_180 h rfl, have h := fd_t3 h; ⟨fd_182 h rfl, have h := fd_t3 h; ⟨fd_154 h (by decide +kernel), have h := fd_t3 h; ⟨fd_16 h (by decide +kernel), have h := fd_t2 h; ⟨fd_172 h, have h := fd_t1 h; fd_29 h⟩⟩⟩⟩⟩⟩⟩⟩⟩⟩⟩
theorem dX5_taken_71 : decode cX5_taken 71 = .ok (.getfield 230, 3) := dcq_298.1
theorem dX5_taken_74 : decode cX5_taken 74 = .ok (.iconst 2, 1) := dcq_298.2.1
theorem dX5_taken_75 : decode cX5_taken 75 = .ok (.if_icmp .eq 18, 3) := dcq_298.2.2.1
theorem dX5_taken_78 : decode cX5_taken 78 = .ok (.aload_n 0, 1) := dcq_298.2.2.2.1
theorem dX5_taken_79 : decode cX5_taken 79 = .ok (.getfield 10, 3) := dcq_298.2.2.2.2.1
theorem dX5_taken_82 : decode cX5_taken 82 = .ok (.aload 4, 2) := dcq_298.2.2.2.2.2.1
theorem dX5_taken_84 : decode cX5_taken 84 = .ok (.getfield 235, 3) := dcq_298.2.2.2.2.2.2.1
theorem dX5_taken_87 : decode cX5_taken 87 = .ok (.invokevirtual 103, 3) := dcq_298.2.2.2.2.2.2.2.1
theorem dX5_taken_90 : decode cX5_taken 90 = .ok (.ifCond .ne 6, 3) := dcq_298.2.2.2.2.2.2.2.2.1
theorem dX5_taken_93 : decode cX5_taken 93 = .ok (.bipush (-11), 2) := dcq_298.2.2.2.2.2.2.2.2.2.1
theorem dX5_taken_95 : decode cX5_taken 95 = .ok (.ireturn, 1) := dcq_298.2.2.2.2.2.2.2.2.2.2.1
theorem dX5_taken_96 : decode cX5_taken 96 = .ok (.iload_n 3, 1) := dcq_298.2.2.2.2.2.2.2.2.2.2.2
set_option maxRecDepth 20000 in
theorem dcb_299 : fd_B cX5_taken 97 [154, 0, 27, 42, 180, 0, 10, 180, 0, 106, 25, 4, 180, 0, 235, 46, 28, 184, 0, 238, 153, 0, 7, 4, 167, 0, 4] := fd_o cX5_taken 97 _ (by decide +kernel)
theorem dcq_299 : (decode cX5_taken 97 = .ok (.ifCond .ne 27, 3)) ∧ (decode cX5_taken 100 = .ok (.aload_n 0, 1)) ∧ (decode cX5_taken 101 = .ok (.getfield 10, 3)) ∧ (decode cX5_taken 104 = .ok (.getfield 106, 3)) ∧ (decode cX5_taken 107 = .ok (.aload 4, 2)) ∧ (decode cX5_taken 109 = .ok (.getfield 235, 3)) ∧ (decode cX5_taken 112 = .ok (.iaload, 1)) ∧ (decode cX5_taken 113 = .ok (.iload_n 2, 1)) ∧ (decode cX5_taken 114 = .ok (.invokestatic 238, 3)) ∧ (decode cX5_taken 117 = .ok (.ifCond .eq 7, 3)) ∧ (decode cX5_taken 120 = .ok (.iconst 1, 1)) ∧ (decode cX5_taken 121 = .ok (.goto 4, 3)) := have h := dcb_299; ⟨fd_154 h (by decide +kernel), have h := fd_t3 h; ⟨fd_42 h, have h := fd_t1 h; ⟨fd_180 h rfl, have h := fd_t3 h; ⟨fd_180 h rfl, have h := fd_t3 h; ⟨fd_25 h rfl, have h := fd_t2 h; ⟨fd_180 h rfl, have h := fd_t3 h; ⟨fd_46 h, have h := fd_t1 h; ⟨fd_28 h, have h := fd_t1 h; ⟨fd_184 h rfl, have h := fd_t3 h; ⟨fd_153 h (by decide +kernel), have h := fd_t3 h; ⟨fd_4 h, have h := fd_t1 h; fd_167 h (by decide +kernel)⟩⟩⟩⟩⟩⟩⟩⟩⟩⟩⟩
theorem dX5_taken_97 : decode cX5_taken 97 = .ok (.ifCond .ne 27, 3) := dcq_299.1
theorem dX5_taken_100 : decode cX5_taken 100 = .ok (.aload_n 0, 1) := dcq_299.2.1
theorem dX5_taken_101 : decode cX5_taken 101 = .ok (.getfield 10, 3) := dcq_299.2.2.1
theorem dX5_taken_104 : decode cX5_taken 104 = .ok (.getfield 106, 3) := dcq_299.2.2.2.1
theorem dX5_taken_107 : decode cX5_taken 107 = .ok (.aload 4, 2) := dcq_299.2.2.2.2.1
theorem dX5_taken_109 : decode cX5_taken 109 = .ok (.getfield 235, 3) := dcq_299.2.2.2.2.2.1
theorem dX5_taken_112 : decode cX5_taken 112 = .ok (.iaload, 1) := dcq_299.2.2.2.2.2.2.1
theorem dX5_taken_113 : decode cX5_taken 113 = .ok (.iload_n 2, 1) := dcq_299.2.2.2.2.2.2.2.1
theorem dX5_taken_114 : decode cX5_taken 114 = .ok (.invokestatic 238, 3) := dcq_299.2.2.2.2.2.2.2.2.1
theorem dX5_taken_117 : decode cX5_taken 117 = .ok (.ifCond .eq 7, 3) := dcq_299.2.2.2.2.2.2.2.2.2.1
theorem dX5_taken_120 : decode cX5_taken 120 = .ok (.iconst 1, 1) := dcq_299.2.2.2.2.2.2.2.2.2.2.1
theorem dX5_taken_121 : decode cX5_taken 121 = .ok (.goto 4, 3) := dcq_299.2.2.2.2.2.2.2.2.2.2.2
set_option maxRecDepth 20000 in
theorem dcb_300 : fd_B cX5_taken 124 [3, 54, 5, 21, 5, 153, 0, 11, 25, 4, 180, 0, 235, 167, 0, 5, 16, 243, 172] := fd_o cX5_taken 124 _ (by decide +kernel)
theorem dcq_300 : (decode cX5_taken 124 = .ok (.iconst 0, 1)) ∧ (decode cX5_taken 125 = .ok (.istore 5, 2)) ∧ (decode cX5_taken 127 = .ok (.iload 5, 2)) ∧ (decode cX5_taken 129 = .ok (.ifCond .eq 11, 3)) ∧ (decode cX5_taken 132 = .ok (.aload 4, 2)) ∧ (decode cX5_taken 134 = .ok (.getfield 235, 3)) ∧ (decode cX5_taken 137 = .ok (.goto 5, 3)) ∧ (decode cX5_taken 140 = .ok (.bipush (-13), 2)) ∧ (decode cX5_taken 142 = .ok (.ireturn, 1)) := have h := dcb_300; ⟨fd_3 h, have h := fd_t1 h; ⟨fd_54 h rfl, have h := fd_t2 h; ⟨fd_21 h rfl, have h := fd_t2 h; ⟨fd_153 h (by decide +kernel), have h := fd_t3 h; ⟨fd_25 h rfl, have h := fd_t2 h; ⟨fd_180 h rfl, have h := fd_t3 h; ⟨fd_167 h (by decide +kernel), have h := fd_t3 h; ⟨fd_16 h (by decide +kernel), have h := fd_t2 h; fd_172 h⟩⟩⟩⟩⟩⟩⟩⟩
theorem dX5_taken_124 : decode cX5_taken 124 = .ok (.iconst 0, 1) := dcq_300.1
theorem dX5_taken_125 : decode cX5_taken 125 = .ok (.istore 5, 2) := dcq_300.2.1
theorem dX5_taken_127 : decode cX5_taken 127 = .ok (.iload 5, 2) := dcq_300.2.2.1
theorem dX5_taken_129 : decode cX5_taken 129 = .ok (.ifCond .eq 11, 3) := dcq_300.2.2.2.1
theorem dX5_taken_132 : decode cX5_taken 132 = .ok (.aload 4, 2) := dcq_300.2.2.2.2.1
theorem dX5_taken_134 : decode cX5_taken 134 = .ok (.getfield 235, 3) := dcq_300.2.2.2.2.2.1
theorem dX5_taken_137 : decode cX5_taken 137 = .ok (.goto 5, 3) := dcq_300.2.2.2.2.2.2.1
theorem dX5_taken_140 : decode cX5_taken 140 = .ok (.bipush (-13), 2) := dcq_300.2.2.2.2.2.2.2.1
theorem dX5_taken_142 : decode cX5_taken 142 = .ok (.ireturn, 1) := dcq_300.2.2.2.2.2.2.2.2
set_option maxRecDepth 20000 in
theorem dcb_301 : fd_B cX5_act 0 [42, 180, 0, 32, 182, 0, 241, 27, 184, 0, 177, 153, 0, 12, 28, 3, 6, 184, 0, 57, 154, 0, 5, 3] := fd_o cX5_act 0 _ (by decide +kernel)
theorem dcq_301 : (decode cX5_act 0 = .ok (.aload_n 0, 1)) ∧ (decode cX5_act 1 = .ok (.getfield 32, 3)) ∧ (decode cX5_act 4 = .ok (.invokevirtual 241, 3)) ∧ (decode cX5_act 7 = .ok (.iload_n 1, 1)) ∧ (decode cX5_act 8 = .ok (.invokestatic 177, 3)) ∧ (decode cX5_act 11 = .ok (.ifCond .eq 12, 3)) ∧ (decode cX5_act 14 = .ok (.iload_n 2, 1)) ∧ (decode cX5_act 15 = .ok (.iconst 0, 1)) ∧ (decode cX5_act 16 = .ok (.iconst 3, 1)) ∧ (decode cX5_act 17 = .ok (.invokestatic 57, 3)) ∧ (decode cX5_act 20 = .ok (.ifCond .ne 5, 3)) ∧ (decode cX5_act 23 = .ok (.iconst 0, 1)) := have h := dcb_301; ⟨fd_42 h, have h := fd_t1 h; ⟨fd_180 h rfl, have h := fd_t3 h; ⟨fd_182 h rfl, have h := fd_t3 h; ⟨fd_27 h, have h := fd_t1 h; ⟨fd_184 h rfl, have h := fd_t3 h; ⟨fd_153 h (by decide +kernel), have h := fd_t3 h; ⟨fd_28 h, have h := fd_t1 h; ⟨fd_3 h, have h := fd_t1 h; ⟨fd_6 h, have h := fd_t1 h; ⟨fd_184 h rfl, have h := fd_t3 h; ⟨fd_154 h (by decide +kernel), have h := fd_t3 h; fd_3 h⟩⟩⟩⟩⟩⟩⟩⟩⟩⟩⟩
theorem dX5_act_0 : decode cX5_act 0 = .ok (.aload_n 0, 1) := dcq_301.1
theorem dX5_act_1 : decode cX5_act 1 = .ok (.getfield 32, 3) := dcq_301.2.1
theorem dX5_act_4 : decode cX5_act 4 = .ok (.invokevirtual 241, 3) := dcq_301.2.2.1
theorem dX5_act_7 : decode cX5_act 7 = .ok (.iload_n 1, 1) := dcq_301.2.2.2.1
theorem dX5_act_8 : decode cX5_act 8 = .ok (.invokestatic 177, 3) := dcq_301.2.2.2.2.1
theorem dX5_act_11 : decode cX5_act 11 = .ok (.ifCond .eq 12, 3) := dcq_301.2.2.2.2.2.1
theorem dX5_act_14 : decode cX5_act 14 = .ok (.iload_n 2, 1) := dcq_301.2.2.2.2.2.2.1
theorem dX5_act_15 : decode cX5_act 15 = .ok (.iconst 0, 1) := dcq_301.2.2.2.2.2.2.2.1
theorem dX5_act_16 : decode cX5_act 16 = .ok (.iconst 3, 1) := dcq_301.2.2.2.2.2.2.2.2.1
theorem dX5_act_17 : decode cX5_act 17 = .ok (.invokestatic 57, 3) := dcq_301.2.2.2.2.2.2.2.2.2.1
theorem dX5_act_20 : decode cX5_act 20 = .ok (.ifCond .ne 5, 3) := dcq_301.2.2.2.2.2.2.2.2.2.2.1
theorem dX5_act_23 : decode cX5_act 23 = .ok (.iconst 0, 1) := dcq_301.2.2.2.2.2.2.2.2.2.2.2
set_option maxRecDepth 20000 in
theorem dcb_302 : fd_B cX5_act 24 [172, 42, 180, 0, 44, 27, 50, 58, 4, 25, 4, 180, 0, 230, 154, 0, 18, 42, 180, 0, 10, 25, 4] := fd_o cX5_act 24 _ (by decide +kernel)
theorem dcq_302 : (decode cX5_act 24 = .ok (.ireturn, 1)) ∧ (decode cX5_act 25 = .ok (.aload_n 0, 1)) ∧ (decode cX5_act 26 = .ok (.getfield 44, 3)) ∧ (decode cX5_act 29 = .ok (.iload_n 1, 1)) ∧ (decode cX5_act 30 = .ok (.aaload, 1)) ∧ (decode cX5_act 31 = .ok (.astore 4, 2)) ∧ (decode cX5_act 33 = .ok (.aload 4, 2)) ∧ (decode cX5_act 35 = .ok (.getfield 230, 3)) ∧ (decode cX5_act 38 = .ok (.ifCond .ne 18, 3)) ∧ (decode cX5_act 41 = .ok (.aload_n 0, 1)) ∧ (decode cX5_act 42 = .ok (.getfield 10, 3)) ∧ (decode cX5_act 45 = .ok (.aload 4, 2)) := have h := dcb_302; ⟨fd_172 h, have h := fd_t1 h; ⟨fd_42 h, have h := fd_t1 h; ⟨fd_180 h rfl, have h := fd_t3 h; ⟨fd_27 h, have h := fd_t1 h; ⟨fd_50 h, have h := fd_t1 h; ⟨fd_58 h rfl, have h := fd_t2 h; ⟨fd_25 h rfl, have h := fd_t2 h; ⟨fd_180 h rfl, have h := fd_t3 h; ⟨fd_154 h (by decide +kernel), have h := fd_t3 h; ⟨fd_42 h, have h := fd_t1 h; ⟨fd_180 h rfl, have h := fd_t3 h; fd_25 h rfl⟩⟩⟩⟩⟩⟩⟩⟩⟩⟩⟩
theorem dX5_act_24 : decode cX5_act 24 = .ok (.ireturn, 1) := dcq_302.1
theorem dX5_act_25 : decode cX5_act 25 = .ok (.aload_n 0, 1) := dcq_302.2.1
theorem dX5_act_26 : decode cX5_act 26 = .ok (.getfield 44, 3) := dcq_302.2.2.1
theorem dX5_act_29 : decode cX5_act 29 = .ok (.iload_n 1, 1) := dcq_302.2.2.2.1
theorem dX5_act_30 : decode cX5_act 30 = .ok (.aaload, 1) := dcq_302.2.2.2.2.1
theorem dX5_act_31 : decode cX5_act 31 = .ok (.astore 4, 2) := dcq_302.2.2.2.2.2.1
theorem dX5_act_33 : decode cX5_act 33 = .ok (.aload 4, 2) := dcq_302.2.2.2.2.2.2.1
theorem dX5_act_35 : decode cX5_act 35 = .ok (.getfield 230, 3) := dcq_302.2.2.2.2.2.2.2.1
theorem dX5_act_38 : decode cX5_act 38 = .ok (.ifCond .ne 18, 3) := dcq_302.2.2.2.2.2.2.2.2.1
theorem dX5_act_41 : decode cX5_act 41 = .ok (.aload_n 0, 1) := dcq_302.2.2.2.2.2.2.2.2.2.1
theorem dX5_act_42 : decode cX5_act 42 = .ok (.getfield 10, 3) := dcq_302.2.2.2.2.2.2.2.2.2.2.1
theorem dX5_act_45 : decode cX5_act 45 = .ok (.aload 4, 2) := dcq_302.2.2.2.2.2.2.2.2.2.2.2
set_option maxRecDepth 20000 in
theorem dcb_303 : fd_B cX5_act 47 [180, 0, 235, 182, 0, 103, 154, 0, 5, 3, 172, 25, 4, 180, 0, 235, 54, 5, 42, 180, 0, 32, 42, 180, 0, 10] := fd_o cX5_act 47 _ (by decide +kernel)
theorem dcq_303 : (decode cX5_act 47 = .ok (.getfield 235, 3)) ∧ (decode cX5_act 50 = .ok (.invokevirtual 103, 3)) ∧ (decode cX5_act 53 = .ok (.ifCond .ne 5, 3)) ∧ (decode cX5_act 56 = .ok (.iconst 0, 1)) ∧ (decode cX5_act 57 = .ok (.ireturn, 1)) ∧ (decode cX5_act 58 = .ok (.aload 4, 2)) ∧ (decode cX5_act 60 = .ok (.getfield 235, 3)) ∧ (decode cX5_act 63 = .ok (.istore 5, 2)) ∧ (decode cX5_act 65 = .ok (.aload_n 0, 1)) ∧ (decode cX5_act 66 = .ok (.getfield 32, 3)) ∧ (decode cX5_act 69 = .ok (.aload_n 0, 1)) ∧ (decode cX5_act 70 = .ok (.getfield 10, 3)) := have h := dcb_303; ⟨fd_180 h rfl, have h := fd_t3 h; ⟨fd_182 h rfl, have h := fd_t3 h; ⟨fd_154 h (by decide +kernel), have h := fd_t3 h; ⟨fd_3 h, have h := fd_t1 h; ⟨fd_172 h, have h := fd_t1 h; ⟨fd_25 h rfl, have h := fd_t2 h; ⟨fd_180 h rfl, have h := fd_t3 h; ⟨fd_54 h rfl, have h := fd_t2 h; ⟨fd_42 h, have h := fd_t1 h; ⟨fd_180 h rfl, have h := fd_t3 h; ⟨fd_42 h, have h := fd_t1 h; fd_180 h rfl⟩⟩⟩⟩⟩⟩⟩⟩⟩⟩⟩
theorem dX5_act_47 : decode cX5_act 47 = .ok (.getfield 235, 3) := dcq_303.1
theorem dX5_act_50 : decode cX5_act 50 = .ok (.invokevirtual 103, 3) := dcq_303.2.1
theorem dX5_act_53 : decode cX5_act 53 = .ok (.ifCond .ne 5, 3) := dcq_303.2.2.1
theorem dX5_act_56 : decode cX5_act 56 = .ok (.iconst 0, 1) := dcq_303.2.2.2.1
theorem dX5_act_57 : decode cX5_act 57 = .ok (.ireturn, 1) := dcq_303.2.2.2.2.1
theorem dX5_act_58 : decode cX5_act 58 = .ok (.aload 4, 2) := dcq_303.2.2.2.2.2.1
theorem dX5_act_60 : decode cX5_act 60 = .ok (.getfield 235, 3) := dcq_303.2.2.2.2.2.2.1
theorem dX5_act_63 : decode cX5_act 63 = .ok (.istore 5, 2) := dcq_303.2.2.2.2.2.2.2.1
theorem dX5_act_65 : decode cX5_act 65 = .ok (.aload_n 0, 1) := dcq_303.2.2.2.2.2.2.2.2.1
theorem dX5_act_66 : decode cX5_act 66 = .ok (.getfield 32, 3) := dcq_303.2.2.2.2.2.2.2.2.2.1
theorem dX5_act_69 : decode cX5_act 69 = .ok (.aload_n 0, 1) := dcq_303.2.2.2.2.2.2.2.2.2.2.1
theorem dX5_act_70 : decode cX5_act 70 = .ok (.getfield 10, 3) := dcq_303.2.2.2.2.2.2.2.2.2.2.2
set_option maxRecDepth 20000 in
theorem dcb_304 : fd_B cX5_act 73 [180, 0, 106, 21, 5, 46, 21, 5, 42, 180, 0, 10, 180, 0, 112, 21, 5, 46, 182, 0, 244, 42, 180, 0, 32] := fd_o cX5_act 73 _ (by decide +kernel)
theorem dcq_304 : (decode cX5_act 73 = .ok (.getfield 106, 3)) ∧ (decode cX5_act 76 = .ok (.iload 5, 2)) ∧ (decode cX5_act 78 = .ok (.iaload, 1)) ∧ (decode cX5_act 79 = .ok (.iload 5, 2)) ∧ (decode cX5_act 81 = .ok (.aload_n 0, 1)) ∧ (decode cX5_act 82 = .ok (.getfield 10, 3)) ∧ (decode cX5_act 85 = .ok (.getfield 112, 3)) ∧ (decode cX5_act 88 = .ok (.iload 5, 2)) ∧ (decode cX5_act 90 = .ok (.iaload, 1)) ∧ (decode cX5_act 91 = .ok (.invokevirtual 244, 3)) ∧ (decode cX5_act 94 = .ok (.aload_n 0, 1)) ∧ (decode cX5_act 95 = .ok (.getfield 32, 3)) := have h := dcb_304; ⟨fd_180 h rfl, have h := fd_t3 h; ⟨fd_21 h rfl, have h := fd_t2 h; ⟨fd_46 h, have h := fd_t1 h; ⟨fd_21 h rfl, have h := fd_t2 h; ⟨fd_42 h, have h := fd_t1 h; ⟨fd_180 h rfl, have h := fd_t3 h; ⟨fd_180 h rfl, have h := fd_t3 h; ⟨fd_21 h rfl, have h := fd_t2 h; ⟨fd_46 h, have h := fd_t1 h; ⟨fd_182 h rfl, have h := fd_t3 h; ⟨fd_42 h, have h := fd_t1 h; fd_180 h rfl⟩⟩⟩⟩⟩⟩⟩⟩⟩⟩⟩
theorem dX5_act_73 : decode cX5_act 73 = .ok (.getfield 106, 3) := dcq_304.1
theorem dX5_act_76 : decode cX5_act 76 = .ok (.iload 5, 2) := dcq_304.2.1
theorem dX5_act_78 : decode cX5_act 78 = .ok (.iaload, 1) := dcq_304.2.2.1
theorem dX5_act_79 : decode cX5_act 79 = .ok (.iload 5, 2) := dcq_304.2.2.2.1
theorem dX5_act_81 : decode cX5_act 81 = .ok (.aload_n 0, 1) := dcq_304.2.2.2.2.1
theorem dX5_act_82 : decode cX5_act 82 = .ok (.getfield 10, 3) := dcq_304.2.2.2.2.2.1
theorem dX5_act_85 : decode cX5_act 85 = .ok (.getfield 112, 3) := dcq_304.2.2.2.2.2.2.1
theorem dX5_act_88 : decode cX5_act 88 = .ok (.iload 5, 2) := dcq_304.2.2.2.2.2.2.2.1
theorem dX5_act_90 : decode cX5_act 90 = .ok (.iaload, 1) := dcq_304.2.2.2.2.2.2.2.2.1
theorem dX5_act_91 : decode cX5_act 91 = .ok (.invokevirtual 244, 3) := dcq_304.2.2.2.2.2.2.2.2.2.1
theorem dX5_act_94 : decode cX5_act 94 = .ok (.aload_n 0, 1) := dcq_304.2.2.2.2.2.2.2.2.2.2.1
theorem dX5_act_95 : decode cX5_act 95 = .ok (.getfield 32, 3) := dcq_304.2.2.2.2.2.2.2.2.2.2.2
set_option maxRecDepth 20000 in
theorem dcb_305 : fd_B cX5_act 98 [28, 29, 182, 0, 248, 54, 6, 42, 180, 0, 32, 180, 0, 251, 153, 0, 8, 16, 241, 167, 0, 5, 21, 6, 172] := fd_o cX5_act 98 _ (by decide +kernel)
theorem dcq_305 : (decode cX5_act 98 = .ok (.iload_n 2, 1)) ∧ (decode cX5_act 99 = .ok (.iload_n 3, 1)) ∧ (decode cX5_act 100 = .ok (.invokevirtual 248, 3)) ∧ (decode cX5_act 103 = .ok (.istore 6, 2)) ∧ (decode cX5_act 105 = .ok (.aload_n 0, 1)) ∧ (decode cX5_act 106 = .ok (.getfield 32, 3)) ∧ (decode cX5_act 109 = .ok (.getfield 251, 3)) ∧ (decode cX5_act 112 = .ok (.ifCond .eq 8, 3)) ∧ (decode cX5_act 115 = .ok (.bipush (-15), 2)) ∧ (decode cX5_act 117 = .ok (.goto 5, 3)) ∧ (decode cX5_act 120 = .ok (.iload 6, 2)) ∧ (decode cX5_act 122 = .ok (.ireturn, 1)) := have h := dcb_305; ⟨fd_28 h, have h := fd_t1 h; ⟨fd_29 h, have h := fd_t1 h; ⟨fd_182 h rfl, have h := fd_t3 h; ⟨fd_54 h rfl, have h := fd_t2 h; ⟨fd_42 h, have h := fd_t1 h; ⟨fd_180 h rfl, have h := fd_t3 h; ⟨fd_180 h rfl, have h := fd_t3 h; ⟨fd_153 h (by decide +kernel), have h := fd_t3 h; ⟨fd_16 h (by decide +kernel), have h := fd_t2 h; ⟨fd_167 h (by decide +kernel), have h := fd_t3 h; ⟨fd_21 h rfl, have h := fd_t2 h; fd_172 h⟩⟩⟩⟩⟩⟩⟩⟩⟩⟩⟩
theorem dX5_act_98 : decode cX5_act 98 = .ok (.iload_n 2, 1) := dcq_305.1
theorem dX5_act_99 : decode cX5_act 99 = .ok (.iload_n 3, 1) := dcq_305.2.1
theorem dX5_act_100 : decode cX5_act 100 = .ok (.invokevirtual 248, 3) := dcq_305.2.2.1
theorem dX5_act_103 : decode cX5_act 103 = .ok (.istore 6, 2) := dcq_305.2.2.2.1
theorem dX5_act_105 : decode cX5_act 105 = .ok (.aload_n 0, 1) := dcq_305.2.2.2.2.1
theorem dX5_act_106 : decode cX5_act 106 = .ok (.getfield 32, 3) := dcq_305.2.2.2.2.2.1
theorem dX5_act_109 : decode cX5_act 109 = .ok (.getfield 251, 3) := dcq_305.2.2.2.2.2.2.1
theorem dX5_act_112 : decode cX5_act 112 = .ok (.ifCond .eq 8, 3) := dcq_305.2.2.2.2.2.2.2.1
theorem dX5_act_115 : decode cX5_act 115 = .ok (.bipush (-15), 2) := dcq_305.2.2.2.2.2.2.2.2.1
theorem dX5_act_117 : decode cX5_act 117 = .ok (.goto 5, 3) := dcq_305.2.2.2.2.2.2.2.2.2.1
theorem dX5_act_120 : decode cX5_act 120 = .ok (.iload 6, 2) := dcq_305.2.2.2.2.2.2.2.2.2.2.1
theorem dX5_act_122 : decode cX5_act 122 = .ok (.ireturn, 1) := dcq_305.2.2.2.2.2.2.2.2.2.2.2
set_option maxRecDepth 20000 in
theorem dcb_306 : fd_B cX5_trace 0 [27, 3, 42, 180, 0, 32, 180, 0, 255, 4, 100, 184, 0, 57, 153, 0, 15, 42, 180, 0, 32, 180, 1, 2] := fd_o cX5_trace 0 _ (by decide +kernel)
theorem dcq_306 : (decode cX5_trace 0 = .ok (.iload_n 1, 1)) ∧ (decode cX5_trace 1 = .ok (.iconst 0, 1)) ∧ (decode cX5_trace 2 = .ok (.aload_n 0, 1)) ∧ (decode cX5_trace 3 = .ok (.getfield 32, 3)) ∧ (decode cX5_trace 6 = .ok (.getfield 255, 3)) ∧ (decode cX5_trace 9 = .ok (.iconst 1, 1)) ∧ (decode cX5_trace 10 = .ok (.isub, 1)) ∧ (decode cX5_trace 11 = .ok (.invokestatic 57, 3)) ∧ (decode cX5_trace 14 = .ok (.ifCond .eq 15, 3)) ∧ (decode cX5_trace 17 = .ok (.aload_n 0, 1)) ∧ (decode cX5_trace 18 = .ok (.getfield 32, 3)) ∧ (decode cX5_trace 21 = .ok (.getfield 258, 3)) := have h := dcb_306; ⟨fd_27 h, have h := fd_t1 h; ⟨fd_3 h, have h := fd_t1 h; ⟨fd_42 h, have h := fd_t1 h; ⟨fd_180 h rfl, have h := fd_t3 h; ⟨fd_180 h rfl, have h := fd_t3 h; ⟨fd_4 h, have h := fd_t1 h; ⟨fd_100 h, have h := fd_t1 h; ⟨fd_184 h rfl, have h := fd_t3 h; ⟨fd_153 h (by decide +kernel), have h := fd_t3 h; ⟨fd_42 h, have h := fd_t1 h; ⟨fd_180 h rfl, have h := fd_t3 h; fd_180 h rfl⟩⟩⟩⟩⟩⟩⟩⟩⟩⟩⟩
theorem dX5_trace_0 : decode cX5_trace 0 = .ok (.iload_n 1, 1) := dcq_306.1
theorem dX5_trace_1 : decode cX5_trace 1 = .ok (.iconst 0, 1) := dcq_306.2.1
theorem dX5_trace_2 : decode cX5_trace 2 = .ok (.aload_n 0, 1) := dcq_306.2.2.1
theorem dX5_trace_3 : decode cX5_trace 3 = .ok (.getfield 32, 3) := dcq_306.2.2.2.1
theorem dX5_trace_6 : decode cX5_trace 6 = .ok (.getfield 255, 3) := dcq_306.2.2.2.2.1
theorem dX5_trace_9 : decode cX5_trace 9 = .ok (.iconst 1, 1) := dcq_306.2.2.2.2.2.1
theorem dX5_trace_10 : decode cX5_trace 10 = .ok (.isub, 1) := dcq_306.2.2.2.2.2.2.1
theorem dX5_trace_11 : decode cX5_trace 11 = .ok (.invokestatic 57, 3) := dcq_306.2.2.2.2.2.2.2.1
theorem dX5_trace_14 : decode cX5_trace 14 = .ok (.ifCond .eq 15, 3) := dcq_306.2.2.2.2.2.2.2.2.1
theorem dX5_trace_17 : decode cX5_trace 17 = .ok (.aload_n 0, 1) := dcq_306.2.2.2.2.2.2.2.2.2.1
theorem dX5_trace_18 : decode cX5_trace 18 = .ok (.getfield 32, 3) := dcq_306.2.2.2.2.2.2.2.2.2.2.1
theorem dX5_trace_21 : decode cX5_trace 21 = .ok (.getfield 258, 3) := dcq_306.2.2.2.2.2.2.2.2.2.2.2
set_option maxRecDepth 20000 in
theorem dcb_307 : fd_B cX5_trace 24 [27, 46, 167, 0, 5, 16, 253, 172] := fd_o cX5_trace 24 _ (by decide +kernel)
theorem dcq_307 : (decode cX5_trace 24 = .ok (.iload_n 1, 1)) ∧ (decode cX5_trace 25 = .ok (.iaload, 1)) ∧ (decode cX5_trace 26 = .ok (.goto 5, 3)) ∧ (decode cX5_trace 29 = .ok (.bipush (-3), 2)) ∧ (decode cX5_trace 31 = .ok (.ireturn, 1)) := have h := dcb_307; ⟨fd_27 h, have h := fd_t1 h; ⟨fd_46 h, have h := fd_t1 h; ⟨fd_167 h (by decide +kernel), have h := fd_t3 h; ⟨fd_16 h (by decide +kernel), have h := fd_t2 h; fd_172 h⟩⟩⟩⟩
theorem dX5_trace_24 : decode cX5_trace 24 = .ok (.iload_n 1, 1) := dcq_307.1
theorem dX5_trace_25 : decode cX5_trace 25 = .ok (.iaload, 1) := dcq_307.2.1
theorem dX5_trace_26 : decode cX5_trace 26 = .ok (.goto 5, 3) := dcq_307.2.2.1
theorem dX5_trace_29 : decode cX5_trace 29 = .ok (.bipush (-3), 2) := dcq_307.2.2.2.1
theorem dX5_trace_31 : decode cX5_trace 31 = .ok (.ireturn, 1) := dcq_307.2.2.2.2
set_option maxRecDepth 20000 in
theorem dcb_308 : fd_B cX5_many 0 [27] := fd_o cX5_many 0 _ (by decide +kernel)
theorem dX5_many_0 : decode cX5_many 0 = .ok (.iload_n 1, 1) := fd_27 dcb_308
set_option maxRecDepth 20000 in
theorem dX5_many_1 : decode cX5_many 1 = .ok (.tableswitch 113 0 6 #[43, 51, 66, 81, 92, 97, 105], 43) := by decide +kernel
set_option maxRecDepth 20000 in
theorem dcb_309 : fd_B cX5_many 44 [42, 180, 0, 10, 180, 0, 86, 172, 42, 180, 0, 10, 42, 180, 0, 10, 180, 0, 115, 182, 0, 165, 172, 42] := fd_o cX5_many 44 _ (by decide +kernel)
theorem dcq_309 : (decode cX5_many 44 = .ok (.aload_n 0, 1)) ∧ (decode cX5_many 45 = .ok (.getfield 10, 3)) ∧ (decode cX5_many 48 = .ok (.getfield 86, 3)) ∧ (decode cX5_many 51 = .ok (.ireturn, 1)) ∧ (decode cX5_many 52 = .ok (.aload_n 0, 1)) ∧ (decode cX5_many 53 = .ok (.getfield 10, 3)) ∧ (decode cX5_many 56 = .ok (.aload_n 0, 1)) ∧ (decode cX5_many 57 = .ok (.getfield 10, 3)) ∧ (decode cX5_many 60 = .ok (.getfield 115, 3)) ∧ (decode cX5_many 63 = .ok (.invokevirtual 165, 3)) ∧ (decode cX5_many 66 = .ok (.ireturn, 1)) ∧ (decode cX5_many 67 = .ok (.aload_n 0, 1)) := have h := dcb_309; ⟨fd_42 h, have h := fd_t1 h; ⟨fd_180 h rfl, have h := fd_t3 h; ⟨fd_180 h rfl, have h := fd_t3 h; ⟨fd_172 h, have h := fd_t1 h; ⟨fd_42 h, have h := fd_t1 h; ⟨fd_180 h rfl, have h := fd_t3 h; ⟨fd_42 h, have h := fd_t1 h; ⟨fd_180 h rfl, have h := fd_t3 h; ⟨fd_180 h rfl, have h := fd_t3 h; ⟨fd_182 h rfl, have h := fd_t3 h; ⟨fd_172 h, have h := fd_t1 h; fd_42 h⟩⟩⟩⟩⟩⟩⟩⟩⟩⟩⟩
theorem dX5_many_44 : decode cX5_many 44 = .ok (.aload_n 0, 1) := dcq_309.1
theorem dX5_many_45 : decode cX5_many 45 = .ok (.getfield 10, 3) := dcq_309.2.1
theorem dX5_many_48 : decode cX5_many 48 = .ok (.getfield 86, 3) := dcq_309.2.2.1
theorem dX5_many_51 : decode cX5_many 51 = .ok (.ireturn, 1) := dcq_309.2.2.2.1
theorem dX5_many_52 : decode cX5_many 52 = .ok (.aload_n 0, 1) := dcq_309.2.2.2.2.1
theorem dX5_many_53 : decode cX5_many 53 = .ok (.getfield 10, 3) := dcq_309.2.2.2.2.2.1
theorem dX5_many_56 : decode cX5_many 56 = .ok (.aload_n 0, 1) := dcq_309.2.2.2.2.2.2.1
theorem dX5_many_57 : decode cX5_many 57 = .ok (.getfield 10, 3) := dcq_309.2.2.2.2.2.2.2.1
theorem dX5_many_60 : decode cX5_many 60 = .ok (.getfield 115, 3) := dcq_309.2.2.2.2.2.2.2.2.1
theorem dX5_many_63 : decode cX5_many 63 = .ok (.invokevirtual 165, 3) := dcq_309.2.2.2.2.2.2.2.2.2.1
theorem dX5_many_66 : decode cX5_many 66 = .ok (.ireturn, 1) := dcq_309.2.2.2.2.2.2.2.2.2.2.1
theorem dX5_many_67 : decode cX5_many 67 = .ok (.aload_n 0, 1) := dcq_309.2.2.2.2.2.2.2.2.2.2.2
set_option maxRecDepth 20000 in
theorem dcb_310 : fd_B cX5_many 68 [180, 0, 10, 42, 180, 0, 10, 180, 0, 118, 182, 0, 165, 172, 42, 180, 0, 10, 182, 0, 162, 184, 0, 168, 172, 42] := fd_o cX5_many 68 _ (by decide +kernel)
theorem dcq_310 : (decode cX5_many 68 = .ok (.getfield 10, 3)) ∧ (decode cX5_many 71 = .ok (.aload_n 0, 1)) ∧ (decode cX5_many 72 = .ok (.getfield 10, 3)) ∧ (decode cX5_many 75 = .ok (.getfield 118, 3)) ∧ (decode cX5_many 78 = .ok (.invokevirtual 165, 3)) ∧ (decode cX5_many 81 = .ok (.ireturn, 1)) ∧ (decode cX5_many 82 = .ok (.aload_n 0, 1)) ∧ (decode cX5_many 83 = .ok (.getfield 10, 3)) ∧ (decode cX5_many 86 = .ok (.invokevirtual 162, 3)) ∧ (decode cX5_many 89 = .ok (.invokestatic 168, 3)) ∧ (decode cX5_many 92 = .ok (.ireturn, 1)) ∧ (decode cX5_many 93 = .ok (.aload_n 0, 1)) := have h := dcb_310; ⟨fd_180 h rfl, have h := fd_t3 h; ⟨fd_42 h, have h := fd_t1 h; ⟨fd_180 h rfl, have h := fd_t3 h; ⟨fd_180 h rfl, have h := fd_t3 h; ⟨fd_182 h rfl, have h := fd_t3 h; ⟨fd_172 h, have h := fd_t1 h; ⟨fd_42 h, have h := fd_t1 h; ⟨fd_180 h rfl, have h := fd_t3 h; ⟨fd_182 h rfl, have h := fd_t3 h; ⟨fd_184 h rfl, have h := fd_t3 h; ⟨fd_172 h, have h := fd_t1 h; fd_42 h⟩⟩⟩⟩⟩⟩⟩⟩⟩⟩⟩
theorem dX5_many_68 : decode cX5_many 68 = .ok (.getfield 10, 3) := dcq_310.1
theorem dX5_many_71 : decode cX5_many 71 = .ok (.aload_n 0, 1) := dcq_310.2.1
theorem dX5_many_72 : decode cX5_many 72 = .ok (.getfield 10, 3) := dcq_310.2.2.1
theorem dX5_many_75 : decode cX5_many 75 = .ok (.getfield 118, 3) := dcq_310.2.2.2.1
theorem dX5_many_78 : decode cX5_many 78 = .ok (.invokevirtual 165, 3) := dcq_310.2.2.2.2.1
theorem dX5_many_81 : decode cX5_many 81 = .ok (.ireturn, 1) := dcq_310.2.2.2.2.2.1
theorem dX5_many_82 : decode cX5_many 82 = .ok (.aload_n 0, 1) := dcq_310.2.2.2.2.2.2.1
theorem dX5_many_83 : decode cX5_many 83 = .ok (.getfield 10, 3) := dcq_310.2.2.2.2.2.2.2.1
theorem dX5_many_86 : decode cX5_many 86 = .ok (.invokevirtual 162, 3) := dcq_310.2.2.2.2.2.2.2.2.1
theorem dX5_many_89 : decode cX5_many 89 = .ok (.invokestatic 168, 3) := dcq_310.2.2.2.2.2.2.2.2.2.1
theorem dX5_many_92 : decode cX5_many 92 = .ok (.ireturn, 1) := dcq_310.2.2.2.2.2.2.2.2.2.2.1
theorem dX5_many_93 : decode cX5_many 93 = .ok (.aload_n 0, 1) := dcq_310.2.2.2.2.2.2.2.2.2.2.2
set_option maxRecDepth 20000 in
theorem dcb_311 : fd_B cX5_many 94 [180, 0, 83, 172, 42, 180, 0, 25, 180, 0, 65, 172, 42, 180, 0, 32, 180, 0, 255, 172, 2, 172] := fd_o cX5_many 94 _ (by decide +kernel)
theorem dcq_311 : (decode cX5_many 94 = .ok (.getfield 83, 3)) ∧ (decode cX5_many 97 = .ok (.ireturn, 1)) ∧ (decode cX5_many 98 = .ok (.aload_n 0, 1)) ∧ (decode cX5_many 99 = .ok (.getfield 25, 3)) ∧ (decode cX5_many 102 = .ok (.getfield 65, 3)) ∧ (decode cX5_many 105 = .ok (.ireturn, 1)) ∧ (decode cX5_many 106 = .ok (.aload_n 0, 1)) ∧ (decode cX5_many 107 = .ok (.getfield 32, 3)) ∧ (decode cX5_many 110 = .ok (.getfield 255, 3)) ∧ (decode cX5_many 113 = .ok (.ireturn, 1)) ∧ (decode cX5_many 114 = .ok (.iconst (-1), 1)) ∧ (decode cX5_many 115 = .ok (.ireturn, 1)) := have h := dcb_311; ⟨fd_180 h rfl, have h := fd_t3 h; ⟨fd_172 h, have h := fd_t1 h; ⟨fd_42 h, have h := fd_t1 h; ⟨fd_180 h rfl, have h := fd_t3 h; ⟨fd_180 h rfl, have h := fd_t3 h; ⟨fd_172 h, have h := fd_t1 h; ⟨fd_42 h, have h := fd_t1 h; ⟨fd_180 h rfl, have h := fd_t3 h; ⟨fd_180 h rfl, have h := fd_t3 h; ⟨fd_172 h, have h := fd_t1 h; ⟨fd_2 h, have h := fd_t1 h; fd_172 h⟩⟩⟩⟩⟩⟩⟩⟩⟩⟩⟩
theorem dX5_many_94 : decode cX5_many 94 = .ok (.getfield 83, 3) := dcq_311.1
theorem dX5_many_97 : decode cX5_many 97 = .ok (.ireturn, 1) := dcq_311.2.1
theorem dX5_many_98 : decode cX5_many 98 = .ok (.aload_n 0, 1) := dcq_311.2.2.1
theorem dX5_many_99 : decode cX5_many 99 = .ok (.getfield 25, 3) := dcq_311.2.2.2.1
theorem dX5_many_102 : decode cX5_many 102 = .ok (.getfield 65, 3) := dcq_311.2.2.2.2.1
theorem dX5_many_105 : decode cX5_many 105 = .ok (.ireturn, 1) := dcq_311.2.2.2.2.2.1
theorem dX5_many_106 : decode cX5_many 106 = .ok (.aload_n 0, 1) := dcq_311.2.2.2.2.2.2.1
theorem dX5_many_107 : decode cX5_many 107 = .ok (.getfield 32, 3) := dcq_311.2.2.2.2.2.2.2.1
theorem dX5_many_110 : decode cX5_many 110 = .ok (.getfield 255, 3) := dcq_311.2.2.2.2.2.2.2.2.1
theorem dX5_many_113 : decode cX5_many 113 = .ok (.ireturn, 1) := dcq_311.2.2.2.2.2.2.2.2.2.1
theorem dX5_many_114 : decode cX5_many 114 = .ok (.iconst (-1), 1) := dcq_311.2.2.2.2.2.2.2.2.2.2.1
theorem dX5_many_115 : decode cX5_many 115 = .ok (.ireturn, 1) := dcq_311.2.2.2.2.2.2.2.2.2.2.2
set_option maxRecDepth 20000 in
theorem dcb_312 : fd_B cX5_keep 0 [42, 180, 0, 16, 42, 180, 0, 10, 182, 0, 79, 42, 4, 181, 1, 5, 4, 172] := fd_o cX5_keep 0 _ (by decide +kernel)
theorem dcq_312 : (decode cX5_keep 0 = .ok (.aload_n 0, 1)) ∧ (decode cX5_keep 1 = .ok (.getfield 16, 3)) ∧ (decode cX5_keep 4 = .ok (.aload_n 0, 1)) ∧ (decode cX5_keep 5 = .ok (.getfield 10, 3)) ∧ (decode cX5_keep 8 = .ok (.invokevirtual 79, 3)) ∧ (decode cX5_keep 11 = .ok (.aload_n 0, 1)) ∧ (decode cX5_keep 12 = .ok (.iconst 1, 1)) ∧ (decode cX5_keep 13 = .ok (.putfield 261, 3)) ∧ (decode cX5_keep 16 = .ok (.iconst 1, 1)) ∧ (decode cX5_keep 17 = .ok (.ireturn, 1)) := have h := dcb_312; ⟨fd_42 h, have h := fd_t1 h; ⟨fd_180 h rfl, have h := fd_t3 h; ⟨fd_42 h, have h := fd_t1 h; ⟨fd_180 h rfl, have h := fd_t3 h; ⟨fd_182 h rfl, have h := fd_t3 h; ⟨fd_42 h, have h := fd_t1 h; ⟨fd_4 h, have h := fd_t1 h; ⟨fd_181 h rfl, have h := fd_t3 h; ⟨fd_4 h, have h := fd_t1 h; fd_172 h⟩⟩⟩⟩⟩⟩⟩⟩⟩
theorem dX5_keep_0 : decode cX5_keep 0 = .ok (.aload_n 0, 1) := dcq_312.1
theorem dX5_keep_1 : decode cX5_keep 1 = .ok (.getfield 16, 3) := dcq_312.2.1
theorem dX5_keep_4 : decode cX5_keep 4 = .ok (.aload_n 0, 1) := dcq_312.2.2.1
theorem dX5_keep_5 : decode cX5_keep 5 = .ok (.getfield 10, 3) := dcq_312.2.2.2.1
theorem dX5_keep_8 : decode cX5_keep 8 = .ok (.invokevirtual 79, 3) := dcq_312.2.2.2.2.1
theorem dX5_keep_11 : decode cX5_keep 11 = .ok (.aload_n 0, 1) := dcq_312.2.2.2.2.2.1
theorem dX5_keep_12 : decode cX5_keep 12 = .ok (.iconst 1, 1) := dcq_312.2.2.2.2.2.2.1
theorem dX5_keep_13 : decode cX5_keep 13 = .ok (.putfield 261, 3) := dcq_312.2.2.2.2.2.2.2.1
theorem dX5_keep_16 : decode cX5_keep 16 = .ok (.iconst 1, 1) := dcq_312.2.2.2.2.2.2.2.2.1
theorem dX5_keep_17 : decode cX5_keep 17 = .ok (.ireturn, 1) := dcq_312.2.2.2.2.2.2.2.2.2
set_option maxRecDepth 20000 in
theorem dcb_313 : fd_B cX5_again 0 [42, 180, 1, 5, 154, 0, 6, 16, 253, 172, 42, 180, 0, 10, 42, 180, 0, 16, 182, 0, 79, 42, 180, 0, 10] := fd_o cX5_again 0 _ (by decide +kernel)
theorem dcq_313 : (decode cX5_again 0 = .ok (.aload_n 0, 1)) ∧ (decode cX5_again 1 = .ok (.getfield 261, 3)) ∧ (decode cX5_again 4 = .ok (.ifCond .ne 6, 3)) ∧ (decode cX5_again 7 = .ok (.bipush (-3), 2)) ∧ (decode cX5_again 9 = .ok (.ireturn, 1)) ∧ (decode cX5_again 10 = .ok (.aload_n 0, 1)) ∧ (decode cX5_again 11 = .ok (.getfield 10, 3)) ∧ (decode cX5_again 14 = .ok (.aload_n 0, 1)) ∧ (decode cX5_again 15 = .ok (.getfield 16, 3)) ∧ (decode cX5_again 18 = .ok (.invokevirtual 79, 3)) ∧ (decode cX5_again 21 = .ok (.aload_n 0, 1)) ∧ (decode cX5_again 22 = .ok (.getfield 10, 3)) := have h := dcb_313; ⟨fd_42 h, have h := fd_t1 h; ⟨fd_180 h rfl, have h := fd_t3 h; ⟨fd_154 h (by decide +kernel), have h := fd_t3 h; ⟨fd_16 h (by decide +kernel), have h := fd_t2 h; ⟨fd_172 h, have h := fd_t1 h; ⟨fd_42 h, have h := fd_t1 h; ⟨fd_180 h rfl, have h := fd_t3 h; ⟨fd_42 h, have h := fd_t1 h; ⟨fd_180 h rfl, have h := fd_t3 h; ⟨fd_182 h rfl, have h := fd_t3 h; ⟨fd_42 h, have h := fd_t1 h; fd_180 h rfl⟩⟩⟩⟩⟩⟩⟩⟩⟩⟩⟩
theorem dX5_again_0 : decode cX5_again 0 = .ok (.aload_n 0, 1) := dcq_313.1
theorem dX5_again_1 : decode cX5_again 1 = .ok (.getfield 261, 3) := dcq_313.2.1
theorem dX5_again_4 : decode cX5_again 4 = .ok (.ifCond .ne 6, 3) := dcq_313.2.2.1
theorem dX5_again_7 : decode cX5_again 7 = .ok (.bipush (-3), 2) := dcq_313.2.2.2.1
theorem dX5_again_9 : decode cX5_again 9 = .ok (.ireturn, 1) := dcq_313.2.2.2.2.1
theorem dX5_again_10 : decode cX5_again 10 = .ok (.aload_n 0, 1) := dcq_313.2.2.2.2.2.1
theorem dX5_again_11 : decode cX5_again 11 = .ok (.getfield 10, 3) := dcq_313.2.2.2.2.2.2.1
theorem dX5_again_14 : decode cX5_again 14 = .ok (.aload_n 0, 1) := dcq_313.2.2.2.2.2.2.2.1
theorem dX5_again_15 : decode cX5_again 15 = .ok (.getfield 16, 3) := dcq_313.2.2.2.2.2.2.2.2.1
theorem dX5_again_18 : decode cX5_again 18 = .ok (.invokevirtual 79, 3) := dcq_313.2.2.2.2.2.2.2.2.2.1
theorem dX5_again_21 : decode cX5_again 21 = .ok (.aload_n 0, 1) := dcq_313.2.2.2.2.2.2.2.2.2.2.1
theorem dX5_again_22 : decode cX5_again 22 = .ok (.getfield 10, 3) := dcq_313.2.2.2.2.2.2.2.2.2.2.2
set_option maxRecDepth 20000 in
theorem dcb_314 : fd_B cX5_again 25 [180, 0, 86, 172] := fd_o cX5_again 25 _ (by decide +kernel)
theorem dcq_314 : (decode cX5_again 25 = .ok (.getfield 86, 3)) ∧ (decode cX5_again 28 = .ok (.ireturn, 1)) := have h := dcb_314; ⟨fd_180 h rfl, have h := fd_t3 h; fd_172 h⟩
theorem dX5_again_25 : decode cX5_again 25 = .ok (.getfield 86, 3) := dcq_314.1
theorem dX5_again_28 : decode cX5_again 28 = .ok (.ireturn, 1) := dcq_314.2
set_option maxRecDepth 20000 in
theorem dcb_315 : fd_B cX5_isWithin 0 [26, 27, 161, 0, 12, 26, 28, 163, 0, 7, 4, 167, 0, 4, 3, 172] := fd_o cX5_isWithin 0 _ (by decide +kernel)
theorem dcq_315 : (decode cX5_isWithin 0 = .ok (.iload_n 0, 1)) ∧ (decode cX5_isWithin 1 = .ok (.iload_n 1, 1)) ∧ (decode cX5_isWithin 2 = .ok (.if_icmp .lt 12, 3)) ∧ (decode cX5_isWithin 5 = .ok (.iload_n 0, 1)) ∧ (decode cX5_isWithin 6 = .ok (.iload_n 2, 1)) ∧ (decode cX5_isWithin 7 = .ok (.if_icmp .gt 7, 3)) ∧ (decode cX5_isWithin 10 = .ok (.iconst 1, 1)) ∧ (decode cX5_isWithin 11 = .ok (.goto 4, 3)) ∧ (decode cX5_isWithin 14 = .ok (.iconst 0, 1)) ∧ (decode cX5_isWithin 15 = .ok (.ireturn, 1)) := have h := dcb_315; ⟨fd_26 h, have h := fd_t1 h; ⟨fd_27 h, have h := fd_t1 h; ⟨fd_161 h (by decide +kernel), have h := fd_t3 h; ⟨fd_26 h, have h := fd_t1 h; ⟨fd_28 h, have h := fd_t1 h; ⟨fd_163 h (by decide +kernel), have h := fd_t3 h; ⟨fd_4 h, have h := fd_t1 h; ⟨fd_167 h (by decide +kernel), have h := fd_t3 h; ⟨fd_3 h, have h := fd_t1 h; fd_172 h⟩⟩⟩⟩⟩⟩⟩⟩⟩
theorem dX5_isWithin_0 : decode cX5_isWithin 0 = .ok (.iload_n 0, 1) := dcq_315.1
theorem dX5_isWithin_1 : decode cX5_isWithin 1 = .ok (.iload_n 1, 1) := dcq_315.2.1
theorem dX5_isWithin_2 : decode cX5_isWithin 2 = .ok (.if_icmp .lt 12, 3) := dcq_315.2.2.1
theorem dX5_isWithin_5 : decode cX5_isWithin 5 = .ok (.iload_n 0, 1) := dcq_315.2.2.2.1
theorem dX5_isWithin_6 : decode cX5_isWithin 6 = .ok (.iload_n 2, 1) := dcq_315.2.2.2.2.1
theorem dX5_isWithin_7 : decode cX5_isWithin 7 = .ok (.if_icmp .gt 7, 3) := dcq_315.2.2.2.2.2.1
theorem dX5_isWithin_10 : decode cX5_isWithin 10 = .ok (.iconst 1, 1) := dcq_315.2.2.2.2.2.2.1
theorem dX5_isWithin_11 : decode cX5_isWithin 11 = .ok (.goto 4, 3) := dcq_315.2.2.2.2.2.2.2.1
theorem dX5_isWithin_14 : decode cX5_isWithin 14 = .ok (.iconst 0, 1) := dcq_315.2.2.2.2.2.2.2.2.1
theorem dX5_isWithin_15 : decode cX5_isWithin 15 = .ok (.ireturn, 1) := dcq_315.2.2.2.2.2.2.2.2.2
set_option maxRecDepth 20000 in
theorem dcb_316 : fd_B cX5_isKind 0 [26, 3, 8, 184, 0, 57, 172] := fd_o cX5_isKind 0 _ (by decide +kernel)
theorem dcq_316 : (decode cX5_isKind 0 = .ok (.iload_n 0, 1)) ∧ (decode cX5_isKind 1 = .ok (.iconst 0, 1)) ∧ (decode cX5_isKind 2 = .ok (.iconst 5, 1)) ∧ (decode cX5_isKind 3 = .ok (.invokestatic 57, 3)) ∧ (decode cX5_isKind 6 = .ok (.ireturn, 1)) := have h := dcb_316; ⟨fd_26 h, have h := fd_t1 h; ⟨fd_3 h, have h := fd_t1 h; ⟨fd_8 h, have h := fd_t1 h; ⟨fd_184 h rfl, have h := fd_t3 h; fd_172 h⟩⟩⟩⟩
theorem dX5_isKind_0 : decode cX5_isKind 0 = .ok (.iload_n 0, 1) := dcq_316.1
theorem dX5_isKind_1 : decode cX5_isKind 1 = .ok (.iconst 0, 1) := dcq_316.2.1
theorem dX5_isKind_2 : decode cX5_isKind 2 = .ok (.iconst 5, 1) := dcq_316.2.2.1
theorem dX5_isKind_3 : decode cX5_isKind 3 = .ok (.invokestatic 57, 3) := dcq_316.2.2.2.1
theorem dX5_isKind_6 : decode cX5_isKind 6 = .ok (.ireturn, 1) := dcq_316.2.2.2.2
set_option maxRecDepth 20000 in
theorem dcb_317 : fd_B cX5_isPlace 0 [26, 3, 6, 184, 0, 57, 172] := fd_o cX5_isPlace 0 _ (by decide +kernel)
theorem dcq_317 : (decode cX5_isPlace 0 = .ok (.iload_n 0, 1)) ∧ (decode cX5_isPlace 1 = .ok (.iconst 0, 1)) ∧ (decode cX5_isPlace 2 = .ok (.iconst 3, 1)) ∧ (decode cX5_isPlace 3 = .ok (.invokestatic 57, 3)) ∧ (decode cX5_isPlace 6 = .ok (.ireturn, 1)) := have h := dcb_317; ⟨fd_26 h, have h := fd_t1 h; ⟨fd_3 h, have h := fd_t1 h; ⟨fd_6 h, have h := fd_t1 h; ⟨fd_184 h rfl, have h := fd_t3 h; fd_172 h⟩⟩⟩⟩
theorem dX5_isPlace_0 : decode cX5_isPlace 0 = .ok (.iload_n 0, 1) := dcq_317.1
theorem dX5_isPlace_1 : decode cX5_isPlace 1 = .ok (.iconst 0, 1) := dcq_317.2.1
theorem dX5_isPlace_2 : decode cX5_isPlace 2 = .ok (.iconst 3, 1) := dcq_317.2.2.1
theorem dX5_isPlace_3 : decode cX5_isPlace 3 = .ok (.invokestatic 57, 3) := dcq_317.2.2.2.1
theorem dX5_isPlace_6 : decode cX5_isPlace 6 = .ok (.ireturn, 1) := dcq_317.2.2.2.2
set_option maxRecDepth 20000 in
theorem dcb_318 : fd_B cX5_isUnder 0 [26, 27, 159, 0, 27, 27, 153, 0, 23, 27, 4, 160, 0, 8, 26, 6, 159, 0, 13, 27] := fd_o cX5_isUnder 0 _ (by decide +kernel)
theorem dcq_318 : (decode cX5_isUnder 0 = .ok (.iload_n 0, 1)) ∧ (decode cX5_isUnder 1 = .ok (.iload_n 1, 1)) ∧ (decode cX5_isUnder 2 = .ok (.if_icmp .eq 27, 3)) ∧ (decode cX5_isUnder 5 = .ok (.iload_n 1, 1)) ∧ (decode cX5_isUnder 6 = .ok (.ifCond .eq 23, 3)) ∧ (decode cX5_isUnder 9 = .ok (.iload_n 1, 1)) ∧ (decode cX5_isUnder 10 = .ok (.iconst 1, 1)) ∧ (decode cX5_isUnder 11 = .ok (.if_icmp .ne 8, 3)) ∧ (decode cX5_isUnder 14 = .ok (.iload_n 0, 1)) ∧ (decode cX5_isUnder 15 = .ok (.iconst 3, 1)) ∧ (decode cX5_isUnder 16 = .ok (.if_icmp .eq 13, 3)) ∧ (decode cX5_isUnder 19 = .ok (.iload_n 1, 1)) := have h := dcb_318; ⟨fd_26 h, have h := fd_t1 h; ⟨fd_27 h, have h := fd_t1 h; ⟨fd_159 h (by decide +kernel), have h := fd_t3 h; ⟨fd_27 h, have h := fd_t1 h; ⟨fd_153 h (by decide +kernel), have h := fd_t3 h; ⟨fd_27 h, have h := fd_t1 h; ⟨fd_4 h, have h := fd_t1 h; ⟨fd_160 h (by decide +kernel), have h := fd_t3 h; ⟨fd_26 h, have h := fd_t1 h; ⟨fd_6 h, have h := fd_t1 h; ⟨fd_159 h (by decide +kernel), have h := fd_t3 h; fd_27 h⟩⟩⟩⟩⟩⟩⟩⟩⟩⟩⟩
theorem dX5_isUnder_0 : decode cX5_isUnder 0 = .ok (.iload_n 0, 1) := dcq_318.1
theorem dX5_isUnder_1 : decode cX5_isUnder 1 = .ok (.iload_n 1, 1) := dcq_318.2.1
theorem dX5_isUnder_2 : decode cX5_isUnder 2 = .ok (.if_icmp .eq 27, 3) := dcq_318.2.2.1
theorem dX5_isUnder_5 : decode cX5_isUnder 5 = .ok (.iload_n 1, 1) := dcq_318.2.2.2.1
theorem dX5_isUnder_6 : decode cX5_isUnder 6 = .ok (.ifCond .eq 23, 3) := dcq_318.2.2.2.2.1
theorem dX5_isUnder_9 : decode cX5_isUnder 9 = .ok (.iload_n 1, 1) := dcq_318.2.2.2.2.2.1
theorem dX5_isUnder_10 : decode cX5_isUnder 10 = .ok (.iconst 1, 1) := dcq_318.2.2.2.2.2.2.1
theorem dX5_isUnder_11 : decode cX5_isUnder 11 = .ok (.if_icmp .ne 8, 3) := dcq_318.2.2.2.2.2.2.2.1
theorem dX5_isUnder_14 : decode cX5_isUnder 14 = .ok (.iload_n 0, 1) := dcq_318.2.2.2.2.2.2.2.2.1
theorem dX5_isUnder_15 : decode cX5_isUnder 15 = .ok (.iconst 3, 1) := dcq_318.2.2.2.2.2.2.2.2.2.1
theorem dX5_isUnder_16 : decode cX5_isUnder 16 = .ok (.if_icmp .eq 13, 3) := dcq_318.2.2.2.2.2.2.2.2.2.2.1
theorem dX5_isUnder_19 : decode cX5_isUnder 19 = .ok (.iload_n 1, 1) := dcq_318.2.2.2.2.2.2.2.2.2.2.2
set_option maxRecDepth 20000 in
theorem dcb_319 : fd_B cX5_isUnder 20 [5, 160, 0, 12, 26, 7, 160, 0, 7, 4, 167, 0, 4, 3, 172] := fd_o cX5_isUnder 20 _ (by decide +kernel)
theorem dcq_319 : (decode cX5_isUnder 20 = .ok (.iconst 2, 1)) ∧ (decode cX5_isUnder 21 = .ok (.if_icmp .ne 12, 3)) ∧ (decode cX5_isUnder 24 = .ok (.iload_n 0, 1)) ∧ (decode cX5_isUnder 25 = .ok (.iconst 4, 1)) ∧ (decode cX5_isUnder 26 = .ok (.if_icmp .ne 7, 3)) ∧ (decode cX5_isUnder 29 = .ok (.iconst 1, 1)) ∧ (decode cX5_isUnder 30 = .ok (.goto 4, 3)) ∧ (decode cX5_isUnder 33 = .ok (.iconst 0, 1)) ∧ (decode cX5_isUnder 34 = .ok (.ireturn, 1)) := have h := dcb_319; ⟨fd_5 h, have h := fd_t1 h; ⟨fd_160 h (by decide +kernel), have h := fd_t3 h; ⟨fd_26 h, have h := fd_t1 h; ⟨fd_7 h, have h := fd_t1 h; ⟨fd_160 h (by decide +kernel), have h := fd_t3 h; ⟨fd_4 h, have h := fd_t1 h; ⟨fd_167 h (by decide +kernel), have h := fd_t3 h; ⟨fd_3 h, have h := fd_t1 h; fd_172 h⟩⟩⟩⟩⟩⟩⟩⟩
theorem dX5_isUnder_20 : decode cX5_isUnder 20 = .ok (.iconst 2, 1) := dcq_319.1
theorem dX5_isUnder_21 : decode cX5_isUnder 21 = .ok (.if_icmp .ne 12, 3) := dcq_319.2.1
theorem dX5_isUnder_24 : decode cX5_isUnder 24 = .ok (.iload_n 0, 1) := dcq_319.2.2.1
theorem dX5_isUnder_25 : decode cX5_isUnder 25 = .ok (.iconst 4, 1) := dcq_319.2.2.2.1
theorem dX5_isUnder_26 : decode cX5_isUnder 26 = .ok (.if_icmp .ne 7, 3) := dcq_319.2.2.2.2.1
theorem dX5_isUnder_29 : decode cX5_isUnder 29 = .ok (.iconst 1, 1) := dcq_319.2.2.2.2.2.1
theorem dX5_isUnder_30 : decode cX5_isUnder 30 = .ok (.goto 4, 3) := dcq_319.2.2.2.2.2.2.1
theorem dX5_isUnder_33 : decode cX5_isUnder 33 = .ok (.iconst 0, 1) := dcq_319.2.2.2.2.2.2.2.1
theorem dX5_isUnder_34 : decode cX5_isUnder 34 = .ok (.ireturn, 1) := dcq_319.2.2.2.2.2.2.2.2
set_option maxRecDepth 20000 in
theorem dcb_320 : fd_B cX5_isInRow 0 [27, 3, 42, 180, 0, 83, 4, 100, 184, 0, 57, 153, 0, 16, 28, 3, 5, 184, 0, 57] := fd_o cX5_isInRow 0 _ (by decide +kernel)
theorem dcq_320 : (decode cX5_isInRow 0 = .ok (.iload_n 1, 1)) ∧ (decode cX5_isInRow 1 = .ok (.iconst 0, 1)) ∧ (decode cX5_isInRow 2 = .ok (.aload_n 0, 1)) ∧ (decode cX5_isInRow 3 = .ok (.getfield 83, 3)) ∧ (decode cX5_isInRow 6 = .ok (.iconst 1, 1)) ∧ (decode cX5_isInRow 7 = .ok (.isub, 1)) ∧ (decode cX5_isInRow 8 = .ok (.invokestatic 57, 3)) ∧ (decode cX5_isInRow 11 = .ok (.ifCond .eq 16, 3)) ∧ (decode cX5_isInRow 14 = .ok (.iload_n 2, 1)) ∧ (decode cX5_isInRow 15 = .ok (.iconst 0, 1)) ∧ (decode cX5_isInRow 16 = .ok (.iconst 2, 1)) ∧ (decode cX5_isInRow 17 = .ok (.invokestatic 57, 3)) := have h := dcb_320; ⟨fd_27 h, have h := fd_t1 h; ⟨fd_3 h, have h := fd_t1 h; ⟨fd_42 h, have h := fd_t1 h; ⟨fd_180 h rfl, have h := fd_t3 h; ⟨fd_4 h, have h := fd_t1 h; ⟨fd_100 h, have h := fd_t1 h; ⟨fd_184 h rfl, have h := fd_t3 h; ⟨fd_153 h (by decide +kernel), have h := fd_t3 h; ⟨fd_28 h, have h := fd_t1 h; ⟨fd_3 h, have h := fd_t1 h; ⟨fd_5 h, have h := fd_t1 h; fd_184 h rfl⟩⟩⟩⟩⟩⟩⟩⟩⟩⟩⟩
theorem dX5_isInRow_0 : decode cX5_isInRow 0 = .ok (.iload_n 1, 1) := dcq_320.1
theorem dX5_isInRow_1 : decode cX5_isInRow 1 = .ok (.iconst 0, 1) := dcq_320.2.1
theorem dX5_isInRow_2 : decode cX5_isInRow 2 = .ok (.aload_n 0, 1) := dcq_320.2.2.1
theorem dX5_isInRow_3 : decode cX5_isInRow 3 = .ok (.getfield 83, 3) := dcq_320.2.2.2.1
theorem dX5_isInRow_6 : decode cX5_isInRow 6 = .ok (.iconst 1, 1) := dcq_320.2.2.2.2.1
theorem dX5_isInRow_7 : decode cX5_isInRow 7 = .ok (.isub, 1) := dcq_320.2.2.2.2.2.1
theorem dX5_isInRow_8 : decode cX5_isInRow 8 = .ok (.invokestatic 57, 3) := dcq_320.2.2.2.2.2.2.1
theorem dX5_isInRow_11 : decode cX5_isInRow 11 = .ok (.ifCond .eq 16, 3) := dcq_320.2.2.2.2.2.2.2.1
theorem dX5_isInRow_14 : decode cX5_isInRow 14 = .ok (.iload_n 2, 1) := dcq_320.2.2.2.2.2.2.2.2.1
theorem dX5_isInRow_15 : decode cX5_isInRow 15 = .ok (.iconst 0, 1) := dcq_320.2.2.2.2.2.2.2.2.2.1
theorem dX5_isInRow_16 : decode cX5_isInRow 16 = .ok (.iconst 2, 1) := dcq_320.2.2.2.2.2.2.2.2.2.2.1
theorem dX5_isInRow_17 : decode cX5_isInRow 17 = .ok (.invokestatic 57, 3) := dcq_320.2.2.2.2.2.2.2.2.2.2.2
set_option maxRecDepth 20000 in
theorem dcb_321 : fd_B cX5_isInRow 20 [153, 0, 7, 4, 167, 0, 4, 3, 172] := fd_o cX5_isInRow 20 _ (by decide +kernel)
theorem dcq_321 : (decode cX5_isInRow 20 = .ok (.ifCond .eq 7, 3)) ∧ (decode cX5_isInRow 23 = .ok (.iconst 1, 1)) ∧ (decode cX5_isInRow 24 = .ok (.goto 4, 3)) ∧ (decode cX5_isInRow 27 = .ok (.iconst 0, 1)) ∧ (decode cX5_isInRow 28 = .ok (.ireturn, 1)) := have h := dcb_321; ⟨fd_153 h (by decide +kernel), have h := fd_t3 h; ⟨fd_4 h, have h := fd_t1 h; ⟨fd_167 h (by decide +kernel), have h := fd_t3 h; ⟨fd_3 h, have h := fd_t1 h; fd_172 h⟩⟩⟩⟩
theorem dX5_isInRow_20 : decode cX5_isInRow 20 = .ok (.ifCond .eq 7, 3) := dcq_321.1
theorem dX5_isInRow_23 : decode cX5_isInRow 23 = .ok (.iconst 1, 1) := dcq_321.2.1
theorem dX5_isInRow_24 : decode cX5_isInRow 24 = .ok (.goto 4, 3) := dcq_321.2.2.1
theorem dX5_isInRow_27 : decode cX5_isInRow 27 = .ok (.iconst 0, 1) := dcq_321.2.2.2.1
theorem dX5_isInRow_28 : decode cX5_isInRow 28 = .ok (.ireturn, 1) := dcq_321.2.2.2.2
set_option maxRecDepth 20000 in
theorem dcb_322 : fd_B cX5_trial 0 [42, 180, 0, 19, 42, 180, 0, 10, 182, 0, 79, 42, 180, 0, 19, 176] := fd_o cX5_trial 0 _ (by decide +kernel)
theorem dcq_322 : (decode cX5_trial 0 = .ok (.aload_n 0, 1)) ∧ (decode cX5_trial 1 = .ok (.getfield 19, 3)) ∧ (decode cX5_trial 4 = .ok (.aload_n 0, 1)) ∧ (decode cX5_trial 5 = .ok (.getfield 10, 3)) ∧ (decode cX5_trial 8 = .ok (.invokevirtual 79, 3)) ∧ (decode cX5_trial 11 = .ok (.aload_n 0, 1)) ∧ (decode cX5_trial 12 = .ok (.getfield 19, 3)) ∧ (decode cX5_trial 15 = .ok (.areturn, 1)) := have h := dcb_322; ⟨fd_42 h, have h := fd_t1 h; ⟨fd_180 h rfl, have h := fd_t3 h; ⟨fd_42 h, have h := fd_t1 h; ⟨fd_180 h rfl, have h := fd_t3 h; ⟨fd_182 h rfl, have h := fd_t3 h; ⟨fd_42 h, have h := fd_t1 h; ⟨fd_180 h rfl, have h := fd_t3 h; fd_176 h⟩⟩⟩⟩⟩⟩⟩
theorem dX5_trial_0 : decode cX5_trial 0 = .ok (.aload_n 0, 1) := dcq_322.1
theorem dX5_trial_1 : decode cX5_trial 1 = .ok (.getfield 19, 3) := dcq_322.2.1
theorem dX5_trial_4 : decode cX5_trial 4 = .ok (.aload_n 0, 1) := dcq_322.2.2.1
theorem dX5_trial_5 : decode cX5_trial 5 = .ok (.getfield 10, 3) := dcq_322.2.2.2.1
theorem dX5_trial_8 : decode cX5_trial 8 = .ok (.invokevirtual 79, 3) := dcq_322.2.2.2.2.1
theorem dX5_trial_11 : decode cX5_trial 11 = .ok (.aload_n 0, 1) := dcq_322.2.2.2.2.2.1
theorem dX5_trial_12 : decode cX5_trial 12 = .ok (.getfield 19, 3) := dcq_322.2.2.2.2.2.2.1
theorem dX5_trial_15 : decode cX5_trial 15 = .ok (.areturn, 1) := dcq_322.2.2.2.2.2.2.2
set_option maxRecDepth 20000 in
theorem dcb_323 : fd_B cX5_wordsBy 0 [3, 62, 3, 54, 4, 21, 4, 27, 162, 0, 17, 29, 42, 28, 182, 0, 137, 96] := fd_o cX5_wordsBy 0 _ (by decide +kernel)
theorem dcq_323 : (decode cX5_wordsBy 0 = .ok (.iconst 0, 1)) ∧ (decode cX5_wordsBy 1 = .ok (.istore_n 3, 1)) ∧ (decode cX5_wordsBy 2 = .ok (.iconst 0, 1)) ∧ (decode cX5_wordsBy 3 = .ok (.istore 4, 2)) ∧ (decode cX5_wordsBy 5 = .ok (.iload 4, 2)) ∧ (decode cX5_wordsBy 7 = .ok (.iload_n 1, 1)) ∧ (decode cX5_wordsBy 8 = .ok (.if_icmp .ge 17, 3)) ∧ (decode cX5_wordsBy 11 = .ok (.iload_n 3, 1)) ∧ (decode cX5_wordsBy 12 = .ok (.aload_n 0, 1)) ∧ (decode cX5_wordsBy 13 = .ok (.iload_n 2, 1)) ∧ (decode cX5_wordsBy 14 = .ok (.invokevirtual 137, 3)) ∧ (decode cX5_wordsBy 17 = .ok (.iadd, 1)) := have h := dcb_323; ⟨fd_3 h, have h := fd_t1 h; ⟨fd_62 h, have h := fd_t1 h; ⟨fd_3 h, have h := fd_t1 h; ⟨fd_54 h rfl, have h := fd_t2 h; ⟨fd_21 h rfl, have h := fd_t2 h; ⟨fd_27 h, have h := fd_t1 h; ⟨fd_162 h (by decide +kernel), have h := fd_t3 h; ⟨fd_29 h, have h := fd_t1 h; ⟨fd_42 h, have h := fd_t1 h; ⟨fd_28 h, have h := fd_t1 h; ⟨fd_182 h rfl, have h := fd_t3 h; fd_96 h⟩⟩⟩⟩⟩⟩⟩⟩⟩⟩⟩
theorem dX5_wordsBy_0 : decode cX5_wordsBy 0 = .ok (.iconst 0, 1) := dcq_323.1
theorem dX5_wordsBy_1 : decode cX5_wordsBy 1 = .ok (.istore_n 3, 1) := dcq_323.2.1
theorem dX5_wordsBy_2 : decode cX5_wordsBy 2 = .ok (.iconst 0, 1) := dcq_323.2.2.1
theorem dX5_wordsBy_3 : decode cX5_wordsBy 3 = .ok (.istore 4, 2) := dcq_323.2.2.2.1
theorem dX5_wordsBy_5 : decode cX5_wordsBy 5 = .ok (.iload 4, 2) := dcq_323.2.2.2.2.1
theorem dX5_wordsBy_7 : decode cX5_wordsBy 7 = .ok (.iload_n 1, 1) := dcq_323.2.2.2.2.2.1
theorem dX5_wordsBy_8 : decode cX5_wordsBy 8 = .ok (.if_icmp .ge 17, 3) := dcq_323.2.2.2.2.2.2.1
theorem dX5_wordsBy_11 : decode cX5_wordsBy 11 = .ok (.iload_n 3, 1) := dcq_323.2.2.2.2.2.2.2.1
theorem dX5_wordsBy_12 : decode cX5_wordsBy 12 = .ok (.aload_n 0, 1) := dcq_323.2.2.2.2.2.2.2.2.1
theorem dX5_wordsBy_13 : decode cX5_wordsBy 13 = .ok (.iload_n 2, 1) := dcq_323.2.2.2.2.2.2.2.2.2.1
theorem dX5_wordsBy_14 : decode cX5_wordsBy 14 = .ok (.invokevirtual 137, 3) := dcq_323.2.2.2.2.2.2.2.2.2.2.1
theorem dX5_wordsBy_17 : decode cX5_wordsBy 17 = .ok (.iadd, 1) := dcq_323.2.2.2.2.2.2.2.2.2.2.2
set_option maxRecDepth 20000 in
theorem dcb_324 : fd_B cX5_wordsBy 18 [62, 132, 4, 1, 167, 255, 239, 29, 172] := fd_o cX5_wordsBy 18 _ (by decide +kernel)
theorem dcq_324 : (decode cX5_wordsBy 18 = .ok (.istore_n 3, 1)) ∧ (decode cX5_wordsBy 19 = .ok (.iinc 4 1, 3)) ∧ (decode cX5_wordsBy 22 = .ok (.goto (-17), 3)) ∧ (decode cX5_wordsBy 25 = .ok (.iload_n 3, 1)) ∧ (decode cX5_wordsBy 26 = .ok (.ireturn, 1)) := have h := dcb_324; ⟨fd_62 h, have h := fd_t1 h; ⟨fd_132 h rfl (by decide +kernel), have h := fd_t3 h; ⟨fd_167 h (by decide +kernel), have h := fd_t3 h; ⟨fd_29 h, have h := fd_t1 h; fd_172 h⟩⟩⟩⟩
theorem dX5_wordsBy_18 : decode cX5_wordsBy 18 = .ok (.istore_n 3, 1) := dcq_324.1
theorem dX5_wordsBy_19 : decode cX5_wordsBy 19 = .ok (.iinc 4 1, 3) := dcq_324.2.1
theorem dX5_wordsBy_22 : decode cX5_wordsBy 22 = .ok (.goto (-17), 3) := dcq_324.2.2.1
theorem dX5_wordsBy_25 : decode cX5_wordsBy 25 = .ok (.iload_n 3, 1) := dcq_324.2.2.2.1
theorem dX5_wordsBy_26 : decode cX5_wordsBy 26 = .ok (.ireturn, 1) := dcq_324.2.2.2.2
set_option maxRecDepth 20000 in
theorem dcb_325 : fd_B cX5_isTold 0 [42, 182, 0, 148, 58, 4, 25, 4, 180, 0, 109, 28, 29, 79, 3, 54, 5, 3, 54, 6] := fd_o cX5_isTold 0 _ (by decide +kernel)
theorem dcq_325 : (decode cX5_isTold 0 = .ok (.aload_n 0, 1)) ∧ (decode cX5_isTold 1 = .ok (.invokevirtual 148, 3)) ∧ (decode cX5_isTold 4 = .ok (.astore 4, 2)) ∧ (decode cX5_isTold 6 = .ok (.aload 4, 2)) ∧ (decode cX5_isTold 8 = .ok (.getfield 109, 3)) ∧ (decode cX5_isTold 11 = .ok (.iload_n 2, 1)) ∧ (decode cX5_isTold 12 = .ok (.iload_n 3, 1)) ∧ (decode cX5_isTold 13 = .ok (.iastore, 1)) ∧ (decode cX5_isTold 14 = .ok (.iconst 0, 1)) ∧ (decode cX5_isTold 15 = .ok (.istore 5, 2)) ∧ (decode cX5_isTold 17 = .ok (.iconst 0, 1)) ∧ (decode cX5_isTold 18 = .ok (.istore 6, 2)) := have h := dcb_325; ⟨fd_42 h, have h := fd_t1 h; ⟨fd_182 h rfl, have h := fd_t3 h; ⟨fd_58 h rfl, have h := fd_t2 h; ⟨fd_25 h rfl, have h := fd_t2 h; ⟨fd_180 h rfl, have h := fd_t3 h; ⟨fd_28 h, have h := fd_t1 h; ⟨fd_29 h, have h := fd_t1 h; ⟨fd_79 h, have h := fd_t1 h; ⟨fd_3 h, have h := fd_t1 h; ⟨fd_54 h rfl, have h := fd_t2 h; ⟨fd_3 h, have h := fd_t1 h; fd_54 h rfl⟩⟩⟩⟩⟩⟩⟩⟩⟩⟩⟩
theorem dX5_isTold_0 : decode cX5_isTold 0 = .ok (.aload_n 0, 1) := dcq_325.1
theorem dX5_isTold_1 : decode cX5_isTold 1 = .ok (.invokevirtual 148, 3) := dcq_325.2.1
theorem dX5_isTold_4 : decode cX5_isTold 4 = .ok (.astore 4, 2) := dcq_325.2.2.1
theorem dX5_isTold_6 : decode cX5_isTold 6 = .ok (.aload 4, 2) := dcq_325.2.2.2.1
theorem dX5_isTold_8 : decode cX5_isTold 8 = .ok (.getfield 109, 3) := dcq_325.2.2.2.2.1
theorem dX5_isTold_11 : decode cX5_isTold 11 = .ok (.iload_n 2, 1) := dcq_325.2.2.2.2.2.1
theorem dX5_isTold_12 : decode cX5_isTold 12 = .ok (.iload_n 3, 1) := dcq_325.2.2.2.2.2.2.1
theorem dX5_isTold_13 : decode cX5_isTold 13 = .ok (.iastore, 1) := dcq_325.2.2.2.2.2.2.2.1
theorem dX5_isTold_14 : decode cX5_isTold 14 = .ok (.iconst 0, 1) := dcq_325.2.2.2.2.2.2.2.2.1
theorem dX5_isTold_15 : decode cX5_isTold 15 = .ok (.istore 5, 2) := dcq_325.2.2.2.2.2.2.2.2.2.1
theorem dX5_isTold_17 : decode cX5_isTold 17 = .ok (.iconst 0, 1) := dcq_325.2.2.2.2.2.2.2.2.2.2.1
theorem dX5_isTold_18 : decode cX5_isTold 18 = .ok (.istore 6, 2) := dcq_325.2.2.2.2.2.2.2.2.2.2.2
set_option maxRecDepth 20000 in
theorem dcb_326 : fd_B cX5_isTold 20 [21, 6, 43, 180, 0, 203, 162, 0, 52, 21, 5, 25, 4, 17, 0, 255, 182, 0, 137, 96, 54, 5, 43, 180, 0, 204] := fd_o cX5_isTold 20 _ (by decide +kernel)
theorem dcq_326 : (decode cX5_isTold 20 = .ok (.iload 6, 2)) ∧ (decode cX5_isTold 22 = .ok (.aload_n 1, 1)) ∧ (decode cX5_isTold 23 = .ok (.getfield 203, 3)) ∧ (decode cX5_isTold 26 = .ok (.if_icmp .ge 52, 3)) ∧ (decode cX5_isTold 29 = .ok (.iload 5, 2)) ∧ (decode cX5_isTold 31 = .ok (.aload 4, 2)) ∧ (decode cX5_isTold 33 = .ok (.sipush 255, 3)) ∧ (decode cX5_isTold 36 = .ok (.invokevirtual 137, 3)) ∧ (decode cX5_isTold 39 = .ok (.iadd, 1)) ∧ (decode cX5_isTold 40 = .ok (.istore 5, 2)) ∧ (decode cX5_isTold 42 = .ok (.aload_n 1, 1)) ∧ (decode cX5_isTold 43 = .ok (.getfield 204, 3)) := have h := dcb_326; ⟨fd_21 h rfl, have h := fd_t2 h; ⟨fd_43 h, have h := fd_t1 h; ⟨fd_180 h rfl, have h := fd_t3 h; ⟨fd_162 h (by decide +kernel), have h := fd_t3 h; ⟨fd_21 h rfl, have h := fd_t2 h; ⟨fd_25 h rfl, have h := fd_t2 h; ⟨fd_17 h (by decide +kernel), have h := fd_t3 h; ⟨fd_182 h rfl, have h := fd_t3 h; ⟨fd_96 h, have h := fd_t1 h; ⟨fd_54 h rfl, have h := fd_t2 h; ⟨fd_43 h, have h := fd_t1 h; fd_180 h rfl⟩⟩⟩⟩⟩⟩⟩⟩⟩⟩⟩
theorem dX5_isTold_20 : decode cX5_isTold 20 = .ok (.iload 6, 2) := dcq_326.1
theorem dX5_isTold_22 : decode cX5_isTold 22 = .ok (.aload_n 1, 1) := dcq_326.2.1
theorem dX5_isTold_23 : decode cX5_isTold 23 = .ok (.getfield 203, 3) := dcq_326.2.2.1
theorem dX5_isTold_26 : decode cX5_isTold 26 = .ok (.if_icmp .ge 52, 3) := dcq_326.2.2.2.1
theorem dX5_isTold_29 : decode cX5_isTold 29 = .ok (.iload 5, 2) := dcq_326.2.2.2.2.1
theorem dX5_isTold_31 : decode cX5_isTold 31 = .ok (.aload 4, 2) := dcq_326.2.2.2.2.2.1
theorem dX5_isTold_33 : decode cX5_isTold 33 = .ok (.sipush 255, 3) := dcq_326.2.2.2.2.2.2.1
theorem dX5_isTold_36 : decode cX5_isTold 36 = .ok (.invokevirtual 137, 3) := dcq_326.2.2.2.2.2.2.2.1
theorem dX5_isTold_39 : decode cX5_isTold 39 = .ok (.iadd, 1) := dcq_326.2.2.2.2.2.2.2.2.1
theorem dX5_isTold_40 : decode cX5_isTold 40 = .ok (.istore 5, 2) := dcq_326.2.2.2.2.2.2.2.2.2.1
theorem dX5_isTold_42 : decode cX5_isTold 42 = .ok (.aload_n 1, 1) := dcq_326.2.2.2.2.2.2.2.2.2.2.1
theorem dX5_isTold_43 : decode cX5_isTold 43 = .ok (.getfield 204, 3) := dcq_326.2.2.2.2.2.2.2.2.2.2.2
set_option maxRecDepth 20000 in
theorem dcb_327 : fd_B cX5_isTold 46 [21, 6, 47, 20, 0, 187, 148, 153, 0, 19, 43, 180, 0, 204, 21, 6, 47, 21, 5, 133, 148] := fd_o cX5_isTold 46 _ (by decide +kernel)
theorem dcq_327 : (decode cX5_isTold 46 = .ok (.iload 6, 2)) ∧ (decode cX5_isTold 48 = .ok (.laload, 1)) ∧ (decode cX5_isTold 49 = .ok (.ldc2_w 187, 3)) ∧ (decode cX5_isTold 52 = .ok (.lcmp, 1)) ∧ (decode cX5_isTold 53 = .ok (.ifCond .eq 19, 3)) ∧ (decode cX5_isTold 56 = .ok (.aload_n 1, 1)) ∧ (decode cX5_isTold 57 = .ok (.getfield 204, 3)) ∧ (decode cX5_isTold 60 = .ok (.iload 6, 2)) ∧ (decode cX5_isTold 62 = .ok (.laload, 1)) ∧ (decode cX5_isTold 63 = .ok (.iload 5, 2)) ∧ (decode cX5_isTold 65 = .ok (.i2l, 1)) ∧ (decode cX5_isTold 66 = .ok (.lcmp, 1)) := have h := dcb_327; ⟨fd_21 h rfl, have h := fd_t2 h; ⟨fd_47 h, have h := fd_t1 h; ⟨fd_20 h rfl, have h := fd_t3 h; ⟨fd_148 h, have h := fd_t1 h; ⟨fd_153 h (by decide +kernel), have h := fd_t3 h; ⟨fd_43 h, have h := fd_t1 h; ⟨fd_180 h rfl, have h := fd_t3 h; ⟨fd_21 h rfl, have h := fd_t2 h; ⟨fd_47 h, have h := fd_t1 h; ⟨fd_21 h rfl, have h := fd_t2 h; ⟨fd_133 h, have h := fd_t1 h; fd_148 h⟩⟩⟩⟩⟩⟩⟩⟩⟩⟩⟩
theorem dX5_isTold_46 : decode cX5_isTold 46 = .ok (.iload 6, 2) := dcq_327.1
theorem dX5_isTold_48 : decode cX5_isTold 48 = .ok (.laload, 1) := dcq_327.2.1
theorem dX5_isTold_49 : decode cX5_isTold 49 = .ok (.ldc2_w 187, 3) := dcq_327.2.2.1
theorem dX5_isTold_52 : decode cX5_isTold 52 = .ok (.lcmp, 1) := dcq_327.2.2.2.1
theorem dX5_isTold_53 : decode cX5_isTold 53 = .ok (.ifCond .eq 19, 3) := dcq_327.2.2.2.2.1
theorem dX5_isTold_56 : decode cX5_isTold 56 = .ok (.aload_n 1, 1) := dcq_327.2.2.2.2.2.1
theorem dX5_isTold_57 : decode cX5_isTold 57 = .ok (.getfield 204, 3) := dcq_327.2.2.2.2.2.2.1
theorem dX5_isTold_60 : decode cX5_isTold 60 = .ok (.iload 6, 2) := dcq_327.2.2.2.2.2.2.2.1
theorem dX5_isTold_62 : decode cX5_isTold 62 = .ok (.laload, 1) := dcq_327.2.2.2.2.2.2.2.2.1
theorem dX5_isTold_63 : decode cX5_isTold 63 = .ok (.iload 5, 2) := dcq_327.2.2.2.2.2.2.2.2.2.1
theorem dX5_isTold_65 : decode cX5_isTold 65 = .ok (.i2l, 1) := dcq_327.2.2.2.2.2.2.2.2.2.2.1
theorem dX5_isTold_66 : decode cX5_isTold 66 = .ok (.lcmp, 1) := dcq_327.2.2.2.2.2.2.2.2.2.2.2
set_option maxRecDepth 20000 in
theorem dcb_328 : fd_B cX5_isTold 67 [153, 0, 5, 3, 172, 132, 6, 1, 167, 255, 201, 4, 172] := fd_o cX5_isTold 67 _ (by decide +kernel)
theorem dcq_328 : (decode cX5_isTold 67 = .ok (.ifCond .eq 5, 3)) ∧ (decode cX5_isTold 70 = .ok (.iconst 0, 1)) ∧ (decode cX5_isTold 71 = .ok (.ireturn, 1)) ∧ (decode cX5_isTold 72 = .ok (.iinc 6 1, 3)) ∧ (decode cX5_isTold 75 = .ok (.goto (-55), 3)) ∧ (decode cX5_isTold 78 = .ok (.iconst 1, 1)) ∧ (decode cX5_isTold 79 = .ok (.ireturn, 1)) := have h := dcb_328; ⟨fd_153 h (by decide +kernel), have h := fd_t3 h; ⟨fd_3 h, have h := fd_t1 h; ⟨fd_172 h, have h := fd_t1 h; ⟨fd_132 h rfl (by decide +kernel), have h := fd_t3 h; ⟨fd_167 h (by decide +kernel), have h := fd_t3 h; ⟨fd_4 h, have h := fd_t1 h; fd_172 h⟩⟩⟩⟩⟩⟩
theorem dX5_isTold_67 : decode cX5_isTold 67 = .ok (.ifCond .eq 5, 3) := dcq_328.1
theorem dX5_isTold_70 : decode cX5_isTold 70 = .ok (.iconst 0, 1) := dcq_328.2.1
theorem dX5_isTold_71 : decode cX5_isTold 71 = .ok (.ireturn, 1) := dcq_328.2.2.1
theorem dX5_isTold_72 : decode cX5_isTold 72 = .ok (.iinc 6 1, 3) := dcq_328.2.2.2.1
theorem dX5_isTold_75 : decode cX5_isTold 75 = .ok (.goto (-55), 3) := dcq_328.2.2.2.2.1
theorem dX5_isTold_78 : decode cX5_isTold 78 = .ok (.iconst 1, 1) := dcq_328.2.2.2.2.2.1
theorem dX5_isTold_79 : decode cX5_isTold 79 = .ok (.ireturn, 1) := dcq_328.2.2.2.2.2.2
set_option maxRecDepth 20000 in
theorem dcb_329 : fd_B cX5_leastPacking 0 [17, 39, 15, 62, 3, 54, 4, 21, 4, 42, 180, 0, 10, 180, 0, 86, 162, 0, 94, 27, 21, 4, 122] := fd_o cX5_leastPacking 0 _ (by decide +kernel)
theorem dcq_329 : (decode cX5_leastPacking 0 = .ok (.sipush 9999, 3)) ∧ (decode cX5_leastPacking 3 = .ok (.istore_n 3, 1)) ∧ (decode cX5_leastPacking 4 = .ok (.iconst 0, 1)) ∧ (decode cX5_leastPacking 5 = .ok (.istore 4, 2)) ∧ (decode cX5_leastPacking 7 = .ok (.iload 4, 2)) ∧ (decode cX5_leastPacking 9 = .ok (.aload_n 0, 1)) ∧ (decode cX5_leastPacking 10 = .ok (.getfield 10, 3)) ∧ (decode cX5_leastPacking 13 = .ok (.getfield 86, 3)) ∧ (decode cX5_leastPacking 16 = .ok (.if_icmp .ge 94, 3)) ∧ (decode cX5_leastPacking 19 = .ok (.iload_n 1, 1)) ∧ (decode cX5_leastPacking 20 = .ok (.iload 4, 2)) ∧ (decode cX5_leastPacking 22 = .ok (.ishr, 1)) := have h := dcb_329; ⟨fd_17 h (by decide +kernel), have h := fd_t3 h; ⟨fd_62 h, have h := fd_t1 h; ⟨fd_3 h, have h := fd_t1 h; ⟨fd_54 h rfl, have h := fd_t2 h; ⟨fd_21 h rfl, have h := fd_t2 h; ⟨fd_42 h, have h := fd_t1 h; ⟨fd_180 h rfl, have h := fd_t3 h; ⟨fd_180 h rfl, have h := fd_t3 h; ⟨fd_162 h (by decide +kernel), have h := fd_t3 h; ⟨fd_27 h, have h := fd_t1 h; ⟨fd_21 h rfl, have h := fd_t2 h; fd_122 h⟩⟩⟩⟩⟩⟩⟩⟩⟩⟩⟩
theorem dX5_leastPacking_0 : decode cX5_leastPacking 0 = .ok (.sipush 9999, 3) := dcq_329.1
theorem dX5_leastPacking_3 : decode cX5_leastPacking 3 = .ok (.istore_n 3, 1) := dcq_329.2.1
theorem dX5_leastPacking_4 : decode cX5_leastPacking 4 = .ok (.iconst 0, 1) := dcq_329.2.2.1
theorem dX5_leastPacking_5 : decode cX5_leastPacking 5 = .ok (.istore 4, 2) := dcq_329.2.2.2.1
theorem dX5_leastPacking_7 : decode cX5_leastPacking 7 = .ok (.iload 4, 2) := dcq_329.2.2.2.2.1
theorem dX5_leastPacking_9 : decode cX5_leastPacking 9 = .ok (.aload_n 0, 1) := dcq_329.2.2.2.2.2.1
theorem dX5_leastPacking_10 : decode cX5_leastPacking 10 = .ok (.getfield 10, 3) := dcq_329.2.2.2.2.2.2.1
theorem dX5_leastPacking_13 : decode cX5_leastPacking 13 = .ok (.getfield 86, 3) := dcq_329.2.2.2.2.2.2.2.1
theorem dX5_leastPacking_16 : decode cX5_leastPacking 16 = .ok (.if_icmp .ge 94, 3) := dcq_329.2.2.2.2.2.2.2.2.1
theorem dX5_leastPacking_19 : decode cX5_leastPacking 19 = .ok (.iload_n 1, 1) := dcq_329.2.2.2.2.2.2.2.2.2.1
theorem dX5_leastPacking_20 : decode cX5_leastPacking 20 = .ok (.iload 4, 2) := dcq_329.2.2.2.2.2.2.2.2.2.2.1
theorem dX5_leastPacking_22 : decode cX5_leastPacking 22 = .ok (.ishr, 1) := dcq_329.2.2.2.2.2.2.2.2.2.2.2
set_option maxRecDepth 20000 in
theorem dcb_330 : fd_B cX5_leastPacking 23 [4, 126, 154, 0, 6, 167, 0, 76, 42, 180, 0, 54, 27, 4, 21, 4, 120, 2, 130] := fd_o cX5_leastPacking 23 _ (by decide +kernel)
theorem dcq_330 : (decode cX5_leastPacking 23 = .ok (.iconst 1, 1)) ∧ (decode cX5_leastPacking 24 = .ok (.iand, 1)) ∧ (decode cX5_leastPacking 25 = .ok (.ifCond .ne 6, 3)) ∧ (decode cX5_leastPacking 28 = .ok (.goto 76, 3)) ∧ (decode cX5_leastPacking 31 = .ok (.aload_n 0, 1)) ∧ (decode cX5_leastPacking 32 = .ok (.getfield 54, 3)) ∧ (decode cX5_leastPacking 35 = .ok (.iload_n 1, 1)) ∧ (decode cX5_leastPacking 36 = .ok (.iconst 1, 1)) ∧ (decode cX5_leastPacking 37 = .ok (.iload 4, 2)) ∧ (decode cX5_leastPacking 39 = .ok (.ishl, 1)) ∧ (decode cX5_leastPacking 40 = .ok (.iconst (-1), 1)) ∧ (decode cX5_leastPacking 41 = .ok (.ixor, 1)) := have h := dcb_330; ⟨fd_4 h, have h := fd_t1 h; ⟨fd_126 h, have h := fd_t1 h; ⟨fd_154 h (by decide +kernel), have h := fd_t3 h; ⟨fd_167 h (by decide +kernel), have h := fd_t3 h; ⟨fd_42 h, have h := fd_t1 h; ⟨fd_180 h rfl, have h := fd_t3 h; ⟨fd_27 h, have h := fd_t1 h; ⟨fd_4 h, have h := fd_t1 h; ⟨fd_21 h rfl, have h := fd_t2 h; ⟨fd_120 h, have h := fd_t1 h; ⟨fd_2 h, have h := fd_t1 h; fd_130 h⟩⟩⟩⟩⟩⟩⟩⟩⟩⟩⟩
theorem dX5_leastPacking_23 : decode cX5_leastPacking 23 = .ok (.iconst 1, 1) := dcq_330.1
theorem dX5_leastPacking_24 : decode cX5_leastPacking 24 = .ok (.iand, 1) := dcq_330.2.1
theorem dX5_leastPacking_25 : decode cX5_leastPacking 25 = .ok (.ifCond .ne 6, 3) := dcq_330.2.2.1
theorem dX5_leastPacking_28 : decode cX5_leastPacking 28 = .ok (.goto 76, 3) := dcq_330.2.2.2.1
theorem dX5_leastPacking_31 : decode cX5_leastPacking 31 = .ok (.aload_n 0, 1) := dcq_330.2.2.2.2.1
theorem dX5_leastPacking_32 : decode cX5_leastPacking 32 = .ok (.getfield 54, 3) := dcq_330.2.2.2.2.2.1
theorem dX5_leastPacking_35 : decode cX5_leastPacking 35 = .ok (.iload_n 1, 1) := dcq_330.2.2.2.2.2.2.1
theorem dX5_leastPacking_36 : decode cX5_leastPacking 36 = .ok (.iconst 1, 1) := dcq_330.2.2.2.2.2.2.2.1
theorem dX5_leastPacking_37 : decode cX5_leastPacking 37 = .ok (.iload 4, 2) := dcq_330.2.2.2.2.2.2.2.2.1
theorem dX5_leastPacking_39 : decode cX5_leastPacking 39 = .ok (.ishl, 1) := dcq_330.2.2.2.2.2.2.2.2.2.1
theorem dX5_leastPacking_40 : decode cX5_leastPacking 40 = .ok (.iconst (-1), 1) := dcq_330.2.2.2.2.2.2.2.2.2.2.1
theorem dX5_leastPacking_41 : decode cX5_leastPacking 41 = .ok (.ixor, 1) := dcq_330.2.2.2.2.2.2.2.2.2.2.2
set_option maxRecDepth 20000 in
theorem dcb_331 : fd_B cX5_leastPacking 42 [126, 46, 54, 5, 42, 180, 0, 10, 180, 0, 109, 21, 4, 46, 54, 6, 21, 5, 21, 6, 96] := fd_o cX5_leastPacking 42 _ (by decide +kernel)
theorem dcq_331 : (decode cX5_leastPacking 42 = .ok (.iand, 1)) ∧ (decode cX5_leastPacking 43 = .ok (.iaload, 1)) ∧ (decode cX5_leastPacking 44 = .ok (.istore 5, 2)) ∧ (decode cX5_leastPacking 46 = .ok (.aload_n 0, 1)) ∧ (decode cX5_leastPacking 47 = .ok (.getfield 10, 3)) ∧ (decode cX5_leastPacking 50 = .ok (.getfield 109, 3)) ∧ (decode cX5_leastPacking 53 = .ok (.iload 4, 2)) ∧ (decode cX5_leastPacking 55 = .ok (.iaload, 1)) ∧ (decode cX5_leastPacking 56 = .ok (.istore 6, 2)) ∧ (decode cX5_leastPacking 58 = .ok (.iload 5, 2)) ∧ (decode cX5_leastPacking 60 = .ok (.iload 6, 2)) ∧ (decode cX5_leastPacking 62 = .ok (.iadd, 1)) := have h := dcb_331; ⟨fd_126 h, have h := fd_t1 h; ⟨fd_46 h, have h := fd_t1 h; ⟨fd_54 h rfl, have h := fd_t2 h; ⟨fd_42 h, have h := fd_t1 h; ⟨fd_180 h rfl, have h := fd_t3 h; ⟨fd_180 h rfl, have h := fd_t3 h; ⟨fd_21 h rfl, have h := fd_t2 h; ⟨fd_46 h, have h := fd_t1 h; ⟨fd_54 h rfl, have h := fd_t2 h; ⟨fd_21 h rfl, have h := fd_t2 h; ⟨fd_21 h rfl, have h := fd_t2 h; fd_96 h⟩⟩⟩⟩⟩⟩⟩⟩⟩⟩⟩
theorem dX5_leastPacking_42 : decode cX5_leastPacking 42 = .ok (.iand, 1) := dcq_331.1
theorem dX5_leastPacking_43 : decode cX5_leastPacking 43 = .ok (.iaload, 1) := dcq_331.2.1
theorem dX5_leastPacking_44 : decode cX5_leastPacking 44 = .ok (.istore 5, 2) := dcq_331.2.2.1
theorem dX5_leastPacking_46 : decode cX5_leastPacking 46 = .ok (.aload_n 0, 1) := dcq_331.2.2.2.1
theorem dX5_leastPacking_47 : decode cX5_leastPacking 47 = .ok (.getfield 10, 3) := dcq_331.2.2.2.2.1
theorem dX5_leastPacking_50 : decode cX5_leastPacking 50 = .ok (.getfield 109, 3) := dcq_331.2.2.2.2.2.1
theorem dX5_leastPacking_53 : decode cX5_leastPacking 53 = .ok (.iload 4, 2) := dcq_331.2.2.2.2.2.2.1
theorem dX5_leastPacking_55 : decode cX5_leastPacking 55 = .ok (.iaload, 1) := dcq_331.2.2.2.2.2.2.2.1
theorem dX5_leastPacking_56 : decode cX5_leastPacking 56 = .ok (.istore 6, 2) := dcq_331.2.2.2.2.2.2.2.2.1
theorem dX5_leastPacking_58 : decode cX5_leastPacking 58 = .ok (.iload 5, 2) := dcq_331.2.2.2.2.2.2.2.2.2.1
theorem dX5_leastPacking_60 : decode cX5_leastPacking 60 = .ok (.iload 6, 2) := dcq_331.2.2.2.2.2.2.2.2.2.2.1
theorem dX5_leastPacking_62 : decode cX5_leastPacking 62 = .ok (.iadd, 1) := dcq_331.2.2.2.2.2.2.2.2.2.2.2
set_option maxRecDepth 20000 in
theorem dcb_332 : fd_B cX5_leastPacking 63 [54, 7, 21, 5, 16, 100, 108, 4, 96, 16, 100, 104, 21, 6, 96, 54, 8, 29] := fd_o cX5_leastPacking 63 _ (by decide +kernel)
theorem dcq_332 : (decode cX5_leastPacking 63 = .ok (.istore 7, 2)) ∧ (decode cX5_leastPacking 65 = .ok (.iload 5, 2)) ∧ (decode cX5_leastPacking 67 = .ok (.bipush 100, 2)) ∧ (decode cX5_leastPacking 69 = .ok (.idiv, 1)) ∧ (decode cX5_leastPacking 70 = .ok (.iconst 1, 1)) ∧ (decode cX5_leastPacking 71 = .ok (.iadd, 1)) ∧ (decode cX5_leastPacking 72 = .ok (.bipush 100, 2)) ∧ (decode cX5_leastPacking 74 = .ok (.imul, 1)) ∧ (decode cX5_leastPacking 75 = .ok (.iload 6, 2)) ∧ (decode cX5_leastPacking 77 = .ok (.iadd, 1)) ∧ (decode cX5_leastPacking 78 = .ok (.istore 8, 2)) ∧ (decode cX5_leastPacking 80 = .ok (.iload_n 3, 1)) := have h := dcb_332; ⟨fd_54 h rfl, have h := fd_t2 h; ⟨fd_21 h rfl, have h := fd_t2 h; ⟨fd_16 h (by decide +kernel), have h := fd_t2 h; ⟨fd_108 h, have h := fd_t1 h; ⟨fd_4 h, have h := fd_t1 h; ⟨fd_96 h, have h := fd_t1 h; ⟨fd_16 h (by decide +kernel), have h := fd_t2 h; ⟨fd_104 h, have h := fd_t1 h; ⟨fd_21 h rfl, have h := fd_t2 h; ⟨fd_96 h, have h := fd_t1 h; ⟨fd_54 h rfl, have h := fd_t2 h; fd_29 h⟩⟩⟩⟩⟩⟩⟩⟩⟩⟩⟩
theorem dX5_leastPacking_63 : decode cX5_leastPacking 63 = .ok (.istore 7, 2) := dcq_332.1
theorem dX5_leastPacking_65 : decode cX5_leastPacking 65 = .ok (.iload 5, 2) := dcq_332.2.1
theorem dX5_leastPacking_67 : decode cX5_leastPacking 67 = .ok (.bipush 100, 2) := dcq_332.2.2.1
theorem dX5_leastPacking_69 : decode cX5_leastPacking 69 = .ok (.idiv, 1) := dcq_332.2.2.2.1
theorem dX5_leastPacking_70 : decode cX5_leastPacking 70 = .ok (.iconst 1, 1) := dcq_332.2.2.2.2.1
theorem dX5_leastPacking_71 : decode cX5_leastPacking 71 = .ok (.iadd, 1) := dcq_332.2.2.2.2.2.1
theorem dX5_leastPacking_72 : decode cX5_leastPacking 72 = .ok (.bipush 100, 2) := dcq_332.2.2.2.2.2.2.1
theorem dX5_leastPacking_74 : decode cX5_leastPacking 74 = .ok (.imul, 1) := dcq_332.2.2.2.2.2.2.2.1
theorem dX5_leastPacking_75 : decode cX5_leastPacking 75 = .ok (.iload 6, 2) := dcq_332.2.2.2.2.2.2.2.2.1
theorem dX5_leastPacking_77 : decode cX5_leastPacking 77 = .ok (.iadd, 1) := dcq_332.2.2.2.2.2.2.2.2.2.1
theorem dX5_leastPacking_78 : decode cX5_leastPacking 78 = .ok (.istore 8, 2) := dcq_332.2.2.2.2.2.2.2.2.2.2.1
theorem dX5_leastPacking_80 : decode cX5_leastPacking 80 = .ok (.iload_n 3, 1) := dcq_332.2.2.2.2.2.2.2.2.2.2.2
set_option maxRecDepth 20000 in
theorem dcb_333 : fd_B cX5_leastPacking 81 [21, 5, 16, 100, 112, 21, 6, 96, 28, 163, 0, 8, 21, 7, 167, 0, 5, 21, 8, 184, 0, 208, 62] := fd_o cX5_leastPacking 81 _ (by decide +kernel)
theorem dcq_333 : (decode cX5_leastPacking 81 = .ok (.iload 5, 2)) ∧ (decode cX5_leastPacking 83 = .ok (.bipush 100, 2)) ∧ (decode cX5_leastPacking 85 = .ok (.irem, 1)) ∧ (decode cX5_leastPacking 86 = .ok (.iload 6, 2)) ∧ (decode cX5_leastPacking 88 = .ok (.iadd, 1)) ∧ (decode cX5_leastPacking 89 = .ok (.iload_n 2, 1)) ∧ (decode cX5_leastPacking 90 = .ok (.if_icmp .gt 8, 3)) ∧ (decode cX5_leastPacking 93 = .ok (.iload 7, 2)) ∧ (decode cX5_leastPacking 95 = .ok (.goto 5, 3)) ∧ (decode cX5_leastPacking 98 = .ok (.iload 8, 2)) ∧ (decode cX5_leastPacking 100 = .ok (.invokestatic 208, 3)) ∧ (decode cX5_leastPacking 103 = .ok (.istore_n 3, 1)) := have h := dcb_333; ⟨fd_21 h rfl, have h := fd_t2 h; ⟨fd_16 h (by decide +kernel), have h := fd_t2 h; ⟨fd_112 h, have h := fd_t1 h; ⟨fd_21 h rfl, have h := fd_t2 h; ⟨fd_96 h, have h := fd_t1 h; ⟨fd_28 h, have h := fd_t1 h; ⟨fd_163 h (by decide +kernel), have h := fd_t3 h; ⟨fd_21 h rfl, have h := fd_t2 h; ⟨fd_167 h (by decide +kernel), have h := fd_t3 h; ⟨fd_21 h rfl, have h := fd_t2 h; ⟨fd_184 h rfl, have h := fd_t3 h; fd_62 h⟩⟩⟩⟩⟩⟩⟩⟩⟩⟩⟩
theorem dX5_leastPacking_81 : decode cX5_leastPacking 81 = .ok (.iload 5, 2) := dcq_333.1
theorem dX5_leastPacking_83 : decode cX5_leastPacking 83 = .ok (.bipush 100, 2) := dcq_333.2.1
theorem dX5_leastPacking_85 : decode cX5_leastPacking 85 = .ok (.irem, 1) := dcq_333.2.2.1
theorem dX5_leastPacking_86 : decode cX5_leastPacking 86 = .ok (.iload 6, 2) := dcq_333.2.2.2.1
theorem dX5_leastPacking_88 : decode cX5_leastPacking 88 = .ok (.iadd, 1) := dcq_333.2.2.2.2.1
theorem dX5_leastPacking_89 : decode cX5_leastPacking 89 = .ok (.iload_n 2, 1) := dcq_333.2.2.2.2.2.1
theorem dX5_leastPacking_90 : decode cX5_leastPacking 90 = .ok (.if_icmp .gt 8, 3) := dcq_333.2.2.2.2.2.2.1
theorem dX5_leastPacking_93 : decode cX5_leastPacking 93 = .ok (.iload 7, 2) := dcq_333.2.2.2.2.2.2.2.1
theorem dX5_leastPacking_95 : decode cX5_leastPacking 95 = .ok (.goto 5, 3) := dcq_333.2.2.2.2.2.2.2.2.1
theorem dX5_leastPacking_98 : decode cX5_leastPacking 98 = .ok (.iload 8, 2) := dcq_333.2.2.2.2.2.2.2.2.2.1
theorem dX5_leastPacking_100 : decode cX5_leastPacking 100 = .ok (.invokestatic 208, 3) := dcq_333.2.2.2.2.2.2.2.2.2.2.1
theorem dX5_leastPacking_103 : decode cX5_leastPacking 103 = .ok (.istore_n 3, 1) := dcq_333.2.2.2.2.2.2.2.2.2.2.2
set_option maxRecDepth 20000 in
theorem dcb_334 : fd_B cX5_leastPacking 104 [132, 4, 1, 167, 255, 156, 29, 172] := fd_o cX5_leastPacking 104 _ (by decide +kernel)
theorem dcq_334 : (decode cX5_leastPacking 104 = .ok (.iinc 4 1, 3)) ∧ (decode cX5_leastPacking 107 = .ok (.goto (-100), 3)) ∧ (decode cX5_leastPacking 110 = .ok (.iload_n 3, 1)) ∧ (decode cX5_leastPacking 111 = .ok (.ireturn, 1)) := have h := dcb_334; ⟨fd_132 h rfl (by decide +kernel), have h := fd_t3 h; ⟨fd_167 h (by decide +kernel), have h := fd_t3 h; ⟨fd_29 h, have h := fd_t1 h; fd_172 h⟩⟩⟩
theorem dX5_leastPacking_104 : decode cX5_leastPacking 104 = .ok (.iinc 4 1, 3) := dcq_334.1
theorem dX5_leastPacking_107 : decode cX5_leastPacking 107 = .ok (.goto (-100), 3) := dcq_334.2.1
theorem dX5_leastPacking_110 : decode cX5_leastPacking 110 = .ok (.iload_n 3, 1) := dcq_334.2.2.1
theorem dX5_leastPacking_111 : decode cX5_leastPacking 111 = .ok (.ireturn, 1) := dcq_334.2.2.2
set_option maxRecDepth 20000 in
theorem dcb_335 : fd_B cX5_choices 0 [10, 65, 4, 54, 4, 21, 4, 27, 163, 0, 23, 32, 26, 27, 100, 21, 4] := fd_o cX5_choices 0 _ (by decide +kernel)
theorem dcq_335 : (decode cX5_choices 0 = .ok (.lconst 1, 1)) ∧ (decode cX5_choices 1 = .ok (.lstore_n 2, 1)) ∧ (decode cX5_choices 2 = .ok (.iconst 1, 1)) ∧ (decode cX5_choices 3 = .ok (.istore 4, 2)) ∧ (decode cX5_choices 5 = .ok (.iload 4, 2)) ∧ (decode cX5_choices 7 = .ok (.iload_n 1, 1)) ∧ (decode cX5_choices 8 = .ok (.if_icmp .gt 23, 3)) ∧ (decode cX5_choices 11 = .ok (.lload_n 2, 1)) ∧ (decode cX5_choices 12 = .ok (.iload_n 0, 1)) ∧ (decode cX5_choices 13 = .ok (.iload_n 1, 1)) ∧ (decode cX5_choices 14 = .ok (.isub, 1)) ∧ (decode cX5_choices 15 = .ok (.iload 4, 2)) := have h := dcb_335; ⟨fd_10 h, have h := fd_t1 h; ⟨fd_65 h, have h := fd_t1 h; ⟨fd_4 h, have h := fd_t1 h; ⟨fd_54 h rfl, have h := fd_t2 h; ⟨fd_21 h rfl, have h := fd_t2 h; ⟨fd_27 h, have h := fd_t1 h; ⟨fd_163 h (by decide +kernel), have h := fd_t3 h; ⟨fd_32 h, have h := fd_t1 h; ⟨fd_26 h, have h := fd_t1 h; ⟨fd_27 h, have h := fd_t1 h; ⟨fd_100 h, have h := fd_t1 h; fd_21 h rfl⟩⟩⟩⟩⟩⟩⟩⟩⟩⟩⟩
theorem dX5_choices_0 : decode cX5_choices 0 = .ok (.lconst 1, 1) := dcq_335.1
theorem dX5_choices_1 : decode cX5_choices 1 = .ok (.lstore_n 2, 1) := dcq_335.2.1
theorem dX5_choices_2 : decode cX5_choices 2 = .ok (.iconst 1, 1) := dcq_335.2.2.1
theorem dX5_choices_3 : decode cX5_choices 3 = .ok (.istore 4, 2) := dcq_335.2.2.2.1
theorem dX5_choices_5 : decode cX5_choices 5 = .ok (.iload 4, 2) := dcq_335.2.2.2.2.1
theorem dX5_choices_7 : decode cX5_choices 7 = .ok (.iload_n 1, 1) := dcq_335.2.2.2.2.2.1
theorem dX5_choices_8 : decode cX5_choices 8 = .ok (.if_icmp .gt 23, 3) := dcq_335.2.2.2.2.2.2.1
theorem dX5_choices_11 : decode cX5_choices 11 = .ok (.lload_n 2, 1) := dcq_335.2.2.2.2.2.2.2.1
theorem dX5_choices_12 : decode cX5_choices 12 = .ok (.iload_n 0, 1) := dcq_335.2.2.2.2.2.2.2.2.1
theorem dX5_choices_13 : decode cX5_choices 13 = .ok (.iload_n 1, 1) := dcq_335.2.2.2.2.2.2.2.2.2.1
theorem dX5_choices_14 : decode cX5_choices 14 = .ok (.isub, 1) := dcq_335.2.2.2.2.2.2.2.2.2.2.1
theorem dX5_choices_15 : decode cX5_choices 15 = .ok (.iload 4, 2) := dcq_335.2.2.2.2.2.2.2.2.2.2.2
set_option maxRecDepth 20000 in
theorem dcb_336 : fd_B cX5_choices 17 [96, 133, 105, 21, 4, 133, 109, 65, 132, 4, 1, 167, 255, 233, 32, 173] := fd_o cX5_choices 17 _ (by decide +kernel)
theorem dcq_336 : (decode cX5_choices 17 = .ok (.iadd, 1)) ∧ (decode cX5_choices 18 = .ok (.i2l, 1)) ∧ (decode cX5_choices 19 = .ok (.lmul, 1)) ∧ (decode cX5_choices 20 = .ok (.iload 4, 2)) ∧ (decode cX5_choices 22 = .ok (.i2l, 1)) ∧ (decode cX5_choices 23 = .ok (.ldiv, 1)) ∧ (decode cX5_choices 24 = .ok (.lstore_n 2, 1)) ∧ (decode cX5_choices 25 = .ok (.iinc 4 1, 3)) ∧ (decode cX5_choices 28 = .ok (.goto (-23), 3)) ∧ (decode cX5_choices 31 = .ok (.lload_n 2, 1)) ∧ (decode cX5_choices 32 = .ok (.lreturn, 1)) := have h := dcb_336; ⟨fd_96 h, have h := fd_t1 h; ⟨fd_133 h, have h := fd_t1 h; ⟨fd_105 h, have h := fd_t1 h; ⟨fd_21 h rfl, have h := fd_t2 h; ⟨fd_133 h, have h := fd_t1 h; ⟨fd_109 h, have h := fd_t1 h; ⟨fd_65 h, have h := fd_t1 h; ⟨fd_132 h rfl (by decide +kernel), have h := fd_t3 h; ⟨fd_167 h (by decide +kernel), have h := fd_t3 h; ⟨fd_32 h, have h := fd_t1 h; fd_173 h⟩⟩⟩⟩⟩⟩⟩⟩⟩⟩
theorem dX5_choices_17 : decode cX5_choices 17 = .ok (.iadd, 1) := dcq_336.1
theorem dX5_choices_18 : decode cX5_choices 18 = .ok (.i2l, 1) := dcq_336.2.1
theorem dX5_choices_19 : decode cX5_choices 19 = .ok (.lmul, 1) := dcq_336.2.2.1
theorem dX5_choices_20 : decode cX5_choices 20 = .ok (.iload 4, 2) := dcq_336.2.2.2.1
theorem dX5_choices_22 : decode cX5_choices 22 = .ok (.i2l, 1) := dcq_336.2.2.2.2.1
theorem dX5_choices_23 : decode cX5_choices 23 = .ok (.ldiv, 1) := dcq_336.2.2.2.2.2.1
theorem dX5_choices_24 : decode cX5_choices 24 = .ok (.lstore_n 2, 1) := dcq_336.2.2.2.2.2.2.1
theorem dX5_choices_25 : decode cX5_choices 25 = .ok (.iinc 4 1, 3) := dcq_336.2.2.2.2.2.2.2.1
theorem dX5_choices_28 : decode cX5_choices 28 = .ok (.goto (-23), 3) := dcq_336.2.2.2.2.2.2.2.2.1
theorem dX5_choices_31 : decode cX5_choices 31 = .ok (.lload_n 2, 1) := dcq_336.2.2.2.2.2.2.2.2.2.1
theorem dX5_choices_32 : decode cX5_choices 32 = .ok (.lreturn, 1) := dcq_336.2.2.2.2.2.2.2.2.2.2
set_option maxRecDepth 20000 in
theorem dcb_337 : fd_B cX5_partOf 0 [30, 32, 184, 1, 8, 55, 5, 21, 4, 154, 0, 7, 30, 167, 0, 4, 32, 55, 7, 22, 5, 9] := fd_o cX5_partOf 0 _ (by decide +kernel)
theorem dcq_337 : (decode cX5_partOf 0 = .ok (.lload_n 0, 1)) ∧ (decode cX5_partOf 1 = .ok (.lload_n 2, 1)) ∧ (decode cX5_partOf 2 = .ok (.invokestatic 264, 3)) ∧ (decode cX5_partOf 5 = .ok (.lstore 5, 2)) ∧ (decode cX5_partOf 7 = .ok (.iload 4, 2)) ∧ (decode cX5_partOf 9 = .ok (.ifCond .ne 7, 3)) ∧ (decode cX5_partOf 12 = .ok (.lload_n 0, 1)) ∧ (decode cX5_partOf 13 = .ok (.goto 4, 3)) ∧ (decode cX5_partOf 16 = .ok (.lload_n 2, 1)) ∧ (decode cX5_partOf 17 = .ok (.lstore 7, 2)) ∧ (decode cX5_partOf 19 = .ok (.lload 5, 2)) ∧ (decode cX5_partOf 21 = .ok (.lconst 0, 1)) := have h := dcb_337; ⟨fd_30 h, have h := fd_t1 h; ⟨fd_32 h, have h := fd_t1 h; ⟨fd_184 h rfl, have h := fd_t3 h; ⟨fd_55 h rfl, have h := fd_t2 h; ⟨fd_21 h rfl, have h := fd_t2 h; ⟨fd_154 h (by decide +kernel), have h := fd_t3 h; ⟨fd_30 h, have h := fd_t1 h; ⟨fd_167 h (by decide +kernel), have h := fd_t3 h; ⟨fd_32 h, have h := fd_t1 h; ⟨fd_55 h rfl, have h := fd_t2 h; ⟨fd_22 h rfl, have h := fd_t2 h; fd_9 h⟩⟩⟩⟩⟩⟩⟩⟩⟩⟩⟩
theorem dX5_partOf_0 : decode cX5_partOf 0 = .ok (.lload_n 0, 1) := dcq_337.1
theorem dX5_partOf_1 : decode cX5_partOf 1 = .ok (.lload_n 2, 1) := dcq_337.2.1
theorem dX5_partOf_2 : decode cX5_partOf 2 = .ok (.invokestatic 264, 3) := dcq_337.2.2.1
theorem dX5_partOf_5 : decode cX5_partOf 5 = .ok (.lstore 5, 2) := dcq_337.2.2.2.1
theorem dX5_partOf_7 : decode cX5_partOf 7 = .ok (.iload 4, 2) := dcq_337.2.2.2.2.1
theorem dX5_partOf_9 : decode cX5_partOf 9 = .ok (.ifCond .ne 7, 3) := dcq_337.2.2.2.2.2.1
theorem dX5_partOf_12 : decode cX5_partOf 12 = .ok (.lload_n 0, 1) := dcq_337.2.2.2.2.2.2.1
theorem dX5_partOf_13 : decode cX5_partOf 13 = .ok (.goto 4, 3) := dcq_337.2.2.2.2.2.2.2.1
theorem dX5_partOf_16 : decode cX5_partOf 16 = .ok (.lload_n 2, 1) := dcq_337.2.2.2.2.2.2.2.2.1
theorem dX5_partOf_17 : decode cX5_partOf 17 = .ok (.lstore 7, 2) := dcq_337.2.2.2.2.2.2.2.2.2.1
theorem dX5_partOf_19 : decode cX5_partOf 19 = .ok (.lload 5, 2) := dcq_337.2.2.2.2.2.2.2.2.2.2.1
theorem dX5_partOf_21 : decode cX5_partOf 21 = .ok (.lconst 0, 1) := dcq_337.2.2.2.2.2.2.2.2.2.2.2
set_option maxRecDepth 20000 in
theorem dcb_338 : fd_B cX5_partOf 22 [148, 158, 0, 11, 22, 7, 22, 5, 109, 167, 0, 5, 22, 7, 173] := fd_o cX5_partOf 22 _ (by decide +kernel)
theorem dcq_338 : (decode cX5_partOf 22 = .ok (.lcmp, 1)) ∧ (decode cX5_partOf 23 = .ok (.ifCond .le 11, 3)) ∧ (decode cX5_partOf 26 = .ok (.lload 7, 2)) ∧ (decode cX5_partOf 28 = .ok (.lload 5, 2)) ∧ (decode cX5_partOf 30 = .ok (.ldiv, 1)) ∧ (decode cX5_partOf 31 = .ok (.goto 5, 3)) ∧ (decode cX5_partOf 34 = .ok (.lload 7, 2)) ∧ (decode cX5_partOf 36 = .ok (.lreturn, 1)) := have h := dcb_338; ⟨fd_148 h, have h := fd_t1 h; ⟨fd_158 h (by decide +kernel), have h := fd_t3 h; ⟨fd_22 h rfl, have h := fd_t2 h; ⟨fd_22 h rfl, have h := fd_t2 h; ⟨fd_109 h, have h := fd_t1 h; ⟨fd_167 h (by decide +kernel), have h := fd_t3 h; ⟨fd_22 h rfl, have h := fd_t2 h; fd_173 h⟩⟩⟩⟩⟩⟩⟩
theorem dX5_partOf_22 : decode cX5_partOf 22 = .ok (.lcmp, 1) := dcq_338.1
theorem dX5_partOf_23 : decode cX5_partOf 23 = .ok (.ifCond .le 11, 3) := dcq_338.2.1
theorem dX5_partOf_26 : decode cX5_partOf 26 = .ok (.lload 7, 2) := dcq_338.2.2.1
theorem dX5_partOf_28 : decode cX5_partOf 28 = .ok (.lload 5, 2) := dcq_338.2.2.2.1
theorem dX5_partOf_30 : decode cX5_partOf 30 = .ok (.ldiv, 1) := dcq_338.2.2.2.2.1
theorem dX5_partOf_31 : decode cX5_partOf 31 = .ok (.goto 5, 3) := dcq_338.2.2.2.2.2.1
theorem dX5_partOf_34 : decode cX5_partOf 34 = .ok (.lload 7, 2) := dcq_338.2.2.2.2.2.2.1
theorem dX5_partOf_36 : decode cX5_partOf 36 = .ok (.lreturn, 1) := dcq_338.2.2.2.2.2.2.2
set_option maxRecDepth 20000 in
theorem dcb_339 : fd_B cX5_commonDivisor 0 [30, 55, 4, 32, 55, 6, 3, 54, 8, 21, 8, 16, 100, 162, 0, 31, 22, 6, 9, 148] := fd_o cX5_commonDivisor 0 _ (by decide +kernel)
theorem dcq_339 : (decode cX5_commonDivisor 0 = .ok (.lload_n 0, 1)) ∧ (decode cX5_commonDivisor 1 = .ok (.lstore 4, 2)) ∧ (decode cX5_commonDivisor 3 = .ok (.lload_n 2, 1)) ∧ (decode cX5_commonDivisor 4 = .ok (.lstore 6, 2)) ∧ (decode cX5_commonDivisor 6 = .ok (.iconst 0, 1)) ∧ (decode cX5_commonDivisor 7 = .ok (.istore 8, 2)) ∧ (decode cX5_commonDivisor 9 = .ok (.iload 8, 2)) ∧ (decode cX5_commonDivisor 11 = .ok (.bipush 100, 2)) ∧ (decode cX5_commonDivisor 13 = .ok (.if_icmp .ge 31, 3)) ∧ (decode cX5_commonDivisor 16 = .ok (.lload 6, 2)) ∧ (decode cX5_commonDivisor 18 = .ok (.lconst 0, 1)) ∧ (decode cX5_commonDivisor 19 = .ok (.lcmp, 1)) := have h := dcb_339; ⟨fd_30 h, have h := fd_t1 h; ⟨fd_55 h rfl, have h := fd_t2 h; ⟨fd_32 h, have h := fd_t1 h; ⟨fd_55 h rfl, have h := fd_t2 h; ⟨fd_3 h, have h := fd_t1 h; ⟨fd_54 h rfl, have h := fd_t2 h; ⟨fd_21 h rfl, have h := fd_t2 h; ⟨fd_16 h (by decide +kernel), have h := fd_t2 h; ⟨fd_162 h (by decide +kernel), have h := fd_t3 h; ⟨fd_22 h rfl, have h := fd_t2 h; ⟨fd_9 h, have h := fd_t1 h; fd_148 h⟩⟩⟩⟩⟩⟩⟩⟩⟩⟩⟩
theorem dX5_commonDivisor_0 : decode cX5_commonDivisor 0 = .ok (.lload_n 0, 1) := dcq_339.1
theorem dX5_commonDivisor_1 : decode cX5_commonDivisor 1 = .ok (.lstore 4, 2) := dcq_339.2.1
theorem dX5_commonDivisor_3 : decode cX5_commonDivisor 3 = .ok (.lload_n 2, 1) := dcq_339.2.2.1
theorem dX5_commonDivisor_4 : decode cX5_commonDivisor 4 = .ok (.lstore 6, 2) := dcq_339.2.2.2.1
theorem dX5_commonDivisor_6 : decode cX5_commonDivisor 6 = .ok (.iconst 0, 1) := dcq_339.2.2.2.2.1
theorem dX5_commonDivisor_7 : decode cX5_commonDivisor 7 = .ok (.istore 8, 2) := dcq_339.2.2.2.2.2.1
theorem dX5_commonDivisor_9 : decode cX5_commonDivisor 9 = .ok (.iload 8, 2) := dcq_339.2.2.2.2.2.2.1
theorem dX5_commonDivisor_11 : decode cX5_commonDivisor 11 = .ok (.bipush 100, 2) := dcq_339.2.2.2.2.2.2.2.1
theorem dX5_commonDivisor_13 : decode cX5_commonDivisor 13 = .ok (.if_icmp .ge 31, 3) := dcq_339.2.2.2.2.2.2.2.2.1
theorem dX5_commonDivisor_16 : decode cX5_commonDivisor 16 = .ok (.lload 6, 2) := dcq_339.2.2.2.2.2.2.2.2.2.1
theorem dX5_commonDivisor_18 : decode cX5_commonDivisor 18 = .ok (.lconst 0, 1) := dcq_339.2.2.2.2.2.2.2.2.2.2.1
theorem dX5_commonDivisor_19 : decode cX5_commonDivisor 19 = .ok (.lcmp, 1) := dcq_339.2.2.2.2.2.2.2.2.2.2.2
set_option maxRecDepth 20000 in
theorem dcb_340 : fd_B cX5_commonDivisor 20 [153, 0, 24, 22, 4, 22, 6, 113, 55, 9, 22, 6, 55, 4, 22, 9, 55, 6, 132, 8, 1, 167, 255, 224, 22, 4] := fd_o cX5_commonDivisor 20 _ (by decide +kernel)
theorem dcq_340 : (decode cX5_commonDivisor 20 = .ok (.ifCond .eq 24, 3)) ∧ (decode cX5_commonDivisor 23 = .ok (.lload 4, 2)) ∧ (decode cX5_commonDivisor 25 = .ok (.lload 6, 2)) ∧ (decode cX5_commonDivisor 27 = .ok (.lrem, 1)) ∧ (decode cX5_commonDivisor 28 = .ok (.lstore 9, 2)) ∧ (decode cX5_commonDivisor 30 = .ok (.lload 6, 2)) ∧ (decode cX5_commonDivisor 32 = .ok (.lstore 4, 2)) ∧ (decode cX5_commonDivisor 34 = .ok (.lload 9, 2)) ∧ (decode cX5_commonDivisor 36 = .ok (.lstore 6, 2)) ∧ (decode cX5_commonDivisor 38 = .ok (.iinc 8 1, 3)) ∧ (decode cX5_commonDivisor 41 = .ok (.goto (-32), 3)) ∧ (decode cX5_commonDivisor 44 = .ok (.lload 4, 2)) := have h := dcb_340; ⟨fd_153 h (by decide +kernel), have h := fd_t3 h; ⟨fd_22 h rfl, have h := fd_t2 h; ⟨fd_22 h rfl, have h := fd_t2 h; ⟨fd_113 h, have h := fd_t1 h; ⟨fd_55 h rfl, have h := fd_t2 h; ⟨fd_22 h rfl, have h := fd_t2 h; ⟨fd_55 h rfl, have h := fd_t2 h; ⟨fd_22 h rfl, have h := fd_t2 h; ⟨fd_55 h rfl, have h := fd_t2 h; ⟨fd_132 h rfl (by decide +kernel), have h := fd_t3 h; ⟨fd_167 h (by decide +kernel), have h := fd_t3 h; fd_22 h rfl⟩⟩⟩⟩⟩⟩⟩⟩⟩⟩⟩
theorem dX5_commonDivisor_20 : decode cX5_commonDivisor 20 = .ok (.ifCond .eq 24, 3) := dcq_340.1
theorem dX5_commonDivisor_23 : decode cX5_commonDivisor 23 = .ok (.lload 4, 2) := dcq_340.2.1
theorem dX5_commonDivisor_25 : decode cX5_commonDivisor 25 = .ok (.lload 6, 2) := dcq_340.2.2.1
theorem dX5_commonDivisor_27 : decode cX5_commonDivisor 27 = .ok (.lrem, 1) := dcq_340.2.2.2.1
theorem dX5_commonDivisor_28 : decode cX5_commonDivisor 28 = .ok (.lstore 9, 2) := dcq_340.2.2.2.2.1
theorem dX5_commonDivisor_30 : decode cX5_commonDivisor 30 = .ok (.lload 6, 2) := dcq_340.2.2.2.2.2.1
theorem dX5_commonDivisor_32 : decode cX5_commonDivisor 32 = .ok (.lstore 4, 2) := dcq_340.2.2.2.2.2.2.1
theorem dX5_commonDivisor_34 : decode cX5_commonDivisor 34 = .ok (.lload 9, 2) := dcq_340.2.2.2.2.2.2.2.1
theorem dX5_commonDivisor_36 : decode cX5_commonDivisor 36 = .ok (.lstore 6, 2) := dcq_340.2.2.2.2.2.2.2.2.1
theorem dX5_commonDivisor_38 : decode cX5_commonDivisor 38 = .ok (.iinc 8 1, 3) := dcq_340.2.2.2.2.2.2.2.2.2.1
theorem dX5_commonDivisor_41 : decode cX5_commonDivisor 41 = .ok (.goto (-32), 3) := dcq_340.2.2.2.2.2.2.2.2.2.2.1
theorem dX5_commonDivisor_44 : decode cX5_commonDivisor 44 = .ok (.lload 4, 2) := dcq_340.2.2.2.2.2.2.2.2.2.2.2
set_option maxRecDepth 20000 in
theorem dcb_341 : fd_B cX5_commonDivisor 46 [173] := fd_o cX5_commonDivisor 46 _ (by decide +kernel)
theorem dX5_commonDivisor_46 : decode cX5_commonDivisor 46 = .ok (.lreturn, 1) := fd_173 dcb_341
set_option maxRecDepth 20000 in
theorem dcb_342 : fd_B cX5_narrowed 0 [26, 154, 0, 7, 27, 145, 133, 173, 26, 4, 160, 0, 9, 27, 147, 133] := fd_o cX5_narrowed 0 _ (by decide +kernel)
theorem dcq_342 : (decode cX5_narrowed 0 = .ok (.iload_n 0, 1)) ∧ (decode cX5_narrowed 1 = .ok (.ifCond .ne 7, 3)) ∧ (decode cX5_narrowed 4 = .ok (.iload_n 1, 1)) ∧ (decode cX5_narrowed 5 = .ok (.i2b, 1)) ∧ (decode cX5_narrowed 6 = .ok (.i2l, 1)) ∧ (decode cX5_narrowed 7 = .ok (.lreturn, 1)) ∧ (decode cX5_narrowed 8 = .ok (.iload_n 0, 1)) ∧ (decode cX5_narrowed 9 = .ok (.iconst 1, 1)) ∧ (decode cX5_narrowed 10 = .ok (.if_icmp .ne 9, 3)) ∧ (decode cX5_narrowed 13 = .ok (.iload_n 1, 1)) ∧ (decode cX5_narrowed 14 = .ok (.i2s, 1)) ∧ (decode cX5_narrowed 15 = .ok (.i2l, 1)) := have h := dcb_342; ⟨fd_26 h, have h := fd_t1 h; ⟨fd_154 h (by decide +kernel), have h := fd_t3 h; ⟨fd_27 h, have h := fd_t1 h; ⟨fd_145 h, have h := fd_t1 h; ⟨fd_133 h, have h := fd_t1 h; ⟨fd_173 h, have h := fd_t1 h; ⟨fd_26 h, have h := fd_t1 h; ⟨fd_4 h, have h := fd_t1 h; ⟨fd_160 h (by decide +kernel), have h := fd_t3 h; ⟨fd_27 h, have h := fd_t1 h; ⟨fd_147 h, have h := fd_t1 h; fd_133 h⟩⟩⟩⟩⟩⟩⟩⟩⟩⟩⟩
theorem dX5_narrowed_0 : decode cX5_narrowed 0 = .ok (.iload_n 0, 1) := dcq_342.1
theorem dX5_narrowed_1 : decode cX5_narrowed 1 = .ok (.ifCond .ne 7, 3) := dcq_342.2.1
theorem dX5_narrowed_4 : decode cX5_narrowed 4 = .ok (.iload_n 1, 1) := dcq_342.2.2.1
theorem dX5_narrowed_5 : decode cX5_narrowed 5 = .ok (.i2b, 1) := dcq_342.2.2.2.1
theorem dX5_narrowed_6 : decode cX5_narrowed 6 = .ok (.i2l, 1) := dcq_342.2.2.2.2.1
theorem dX5_narrowed_7 : decode cX5_narrowed 7 = .ok (.lreturn, 1) := dcq_342.2.2.2.2.2.1
theorem dX5_narrowed_8 : decode cX5_narrowed 8 = .ok (.iload_n 0, 1) := dcq_342.2.2.2.2.2.2.1
theorem dX5_narrowed_9 : decode cX5_narrowed 9 = .ok (.iconst 1, 1) := dcq_342.2.2.2.2.2.2.2.1
theorem dX5_narrowed_10 : decode cX5_narrowed 10 = .ok (.if_icmp .ne 9, 3) := dcq_342.2.2.2.2.2.2.2.2.1
theorem dX5_narrowed_13 : decode cX5_narrowed 13 = .ok (.iload_n 1, 1) := dcq_342.2.2.2.2.2.2.2.2.2.1
theorem dX5_narrowed_14 : decode cX5_narrowed 14 = .ok (.i2s, 1) := dcq_342.2.2.2.2.2.2.2.2.2.2.1
theorem dX5_narrowed_15 : decode cX5_narrowed 15 = .ok (.i2l, 1) := dcq_342.2.2.2.2.2.2.2.2.2.2.2
set_option maxRecDepth 20000 in
theorem dcb_343 : fd_B cX5_narrowed 16 [167, 0, 5, 27, 133, 173] := fd_o cX5_narrowed 16 _ (by decide +kernel)
theorem dcq_343 : (decode cX5_narrowed 16 = .ok (.goto 5, 3)) ∧ (decode cX5_narrowed 19 = .ok (.iload_n 1, 1)) ∧ (decode cX5_narrowed 20 = .ok (.i2l, 1)) ∧ (decode cX5_narrowed 21 = .ok (.lreturn, 1)) := have h := dcb_343; ⟨fd_167 h (by decide +kernel), have h := fd_t3 h; ⟨fd_27 h, have h := fd_t1 h; ⟨fd_133 h, have h := fd_t1 h; fd_173 h⟩⟩⟩
theorem dX5_narrowed_16 : decode cX5_narrowed 16 = .ok (.goto 5, 3) := dcq_343.1
theorem dX5_narrowed_19 : decode cX5_narrowed 19 = .ok (.iload_n 1, 1) := dcq_343.2.1
theorem dX5_narrowed_20 : decode cX5_narrowed 20 = .ok (.i2l, 1) := dcq_343.2.2.1
theorem dX5_narrowed_21 : decode cX5_narrowed 21 = .ok (.lreturn, 1) := dcq_343.2.2.2
set_option maxRecDepth 20000 in
theorem dcb_344 : fd_B cX6_init 0 [42, 183, 0, 1, 42, 16, 56, 188, 10, 181, 0, 7, 42, 16, 56, 188, 10, 181, 0, 13, 42, 16, 56] := fd_o cX6_init 0 _ (by decide +kernel)
theorem dcq_344 : (decode cX6_init 0 = .ok (.aload_n 0, 1)) ∧ (decode cX6_init 1 = .ok (.invokespecial 1, 3)) ∧ (decode cX6_init 4 = .ok (.aload_n 0, 1)) ∧ (decode cX6_init 5 = .ok (.bipush 56, 2)) ∧ (decode cX6_init 7 = .ok (.newarray .int, 2)) ∧ (decode cX6_init 9 = .ok (.putfield 7, 3)) ∧ (decode cX6_init 12 = .ok (.aload_n 0, 1)) ∧ (decode cX6_init 13 = .ok (.bipush 56, 2)) ∧ (decode cX6_init 15 = .ok (.newarray .int, 2)) ∧ (decode cX6_init 17 = .ok (.putfield 13, 3)) ∧ (decode cX6_init 20 = .ok (.aload_n 0, 1)) ∧ (decode cX6_init 21 = .ok (.bipush 56, 2)) := have h := dcb_344; ⟨fd_42 h, have h := fd_t1 h; ⟨fd_183 h rfl, have h := fd_t3 h; ⟨fd_42 h, have h := fd_t1 h; ⟨fd_16 h (by decide +kernel), have h := fd_t2 h; ⟨fd_188_10 h, have h := fd_t2 h; ⟨fd_181 h rfl, have h := fd_t3 h; ⟨fd_42 h, have h := fd_t1 h; ⟨fd_16 h (by decide +kernel), have h := fd_t2 h; ⟨fd_188_10 h, have h := fd_t2 h; ⟨fd_181 h rfl, have h := fd_t3 h; ⟨fd_42 h, have h := fd_t1 h; fd_16 h (by decide +kernel)⟩⟩⟩⟩⟩⟩⟩⟩⟩⟩⟩
theorem dX6_init_0 : decode cX6_init 0 = .ok (.aload_n 0, 1) := dcq_344.1
theorem dX6_init_1 : decode cX6_init 1 = .ok (.invokespecial 1, 3) := dcq_344.2.1
theorem dX6_init_4 : decode cX6_init 4 = .ok (.aload_n 0, 1) := dcq_344.2.2.1
theorem dX6_init_5 : decode cX6_init 5 = .ok (.bipush 56, 2) := dcq_344.2.2.2.1
theorem dX6_init_7 : decode cX6_init 7 = .ok (.newarray .int, 2) := dcq_344.2.2.2.2.1
theorem dX6_init_9 : decode cX6_init 9 = .ok (.putfield 7, 3) := dcq_344.2.2.2.2.2.1
theorem dX6_init_12 : decode cX6_init 12 = .ok (.aload_n 0, 1) := dcq_344.2.2.2.2.2.2.1
theorem dX6_init_13 : decode cX6_init 13 = .ok (.bipush 56, 2) := dcq_344.2.2.2.2.2.2.2.1
theorem dX6_init_15 : decode cX6_init 15 = .ok (.newarray .int, 2) := dcq_344.2.2.2.2.2.2.2.2.1
theorem dX6_init_17 : decode cX6_init 17 = .ok (.putfield 13, 3) := dcq_344.2.2.2.2.2.2.2.2.2.1
theorem dX6_init_20 : decode cX6_init 20 = .ok (.aload_n 0, 1) := dcq_344.2.2.2.2.2.2.2.2.2.2.1
theorem dX6_init_21 : decode cX6_init 21 = .ok (.bipush 56, 2) := dcq_344.2.2.2.2.2.2.2.2.2.2.2
set_option maxRecDepth 20000 in
theorem dcb_345 : fd_B cX6_init 23 [188, 10, 181, 0, 16, 42, 16, 56, 188, 10, 181, 0, 19, 42, 17, 0, 200, 188, 10, 181, 0, 22, 42, 17, 1, 0] := fd_o cX6_init 23 _ (by decide +kernel)
theorem dcq_345 : (decode cX6_init 23 = .ok (.newarray .int, 2)) ∧ (decode cX6_init 25 = .ok (.putfield 16, 3)) ∧ (decode cX6_init 28 = .ok (.aload_n 0, 1)) ∧ (decode cX6_init 29 = .ok (.bipush 56, 2)) ∧ (decode cX6_init 31 = .ok (.newarray .int, 2)) ∧ (decode cX6_init 33 = .ok (.putfield 19, 3)) ∧ (decode cX6_init 36 = .ok (.aload_n 0, 1)) ∧ (decode cX6_init 37 = .ok (.sipush 200, 3)) ∧ (decode cX6_init 40 = .ok (.newarray .int, 2)) ∧ (decode cX6_init 42 = .ok (.putfield 22, 3)) ∧ (decode cX6_init 45 = .ok (.aload_n 0, 1)) ∧ (decode cX6_init 46 = .ok (.sipush 256, 3)) := have h := dcb_345; ⟨fd_188_10 h, have h := fd_t2 h; ⟨fd_181 h rfl, have h := fd_t3 h; ⟨fd_42 h, have h := fd_t1 h; ⟨fd_16 h (by decide +kernel), have h := fd_t2 h; ⟨fd_188_10 h, have h := fd_t2 h; ⟨fd_181 h rfl, have h := fd_t3 h; ⟨fd_42 h, have h := fd_t1 h; ⟨fd_17 h (by decide +kernel), have h := fd_t3 h; ⟨fd_188_10 h, have h := fd_t2 h; ⟨fd_181 h rfl, have h := fd_t3 h; ⟨fd_42 h, have h := fd_t1 h; fd_17 h (by decide +kernel)⟩⟩⟩⟩⟩⟩⟩⟩⟩⟩⟩
theorem dX6_init_23 : decode cX6_init 23 = .ok (.newarray .int, 2) := dcq_345.1
theorem dX6_init_25 : decode cX6_init 25 = .ok (.putfield 16, 3) := dcq_345.2.1
theorem dX6_init_28 : decode cX6_init 28 = .ok (.aload_n 0, 1) := dcq_345.2.2.1
theorem dX6_init_29 : decode cX6_init 29 = .ok (.bipush 56, 2) := dcq_345.2.2.2.1
theorem dX6_init_31 : decode cX6_init 31 = .ok (.newarray .int, 2) := dcq_345.2.2.2.2.1
theorem dX6_init_33 : decode cX6_init 33 = .ok (.putfield 19, 3) := dcq_345.2.2.2.2.2.1
theorem dX6_init_36 : decode cX6_init 36 = .ok (.aload_n 0, 1) := dcq_345.2.2.2.2.2.2.1
theorem dX6_init_37 : decode cX6_init 37 = .ok (.sipush 200, 3) := dcq_345.2.2.2.2.2.2.2.1
theorem dX6_init_40 : decode cX6_init 40 = .ok (.newarray .int, 2) := dcq_345.2.2.2.2.2.2.2.2.1
theorem dX6_init_42 : decode cX6_init 42 = .ok (.putfield 22, 3) := dcq_345.2.2.2.2.2.2.2.2.2.1
theorem dX6_init_45 : decode cX6_init 45 = .ok (.aload_n 0, 1) := dcq_345.2.2.2.2.2.2.2.2.2.2.1
theorem dX6_init_46 : decode cX6_init 46 = .ok (.sipush 256, 3) := dcq_345.2.2.2.2.2.2.2.2.2.2.2
set_option maxRecDepth 20000 in
theorem dcb_346 : fd_B cX6_init 49 [188, 10, 181, 0, 25, 42, 16, 30, 188, 10, 181, 0, 28, 42, 16, 30, 188, 10, 181, 0, 31, 42, 7] := fd_o cX6_init 49 _ (by decide +kernel)
theorem dcq_346 : (decode cX6_init 49 = .ok (.newarray .int, 2)) ∧ (decode cX6_init 51 = .ok (.putfield 25, 3)) ∧ (decode cX6_init 54 = .ok (.aload_n 0, 1)) ∧ (decode cX6_init 55 = .ok (.bipush 30, 2)) ∧ (decode cX6_init 57 = .ok (.newarray .int, 2)) ∧ (decode cX6_init 59 = .ok (.putfield 28, 3)) ∧ (decode cX6_init 62 = .ok (.aload_n 0, 1)) ∧ (decode cX6_init 63 = .ok (.bipush 30, 2)) ∧ (decode cX6_init 65 = .ok (.newarray .int, 2)) ∧ (decode cX6_init 67 = .ok (.putfield 31, 3)) ∧ (decode cX6_init 70 = .ok (.aload_n 0, 1)) ∧ (decode cX6_init 71 = .ok (.iconst 4, 1)) := have h := dcb_346; ⟨fd_188_10 h, have h := fd_t2 h; ⟨fd_181 h rfl, have h := fd_t3 h; ⟨fd_42 h, have h := fd_t1 h; ⟨fd_16 h (by decide +kernel), have h := fd_t2 h; ⟨fd_188_10 h, have h := fd_t2 h; ⟨fd_181 h rfl, have h := fd_t3 h; ⟨fd_42 h, have h := fd_t1 h; ⟨fd_16 h (by decide +kernel), have h := fd_t2 h; ⟨fd_188_10 h, have h := fd_t2 h; ⟨fd_181 h rfl, have h := fd_t3 h; ⟨fd_42 h, have h := fd_t1 h; fd_7 h⟩⟩⟩⟩⟩⟩⟩⟩⟩⟩⟩
theorem dX6_init_49 : decode cX6_init 49 = .ok (.newarray .int, 2) := dcq_346.1
theorem dX6_init_51 : decode cX6_init 51 = .ok (.putfield 25, 3) := dcq_346.2.1
theorem dX6_init_54 : decode cX6_init 54 = .ok (.aload_n 0, 1) := dcq_346.2.2.1
theorem dX6_init_55 : decode cX6_init 55 = .ok (.bipush 30, 2) := dcq_346.2.2.2.1
theorem dX6_init_57 : decode cX6_init 57 = .ok (.newarray .int, 2) := dcq_346.2.2.2.2.1
theorem dX6_init_59 : decode cX6_init 59 = .ok (.putfield 28, 3) := dcq_346.2.2.2.2.2.1
theorem dX6_init_62 : decode cX6_init 62 = .ok (.aload_n 0, 1) := dcq_346.2.2.2.2.2.2.1
theorem dX6_init_63 : decode cX6_init 63 = .ok (.bipush 30, 2) := dcq_346.2.2.2.2.2.2.2.1
theorem dX6_init_65 : decode cX6_init 65 = .ok (.newarray .int, 2) := dcq_346.2.2.2.2.2.2.2.2.1
theorem dX6_init_67 : decode cX6_init 67 = .ok (.putfield 31, 3) := dcq_346.2.2.2.2.2.2.2.2.2.1
theorem dX6_init_70 : decode cX6_init 70 = .ok (.aload_n 0, 1) := dcq_346.2.2.2.2.2.2.2.2.2.2.1
theorem dX6_init_71 : decode cX6_init 71 = .ok (.iconst 4, 1) := dcq_346.2.2.2.2.2.2.2.2.2.2.2
set_option maxRecDepth 20000 in
theorem dcb_347 : fd_B cX6_init 72 [188, 10, 89, 3, 2, 79, 89, 4, 2, 79, 89, 5, 2] := fd_o cX6_init 72 _ (by decide +kernel)
theorem dcq_347 : (decode cX6_init 72 = .ok (.newarray .int, 2)) ∧ (decode cX6_init 74 = .ok (.dup, 1)) ∧ (decode cX6_init 75 = .ok (.iconst 0, 1)) ∧ (decode cX6_init 76 = .ok (.iconst (-1), 1)) ∧ (decode cX6_init 77 = .ok (.iastore, 1)) ∧ (decode cX6_init 78 = .ok (.dup, 1)) ∧ (decode cX6_init 79 = .ok (.iconst 1, 1)) ∧ (decode cX6_init 80 = .ok (.iconst (-1), 1)) ∧ (decode cX6_init 81 = .ok (.iastore, 1)) ∧ (decode cX6_init 82 = .ok (.dup, 1)) ∧ (decode cX6_init 83 = .ok (.iconst 2, 1)) ∧ (decode cX6_init 84 = .ok (.iconst (-1), 1)) := have h := dcb_347; ⟨fd_188_10 h, have h := fd_t2 h; ⟨fd_89 h, have h := fd_t1 h; ⟨fd_3 h, have h := fd_t1 h; ⟨fd_2 h, have h := fd_t1 h; ⟨fd_79 h, have h := fd_t1 h; ⟨fd_89 h, have h := fd_t1 h; ⟨fd_4 h, have h := fd_t1 h; ⟨fd_2 h, have h := fd_t1 h; ⟨fd_79 h, have h := fd_t1 h; ⟨fd_89 h, have h := fd_t1 h; ⟨fd_5 h, have h := fd_t1 h; fd_2 h⟩⟩⟩⟩⟩⟩⟩⟩⟩⟩⟩
theorem dX6_init_72 : decode cX6_init 72 = .ok (.newarray .int, 2) := dcq_347.1
theorem dX6_init_74 : decode cX6_init 74 = .ok (.dup, 1) := dcq_347.2.1
theorem dX6_init_75 : decode cX6_init 75 = .ok (.iconst 0, 1) := dcq_347.2.2.1
theorem dX6_init_76 : decode cX6_init 76 = .ok (.iconst (-1), 1) := dcq_347.2.2.2.1
theorem dX6_init_77 : decode cX6_init 77 = .ok (.iastore, 1) := dcq_347.2.2.2.2.1
theorem dX6_init_78 : decode cX6_init 78 = .ok (.dup, 1) := dcq_347.2.2.2.2.2.1
theorem dX6_init_79 : decode cX6_init 79 = .ok (.iconst 1, 1) := dcq_347.2.2.2.2.2.2.1
theorem dX6_init_80 : decode cX6_init 80 = .ok (.iconst (-1), 1) := dcq_347.2.2.2.2.2.2.2.1
theorem dX6_init_81 : decode cX6_init 81 = .ok (.iastore, 1) := dcq_347.2.2.2.2.2.2.2.2.1
theorem dX6_init_82 : decode cX6_init 82 = .ok (.dup, 1) := dcq_347.2.2.2.2.2.2.2.2.2.1
theorem dX6_init_83 : decode cX6_init 83 = .ok (.iconst 2, 1) := dcq_347.2.2.2.2.2.2.2.2.2.2.1
theorem dX6_init_84 : decode cX6_init 84 = .ok (.iconst (-1), 1) := dcq_347.2.2.2.2.2.2.2.2.2.2.2
set_option maxRecDepth 20000 in
theorem dcb_348 : fd_B cX6_init 85 [79, 89, 6, 2, 79, 181, 0, 34, 42, 7, 188, 10, 181, 0, 37, 42, 17, 0, 160] := fd_o cX6_init 85 _ (by decide +kernel)
theorem dcq_348 : (decode cX6_init 85 = .ok (.iastore, 1)) ∧ (decode cX6_init 86 = .ok (.dup, 1)) ∧ (decode cX6_init 87 = .ok (.iconst 3, 1)) ∧ (decode cX6_init 88 = .ok (.iconst (-1), 1)) ∧ (decode cX6_init 89 = .ok (.iastore, 1)) ∧ (decode cX6_init 90 = .ok (.putfield 34, 3)) ∧ (decode cX6_init 93 = .ok (.aload_n 0, 1)) ∧ (decode cX6_init 94 = .ok (.iconst 4, 1)) ∧ (decode cX6_init 95 = .ok (.newarray .int, 2)) ∧ (decode cX6_init 97 = .ok (.putfield 37, 3)) ∧ (decode cX6_init 100 = .ok (.aload_n 0, 1)) ∧ (decode cX6_init 101 = .ok (.sipush 160, 3)) := have h := dcb_348; ⟨fd_79 h, have h := fd_t1 h; ⟨fd_89 h, have h := fd_t1 h; ⟨fd_6 h, have h := fd_t1 h; ⟨fd_2 h, have h := fd_t1 h; ⟨fd_79 h, have h := fd_t1 h; ⟨fd_181 h rfl, have h := fd_t3 h; ⟨fd_42 h, have h := fd_t1 h; ⟨fd_7 h, have h := fd_t1 h; ⟨fd_188_10 h, have h := fd_t2 h; ⟨fd_181 h rfl, have h := fd_t3 h; ⟨fd_42 h, have h := fd_t1 h; fd_17 h (by decide +kernel)⟩⟩⟩⟩⟩⟩⟩⟩⟩⟩⟩
theorem dX6_init_85 : decode cX6_init 85 = .ok (.iastore, 1) := dcq_348.1
theorem dX6_init_86 : decode cX6_init 86 = .ok (.dup, 1) := dcq_348.2.1
theorem dX6_init_87 : decode cX6_init 87 = .ok (.iconst 3, 1) := dcq_348.2.2.1
theorem dX6_init_88 : decode cX6_init 88 = .ok (.iconst (-1), 1) := dcq_348.2.2.2.1
theorem dX6_init_89 : decode cX6_init 89 = .ok (.iastore, 1) := dcq_348.2.2.2.2.1
theorem dX6_init_90 : decode cX6_init 90 = .ok (.putfield 34, 3) := dcq_348.2.2.2.2.2.1
theorem dX6_init_93 : decode cX6_init 93 = .ok (.aload_n 0, 1) := dcq_348.2.2.2.2.2.2.1
theorem dX6_init_94 : decode cX6_init 94 = .ok (.iconst 4, 1) := dcq_348.2.2.2.2.2.2.2.1
theorem dX6_init_95 : decode cX6_init 95 = .ok (.newarray .int, 2) := dcq_348.2.2.2.2.2.2.2.2.1
theorem dX6_init_97 : decode cX6_init 97 = .ok (.putfield 37, 3) := dcq_348.2.2.2.2.2.2.2.2.2.1
theorem dX6_init_100 : decode cX6_init 100 = .ok (.aload_n 0, 1) := dcq_348.2.2.2.2.2.2.2.2.2.2.1
theorem dX6_init_101 : decode cX6_init 101 = .ok (.sipush 160, 3) := dcq_348.2.2.2.2.2.2.2.2.2.2.2
set_option maxRecDepth 20000 in
theorem dcb_349 : fd_B cX6_init 104 [188, 11, 181, 0, 40, 42, 7, 188, 10, 89, 3, 2, 79, 89, 4, 2] := fd_o cX6_init 104 _ (by decide +kernel)
theorem dcq_349 : (decode cX6_init 104 = .ok (.newarray .long, 2)) ∧ (decode cX6_init 106 = .ok (.putfield 40, 3)) ∧ (decode cX6_init 109 = .ok (.aload_n 0, 1)) ∧ (decode cX6_init 110 = .ok (.iconst 4, 1)) ∧ (decode cX6_init 111 = .ok (.newarray .int, 2)) ∧ (decode cX6_init 113 = .ok (.dup, 1)) ∧ (decode cX6_init 114 = .ok (.iconst 0, 1)) ∧ (decode cX6_init 115 = .ok (.iconst (-1), 1)) ∧ (decode cX6_init 116 = .ok (.iastore, 1)) ∧ (decode cX6_init 117 = .ok (.dup, 1)) ∧ (decode cX6_init 118 = .ok (.iconst 1, 1)) ∧ (decode cX6_init 119 = .ok (.iconst (-1), 1)) := have h := dcb_349; ⟨fd_188_11 h, have h := fd_t2 h; ⟨fd_181 h rfl, have h := fd_t3 h; ⟨fd_42 h, have h := fd_t1 h; ⟨fd_7 h, have h := fd_t1 h; ⟨fd_188_10 h, have h := fd_t2 h; ⟨fd_89 h, have h := fd_t1 h; ⟨fd_3 h, have h := fd_t1 h; ⟨fd_2 h, have h := fd_t1 h; ⟨fd_79 h, have h := fd_t1 h; ⟨fd_89 h, have h := fd_t1 h; ⟨fd_4 h, have h := fd_t1 h; fd_2 h⟩⟩⟩⟩⟩⟩⟩⟩⟩⟩⟩
theorem dX6_init_104 : decode cX6_init 104 = .ok (.newarray .long, 2) := dcq_349.1
theorem dX6_init_106 : decode cX6_init 106 = .ok (.putfield 40, 3) := dcq_349.2.1
theorem dX6_init_109 : decode cX6_init 109 = .ok (.aload_n 0, 1) := dcq_349.2.2.1
theorem dX6_init_110 : decode cX6_init 110 = .ok (.iconst 4, 1) := dcq_349.2.2.2.1
theorem dX6_init_111 : decode cX6_init 111 = .ok (.newarray .int, 2) := dcq_349.2.2.2.2.1
theorem dX6_init_113 : decode cX6_init 113 = .ok (.dup, 1) := dcq_349.2.2.2.2.2.1
theorem dX6_init_114 : decode cX6_init 114 = .ok (.iconst 0, 1) := dcq_349.2.2.2.2.2.2.1
theorem dX6_init_115 : decode cX6_init 115 = .ok (.iconst (-1), 1) := dcq_349.2.2.2.2.2.2.2.1
theorem dX6_init_116 : decode cX6_init 116 = .ok (.iastore, 1) := dcq_349.2.2.2.2.2.2.2.2.1
theorem dX6_init_117 : decode cX6_init 117 = .ok (.dup, 1) := dcq_349.2.2.2.2.2.2.2.2.2.1
theorem dX6_init_118 : decode cX6_init 118 = .ok (.iconst 1, 1) := dcq_349.2.2.2.2.2.2.2.2.2.2.1
theorem dX6_init_119 : decode cX6_init 119 = .ok (.iconst (-1), 1) := dcq_349.2.2.2.2.2.2.2.2.2.2.2
set_option maxRecDepth 20000 in
theorem dcb_350 : fd_B cX6_init 120 [79, 89, 5, 2, 79, 89, 6, 2, 79, 181, 0, 44, 42, 7] := fd_o cX6_init 120 _ (by decide +kernel)
theorem dcq_350 : (decode cX6_init 120 = .ok (.iastore, 1)) ∧ (decode cX6_init 121 = .ok (.dup, 1)) ∧ (decode cX6_init 122 = .ok (.iconst 2, 1)) ∧ (decode cX6_init 123 = .ok (.iconst (-1), 1)) ∧ (decode cX6_init 124 = .ok (.iastore, 1)) ∧ (decode cX6_init 125 = .ok (.dup, 1)) ∧ (decode cX6_init 126 = .ok (.iconst 3, 1)) ∧ (decode cX6_init 127 = .ok (.iconst (-1), 1)) ∧ (decode cX6_init 128 = .ok (.iastore, 1)) ∧ (decode cX6_init 129 = .ok (.putfield 44, 3)) ∧ (decode cX6_init 132 = .ok (.aload_n 0, 1)) ∧ (decode cX6_init 133 = .ok (.iconst 4, 1)) := have h := dcb_350; ⟨fd_79 h, have h := fd_t1 h; ⟨fd_89 h, have h := fd_t1 h; ⟨fd_5 h, have h := fd_t1 h; ⟨fd_2 h, have h := fd_t1 h; ⟨fd_79 h, have h := fd_t1 h; ⟨fd_89 h, have h := fd_t1 h; ⟨fd_6 h, have h := fd_t1 h; ⟨fd_2 h, have h := fd_t1 h; ⟨fd_79 h, have h := fd_t1 h; ⟨fd_181 h rfl, have h := fd_t3 h; ⟨fd_42 h, have h := fd_t1 h; fd_7 h⟩⟩⟩⟩⟩⟩⟩⟩⟩⟩⟩
theorem dX6_init_120 : decode cX6_init 120 = .ok (.iastore, 1) := dcq_350.1
theorem dX6_init_121 : decode cX6_init 121 = .ok (.dup, 1) := dcq_350.2.1
theorem dX6_init_122 : decode cX6_init 122 = .ok (.iconst 2, 1) := dcq_350.2.2.1
theorem dX6_init_123 : decode cX6_init 123 = .ok (.iconst (-1), 1) := dcq_350.2.2.2.1
theorem dX6_init_124 : decode cX6_init 124 = .ok (.iastore, 1) := dcq_350.2.2.2.2.1
theorem dX6_init_125 : decode cX6_init 125 = .ok (.dup, 1) := dcq_350.2.2.2.2.2.1
theorem dX6_init_126 : decode cX6_init 126 = .ok (.iconst 3, 1) := dcq_350.2.2.2.2.2.2.1
theorem dX6_init_127 : decode cX6_init 127 = .ok (.iconst (-1), 1) := dcq_350.2.2.2.2.2.2.2.1
theorem dX6_init_128 : decode cX6_init 128 = .ok (.iastore, 1) := dcq_350.2.2.2.2.2.2.2.2.1
theorem dX6_init_129 : decode cX6_init 129 = .ok (.putfield 44, 3) := dcq_350.2.2.2.2.2.2.2.2.2.1
theorem dX6_init_132 : decode cX6_init 132 = .ok (.aload_n 0, 1) := dcq_350.2.2.2.2.2.2.2.2.2.2.1
theorem dX6_init_133 : decode cX6_init 133 = .ok (.iconst 4, 1) := dcq_350.2.2.2.2.2.2.2.2.2.2.2
set_option maxRecDepth 20000 in
theorem dcb_351 : fd_B cX6_init 134 [188, 10, 181, 0, 47, 42, 7, 188, 10, 181, 0, 50, 42, 16, 30, 188, 10, 181, 0, 53, 42, 180, 0, 7] := fd_o cX6_init 134 _ (by decide +kernel)
theorem dcq_351 : (decode cX6_init 134 = .ok (.newarray .int, 2)) ∧ (decode cX6_init 136 = .ok (.putfield 47, 3)) ∧ (decode cX6_init 139 = .ok (.aload_n 0, 1)) ∧ (decode cX6_init 140 = .ok (.iconst 4, 1)) ∧ (decode cX6_init 141 = .ok (.newarray .int, 2)) ∧ (decode cX6_init 143 = .ok (.putfield 50, 3)) ∧ (decode cX6_init 146 = .ok (.aload_n 0, 1)) ∧ (decode cX6_init 147 = .ok (.bipush 30, 2)) ∧ (decode cX6_init 149 = .ok (.newarray .int, 2)) ∧ (decode cX6_init 151 = .ok (.putfield 53, 3)) ∧ (decode cX6_init 154 = .ok (.aload_n 0, 1)) ∧ (decode cX6_init 155 = .ok (.getfield 7, 3)) := have h := dcb_351; ⟨fd_188_10 h, have h := fd_t2 h; ⟨fd_181 h rfl, have h := fd_t3 h; ⟨fd_42 h, have h := fd_t1 h; ⟨fd_7 h, have h := fd_t1 h; ⟨fd_188_10 h, have h := fd_t2 h; ⟨fd_181 h rfl, have h := fd_t3 h; ⟨fd_42 h, have h := fd_t1 h; ⟨fd_16 h (by decide +kernel), have h := fd_t2 h; ⟨fd_188_10 h, have h := fd_t2 h; ⟨fd_181 h rfl, have h := fd_t3 h; ⟨fd_42 h, have h := fd_t1 h; fd_180 h rfl⟩⟩⟩⟩⟩⟩⟩⟩⟩⟩⟩
theorem dX6_init_134 : decode cX6_init 134 = .ok (.newarray .int, 2) := dcq_351.1
theorem dX6_init_136 : decode cX6_init 136 = .ok (.putfield 47, 3) := dcq_351.2.1
theorem dX6_init_139 : decode cX6_init 139 = .ok (.aload_n 0, 1) := dcq_351.2.2.1
theorem dX6_init_140 : decode cX6_init 140 = .ok (.iconst 4, 1) := dcq_351.2.2.2.1
theorem dX6_init_141 : decode cX6_init 141 = .ok (.newarray .int, 2) := dcq_351.2.2.2.2.1
theorem dX6_init_143 : decode cX6_init 143 = .ok (.putfield 50, 3) := dcq_351.2.2.2.2.2.1
theorem dX6_init_146 : decode cX6_init 146 = .ok (.aload_n 0, 1) := dcq_351.2.2.2.2.2.2.1
theorem dX6_init_147 : decode cX6_init 147 = .ok (.bipush 30, 2) := dcq_351.2.2.2.2.2.2.2.1
theorem dX6_init_149 : decode cX6_init 149 = .ok (.newarray .int, 2) := dcq_351.2.2.2.2.2.2.2.2.1
theorem dX6_init_151 : decode cX6_init 151 = .ok (.putfield 53, 3) := dcq_351.2.2.2.2.2.2.2.2.2.1
theorem dX6_init_154 : decode cX6_init 154 = .ok (.aload_n 0, 1) := dcq_351.2.2.2.2.2.2.2.2.2.2.1
theorem dX6_init_155 : decode cX6_init 155 = .ok (.getfield 7, 3) := dcq_351.2.2.2.2.2.2.2.2.2.2.2
set_option maxRecDepth 20000 in
theorem dcb_352 : fd_B cX6_init 158 [184, 0, 56, 42, 180, 0, 7, 16, 7, 4, 79, 177] := fd_o cX6_init 158 _ (by decide +kernel)
theorem dcq_352 : (decode cX6_init 158 = .ok (.invokestatic 56, 3)) ∧ (decode cX6_init 161 = .ok (.aload_n 0, 1)) ∧ (decode cX6_init 162 = .ok (.getfield 7, 3)) ∧ (decode cX6_init 165 = .ok (.bipush 7, 2)) ∧ (decode cX6_init 167 = .ok (.iconst 1, 1)) ∧ (decode cX6_init 168 = .ok (.iastore, 1)) ∧ (decode cX6_init 169 = .ok (.return_, 1)) := have h := dcb_352; ⟨fd_184 h rfl, have h := fd_t3 h; ⟨fd_42 h, have h := fd_t1 h; ⟨fd_180 h rfl, have h := fd_t3 h; ⟨fd_16 h (by decide +kernel), have h := fd_t2 h; ⟨fd_4 h, have h := fd_t1 h; ⟨fd_79 h, have h := fd_t1 h; fd_177 h⟩⟩⟩⟩⟩⟩
theorem dX6_init_158 : decode cX6_init 158 = .ok (.invokestatic 56, 3) := dcq_352.1
theorem dX6_init_161 : decode cX6_init 161 = .ok (.aload_n 0, 1) := dcq_352.2.1
theorem dX6_init_162 : decode cX6_init 162 = .ok (.getfield 7, 3) := dcq_352.2.2.1
theorem dX6_init_165 : decode cX6_init 165 = .ok (.bipush 7, 2) := dcq_352.2.2.2.1
theorem dX6_init_167 : decode cX6_init 167 = .ok (.iconst 1, 1) := dcq_352.2.2.2.2.1
theorem dX6_init_168 : decode cX6_init 168 = .ok (.iastore, 1) := dcq_352.2.2.2.2.2.1
theorem dX6_init_169 : decode cX6_init 169 = .ok (.return_, 1) := dcq_352.2.2.2.2.2.2
set_option maxRecDepth 20000 in
theorem dcb_353 : fd_B cX6_begins 0 [3, 60, 27, 16, 56, 162, 0, 13, 42, 27, 3, 79, 132, 1, 1, 167, 255, 243, 42] := fd_o cX6_begins 0 _ (by decide +kernel)
theorem dcq_353 : (decode cX6_begins 0 = .ok (.iconst 0, 1)) ∧ (decode cX6_begins 1 = .ok (.istore_n 1, 1)) ∧ (decode cX6_begins 2 = .ok (.iload_n 1, 1)) ∧ (decode cX6_begins 3 = .ok (.bipush 56, 2)) ∧ (decode cX6_begins 5 = .ok (.if_icmp .ge 13, 3)) ∧ (decode cX6_begins 8 = .ok (.aload_n 0, 1)) ∧ (decode cX6_begins 9 = .ok (.iload_n 1, 1)) ∧ (decode cX6_begins 10 = .ok (.iconst 0, 1)) ∧ (decode cX6_begins 11 = .ok (.iastore, 1)) ∧ (decode cX6_begins 12 = .ok (.iinc 1 1, 3)) ∧ (decode cX6_begins 15 = .ok (.goto (-13), 3)) ∧ (decode cX6_begins 18 = .ok (.aload_n 0, 1)) := have h := dcb_353; ⟨fd_3 h, have h := fd_t1 h; ⟨fd_60 h, have h := fd_t1 h; ⟨fd_27 h, have h := fd_t1 h; ⟨fd_16 h (by decide +kernel), have h := fd_t2 h; ⟨fd_162 h (by decide +kernel), have h := fd_t3 h; ⟨fd_42 h, have h := fd_t1 h; ⟨fd_27 h, have h := fd_t1 h; ⟨fd_3 h, have h := fd_t1 h; ⟨fd_79 h, have h := fd_t1 h; ⟨fd_132 h rfl (by decide +kernel), have h := fd_t3 h; ⟨fd_167 h (by decide +kernel), have h := fd_t3 h; fd_42 h⟩⟩⟩⟩⟩⟩⟩⟩⟩⟩⟩
theorem dX6_begins_0 : decode cX6_begins 0 = .ok (.iconst 0, 1) := dcq_353.1
theorem dX6_begins_1 : decode cX6_begins 1 = .ok (.istore_n 1, 1) := dcq_353.2.1
theorem dX6_begins_2 : decode cX6_begins 2 = .ok (.iload_n 1, 1) := dcq_353.2.2.1
theorem dX6_begins_3 : decode cX6_begins 3 = .ok (.bipush 56, 2) := dcq_353.2.2.2.1
theorem dX6_begins_5 : decode cX6_begins 5 = .ok (.if_icmp .ge 13, 3) := dcq_353.2.2.2.2.1
theorem dX6_begins_8 : decode cX6_begins 8 = .ok (.aload_n 0, 1) := dcq_353.2.2.2.2.2.1
theorem dX6_begins_9 : decode cX6_begins 9 = .ok (.iload_n 1, 1) := dcq_353.2.2.2.2.2.2.1
theorem dX6_begins_10 : decode cX6_begins 10 = .ok (.iconst 0, 1) := dcq_353.2.2.2.2.2.2.2.1
theorem dX6_begins_11 : decode cX6_begins 11 = .ok (.iastore, 1) := dcq_353.2.2.2.2.2.2.2.2.1
theorem dX6_begins_12 : decode cX6_begins 12 = .ok (.iinc 1 1, 3) := dcq_353.2.2.2.2.2.2.2.2.2.1
theorem dX6_begins_15 : decode cX6_begins 15 = .ok (.goto (-13), 3) := dcq_353.2.2.2.2.2.2.2.2.2.2.1
theorem dX6_begins_18 : decode cX6_begins 18 = .ok (.aload_n 0, 1) := dcq_353.2.2.2.2.2.2.2.2.2.2.2
set_option maxRecDepth 20000 in
theorem dcb_354 : fd_B cX6_begins 19 [3, 6, 79, 42, 4, 5, 79, 42, 5, 4, 79, 42] := fd_o cX6_begins 19 _ (by decide +kernel)
theorem dcq_354 : (decode cX6_begins 19 = .ok (.iconst 0, 1)) ∧ (decode cX6_begins 20 = .ok (.iconst 3, 1)) ∧ (decode cX6_begins 21 = .ok (.iastore, 1)) ∧ (decode cX6_begins 22 = .ok (.aload_n 0, 1)) ∧ (decode cX6_begins 23 = .ok (.iconst 1, 1)) ∧ (decode cX6_begins 24 = .ok (.iconst 2, 1)) ∧ (decode cX6_begins 25 = .ok (.iastore, 1)) ∧ (decode cX6_begins 26 = .ok (.aload_n 0, 1)) ∧ (decode cX6_begins 27 = .ok (.iconst 2, 1)) ∧ (decode cX6_begins 28 = .ok (.iconst 1, 1)) ∧ (decode cX6_begins 29 = .ok (.iastore, 1)) ∧ (decode cX6_begins 30 = .ok (.aload_n 0, 1)) := have h := dcb_354; ⟨fd_3 h, have h := fd_t1 h; ⟨fd_6 h, have h := fd_t1 h; ⟨fd_79 h, have h := fd_t1 h; ⟨fd_42 h, have h := fd_t1 h; ⟨fd_4 h, have h := fd_t1 h; ⟨fd_5 h, have h := fd_t1 h; ⟨fd_79 h, have h := fd_t1 h; ⟨fd_42 h, have h := fd_t1 h; ⟨fd_5 h, have h := fd_t1 h; ⟨fd_4 h, have h := fd_t1 h; ⟨fd_79 h, have h := fd_t1 h; fd_42 h⟩⟩⟩⟩⟩⟩⟩⟩⟩⟩⟩
theorem dX6_begins_19 : decode cX6_begins 19 = .ok (.iconst 0, 1) := dcq_354.1
theorem dX6_begins_20 : decode cX6_begins 20 = .ok (.iconst 3, 1) := dcq_354.2.1
theorem dX6_begins_21 : decode cX6_begins 21 = .ok (.iastore, 1) := dcq_354.2.2.1
theorem dX6_begins_22 : decode cX6_begins 22 = .ok (.aload_n 0, 1) := dcq_354.2.2.2.1
theorem dX6_begins_23 : decode cX6_begins 23 = .ok (.iconst 1, 1) := dcq_354.2.2.2.2.1
theorem dX6_begins_24 : decode cX6_begins 24 = .ok (.iconst 2, 1) := dcq_354.2.2.2.2.2.1
theorem dX6_begins_25 : decode cX6_begins 25 = .ok (.iastore, 1) := dcq_354.2.2.2.2.2.2.1
theorem dX6_begins_26 : decode cX6_begins 26 = .ok (.aload_n 0, 1) := dcq_354.2.2.2.2.2.2.2.1
theorem dX6_begins_27 : decode cX6_begins 27 = .ok (.iconst 2, 1) := dcq_354.2.2.2.2.2.2.2.2.1
theorem dX6_begins_28 : decode cX6_begins 28 = .ok (.iconst 1, 1) := dcq_354.2.2.2.2.2.2.2.2.2.1
theorem dX6_begins_29 : decode cX6_begins 29 = .ok (.iastore, 1) := dcq_354.2.2.2.2.2.2.2.2.2.2.1
theorem dX6_begins_30 : decode cX6_begins 30 = .ok (.aload_n 0, 1) := dcq_354.2.2.2.2.2.2.2.2.2.2.2
set_option maxRecDepth 20000 in
theorem dcb_355 : fd_B cX6_begins 31 [6, 16, 20, 79, 177] := fd_o cX6_begins 31 _ (by decide +kernel)
theorem dcq_355 : (decode cX6_begins 31 = .ok (.iconst 3, 1)) ∧ (decode cX6_begins 32 = .ok (.bipush 20, 2)) ∧ (decode cX6_begins 34 = .ok (.iastore, 1)) ∧ (decode cX6_begins 35 = .ok (.return_, 1)) := have h := dcb_355; ⟨fd_6 h, have h := fd_t1 h; ⟨fd_16 h (by decide +kernel), have h := fd_t2 h; ⟨fd_79 h, have h := fd_t1 h; fd_177 h⟩⟩⟩
theorem dX6_begins_31 : decode cX6_begins 31 = .ok (.iconst 3, 1) := dcq_355.1
theorem dX6_begins_32 : decode cX6_begins 32 = .ok (.bipush 20, 2) := dcq_355.2.1
theorem dX6_begins_34 : decode cX6_begins 34 = .ok (.iastore, 1) := dcq_355.2.2.1
theorem dX6_begins_35 : decode cX6_begins 35 = .ok (.return_, 1) := dcq_355.2.2.2
set_option maxRecDepth 20000 in
theorem dcb_356 : fd_B cX6_in 0 [26, 27, 161, 0, 12, 26, 28, 163, 0, 7, 4, 167, 0, 4, 3, 172] := fd_o cX6_in 0 _ (by decide +kernel)
theorem dcq_356 : (decode cX6_in 0 = .ok (.iload_n 0, 1)) ∧ (decode cX6_in 1 = .ok (.iload_n 1, 1)) ∧ (decode cX6_in 2 = .ok (.if_icmp .lt 12, 3)) ∧ (decode cX6_in 5 = .ok (.iload_n 0, 1)) ∧ (decode cX6_in 6 = .ok (.iload_n 2, 1)) ∧ (decode cX6_in 7 = .ok (.if_icmp .gt 7, 3)) ∧ (decode cX6_in 10 = .ok (.iconst 1, 1)) ∧ (decode cX6_in 11 = .ok (.goto 4, 3)) ∧ (decode cX6_in 14 = .ok (.iconst 0, 1)) ∧ (decode cX6_in 15 = .ok (.ireturn, 1)) := have h := dcb_356; ⟨fd_26 h, have h := fd_t1 h; ⟨fd_27 h, have h := fd_t1 h; ⟨fd_161 h (by decide +kernel), have h := fd_t3 h; ⟨fd_26 h, have h := fd_t1 h; ⟨fd_28 h, have h := fd_t1 h; ⟨fd_163 h (by decide +kernel), have h := fd_t3 h; ⟨fd_4 h, have h := fd_t1 h; ⟨fd_167 h (by decide +kernel), have h := fd_t3 h; ⟨fd_3 h, have h := fd_t1 h; fd_172 h⟩⟩⟩⟩⟩⟩⟩⟩⟩
theorem dX6_in_0 : decode cX6_in 0 = .ok (.iload_n 0, 1) := dcq_356.1
theorem dX6_in_1 : decode cX6_in 1 = .ok (.iload_n 1, 1) := dcq_356.2.1
theorem dX6_in_2 : decode cX6_in 2 = .ok (.if_icmp .lt 12, 3) := dcq_356.2.2.1
theorem dX6_in_5 : decode cX6_in 5 = .ok (.iload_n 0, 1) := dcq_356.2.2.2.1
theorem dX6_in_6 : decode cX6_in 6 = .ok (.iload_n 2, 1) := dcq_356.2.2.2.2.1
theorem dX6_in_7 : decode cX6_in 7 = .ok (.if_icmp .gt 7, 3) := dcq_356.2.2.2.2.2.1
theorem dX6_in_10 : decode cX6_in 10 = .ok (.iconst 1, 1) := dcq_356.2.2.2.2.2.2.1
theorem dX6_in_11 : decode cX6_in 11 = .ok (.goto 4, 3) := dcq_356.2.2.2.2.2.2.2.1
theorem dX6_in_14 : decode cX6_in 14 = .ok (.iconst 0, 1) := dcq_356.2.2.2.2.2.2.2.2.1
theorem dX6_in_15 : decode cX6_in 15 = .ok (.ireturn, 1) := dcq_356.2.2.2.2.2.2.2.2.2
set_option maxRecDepth 20000 in
theorem dcb_357 : fd_B cX6_held 0 [26, 27, 162, 0, 7, 27, 167, 0, 13, 26, 28, 164, 0, 7, 28, 167, 0, 4, 26, 172] := fd_o cX6_held 0 _ (by decide +kernel)
theorem dcq_357 : (decode cX6_held 0 = .ok (.iload_n 0, 1)) ∧ (decode cX6_held 1 = .ok (.iload_n 1, 1)) ∧ (decode cX6_held 2 = .ok (.if_icmp .ge 7, 3)) ∧ (decode cX6_held 5 = .ok (.iload_n 1, 1)) ∧ (decode cX6_held 6 = .ok (.goto 13, 3)) ∧ (decode cX6_held 9 = .ok (.iload_n 0, 1)) ∧ (decode cX6_held 10 = .ok (.iload_n 2, 1)) ∧ (decode cX6_held 11 = .ok (.if_icmp .le 7, 3)) ∧ (decode cX6_held 14 = .ok (.iload_n 2, 1)) ∧ (decode cX6_held 15 = .ok (.goto 4, 3)) ∧ (decode cX6_held 18 = .ok (.iload_n 0, 1)) ∧ (decode cX6_held 19 = .ok (.ireturn, 1)) := have h := dcb_357; ⟨fd_26 h, have h := fd_t1 h; ⟨fd_27 h, have h := fd_t1 h; ⟨fd_162 h (by decide +kernel), have h := fd_t3 h; ⟨fd_27 h, have h := fd_t1 h; ⟨fd_167 h (by decide +kernel), have h := fd_t3 h; ⟨fd_26 h, have h := fd_t1 h; ⟨fd_28 h, have h := fd_t1 h; ⟨fd_164 h (by decide +kernel), have h := fd_t3 h; ⟨fd_28 h, have h := fd_t1 h; ⟨fd_167 h (by decide +kernel), have h := fd_t3 h; ⟨fd_26 h, have h := fd_t1 h; fd_172 h⟩⟩⟩⟩⟩⟩⟩⟩⟩⟩⟩
theorem dX6_held_0 : decode cX6_held 0 = .ok (.iload_n 0, 1) := dcq_357.1
theorem dX6_held_1 : decode cX6_held 1 = .ok (.iload_n 1, 1) := dcq_357.2.1
theorem dX6_held_2 : decode cX6_held 2 = .ok (.if_icmp .ge 7, 3) := dcq_357.2.2.1
theorem dX6_held_5 : decode cX6_held 5 = .ok (.iload_n 1, 1) := dcq_357.2.2.2.1
theorem dX6_held_6 : decode cX6_held 6 = .ok (.goto 13, 3) := dcq_357.2.2.2.2.1
theorem dX6_held_9 : decode cX6_held 9 = .ok (.iload_n 0, 1) := dcq_357.2.2.2.2.2.1
theorem dX6_held_10 : decode cX6_held 10 = .ok (.iload_n 2, 1) := dcq_357.2.2.2.2.2.2.1
theorem dX6_held_11 : decode cX6_held 11 = .ok (.if_icmp .le 7, 3) := dcq_357.2.2.2.2.2.2.2.1
theorem dX6_held_14 : decode cX6_held 14 = .ok (.iload_n 2, 1) := dcq_357.2.2.2.2.2.2.2.2.1
theorem dX6_held_15 : decode cX6_held 15 = .ok (.goto 4, 3) := dcq_357.2.2.2.2.2.2.2.2.2.1
theorem dX6_held_18 : decode cX6_held 18 = .ok (.iload_n 0, 1) := dcq_357.2.2.2.2.2.2.2.2.2.2.1
theorem dX6_held_19 : decode cX6_held 19 = .ok (.ireturn, 1) := dcq_357.2.2.2.2.2.2.2.2.2.2.2
set_option maxRecDepth 20000 in
theorem dcb_358 : fd_B cX6_moveAll 0 [3, 61, 28, 16, 56, 162, 0, 15, 43, 28, 42, 28, 46, 79, 132, 2, 1] := fd_o cX6_moveAll 0 _ (by decide +kernel)
theorem dcq_358 : (decode cX6_moveAll 0 = .ok (.iconst 0, 1)) ∧ (decode cX6_moveAll 1 = .ok (.istore_n 2, 1)) ∧ (decode cX6_moveAll 2 = .ok (.iload_n 2, 1)) ∧ (decode cX6_moveAll 3 = .ok (.bipush 56, 2)) ∧ (decode cX6_moveAll 5 = .ok (.if_icmp .ge 15, 3)) ∧ (decode cX6_moveAll 8 = .ok (.aload_n 1, 1)) ∧ (decode cX6_moveAll 9 = .ok (.iload_n 2, 1)) ∧ (decode cX6_moveAll 10 = .ok (.aload_n 0, 1)) ∧ (decode cX6_moveAll 11 = .ok (.iload_n 2, 1)) ∧ (decode cX6_moveAll 12 = .ok (.iaload, 1)) ∧ (decode cX6_moveAll 13 = .ok (.iastore, 1)) ∧ (decode cX6_moveAll 14 = .ok (.iinc 2 1, 3)) := have h := dcb_358; ⟨fd_3 h, have h := fd_t1 h; ⟨fd_61 h, have h := fd_t1 h; ⟨fd_28 h, have h := fd_t1 h; ⟨fd_16 h (by decide +kernel), have h := fd_t2 h; ⟨fd_162 h (by decide +kernel), have h := fd_t3 h; ⟨fd_43 h, have h := fd_t1 h; ⟨fd_28 h, have h := fd_t1 h; ⟨fd_42 h, have h := fd_t1 h; ⟨fd_28 h, have h := fd_t1 h; ⟨fd_46 h, have h := fd_t1 h; ⟨fd_79 h, have h := fd_t1 h; fd_132 h rfl (by decide +kernel)⟩⟩⟩⟩⟩⟩⟩⟩⟩⟩⟩
theorem dX6_moveAll_0 : decode cX6_moveAll 0 = .ok (.iconst 0, 1) := dcq_358.1
theorem dX6_moveAll_1 : decode cX6_moveAll 1 = .ok (.istore_n 2, 1) := dcq_358.2.1
theorem dX6_moveAll_2 : decode cX6_moveAll 2 = .ok (.iload_n 2, 1) := dcq_358.2.2.1
theorem dX6_moveAll_3 : decode cX6_moveAll 3 = .ok (.bipush 56, 2) := dcq_358.2.2.2.1
theorem dX6_moveAll_5 : decode cX6_moveAll 5 = .ok (.if_icmp .ge 15, 3) := dcq_358.2.2.2.2.1
theorem dX6_moveAll_8 : decode cX6_moveAll 8 = .ok (.aload_n 1, 1) := dcq_358.2.2.2.2.2.1
theorem dX6_moveAll_9 : decode cX6_moveAll 9 = .ok (.iload_n 2, 1) := dcq_358.2.2.2.2.2.2.1
theorem dX6_moveAll_10 : decode cX6_moveAll 10 = .ok (.aload_n 0, 1) := dcq_358.2.2.2.2.2.2.2.1
theorem dX6_moveAll_11 : decode cX6_moveAll 11 = .ok (.iload_n 2, 1) := dcq_358.2.2.2.2.2.2.2.2.1
theorem dX6_moveAll_12 : decode cX6_moveAll 12 = .ok (.iaload, 1) := dcq_358.2.2.2.2.2.2.2.2.2.1
theorem dX6_moveAll_13 : decode cX6_moveAll 13 = .ok (.iastore, 1) := dcq_358.2.2.2.2.2.2.2.2.2.2.1
theorem dX6_moveAll_14 : decode cX6_moveAll 14 = .ok (.iinc 2 1, 3) := dcq_358.2.2.2.2.2.2.2.2.2.2.2
set_option maxRecDepth 20000 in
theorem dcb_359 : fd_B cX6_moveAll 17 [167, 255, 241, 177] := fd_o cX6_moveAll 17 _ (by decide +kernel)
theorem dcq_359 : (decode cX6_moveAll 17 = .ok (.goto (-15), 3)) ∧ (decode cX6_moveAll 20 = .ok (.return_, 1)) := have h := dcb_359; ⟨fd_167 h (by decide +kernel), have h := fd_t3 h; fd_177 h⟩
theorem dX6_moveAll_17 : decode cX6_moveAll 17 = .ok (.goto (-15), 3) := dcq_359.1
theorem dX6_moveAll_20 : decode cX6_moveAll 20 = .ok (.return_, 1) := dcq_359.2
set_option maxRecDepth 20000 in
theorem dcb_360 : fd_B cX6_isOne 0 [27, 3, 42, 180, 0, 7, 16, 6, 46, 4, 100, 184, 0, 60, 172] := fd_o cX6_isOne 0 _ (by decide +kernel)
theorem dcq_360 : (decode cX6_isOne 0 = .ok (.iload_n 1, 1)) ∧ (decode cX6_isOne 1 = .ok (.iconst 0, 1)) ∧ (decode cX6_isOne 2 = .ok (.aload_n 0, 1)) ∧ (decode cX6_isOne 3 = .ok (.getfield 7, 3)) ∧ (decode cX6_isOne 6 = .ok (.bipush 6, 2)) ∧ (decode cX6_isOne 8 = .ok (.iaload, 1)) ∧ (decode cX6_isOne 9 = .ok (.iconst 1, 1)) ∧ (decode cX6_isOne 10 = .ok (.isub, 1)) ∧ (decode cX6_isOne 11 = .ok (.invokestatic 60, 3)) ∧ (decode cX6_isOne 14 = .ok (.ireturn, 1)) := have h := dcb_360; ⟨fd_27 h, have h := fd_t1 h; ⟨fd_3 h, have h := fd_t1 h; ⟨fd_42 h, have h := fd_t1 h; ⟨fd_180 h rfl, have h := fd_t3 h; ⟨fd_16 h (by decide +kernel), have h := fd_t2 h; ⟨fd_46 h, have h := fd_t1 h; ⟨fd_4 h, have h := fd_t1 h; ⟨fd_100 h, have h := fd_t1 h; ⟨fd_184 h rfl, have h := fd_t3 h; fd_172 h⟩⟩⟩⟩⟩⟩⟩⟩⟩
theorem dX6_isOne_0 : decode cX6_isOne 0 = .ok (.iload_n 1, 1) := dcq_360.1
theorem dX6_isOne_1 : decode cX6_isOne 1 = .ok (.iconst 0, 1) := dcq_360.2.1
theorem dX6_isOne_2 : decode cX6_isOne 2 = .ok (.aload_n 0, 1) := dcq_360.2.2.1
theorem dX6_isOne_3 : decode cX6_isOne 3 = .ok (.getfield 7, 3) := dcq_360.2.2.2.1
theorem dX6_isOne_6 : decode cX6_isOne 6 = .ok (.bipush 6, 2) := dcq_360.2.2.2.2.1
theorem dX6_isOne_8 : decode cX6_isOne 8 = .ok (.iaload, 1) := dcq_360.2.2.2.2.2.1
theorem dX6_isOne_9 : decode cX6_isOne 9 = .ok (.iconst 1, 1) := dcq_360.2.2.2.2.2.2.1
theorem dX6_isOne_10 : decode cX6_isOne 10 = .ok (.isub, 1) := dcq_360.2.2.2.2.2.2.2.1
theorem dX6_isOne_11 : decode cX6_isOne 11 = .ok (.invokestatic 60, 3) := dcq_360.2.2.2.2.2.2.2.2.1
theorem dX6_isOne_14 : decode cX6_isOne 14 = .ok (.ireturn, 1) := dcq_360.2.2.2.2.2.2.2.2.2
set_option maxRecDepth 20000 in
theorem dcb_361 : fd_B cX6_its 0 [42, 180, 0, 7, 16, 8, 16, 6, 27, 104, 96, 28, 96, 46, 172] := fd_o cX6_its 0 _ (by decide +kernel)
theorem dcq_361 : (decode cX6_its 0 = .ok (.aload_n 0, 1)) ∧ (decode cX6_its 1 = .ok (.getfield 7, 3)) ∧ (decode cX6_its 4 = .ok (.bipush 8, 2)) ∧ (decode cX6_its 6 = .ok (.bipush 6, 2)) ∧ (decode cX6_its 8 = .ok (.iload_n 1, 1)) ∧ (decode cX6_its 9 = .ok (.imul, 1)) ∧ (decode cX6_its 10 = .ok (.iadd, 1)) ∧ (decode cX6_its 11 = .ok (.iload_n 2, 1)) ∧ (decode cX6_its 12 = .ok (.iadd, 1)) ∧ (decode cX6_its 13 = .ok (.iaload, 1)) ∧ (decode cX6_its 14 = .ok (.ireturn, 1)) := have h := dcb_361; ⟨fd_42 h, have h := fd_t1 h; ⟨fd_180 h rfl, have h := fd_t3 h; ⟨fd_16 h (by decide +kernel), have h := fd_t2 h; ⟨fd_16 h (by decide +kernel), have h := fd_t2 h; ⟨fd_27 h, have h := fd_t1 h; ⟨fd_104 h, have h := fd_t1 h; ⟨fd_96 h, have h := fd_t1 h; ⟨fd_28 h, have h := fd_t1 h; ⟨fd_96 h, have h := fd_t1 h; ⟨fd_46 h, have h := fd_t1 h; fd_172 h⟩⟩⟩⟩⟩⟩⟩⟩⟩⟩
theorem dX6_its_0 : decode cX6_its 0 = .ok (.aload_n 0, 1) := dcq_361.1
theorem dX6_its_1 : decode cX6_its 1 = .ok (.getfield 7, 3) := dcq_361.2.1
theorem dX6_its_4 : decode cX6_its 4 = .ok (.bipush 8, 2) := dcq_361.2.2.1
theorem dX6_its_6 : decode cX6_its 6 = .ok (.bipush 6, 2) := dcq_361.2.2.2.1
theorem dX6_its_8 : decode cX6_its 8 = .ok (.iload_n 1, 1) := dcq_361.2.2.2.2.1
theorem dX6_its_9 : decode cX6_its 9 = .ok (.imul, 1) := dcq_361.2.2.2.2.2.1
theorem dX6_its_10 : decode cX6_its 10 = .ok (.iadd, 1) := dcq_361.2.2.2.2.2.2.1
theorem dX6_its_11 : decode cX6_its 11 = .ok (.iload_n 2, 1) := dcq_361.2.2.2.2.2.2.2.1
theorem dX6_its_12 : decode cX6_its 12 = .ok (.iadd, 1) := dcq_361.2.2.2.2.2.2.2.2.1
theorem dX6_its_13 : decode cX6_its 13 = .ok (.iaload, 1) := dcq_361.2.2.2.2.2.2.2.2.2.1
theorem dX6_its_14 : decode cX6_its 14 = .ok (.ireturn, 1) := dcq_361.2.2.2.2.2.2.2.2.2.2
set_option maxRecDepth 20000 in
theorem dcb_362 : fd_B cX6_sets 0 [42, 180, 0, 7, 16, 8, 16, 6, 27, 104, 96, 28, 96, 29, 79, 177] := fd_o cX6_sets 0 _ (by decide +kernel)
theorem dcq_362 : (decode cX6_sets 0 = .ok (.aload_n 0, 1)) ∧ (decode cX6_sets 1 = .ok (.getfield 7, 3)) ∧ (decode cX6_sets 4 = .ok (.bipush 8, 2)) ∧ (decode cX6_sets 6 = .ok (.bipush 6, 2)) ∧ (decode cX6_sets 8 = .ok (.iload_n 1, 1)) ∧ (decode cX6_sets 9 = .ok (.imul, 1)) ∧ (decode cX6_sets 10 = .ok (.iadd, 1)) ∧ (decode cX6_sets 11 = .ok (.iload_n 2, 1)) ∧ (decode cX6_sets 12 = .ok (.iadd, 1)) ∧ (decode cX6_sets 13 = .ok (.iload_n 3, 1)) ∧ (decode cX6_sets 14 = .ok (.iastore, 1)) ∧ (decode cX6_sets 15 = .ok (.return_, 1)) := have h := dcb_362; ⟨fd_42 h, have h := fd_t1 h; ⟨fd_180 h rfl, have h := fd_t3 h; ⟨fd_16 h (by decide +kernel), have h := fd_t2 h; ⟨fd_16 h (by decide +kernel), have h := fd_t2 h; ⟨fd_27 h, have h := fd_t1 h; ⟨fd_104 h, have h := fd_t1 h; ⟨fd_96 h, have h := fd_t1 h; ⟨fd_28 h, have h := fd_t1 h; ⟨fd_96 h, have h := fd_t1 h; ⟨fd_29 h, have h := fd_t1 h; ⟨fd_79 h, have h := fd_t1 h; fd_177 h⟩⟩⟩⟩⟩⟩⟩⟩⟩⟩⟩
theorem dX6_sets_0 : decode cX6_sets 0 = .ok (.aload_n 0, 1) := dcq_362.1
theorem dX6_sets_1 : decode cX6_sets 1 = .ok (.getfield 7, 3) := dcq_362.2.1
theorem dX6_sets_4 : decode cX6_sets 4 = .ok (.bipush 8, 2) := dcq_362.2.2.1
theorem dX6_sets_6 : decode cX6_sets 6 = .ok (.bipush 6, 2) := dcq_362.2.2.2.1
theorem dX6_sets_8 : decode cX6_sets 8 = .ok (.iload_n 1, 1) := dcq_362.2.2.2.2.1
theorem dX6_sets_9 : decode cX6_sets 9 = .ok (.imul, 1) := dcq_362.2.2.2.2.2.1
theorem dX6_sets_10 : decode cX6_sets 10 = .ok (.iadd, 1) := dcq_362.2.2.2.2.2.2.1
theorem dX6_sets_11 : decode cX6_sets 11 = .ok (.iload_n 2, 1) := dcq_362.2.2.2.2.2.2.2.1
theorem dX6_sets_12 : decode cX6_sets 12 = .ok (.iadd, 1) := dcq_362.2.2.2.2.2.2.2.2.1
theorem dX6_sets_13 : decode cX6_sets 13 = .ok (.iload_n 3, 1) := dcq_362.2.2.2.2.2.2.2.2.2.1
theorem dX6_sets_14 : decode cX6_sets 14 = .ok (.iastore, 1) := dcq_362.2.2.2.2.2.2.2.2.2.2.1
theorem dX6_sets_15 : decode cX6_sets 15 = .ok (.return_, 1) := dcq_362.2.2.2.2.2.2.2.2.2.2.2
set_option maxRecDepth 20000 in
theorem dcb_363 : fd_B cX6_becomes 0 [42, 180, 0, 7, 27, 46, 62, 42, 180, 0, 7, 27, 28, 79, 29, 172] := fd_o cX6_becomes 0 _ (by decide +kernel)
theorem dcq_363 : (decode cX6_becomes 0 = .ok (.aload_n 0, 1)) ∧ (decode cX6_becomes 1 = .ok (.getfield 7, 3)) ∧ (decode cX6_becomes 4 = .ok (.iload_n 1, 1)) ∧ (decode cX6_becomes 5 = .ok (.iaload, 1)) ∧ (decode cX6_becomes 6 = .ok (.istore_n 3, 1)) ∧ (decode cX6_becomes 7 = .ok (.aload_n 0, 1)) ∧ (decode cX6_becomes 8 = .ok (.getfield 7, 3)) ∧ (decode cX6_becomes 11 = .ok (.iload_n 1, 1)) ∧ (decode cX6_becomes 12 = .ok (.iload_n 2, 1)) ∧ (decode cX6_becomes 13 = .ok (.iastore, 1)) ∧ (decode cX6_becomes 14 = .ok (.iload_n 3, 1)) ∧ (decode cX6_becomes 15 = .ok (.ireturn, 1)) := have h := dcb_363; ⟨fd_42 h, have h := fd_t1 h; ⟨fd_180 h rfl, have h := fd_t3 h; ⟨fd_27 h, have h := fd_t1 h; ⟨fd_46 h, have h := fd_t1 h; ⟨fd_62 h, have h := fd_t1 h; ⟨fd_42 h, have h := fd_t1 h; ⟨fd_180 h rfl, have h := fd_t3 h; ⟨fd_27 h, have h := fd_t1 h; ⟨fd_28 h, have h := fd_t1 h; ⟨fd_79 h, have h := fd_t1 h; ⟨fd_29 h, have h := fd_t1 h; fd_172 h⟩⟩⟩⟩⟩⟩⟩⟩⟩⟩⟩
theorem dX6_becomes_0 : decode cX6_becomes 0 = .ok (.aload_n 0, 1) := dcq_363.1
theorem dX6_becomes_1 : decode cX6_becomes 1 = .ok (.getfield 7, 3) := dcq_363.2.1
theorem dX6_becomes_4 : decode cX6_becomes 4 = .ok (.iload_n 1, 1) := dcq_363.2.2.1
theorem dX6_becomes_5 : decode cX6_becomes 5 = .ok (.iaload, 1) := dcq_363.2.2.2.1
theorem dX6_becomes_6 : decode cX6_becomes 6 = .ok (.istore_n 3, 1) := dcq_363.2.2.2.2.1
theorem dX6_becomes_7 : decode cX6_becomes 7 = .ok (.aload_n 0, 1) := dcq_363.2.2.2.2.2.1
theorem dX6_becomes_8 : decode cX6_becomes 8 = .ok (.getfield 7, 3) := dcq_363.2.2.2.2.2.2.1
theorem dX6_becomes_11 : decode cX6_becomes 11 = .ok (.iload_n 1, 1) := dcq_363.2.2.2.2.2.2.2.1
theorem dX6_becomes_12 : decode cX6_becomes 12 = .ok (.iload_n 2, 1) := dcq_363.2.2.2.2.2.2.2.2.1
theorem dX6_becomes_13 : decode cX6_becomes 13 = .ok (.iastore, 1) := dcq_363.2.2.2.2.2.2.2.2.2.1
theorem dX6_becomes_14 : decode cX6_becomes 14 = .ok (.iload_n 3, 1) := dcq_363.2.2.2.2.2.2.2.2.2.2.1
theorem dX6_becomes_15 : decode cX6_becomes 15 = .ok (.ireturn, 1) := dcq_363.2.2.2.2.2.2.2.2.2.2.2
set_option maxRecDepth 20000 in
theorem dcb_364 : fd_B cX6_ones 0 [3, 60, 26, 61, 28, 153, 0, 15, 132, 1, 1, 28, 28, 4, 100, 126] := fd_o cX6_ones 0 _ (by decide +kernel)
theorem dcq_364 : (decode cX6_ones 0 = .ok (.iconst 0, 1)) ∧ (decode cX6_ones 1 = .ok (.istore_n 1, 1)) ∧ (decode cX6_ones 2 = .ok (.iload_n 0, 1)) ∧ (decode cX6_ones 3 = .ok (.istore_n 2, 1)) ∧ (decode cX6_ones 4 = .ok (.iload_n 2, 1)) ∧ (decode cX6_ones 5 = .ok (.ifCond .eq 15, 3)) ∧ (decode cX6_ones 8 = .ok (.iinc 1 1, 3)) ∧ (decode cX6_ones 11 = .ok (.iload_n 2, 1)) ∧ (decode cX6_ones 12 = .ok (.iload_n 2, 1)) ∧ (decode cX6_ones 13 = .ok (.iconst 1, 1)) ∧ (decode cX6_ones 14 = .ok (.isub, 1)) ∧ (decode cX6_ones 15 = .ok (.iand, 1)) := have h := dcb_364; ⟨fd_3 h, have h := fd_t1 h; ⟨fd_60 h, have h := fd_t1 h; ⟨fd_26 h, have h := fd_t1 h; ⟨fd_61 h, have h := fd_t1 h; ⟨fd_28 h, have h := fd_t1 h; ⟨fd_153 h (by decide +kernel), have h := fd_t3 h; ⟨fd_132 h rfl (by decide +kernel), have h := fd_t3 h; ⟨fd_28 h, have h := fd_t1 h; ⟨fd_28 h, have h := fd_t1 h; ⟨fd_4 h, have h := fd_t1 h; ⟨fd_100 h, have h := fd_t1 h; fd_126 h⟩⟩⟩⟩⟩⟩⟩⟩⟩⟩⟩
theorem dX6_ones_0 : decode cX6_ones 0 = .ok (.iconst 0, 1) := dcq_364.1
theorem dX6_ones_1 : decode cX6_ones 1 = .ok (.istore_n 1, 1) := dcq_364.2.1
theorem dX6_ones_2 : decode cX6_ones 2 = .ok (.iload_n 0, 1) := dcq_364.2.2.1
theorem dX6_ones_3 : decode cX6_ones 3 = .ok (.istore_n 2, 1) := dcq_364.2.2.2.1
theorem dX6_ones_4 : decode cX6_ones 4 = .ok (.iload_n 2, 1) := dcq_364.2.2.2.2.1
theorem dX6_ones_5 : decode cX6_ones 5 = .ok (.ifCond .eq 15, 3) := dcq_364.2.2.2.2.2.1
theorem dX6_ones_8 : decode cX6_ones 8 = .ok (.iinc 1 1, 3) := dcq_364.2.2.2.2.2.2.1
theorem dX6_ones_11 : decode cX6_ones 11 = .ok (.iload_n 2, 1) := dcq_364.2.2.2.2.2.2.2.1
theorem dX6_ones_12 : decode cX6_ones 12 = .ok (.iload_n 2, 1) := dcq_364.2.2.2.2.2.2.2.2.1
theorem dX6_ones_13 : decode cX6_ones 13 = .ok (.iconst 1, 1) := dcq_364.2.2.2.2.2.2.2.2.2.1
theorem dX6_ones_14 : decode cX6_ones 14 = .ok (.isub, 1) := dcq_364.2.2.2.2.2.2.2.2.2.2.1
theorem dX6_ones_15 : decode cX6_ones 15 = .ok (.iand, 1) := dcq_364.2.2.2.2.2.2.2.2.2.2.2
set_option maxRecDepth 20000 in
theorem dcb_365 : fd_B cX6_ones 16 [61, 167, 255, 243, 27, 172] := fd_o cX6_ones 16 _ (by decide +kernel)
theorem dcq_365 : (decode cX6_ones 16 = .ok (.istore_n 2, 1)) ∧ (decode cX6_ones 17 = .ok (.goto (-13), 3)) ∧ (decode cX6_ones 20 = .ok (.iload_n 1, 1)) ∧ (decode cX6_ones 21 = .ok (.ireturn, 1)) := have h := dcb_365; ⟨fd_61 h, have h := fd_t1 h; ⟨fd_167 h (by decide +kernel), have h := fd_t3 h; ⟨fd_27 h, have h := fd_t1 h; fd_172 h⟩⟩⟩
theorem dX6_ones_16 : decode cX6_ones 16 = .ok (.istore_n 2, 1) := dcq_365.1
theorem dX6_ones_17 : decode cX6_ones 17 = .ok (.goto (-13), 3) := dcq_365.2.1
theorem dX6_ones_20 : decode cX6_ones 20 = .ok (.iload_n 1, 1) := dcq_365.2.2.1
theorem dX6_ones_21 : decode cX6_ones 21 = .ok (.ireturn, 1) := dcq_365.2.2.2
set_option maxRecDepth 20000 in
theorem dcb_366 : fd_B cX6_feed 0 [29, 4, 16, 8, 184, 0, 60, 154, 0, 5, 2, 172, 42, 180, 0, 64, 29, 96, 17, 0, 200] := fd_o cX6_feed 0 _ (by decide +kernel)
theorem dcq_366 : (decode cX6_feed 0 = .ok (.iload_n 3, 1)) ∧ (decode cX6_feed 1 = .ok (.iconst 1, 1)) ∧ (decode cX6_feed 2 = .ok (.bipush 8, 2)) ∧ (decode cX6_feed 4 = .ok (.invokestatic 60, 3)) ∧ (decode cX6_feed 7 = .ok (.ifCond .ne 5, 3)) ∧ (decode cX6_feed 10 = .ok (.iconst (-1), 1)) ∧ (decode cX6_feed 11 = .ok (.ireturn, 1)) ∧ (decode cX6_feed 12 = .ok (.aload_n 0, 1)) ∧ (decode cX6_feed 13 = .ok (.getfield 64, 3)) ∧ (decode cX6_feed 16 = .ok (.iload_n 3, 1)) ∧ (decode cX6_feed 17 = .ok (.iadd, 1)) ∧ (decode cX6_feed 18 = .ok (.sipush 200, 3)) := have h := dcb_366; ⟨fd_29 h, have h := fd_t1 h; ⟨fd_4 h, have h := fd_t1 h; ⟨fd_16 h (by decide +kernel), have h := fd_t2 h; ⟨fd_184 h rfl, have h := fd_t3 h; ⟨fd_154 h (by decide +kernel), have h := fd_t3 h; ⟨fd_2 h, have h := fd_t1 h; ⟨fd_172 h, have h := fd_t1 h; ⟨fd_42 h, have h := fd_t1 h; ⟨fd_180 h rfl, have h := fd_t3 h; ⟨fd_29 h, have h := fd_t1 h; ⟨fd_96 h, have h := fd_t1 h; fd_17 h (by decide +kernel)⟩⟩⟩⟩⟩⟩⟩⟩⟩⟩⟩
theorem dX6_feed_0 : decode cX6_feed 0 = .ok (.iload_n 3, 1) := dcq_366.1
theorem dX6_feed_1 : decode cX6_feed 1 = .ok (.iconst 1, 1) := dcq_366.2.1
theorem dX6_feed_2 : decode cX6_feed 2 = .ok (.bipush 8, 2) := dcq_366.2.2.1
theorem dX6_feed_4 : decode cX6_feed 4 = .ok (.invokestatic 60, 3) := dcq_366.2.2.2.1
theorem dX6_feed_7 : decode cX6_feed 7 = .ok (.ifCond .ne 5, 3) := dcq_366.2.2.2.2.1
theorem dX6_feed_10 : decode cX6_feed 10 = .ok (.iconst (-1), 1) := dcq_366.2.2.2.2.2.1
theorem dX6_feed_11 : decode cX6_feed 11 = .ok (.ireturn, 1) := dcq_366.2.2.2.2.2.2.1
theorem dX6_feed_12 : decode cX6_feed 12 = .ok (.aload_n 0, 1) := dcq_366.2.2.2.2.2.2.2.1
theorem dX6_feed_13 : decode cX6_feed 13 = .ok (.getfield 64, 3) := dcq_366.2.2.2.2.2.2.2.2.1
theorem dX6_feed_16 : decode cX6_feed 16 = .ok (.iload_n 3, 1) := dcq_366.2.2.2.2.2.2.2.2.2.1
theorem dX6_feed_17 : decode cX6_feed 17 = .ok (.iadd, 1) := dcq_366.2.2.2.2.2.2.2.2.2.2.1
theorem dX6_feed_18 : decode cX6_feed 18 = .ok (.sipush 200, 3) := dcq_366.2.2.2.2.2.2.2.2.2.2.2
set_option maxRecDepth 20000 in
theorem dcb_367 : fd_B cX6_feed 21 [164, 0, 6, 16, 254, 172, 3, 54, 4, 21, 4, 29, 162, 0, 40, 42, 180, 0, 22, 42, 180, 0, 64] := fd_o cX6_feed 21 _ (by decide +kernel)
theorem dcq_367 : (decode cX6_feed 21 = .ok (.if_icmp .le 6, 3)) ∧ (decode cX6_feed 24 = .ok (.bipush (-2), 2)) ∧ (decode cX6_feed 26 = .ok (.ireturn, 1)) ∧ (decode cX6_feed 27 = .ok (.iconst 0, 1)) ∧ (decode cX6_feed 28 = .ok (.istore 4, 2)) ∧ (decode cX6_feed 30 = .ok (.iload 4, 2)) ∧ (decode cX6_feed 32 = .ok (.iload_n 3, 1)) ∧ (decode cX6_feed 33 = .ok (.if_icmp .ge 40, 3)) ∧ (decode cX6_feed 36 = .ok (.aload_n 0, 1)) ∧ (decode cX6_feed 37 = .ok (.getfield 22, 3)) ∧ (decode cX6_feed 40 = .ok (.aload_n 0, 1)) ∧ (decode cX6_feed 41 = .ok (.getfield 64, 3)) := have h := dcb_367; ⟨fd_164 h (by decide +kernel), have h := fd_t3 h; ⟨fd_16 h (by decide +kernel), have h := fd_t2 h; ⟨fd_172 h, have h := fd_t1 h; ⟨fd_3 h, have h := fd_t1 h; ⟨fd_54 h rfl, have h := fd_t2 h; ⟨fd_21 h rfl, have h := fd_t2 h; ⟨fd_29 h, have h := fd_t1 h; ⟨fd_162 h (by decide +kernel), have h := fd_t3 h; ⟨fd_42 h, have h := fd_t1 h; ⟨fd_180 h rfl, have h := fd_t3 h; ⟨fd_42 h, have h := fd_t1 h; fd_180 h rfl⟩⟩⟩⟩⟩⟩⟩⟩⟩⟩⟩
theorem dX6_feed_21 : decode cX6_feed 21 = .ok (.if_icmp .le 6, 3) := dcq_367.1
theorem dX6_feed_24 : decode cX6_feed 24 = .ok (.bipush (-2), 2) := dcq_367.2.1
theorem dX6_feed_26 : decode cX6_feed 26 = .ok (.ireturn, 1) := dcq_367.2.2.1
theorem dX6_feed_27 : decode cX6_feed 27 = .ok (.iconst 0, 1) := dcq_367.2.2.2.1
theorem dX6_feed_28 : decode cX6_feed 28 = .ok (.istore 4, 2) := dcq_367.2.2.2.2.1
theorem dX6_feed_30 : decode cX6_feed 30 = .ok (.iload 4, 2) := dcq_367.2.2.2.2.2.1
theorem dX6_feed_32 : decode cX6_feed 32 = .ok (.iload_n 3, 1) := dcq_367.2.2.2.2.2.2.1
theorem dX6_feed_33 : decode cX6_feed 33 = .ok (.if_icmp .ge 40, 3) := dcq_367.2.2.2.2.2.2.2.1
theorem dX6_feed_36 : decode cX6_feed 36 = .ok (.aload_n 0, 1) := dcq_367.2.2.2.2.2.2.2.2.1
theorem dX6_feed_37 : decode cX6_feed 37 = .ok (.getfield 22, 3) := dcq_367.2.2.2.2.2.2.2.2.2.1
theorem dX6_feed_40 : decode cX6_feed 40 = .ok (.aload_n 0, 1) := dcq_367.2.2.2.2.2.2.2.2.2.2.1
theorem dX6_feed_41 : decode cX6_feed 41 = .ok (.getfield 64, 3) := dcq_367.2.2.2.2.2.2.2.2.2.2.2
set_option maxRecDepth 20000 in
theorem dcb_368 : fd_B cX6_feed 44 [31, 16, 8, 21, 4, 104, 123, 20, 0, 68, 127, 136, 79, 42, 89, 180, 0, 64] := fd_o cX6_feed 44 _ (by decide +kernel)
theorem dcq_368 : (decode cX6_feed 44 = .ok (.lload_n 1, 1)) ∧ (decode cX6_feed 45 = .ok (.bipush 8, 2)) ∧ (decode cX6_feed 47 = .ok (.iload 4, 2)) ∧ (decode cX6_feed 49 = .ok (.imul, 1)) ∧ (decode cX6_feed 50 = .ok (.lshr, 1)) ∧ (decode cX6_feed 51 = .ok (.ldc2_w 68, 3)) ∧ (decode cX6_feed 54 = .ok (.land, 1)) ∧ (decode cX6_feed 55 = .ok (.l2i, 1)) ∧ (decode cX6_feed 56 = .ok (.iastore, 1)) ∧ (decode cX6_feed 57 = .ok (.aload_n 0, 1)) ∧ (decode cX6_feed 58 = .ok (.dup, 1)) ∧ (decode cX6_feed 59 = .ok (.getfield 64, 3)) := have h := dcb_368; ⟨fd_31 h, have h := fd_t1 h; ⟨fd_16 h (by decide +kernel), have h := fd_t2 h; ⟨fd_21 h rfl, have h := fd_t2 h; ⟨fd_104 h, have h := fd_t1 h; ⟨fd_123 h, have h := fd_t1 h; ⟨fd_20 h rfl, have h := fd_t3 h; ⟨fd_127 h, have h := fd_t1 h; ⟨fd_136 h, have h := fd_t1 h; ⟨fd_79 h, have h := fd_t1 h; ⟨fd_42 h, have h := fd_t1 h; ⟨fd_89 h, have h := fd_t1 h; fd_180 h rfl⟩⟩⟩⟩⟩⟩⟩⟩⟩⟩⟩
theorem dX6_feed_44 : decode cX6_feed 44 = .ok (.lload_n 1, 1) := dcq_368.1
theorem dX6_feed_45 : decode cX6_feed 45 = .ok (.bipush 8, 2) := dcq_368.2.1
theorem dX6_feed_47 : decode cX6_feed 47 = .ok (.iload 4, 2) := dcq_368.2.2.1
theorem dX6_feed_49 : decode cX6_feed 49 = .ok (.imul, 1) := dcq_368.2.2.2.1
theorem dX6_feed_50 : decode cX6_feed 50 = .ok (.lshr, 1) := dcq_368.2.2.2.2.1
theorem dX6_feed_51 : decode cX6_feed 51 = .ok (.ldc2_w 68, 3) := dcq_368.2.2.2.2.2.1
theorem dX6_feed_54 : decode cX6_feed 54 = .ok (.land, 1) := dcq_368.2.2.2.2.2.2.1
theorem dX6_feed_55 : decode cX6_feed 55 = .ok (.l2i, 1) := dcq_368.2.2.2.2.2.2.2.1
theorem dX6_feed_56 : decode cX6_feed 56 = .ok (.iastore, 1) := dcq_368.2.2.2.2.2.2.2.2.1
theorem dX6_feed_57 : decode cX6_feed 57 = .ok (.aload_n 0, 1) := dcq_368.2.2.2.2.2.2.2.2.2.1
theorem dX6_feed_58 : decode cX6_feed 58 = .ok (.dup, 1) := dcq_368.2.2.2.2.2.2.2.2.2.2.1
theorem dX6_feed_59 : decode cX6_feed 59 = .ok (.getfield 64, 3) := dcq_368.2.2.2.2.2.2.2.2.2.2.2
set_option maxRecDepth 20000 in
theorem dcb_369 : fd_B cX6_feed 62 [4, 96, 181, 0, 64, 132, 4, 1, 167, 255, 216, 42, 180, 0, 64, 172] := fd_o cX6_feed 62 _ (by decide +kernel)
theorem dcq_369 : (decode cX6_feed 62 = .ok (.iconst 1, 1)) ∧ (decode cX6_feed 63 = .ok (.iadd, 1)) ∧ (decode cX6_feed 64 = .ok (.putfield 64, 3)) ∧ (decode cX6_feed 67 = .ok (.iinc 4 1, 3)) ∧ (decode cX6_feed 70 = .ok (.goto (-40), 3)) ∧ (decode cX6_feed 73 = .ok (.aload_n 0, 1)) ∧ (decode cX6_feed 74 = .ok (.getfield 64, 3)) ∧ (decode cX6_feed 77 = .ok (.ireturn, 1)) := have h := dcb_369; ⟨fd_4 h, have h := fd_t1 h; ⟨fd_96 h, have h := fd_t1 h; ⟨fd_181 h rfl, have h := fd_t3 h; ⟨fd_132 h rfl (by decide +kernel), have h := fd_t3 h; ⟨fd_167 h (by decide +kernel), have h := fd_t3 h; ⟨fd_42 h, have h := fd_t1 h; ⟨fd_180 h rfl, have h := fd_t3 h; fd_172 h⟩⟩⟩⟩⟩⟩⟩
theorem dX6_feed_62 : decode cX6_feed 62 = .ok (.iconst 1, 1) := dcq_369.1
theorem dX6_feed_63 : decode cX6_feed 63 = .ok (.iadd, 1) := dcq_369.2.1
theorem dX6_feed_64 : decode cX6_feed 64 = .ok (.putfield 64, 3) := dcq_369.2.2.1
theorem dX6_feed_67 : decode cX6_feed 67 = .ok (.iinc 4 1, 3) := dcq_369.2.2.2.1
theorem dX6_feed_70 : decode cX6_feed 70 = .ok (.goto (-40), 3) := dcq_369.2.2.2.2.1
theorem dX6_feed_73 : decode cX6_feed 73 = .ok (.aload_n 0, 1) := dcq_369.2.2.2.2.2.1
theorem dX6_feed_74 : decode cX6_feed 74 = .ok (.getfield 64, 3) := dcq_369.2.2.2.2.2.2.1
theorem dX6_feed_77 : decode cX6_feed 77 = .ok (.ireturn, 1) := dcq_369.2.2.2.2.2.2.2
set_option maxRecDepth 20000 in
theorem dcb_370 : fd_B cX6_byteAt 0 [27, 42, 180, 0, 64, 162, 0, 12, 42, 180, 0, 22, 27, 46, 167, 0, 4, 2, 172] := fd_o cX6_byteAt 0 _ (by decide +kernel)
theorem dcq_370 : (decode cX6_byteAt 0 = .ok (.iload_n 1, 1)) ∧ (decode cX6_byteAt 1 = .ok (.aload_n 0, 1)) ∧ (decode cX6_byteAt 2 = .ok (.getfield 64, 3)) ∧ (decode cX6_byteAt 5 = .ok (.if_icmp .ge 12, 3)) ∧ (decode cX6_byteAt 8 = .ok (.aload_n 0, 1)) ∧ (decode cX6_byteAt 9 = .ok (.getfield 22, 3)) ∧ (decode cX6_byteAt 12 = .ok (.iload_n 1, 1)) ∧ (decode cX6_byteAt 13 = .ok (.iaload, 1)) ∧ (decode cX6_byteAt 14 = .ok (.goto 4, 3)) ∧ (decode cX6_byteAt 17 = .ok (.iconst (-1), 1)) ∧ (decode cX6_byteAt 18 = .ok (.ireturn, 1)) := have h := dcb_370; ⟨fd_27 h, have h := fd_t1 h; ⟨fd_42 h, have h := fd_t1 h; ⟨fd_180 h rfl, have h := fd_t3 h; ⟨fd_162 h (by decide +kernel), have h := fd_t3 h; ⟨fd_42 h, have h := fd_t1 h; ⟨fd_180 h rfl, have h := fd_t3 h; ⟨fd_27 h, have h := fd_t1 h; ⟨fd_46 h, have h := fd_t1 h; ⟨fd_167 h (by decide +kernel), have h := fd_t3 h; ⟨fd_2 h, have h := fd_t1 h; fd_172 h⟩⟩⟩⟩⟩⟩⟩⟩⟩⟩
theorem dX6_byteAt_0 : decode cX6_byteAt 0 = .ok (.iload_n 1, 1) := dcq_370.1
theorem dX6_byteAt_1 : decode cX6_byteAt 1 = .ok (.aload_n 0, 1) := dcq_370.2.1
theorem dX6_byteAt_2 : decode cX6_byteAt 2 = .ok (.getfield 64, 3) := dcq_370.2.2.1
theorem dX6_byteAt_5 : decode cX6_byteAt 5 = .ok (.if_icmp .ge 12, 3) := dcq_370.2.2.2.1
theorem dX6_byteAt_8 : decode cX6_byteAt 8 = .ok (.aload_n 0, 1) := dcq_370.2.2.2.2.1
theorem dX6_byteAt_9 : decode cX6_byteAt 9 = .ok (.getfield 22, 3) := dcq_370.2.2.2.2.2.1
theorem dX6_byteAt_12 : decode cX6_byteAt 12 = .ok (.iload_n 1, 1) := dcq_370.2.2.2.2.2.2.1
theorem dX6_byteAt_13 : decode cX6_byteAt 13 = .ok (.iaload, 1) := dcq_370.2.2.2.2.2.2.2.1
theorem dX6_byteAt_14 : decode cX6_byteAt 14 = .ok (.goto 4, 3) := dcq_370.2.2.2.2.2.2.2.2.1
theorem dX6_byteAt_17 : decode cX6_byteAt 17 = .ok (.iconst (-1), 1) := dcq_370.2.2.2.2.2.2.2.2.2.1
theorem dX6_byteAt_18 : decode cX6_byteAt 18 = .ok (.ireturn, 1) := dcq_370.2.2.2.2.2.2.2.2.2.2
set_option maxRecDepth 20000 in
theorem dcb_371 : fd_B cX6_isLetter 0 [26, 16, 97, 16, 122, 184, 0, 60, 172] := fd_o cX6_isLetter 0 _ (by decide +kernel)
theorem dcq_371 : (decode cX6_isLetter 0 = .ok (.iload_n 0, 1)) ∧ (decode cX6_isLetter 1 = .ok (.bipush 97, 2)) ∧ (decode cX6_isLetter 3 = .ok (.bipush 122, 2)) ∧ (decode cX6_isLetter 5 = .ok (.invokestatic 60, 3)) ∧ (decode cX6_isLetter 8 = .ok (.ireturn, 1)) := have h := dcb_371; ⟨fd_26 h, have h := fd_t1 h; ⟨fd_16 h (by decide +kernel), have h := fd_t2 h; ⟨fd_16 h (by decide +kernel), have h := fd_t2 h; ⟨fd_184 h rfl, have h := fd_t3 h; fd_172 h⟩⟩⟩⟩
theorem dX6_isLetter_0 : decode cX6_isLetter 0 = .ok (.iload_n 0, 1) := dcq_371.1
theorem dX6_isLetter_1 : decode cX6_isLetter 1 = .ok (.bipush 97, 2) := dcq_371.2.1
theorem dX6_isLetter_3 : decode cX6_isLetter 3 = .ok (.bipush 122, 2) := dcq_371.2.2.1
theorem dX6_isLetter_5 : decode cX6_isLetter 5 = .ok (.invokestatic 60, 3) := dcq_371.2.2.2.1
theorem dX6_isLetter_8 : decode cX6_isLetter 8 = .ok (.ireturn, 1) := dcq_371.2.2.2.2
set_option maxRecDepth 20000 in
theorem dcb_372 : fd_B cX6_isDigit 0 [26, 16, 48, 16, 57, 184, 0, 60, 172] := fd_o cX6_isDigit 0 _ (by decide +kernel)
theorem dcq_372 : (decode cX6_isDigit 0 = .ok (.iload_n 0, 1)) ∧ (decode cX6_isDigit 1 = .ok (.bipush 48, 2)) ∧ (decode cX6_isDigit 3 = .ok (.bipush 57, 2)) ∧ (decode cX6_isDigit 5 = .ok (.invokestatic 60, 3)) ∧ (decode cX6_isDigit 8 = .ok (.ireturn, 1)) := have h := dcb_372; ⟨fd_26 h, have h := fd_t1 h; ⟨fd_16 h (by decide +kernel), have h := fd_t2 h; ⟨fd_16 h (by decide +kernel), have h := fd_t2 h; ⟨fd_184 h rfl, have h := fd_t3 h; fd_172 h⟩⟩⟩⟩
theorem dX6_isDigit_0 : decode cX6_isDigit 0 = .ok (.iload_n 0, 1) := dcq_372.1
theorem dX6_isDigit_1 : decode cX6_isDigit 1 = .ok (.bipush 48, 2) := dcq_372.2.1
theorem dX6_isDigit_3 : decode cX6_isDigit 3 = .ok (.bipush 57, 2) := dcq_372.2.2.1
theorem dX6_isDigit_5 : decode cX6_isDigit 5 = .ok (.invokestatic 60, 3) := dcq_372.2.2.2.1
theorem dX6_isDigit_8 : decode cX6_isDigit 8 = .ok (.ireturn, 1) := dcq_372.2.2.2.2
set_option maxRecDepth 20000 in
theorem dcb_373 : fd_B cX6_advance 0 [42, 42, 180, 0, 70, 181, 0, 73, 42, 42, 180, 0, 73, 182, 0, 75, 16, 32, 160, 0, 16, 42, 89] := fd_o cX6_advance 0 _ (by decide +kernel)
theorem dcq_373 : (decode cX6_advance 0 = .ok (.aload_n 0, 1)) ∧ (decode cX6_advance 1 = .ok (.aload_n 0, 1)) ∧ (decode cX6_advance 2 = .ok (.getfield 70, 3)) ∧ (decode cX6_advance 5 = .ok (.putfield 73, 3)) ∧ (decode cX6_advance 8 = .ok (.aload_n 0, 1)) ∧ (decode cX6_advance 9 = .ok (.aload_n 0, 1)) ∧ (decode cX6_advance 10 = .ok (.getfield 73, 3)) ∧ (decode cX6_advance 13 = .ok (.invokevirtual 75, 3)) ∧ (decode cX6_advance 16 = .ok (.bipush 32, 2)) ∧ (decode cX6_advance 18 = .ok (.if_icmp .ne 16, 3)) ∧ (decode cX6_advance 21 = .ok (.aload_n 0, 1)) ∧ (decode cX6_advance 22 = .ok (.dup, 1)) := have h := dcb_373; ⟨fd_42 h, have h := fd_t1 h; ⟨fd_42 h, have h := fd_t1 h; ⟨fd_180 h rfl, have h := fd_t3 h; ⟨fd_181 h rfl, have h := fd_t3 h; ⟨fd_42 h, have h := fd_t1 h; ⟨fd_42 h, have h := fd_t1 h; ⟨fd_180 h rfl, have h := fd_t3 h; ⟨fd_182 h rfl, have h := fd_t3 h; ⟨fd_16 h (by decide +kernel), have h := fd_t2 h; ⟨fd_160 h (by decide +kernel), have h := fd_t3 h; ⟨fd_42 h, have h := fd_t1 h; fd_89 h⟩⟩⟩⟩⟩⟩⟩⟩⟩⟩⟩
theorem dX6_advance_0 : decode cX6_advance 0 = .ok (.aload_n 0, 1) := dcq_373.1
theorem dX6_advance_1 : decode cX6_advance 1 = .ok (.aload_n 0, 1) := dcq_373.2.1
theorem dX6_advance_2 : decode cX6_advance 2 = .ok (.getfield 70, 3) := dcq_373.2.2.1
theorem dX6_advance_5 : decode cX6_advance 5 = .ok (.putfield 73, 3) := dcq_373.2.2.2.1
theorem dX6_advance_8 : decode cX6_advance 8 = .ok (.aload_n 0, 1) := dcq_373.2.2.2.2.1
theorem dX6_advance_9 : decode cX6_advance 9 = .ok (.aload_n 0, 1) := dcq_373.2.2.2.2.2.1
theorem dX6_advance_10 : decode cX6_advance 10 = .ok (.getfield 73, 3) := dcq_373.2.2.2.2.2.2.1
theorem dX6_advance_13 : decode cX6_advance 13 = .ok (.invokevirtual 75, 3) := dcq_373.2.2.2.2.2.2.2.1
theorem dX6_advance_16 : decode cX6_advance 16 = .ok (.bipush 32, 2) := dcq_373.2.2.2.2.2.2.2.2.1
theorem dX6_advance_18 : decode cX6_advance 18 = .ok (.if_icmp .ne 16, 3) := dcq_373.2.2.2.2.2.2.2.2.2.1
theorem dX6_advance_21 : decode cX6_advance 21 = .ok (.aload_n 0, 1) := dcq_373.2.2.2.2.2.2.2.2.2.2.1
theorem dX6_advance_22 : decode cX6_advance 22 = .ok (.dup, 1) := dcq_373.2.2.2.2.2.2.2.2.2.2.2
set_option maxRecDepth 20000 in
theorem dcb_374 : fd_B cX6_advance 23 [180, 0, 73, 4, 96, 181, 0, 73, 167, 255, 233, 42, 42, 180, 0, 73, 181, 0, 70, 42, 42, 180, 0, 73] := fd_o cX6_advance 23 _ (by decide +kernel)
theorem dcq_374 : (decode cX6_advance 23 = .ok (.getfield 73, 3)) ∧ (decode cX6_advance 26 = .ok (.iconst 1, 1)) ∧ (decode cX6_advance 27 = .ok (.iadd, 1)) ∧ (decode cX6_advance 28 = .ok (.putfield 73, 3)) ∧ (decode cX6_advance 31 = .ok (.goto (-23), 3)) ∧ (decode cX6_advance 34 = .ok (.aload_n 0, 1)) ∧ (decode cX6_advance 35 = .ok (.aload_n 0, 1)) ∧ (decode cX6_advance 36 = .ok (.getfield 73, 3)) ∧ (decode cX6_advance 39 = .ok (.putfield 70, 3)) ∧ (decode cX6_advance 42 = .ok (.aload_n 0, 1)) ∧ (decode cX6_advance 43 = .ok (.aload_n 0, 1)) ∧ (decode cX6_advance 44 = .ok (.getfield 73, 3)) := have h := dcb_374; ⟨fd_180 h rfl, have h := fd_t3 h; ⟨fd_4 h, have h := fd_t1 h; ⟨fd_96 h, have h := fd_t1 h; ⟨fd_181 h rfl, have h := fd_t3 h; ⟨fd_167 h (by decide +kernel), have h := fd_t3 h; ⟨fd_42 h, have h := fd_t1 h; ⟨fd_42 h, have h := fd_t1 h; ⟨fd_180 h rfl, have h := fd_t3 h; ⟨fd_181 h rfl, have h := fd_t3 h; ⟨fd_42 h, have h := fd_t1 h; ⟨fd_42 h, have h := fd_t1 h; fd_180 h rfl⟩⟩⟩⟩⟩⟩⟩⟩⟩⟩⟩
theorem dX6_advance_23 : decode cX6_advance 23 = .ok (.getfield 73, 3) := dcq_374.1
theorem dX6_advance_26 : decode cX6_advance 26 = .ok (.iconst 1, 1) := dcq_374.2.1
theorem dX6_advance_27 : decode cX6_advance 27 = .ok (.iadd, 1) := dcq_374.2.2.1
theorem dX6_advance_28 : decode cX6_advance 28 = .ok (.putfield 73, 3) := dcq_374.2.2.2.1
theorem dX6_advance_31 : decode cX6_advance 31 = .ok (.goto (-23), 3) := dcq_374.2.2.2.2.1
theorem dX6_advance_34 : decode cX6_advance 34 = .ok (.aload_n 0, 1) := dcq_374.2.2.2.2.2.1
theorem dX6_advance_35 : decode cX6_advance 35 = .ok (.aload_n 0, 1) := dcq_374.2.2.2.2.2.2.1
theorem dX6_advance_36 : decode cX6_advance 36 = .ok (.getfield 73, 3) := dcq_374.2.2.2.2.2.2.2.1
theorem dX6_advance_39 : decode cX6_advance 39 = .ok (.putfield 70, 3) := dcq_374.2.2.2.2.2.2.2.2.1
theorem dX6_advance_42 : decode cX6_advance 42 = .ok (.aload_n 0, 1) := dcq_374.2.2.2.2.2.2.2.2.2.1
theorem dX6_advance_43 : decode cX6_advance 43 = .ok (.aload_n 0, 1) := dcq_374.2.2.2.2.2.2.2.2.2.2.1
theorem dX6_advance_44 : decode cX6_advance 44 = .ok (.getfield 73, 3) := dcq_374.2.2.2.2.2.2.2.2.2.2.2
set_option maxRecDepth 20000 in
theorem dcb_375 : fd_B cX6_advance 47 [182, 0, 75, 60, 42, 27, 156, 0, 7, 3, 167, 0, 26, 27, 184, 0, 79, 153, 0, 7, 4, 167, 0, 15] := fd_o cX6_advance 47 _ (by decide +kernel)
theorem dcq_375 : (decode cX6_advance 47 = .ok (.invokevirtual 75, 3)) ∧ (decode cX6_advance 50 = .ok (.istore_n 1, 1)) ∧ (decode cX6_advance 51 = .ok (.aload_n 0, 1)) ∧ (decode cX6_advance 52 = .ok (.iload_n 1, 1)) ∧ (decode cX6_advance 53 = .ok (.ifCond .ge 7, 3)) ∧ (decode cX6_advance 56 = .ok (.iconst 0, 1)) ∧ (decode cX6_advance 57 = .ok (.goto 26, 3)) ∧ (decode cX6_advance 60 = .ok (.iload_n 1, 1)) ∧ (decode cX6_advance 61 = .ok (.invokestatic 79, 3)) ∧ (decode cX6_advance 64 = .ok (.ifCond .eq 7, 3)) ∧ (decode cX6_advance 67 = .ok (.iconst 1, 1)) ∧ (decode cX6_advance 68 = .ok (.goto 15, 3)) := have h := dcb_375; ⟨fd_182 h rfl, have h := fd_t3 h; ⟨fd_60 h, have h := fd_t1 h; ⟨fd_42 h, have h := fd_t1 h; ⟨fd_27 h, have h := fd_t1 h; ⟨fd_156 h (by decide +kernel), have h := fd_t3 h; ⟨fd_3 h, have h := fd_t1 h; ⟨fd_167 h (by decide +kernel), have h := fd_t3 h; ⟨fd_27 h, have h := fd_t1 h; ⟨fd_184 h rfl, have h := fd_t3 h; ⟨fd_153 h (by decide +kernel), have h := fd_t3 h; ⟨fd_4 h, have h := fd_t1 h; fd_167 h (by decide +kernel)⟩⟩⟩⟩⟩⟩⟩⟩⟩⟩⟩
theorem dX6_advance_47 : decode cX6_advance 47 = .ok (.invokevirtual 75, 3) := dcq_375.1
theorem dX6_advance_50 : decode cX6_advance 50 = .ok (.istore_n 1, 1) := dcq_375.2.1
theorem dX6_advance_51 : decode cX6_advance 51 = .ok (.aload_n 0, 1) := dcq_375.2.2.1
theorem dX6_advance_52 : decode cX6_advance 52 = .ok (.iload_n 1, 1) := dcq_375.2.2.2.1
theorem dX6_advance_53 : decode cX6_advance 53 = .ok (.ifCond .ge 7, 3) := dcq_375.2.2.2.2.1
theorem dX6_advance_56 : decode cX6_advance 56 = .ok (.iconst 0, 1) := dcq_375.2.2.2.2.2.1
theorem dX6_advance_57 : decode cX6_advance 57 = .ok (.goto 26, 3) := dcq_375.2.2.2.2.2.2.1
theorem dX6_advance_60 : decode cX6_advance 60 = .ok (.iload_n 1, 1) := dcq_375.2.2.2.2.2.2.2.1
theorem dX6_advance_61 : decode cX6_advance 61 = .ok (.invokestatic 79, 3) := dcq_375.2.2.2.2.2.2.2.2.1
theorem dX6_advance_64 : decode cX6_advance 64 = .ok (.ifCond .eq 7, 3) := dcq_375.2.2.2.2.2.2.2.2.2.1
theorem dX6_advance_67 : decode cX6_advance 67 = .ok (.iconst 1, 1) := dcq_375.2.2.2.2.2.2.2.2.2.2.1
theorem dX6_advance_68 : decode cX6_advance 68 = .ok (.goto 15, 3) := dcq_375.2.2.2.2.2.2.2.2.2.2.2
set_option maxRecDepth 20000 in
theorem dcb_376 : fd_B cX6_advance 71 [27, 184, 0, 83, 153, 0, 7, 5, 167, 0, 4, 6, 181, 0, 86, 42, 9, 181, 0, 89, 42, 42] := fd_o cX6_advance 71 _ (by decide +kernel)
theorem dcq_376 : (decode cX6_advance 71 = .ok (.iload_n 1, 1)) ∧ (decode cX6_advance 72 = .ok (.invokestatic 83, 3)) ∧ (decode cX6_advance 75 = .ok (.ifCond .eq 7, 3)) ∧ (decode cX6_advance 78 = .ok (.iconst 2, 1)) ∧ (decode cX6_advance 79 = .ok (.goto 4, 3)) ∧ (decode cX6_advance 82 = .ok (.iconst 3, 1)) ∧ (decode cX6_advance 83 = .ok (.putfield 86, 3)) ∧ (decode cX6_advance 86 = .ok (.aload_n 0, 1)) ∧ (decode cX6_advance 87 = .ok (.lconst 0, 1)) ∧ (decode cX6_advance 88 = .ok (.putfield 89, 3)) ∧ (decode cX6_advance 91 = .ok (.aload_n 0, 1)) ∧ (decode cX6_advance 92 = .ok (.aload_n 0, 1)) := have h := dcb_376; ⟨fd_27 h, have h := fd_t1 h; ⟨fd_184 h rfl, have h := fd_t3 h; ⟨fd_153 h (by decide +kernel), have h := fd_t3 h; ⟨fd_5 h, have h := fd_t1 h; ⟨fd_167 h (by decide +kernel), have h := fd_t3 h; ⟨fd_6 h, have h := fd_t1 h; ⟨fd_181 h rfl, have h := fd_t3 h; ⟨fd_42 h, have h := fd_t1 h; ⟨fd_9 h, have h := fd_t1 h; ⟨fd_181 h rfl, have h := fd_t3 h; ⟨fd_42 h, have h := fd_t1 h; fd_42 h⟩⟩⟩⟩⟩⟩⟩⟩⟩⟩⟩
theorem dX6_advance_71 : decode cX6_advance 71 = .ok (.iload_n 1, 1) := dcq_376.1
theorem dX6_advance_72 : decode cX6_advance 72 = .ok (.invokestatic 83, 3) := dcq_376.2.1
theorem dX6_advance_75 : decode cX6_advance 75 = .ok (.ifCond .eq 7, 3) := dcq_376.2.2.1
theorem dX6_advance_78 : decode cX6_advance 78 = .ok (.iconst 2, 1) := dcq_376.2.2.2.1
theorem dX6_advance_79 : decode cX6_advance 79 = .ok (.goto 4, 3) := dcq_376.2.2.2.2.1
theorem dX6_advance_82 : decode cX6_advance 82 = .ok (.iconst 3, 1) := dcq_376.2.2.2.2.2.1
theorem dX6_advance_83 : decode cX6_advance 83 = .ok (.putfield 86, 3) := dcq_376.2.2.2.2.2.2.1
theorem dX6_advance_86 : decode cX6_advance 86 = .ok (.aload_n 0, 1) := dcq_376.2.2.2.2.2.2.2.1
theorem dX6_advance_87 : decode cX6_advance 87 = .ok (.lconst 0, 1) := dcq_376.2.2.2.2.2.2.2.2.1
theorem dX6_advance_88 : decode cX6_advance 88 = .ok (.putfield 89, 3) := dcq_376.2.2.2.2.2.2.2.2.2.1
theorem dX6_advance_91 : decode cX6_advance 91 = .ok (.aload_n 0, 1) := dcq_376.2.2.2.2.2.2.2.2.2.2.1
theorem dX6_advance_92 : decode cX6_advance 92 = .ok (.aload_n 0, 1) := dcq_376.2.2.2.2.2.2.2.2.2.2.2
set_option maxRecDepth 20000 in
theorem dcb_377 : fd_B cX6_advance 93 [180, 0, 86, 5, 160, 0, 7, 3, 167, 0, 4, 27, 181, 0, 93, 42, 180, 0, 86, 6, 160, 0, 13, 42] := fd_o cX6_advance 93 _ (by decide +kernel)
theorem dcq_377 : (decode cX6_advance 93 = .ok (.getfield 86, 3)) ∧ (decode cX6_advance 96 = .ok (.iconst 2, 1)) ∧ (decode cX6_advance 97 = .ok (.if_icmp .ne 7, 3)) ∧ (decode cX6_advance 100 = .ok (.iconst 0, 1)) ∧ (decode cX6_advance 101 = .ok (.goto 4, 3)) ∧ (decode cX6_advance 104 = .ok (.iload_n 1, 1)) ∧ (decode cX6_advance 105 = .ok (.putfield 93, 3)) ∧ (decode cX6_advance 108 = .ok (.aload_n 0, 1)) ∧ (decode cX6_advance 109 = .ok (.getfield 86, 3)) ∧ (decode cX6_advance 112 = .ok (.iconst 3, 1)) ∧ (decode cX6_advance 113 = .ok (.if_icmp .ne 13, 3)) ∧ (decode cX6_advance 116 = .ok (.aload_n 0, 1)) := have h := dcb_377; ⟨fd_180 h rfl, have h := fd_t3 h; ⟨fd_5 h, have h := fd_t1 h; ⟨fd_160 h (by decide +kernel), have h := fd_t3 h; ⟨fd_3 h, have h := fd_t1 h; ⟨fd_167 h (by decide +kernel), have h := fd_t3 h; ⟨fd_27 h, have h := fd_t1 h; ⟨fd_181 h rfl, have h := fd_t3 h; ⟨fd_42 h, have h := fd_t1 h; ⟨fd_180 h rfl, have h := fd_t3 h; ⟨fd_6 h, have h := fd_t1 h; ⟨fd_160 h (by decide +kernel), have h := fd_t3 h; fd_42 h⟩⟩⟩⟩⟩⟩⟩⟩⟩⟩⟩
theorem dX6_advance_93 : decode cX6_advance 93 = .ok (.getfield 86, 3) := dcq_377.1
theorem dX6_advance_96 : decode cX6_advance 96 = .ok (.iconst 2, 1) := dcq_377.2.1
theorem dX6_advance_97 : decode cX6_advance 97 = .ok (.if_icmp .ne 7, 3) := dcq_377.2.2.1
theorem dX6_advance_100 : decode cX6_advance 100 = .ok (.iconst 0, 1) := dcq_377.2.2.2.1
theorem dX6_advance_101 : decode cX6_advance 101 = .ok (.goto 4, 3) := dcq_377.2.2.2.2.1
theorem dX6_advance_104 : decode cX6_advance 104 = .ok (.iload_n 1, 1) := dcq_377.2.2.2.2.2.1
theorem dX6_advance_105 : decode cX6_advance 105 = .ok (.putfield 93, 3) := dcq_377.2.2.2.2.2.2.1
theorem dX6_advance_108 : decode cX6_advance 108 = .ok (.aload_n 0, 1) := dcq_377.2.2.2.2.2.2.2.1
theorem dX6_advance_109 : decode cX6_advance 109 = .ok (.getfield 86, 3) := dcq_377.2.2.2.2.2.2.2.2.1
theorem dX6_advance_112 : decode cX6_advance 112 = .ok (.iconst 3, 1) := dcq_377.2.2.2.2.2.2.2.2.2.1
theorem dX6_advance_113 : decode cX6_advance 113 = .ok (.if_icmp .ne 13, 3) := dcq_377.2.2.2.2.2.2.2.2.2.2.1
theorem dX6_advance_116 : decode cX6_advance 116 = .ok (.aload_n 0, 1) := dcq_377.2.2.2.2.2.2.2.2.2.2.2
set_option maxRecDepth 20000 in
theorem dcb_378 : fd_B cX6_advance 117 [89, 180, 0, 70, 4, 96, 181, 0, 70, 42, 180, 0, 86, 4, 160, 0, 76, 42, 42, 180, 0, 70] := fd_o cX6_advance 117 _ (by decide +kernel)
theorem dcq_378 : (decode cX6_advance 117 = .ok (.dup, 1)) ∧ (decode cX6_advance 118 = .ok (.getfield 70, 3)) ∧ (decode cX6_advance 121 = .ok (.iconst 1, 1)) ∧ (decode cX6_advance 122 = .ok (.iadd, 1)) ∧ (decode cX6_advance 123 = .ok (.putfield 70, 3)) ∧ (decode cX6_advance 126 = .ok (.aload_n 0, 1)) ∧ (decode cX6_advance 127 = .ok (.getfield 86, 3)) ∧ (decode cX6_advance 130 = .ok (.iconst 1, 1)) ∧ (decode cX6_advance 131 = .ok (.if_icmp .ne 76, 3)) ∧ (decode cX6_advance 134 = .ok (.aload_n 0, 1)) ∧ (decode cX6_advance 135 = .ok (.aload_n 0, 1)) ∧ (decode cX6_advance 136 = .ok (.getfield 70, 3)) := have h := dcb_378; ⟨fd_89 h, have h := fd_t1 h; ⟨fd_180 h rfl, have h := fd_t3 h; ⟨fd_4 h, have h := fd_t1 h; ⟨fd_96 h, have h := fd_t1 h; ⟨fd_181 h rfl, have h := fd_t3 h; ⟨fd_42 h, have h := fd_t1 h; ⟨fd_180 h rfl, have h := fd_t3 h; ⟨fd_4 h, have h := fd_t1 h; ⟨fd_160 h (by decide +kernel), have h := fd_t3 h; ⟨fd_42 h, have h := fd_t1 h; ⟨fd_42 h, have h := fd_t1 h; fd_180 h rfl⟩⟩⟩⟩⟩⟩⟩⟩⟩⟩⟩
theorem dX6_advance_117 : decode cX6_advance 117 = .ok (.dup, 1) := dcq_378.1
theorem dX6_advance_118 : decode cX6_advance 118 = .ok (.getfield 70, 3) := dcq_378.2.1
theorem dX6_advance_121 : decode cX6_advance 121 = .ok (.iconst 1, 1) := dcq_378.2.2.1
theorem dX6_advance_122 : decode cX6_advance 122 = .ok (.iadd, 1) := dcq_378.2.2.2.1
theorem dX6_advance_123 : decode cX6_advance 123 = .ok (.putfield 70, 3) := dcq_378.2.2.2.2.1
theorem dX6_advance_126 : decode cX6_advance 126 = .ok (.aload_n 0, 1) := dcq_378.2.2.2.2.2.1
theorem dX6_advance_127 : decode cX6_advance 127 = .ok (.getfield 86, 3) := dcq_378.2.2.2.2.2.2.1
theorem dX6_advance_130 : decode cX6_advance 130 = .ok (.iconst 1, 1) := dcq_378.2.2.2.2.2.2.2.1
theorem dX6_advance_131 : decode cX6_advance 131 = .ok (.if_icmp .ne 76, 3) := dcq_378.2.2.2.2.2.2.2.2.1
theorem dX6_advance_134 : decode cX6_advance 134 = .ok (.aload_n 0, 1) := dcq_378.2.2.2.2.2.2.2.2.2.1
theorem dX6_advance_135 : decode cX6_advance 135 = .ok (.aload_n 0, 1) := dcq_378.2.2.2.2.2.2.2.2.2.2.1
theorem dX6_advance_136 : decode cX6_advance 136 = .ok (.getfield 70, 3) := dcq_378.2.2.2.2.2.2.2.2.2.2.2
set_option maxRecDepth 20000 in
theorem dcb_379 : fd_B cX6_advance 139 [182, 0, 75, 184, 0, 79, 153, 0, 62, 42, 42, 180, 0, 70, 42, 180, 0, 73, 100, 16, 9, 162, 0, 28, 20, 0, 96] := fd_o cX6_advance 139 _ (by decide +kernel)
theorem dcq_379 : (decode cX6_advance 139 = .ok (.invokevirtual 75, 3)) ∧ (decode cX6_advance 142 = .ok (.invokestatic 79, 3)) ∧ (decode cX6_advance 145 = .ok (.ifCond .eq 62, 3)) ∧ (decode cX6_advance 148 = .ok (.aload_n 0, 1)) ∧ (decode cX6_advance 149 = .ok (.aload_n 0, 1)) ∧ (decode cX6_advance 150 = .ok (.getfield 70, 3)) ∧ (decode cX6_advance 153 = .ok (.aload_n 0, 1)) ∧ (decode cX6_advance 154 = .ok (.getfield 73, 3)) ∧ (decode cX6_advance 157 = .ok (.isub, 1)) ∧ (decode cX6_advance 158 = .ok (.bipush 9, 2)) ∧ (decode cX6_advance 160 = .ok (.if_icmp .ge 28, 3)) ∧ (decode cX6_advance 163 = .ok (.ldc2_w 96, 3)) := have h := dcb_379; ⟨fd_182 h rfl, have h := fd_t3 h; ⟨fd_184 h rfl, have h := fd_t3 h; ⟨fd_153 h (by decide +kernel), have h := fd_t3 h; ⟨fd_42 h, have h := fd_t1 h; ⟨fd_42 h, have h := fd_t1 h; ⟨fd_180 h rfl, have h := fd_t3 h; ⟨fd_42 h, have h := fd_t1 h; ⟨fd_180 h rfl, have h := fd_t3 h; ⟨fd_100 h, have h := fd_t1 h; ⟨fd_16 h (by decide +kernel), have h := fd_t2 h; ⟨fd_162 h (by decide +kernel), have h := fd_t3 h; fd_20 h rfl⟩⟩⟩⟩⟩⟩⟩⟩⟩⟩⟩
theorem dX6_advance_139 : decode cX6_advance 139 = .ok (.invokevirtual 75, 3) := dcq_379.1
theorem dX6_advance_142 : decode cX6_advance 142 = .ok (.invokestatic 79, 3) := dcq_379.2.1
theorem dX6_advance_145 : decode cX6_advance 145 = .ok (.ifCond .eq 62, 3) := dcq_379.2.2.1
theorem dX6_advance_148 : decode cX6_advance 148 = .ok (.aload_n 0, 1) := dcq_379.2.2.2.1
theorem dX6_advance_149 : decode cX6_advance 149 = .ok (.aload_n 0, 1) := dcq_379.2.2.2.2.1
theorem dX6_advance_150 : decode cX6_advance 150 = .ok (.getfield 70, 3) := dcq_379.2.2.2.2.2.1
theorem dX6_advance_153 : decode cX6_advance 153 = .ok (.aload_n 0, 1) := dcq_379.2.2.2.2.2.2.1
theorem dX6_advance_154 : decode cX6_advance 154 = .ok (.getfield 73, 3) := dcq_379.2.2.2.2.2.2.2.1
theorem dX6_advance_157 : decode cX6_advance 157 = .ok (.isub, 1) := dcq_379.2.2.2.2.2.2.2.2.1
theorem dX6_advance_158 : decode cX6_advance 158 = .ok (.bipush 9, 2) := dcq_379.2.2.2.2.2.2.2.2.2.1
theorem dX6_advance_160 : decode cX6_advance 160 = .ok (.if_icmp .ge 28, 3) := dcq_379.2.2.2.2.2.2.2.2.2.2.1
theorem dX6_advance_163 : decode cX6_advance 163 = .ok (.ldc2_w 96, 3) := dcq_379.2.2.2.2.2.2.2.2.2.2.2
set_option maxRecDepth 20000 in
theorem dcb_380 : fd_B cX6_advance 166 [42, 180, 0, 89, 105, 42, 42, 180, 0, 70, 182, 0, 75, 133, 97, 20, 0, 98, 101, 167, 0, 6] := fd_o cX6_advance 166 _ (by decide +kernel)
theorem dcq_380 : (decode cX6_advance 166 = .ok (.aload_n 0, 1)) ∧ (decode cX6_advance 167 = .ok (.getfield 89, 3)) ∧ (decode cX6_advance 170 = .ok (.lmul, 1)) ∧ (decode cX6_advance 171 = .ok (.aload_n 0, 1)) ∧ (decode cX6_advance 172 = .ok (.aload_n 0, 1)) ∧ (decode cX6_advance 173 = .ok (.getfield 70, 3)) ∧ (decode cX6_advance 176 = .ok (.invokevirtual 75, 3)) ∧ (decode cX6_advance 179 = .ok (.i2l, 1)) ∧ (decode cX6_advance 180 = .ok (.ladd, 1)) ∧ (decode cX6_advance 181 = .ok (.ldc2_w 98, 3)) ∧ (decode cX6_advance 184 = .ok (.lsub, 1)) ∧ (decode cX6_advance 185 = .ok (.goto 6, 3)) := have h := dcb_380; ⟨fd_42 h, have h := fd_t1 h; ⟨fd_180 h rfl, have h := fd_t3 h; ⟨fd_105 h, have h := fd_t1 h; ⟨fd_42 h, have h := fd_t1 h; ⟨fd_42 h, have h := fd_t1 h; ⟨fd_180 h rfl, have h := fd_t3 h; ⟨fd_182 h rfl, have h := fd_t3 h; ⟨fd_133 h, have h := fd_t1 h; ⟨fd_97 h, have h := fd_t1 h; ⟨fd_20 h rfl, have h := fd_t3 h; ⟨fd_101 h, have h := fd_t1 h; fd_167 h (by decide +kernel)⟩⟩⟩⟩⟩⟩⟩⟩⟩⟩⟩
theorem dX6_advance_166 : decode cX6_advance 166 = .ok (.aload_n 0, 1) := dcq_380.1
theorem dX6_advance_167 : decode cX6_advance 167 = .ok (.getfield 89, 3) := dcq_380.2.1
theorem dX6_advance_170 : decode cX6_advance 170 = .ok (.lmul, 1) := dcq_380.2.2.1
theorem dX6_advance_171 : decode cX6_advance 171 = .ok (.aload_n 0, 1) := dcq_380.2.2.2.1
theorem dX6_advance_172 : decode cX6_advance 172 = .ok (.aload_n 0, 1) := dcq_380.2.2.2.2.1
theorem dX6_advance_173 : decode cX6_advance 173 = .ok (.getfield 70, 3) := dcq_380.2.2.2.2.2.1
theorem dX6_advance_176 : decode cX6_advance 176 = .ok (.invokevirtual 75, 3) := dcq_380.2.2.2.2.2.2.1
theorem dX6_advance_179 : decode cX6_advance 179 = .ok (.i2l, 1) := dcq_380.2.2.2.2.2.2.2.1
theorem dX6_advance_180 : decode cX6_advance 180 = .ok (.ladd, 1) := dcq_380.2.2.2.2.2.2.2.2.1
theorem dX6_advance_181 : decode cX6_advance 181 = .ok (.ldc2_w 98, 3) := dcq_380.2.2.2.2.2.2.2.2.2.1
theorem dX6_advance_184 : decode cX6_advance 184 = .ok (.lsub, 1) := dcq_380.2.2.2.2.2.2.2.2.2.2.1
theorem dX6_advance_185 : decode cX6_advance 185 = .ok (.goto 6, 3) := dcq_380.2.2.2.2.2.2.2.2.2.2.2
set_option maxRecDepth 20000 in
theorem dcb_381 : fd_B cX6_advance 188 [20, 0, 100, 181, 0, 89, 42, 89, 180, 0, 70, 4, 96, 181, 0, 70, 167, 255, 178, 42, 180, 0, 86, 5] := fd_o cX6_advance 188 _ (by decide +kernel)
theorem dcq_381 : (decode cX6_advance 188 = .ok (.ldc2_w 100, 3)) ∧ (decode cX6_advance 191 = .ok (.putfield 89, 3)) ∧ (decode cX6_advance 194 = .ok (.aload_n 0, 1)) ∧ (decode cX6_advance 195 = .ok (.dup, 1)) ∧ (decode cX6_advance 196 = .ok (.getfield 70, 3)) ∧ (decode cX6_advance 199 = .ok (.iconst 1, 1)) ∧ (decode cX6_advance 200 = .ok (.iadd, 1)) ∧ (decode cX6_advance 201 = .ok (.putfield 70, 3)) ∧ (decode cX6_advance 204 = .ok (.goto (-78), 3)) ∧ (decode cX6_advance 207 = .ok (.aload_n 0, 1)) ∧ (decode cX6_advance 208 = .ok (.getfield 86, 3)) ∧ (decode cX6_advance 211 = .ok (.iconst 2, 1)) := have h := dcb_381; ⟨fd_20 h rfl, have h := fd_t3 h; ⟨fd_181 h rfl, have h := fd_t3 h; ⟨fd_42 h, have h := fd_t1 h; ⟨fd_89 h, have h := fd_t1 h; ⟨fd_180 h rfl, have h := fd_t3 h; ⟨fd_4 h, have h := fd_t1 h; ⟨fd_96 h, have h := fd_t1 h; ⟨fd_181 h rfl, have h := fd_t3 h; ⟨fd_167 h (by decide +kernel), have h := fd_t3 h; ⟨fd_42 h, have h := fd_t1 h; ⟨fd_180 h rfl, have h := fd_t3 h; fd_5 h⟩⟩⟩⟩⟩⟩⟩⟩⟩⟩⟩
theorem dX6_advance_188 : decode cX6_advance 188 = .ok (.ldc2_w 100, 3) := dcq_381.1
theorem dX6_advance_191 : decode cX6_advance 191 = .ok (.putfield 89, 3) := dcq_381.2.1
theorem dX6_advance_194 : decode cX6_advance 194 = .ok (.aload_n 0, 1) := dcq_381.2.2.1
theorem dX6_advance_195 : decode cX6_advance 195 = .ok (.dup, 1) := dcq_381.2.2.2.1
theorem dX6_advance_196 : decode cX6_advance 196 = .ok (.getfield 70, 3) := dcq_381.2.2.2.2.1
theorem dX6_advance_199 : decode cX6_advance 199 = .ok (.iconst 1, 1) := dcq_381.2.2.2.2.2.1
theorem dX6_advance_200 : decode cX6_advance 200 = .ok (.iadd, 1) := dcq_381.2.2.2.2.2.2.1
theorem dX6_advance_201 : decode cX6_advance 201 = .ok (.putfield 70, 3) := dcq_381.2.2.2.2.2.2.2.1
theorem dX6_advance_204 : decode cX6_advance 204 = .ok (.goto (-78), 3) := dcq_381.2.2.2.2.2.2.2.2.1
theorem dX6_advance_207 : decode cX6_advance 207 = .ok (.aload_n 0, 1) := dcq_381.2.2.2.2.2.2.2.2.2.1
theorem dX6_advance_208 : decode cX6_advance 208 = .ok (.getfield 86, 3) := dcq_381.2.2.2.2.2.2.2.2.2.2.1
theorem dX6_advance_211 : decode cX6_advance 211 = .ok (.iconst 2, 1) := dcq_381.2.2.2.2.2.2.2.2.2.2.2
set_option maxRecDepth 20000 in
theorem dcb_382 : fd_B cX6_advance 212 [160, 0, 70, 42, 42, 180, 0, 70, 182, 0, 75, 184, 0, 83, 153, 0, 56, 42, 42, 180, 0, 70, 42, 180, 0, 73] := fd_o cX6_advance 212 _ (by decide +kernel)
theorem dcq_382 : (decode cX6_advance 212 = .ok (.if_icmp .ne 70, 3)) ∧ (decode cX6_advance 215 = .ok (.aload_n 0, 1)) ∧ (decode cX6_advance 216 = .ok (.aload_n 0, 1)) ∧ (decode cX6_advance 217 = .ok (.getfield 70, 3)) ∧ (decode cX6_advance 220 = .ok (.invokevirtual 75, 3)) ∧ (decode cX6_advance 223 = .ok (.invokestatic 83, 3)) ∧ (decode cX6_advance 226 = .ok (.ifCond .eq 56, 3)) ∧ (decode cX6_advance 229 = .ok (.aload_n 0, 1)) ∧ (decode cX6_advance 230 = .ok (.aload_n 0, 1)) ∧ (decode cX6_advance 231 = .ok (.getfield 70, 3)) ∧ (decode cX6_advance 234 = .ok (.aload_n 0, 1)) ∧ (decode cX6_advance 235 = .ok (.getfield 73, 3)) := have h := dcb_382; ⟨fd_160 h (by decide +kernel), have h := fd_t3 h; ⟨fd_42 h, have h := fd_t1 h; ⟨fd_42 h, have h := fd_t1 h; ⟨fd_180 h rfl, have h := fd_t3 h; ⟨fd_182 h rfl, have h := fd_t3 h; ⟨fd_184 h rfl, have h := fd_t3 h; ⟨fd_153 h (by decide +kernel), have h := fd_t3 h; ⟨fd_42 h, have h := fd_t1 h; ⟨fd_42 h, have h := fd_t1 h; ⟨fd_180 h rfl, have h := fd_t3 h; ⟨fd_42 h, have h := fd_t1 h; fd_180 h rfl⟩⟩⟩⟩⟩⟩⟩⟩⟩⟩⟩
theorem dX6_advance_212 : decode cX6_advance 212 = .ok (.if_icmp .ne 70, 3) := dcq_382.1
theorem dX6_advance_215 : decode cX6_advance 215 = .ok (.aload_n 0, 1) := dcq_382.2.1
theorem dX6_advance_216 : decode cX6_advance 216 = .ok (.aload_n 0, 1) := dcq_382.2.2.1
theorem dX6_advance_217 : decode cX6_advance 217 = .ok (.getfield 70, 3) := dcq_382.2.2.2.1
theorem dX6_advance_220 : decode cX6_advance 220 = .ok (.invokevirtual 75, 3) := dcq_382.2.2.2.2.1
theorem dX6_advance_223 : decode cX6_advance 223 = .ok (.invokestatic 83, 3) := dcq_382.2.2.2.2.2.1
theorem dX6_advance_226 : decode cX6_advance 226 = .ok (.ifCond .eq 56, 3) := dcq_382.2.2.2.2.2.2.1
theorem dX6_advance_229 : decode cX6_advance 229 = .ok (.aload_n 0, 1) := dcq_382.2.2.2.2.2.2.2.1
theorem dX6_advance_230 : decode cX6_advance 230 = .ok (.aload_n 0, 1) := dcq_382.2.2.2.2.2.2.2.2.1
theorem dX6_advance_231 : decode cX6_advance 231 = .ok (.getfield 70, 3) := dcq_382.2.2.2.2.2.2.2.2.2.1
theorem dX6_advance_234 : decode cX6_advance 234 = .ok (.aload_n 0, 1) := dcq_382.2.2.2.2.2.2.2.2.2.2.1
theorem dX6_advance_235 : decode cX6_advance 235 = .ok (.getfield 73, 3) := dcq_382.2.2.2.2.2.2.2.2.2.2.2
set_option maxRecDepth 20000 in
theorem dcb_383 : fd_B cX6_advance 238 [100, 6, 162, 0, 25, 16, 10, 42, 180, 0, 93, 104, 42, 42, 180, 0, 70, 182, 0, 75, 96] := fd_o cX6_advance 238 _ (by decide +kernel)
theorem dcq_383 : (decode cX6_advance 238 = .ok (.isub, 1)) ∧ (decode cX6_advance 239 = .ok (.iconst 3, 1)) ∧ (decode cX6_advance 240 = .ok (.if_icmp .ge 25, 3)) ∧ (decode cX6_advance 243 = .ok (.bipush 10, 2)) ∧ (decode cX6_advance 245 = .ok (.aload_n 0, 1)) ∧ (decode cX6_advance 246 = .ok (.getfield 93, 3)) ∧ (decode cX6_advance 249 = .ok (.imul, 1)) ∧ (decode cX6_advance 250 = .ok (.aload_n 0, 1)) ∧ (decode cX6_advance 251 = .ok (.aload_n 0, 1)) ∧ (decode cX6_advance 252 = .ok (.getfield 70, 3)) ∧ (decode cX6_advance 255 = .ok (.invokevirtual 75, 3)) ∧ (decode cX6_advance 258 = .ok (.iadd, 1)) := have h := dcb_383; ⟨fd_100 h, have h := fd_t1 h; ⟨fd_6 h, have h := fd_t1 h; ⟨fd_162 h (by decide +kernel), have h := fd_t3 h; ⟨fd_16 h (by decide +kernel), have h := fd_t2 h; ⟨fd_42 h, have h := fd_t1 h; ⟨fd_180 h rfl, have h := fd_t3 h; ⟨fd_104 h, have h := fd_t1 h; ⟨fd_42 h, have h := fd_t1 h; ⟨fd_42 h, have h := fd_t1 h; ⟨fd_180 h rfl, have h := fd_t3 h; ⟨fd_182 h rfl, have h := fd_t3 h; fd_96 h⟩⟩⟩⟩⟩⟩⟩⟩⟩⟩⟩
theorem dX6_advance_238 : decode cX6_advance 238 = .ok (.isub, 1) := dcq_383.1
theorem dX6_advance_239 : decode cX6_advance 239 = .ok (.iconst 3, 1) := dcq_383.2.1
theorem dX6_advance_240 : decode cX6_advance 240 = .ok (.if_icmp .ge 25, 3) := dcq_383.2.2.1
theorem dX6_advance_243 : decode cX6_advance 243 = .ok (.bipush 10, 2) := dcq_383.2.2.2.1
theorem dX6_advance_245 : decode cX6_advance 245 = .ok (.aload_n 0, 1) := dcq_383.2.2.2.2.1
theorem dX6_advance_246 : decode cX6_advance 246 = .ok (.getfield 93, 3) := dcq_383.2.2.2.2.2.1
theorem dX6_advance_249 : decode cX6_advance 249 = .ok (.imul, 1) := dcq_383.2.2.2.2.2.2.1
theorem dX6_advance_250 : decode cX6_advance 250 = .ok (.aload_n 0, 1) := dcq_383.2.2.2.2.2.2.2.1
theorem dX6_advance_251 : decode cX6_advance 251 = .ok (.aload_n 0, 1) := dcq_383.2.2.2.2.2.2.2.2.1
theorem dX6_advance_252 : decode cX6_advance 252 = .ok (.getfield 70, 3) := dcq_383.2.2.2.2.2.2.2.2.2.1
theorem dX6_advance_255 : decode cX6_advance 255 = .ok (.invokevirtual 75, 3) := dcq_383.2.2.2.2.2.2.2.2.2.2.1
theorem dX6_advance_258 : decode cX6_advance 258 = .ok (.iadd, 1) := dcq_383.2.2.2.2.2.2.2.2.2.2.2
set_option maxRecDepth 20000 in
theorem dcb_384 : fd_B cX6_advance 259 [16, 48, 100, 167, 0, 4, 2, 181, 0, 93, 42, 89, 180, 0, 70, 4, 96, 181, 0, 70, 167, 255, 184] := fd_o cX6_advance 259 _ (by decide +kernel)
theorem dcq_384 : (decode cX6_advance 259 = .ok (.bipush 48, 2)) ∧ (decode cX6_advance 261 = .ok (.isub, 1)) ∧ (decode cX6_advance 262 = .ok (.goto 4, 3)) ∧ (decode cX6_advance 265 = .ok (.iconst (-1), 1)) ∧ (decode cX6_advance 266 = .ok (.putfield 93, 3)) ∧ (decode cX6_advance 269 = .ok (.aload_n 0, 1)) ∧ (decode cX6_advance 270 = .ok (.dup, 1)) ∧ (decode cX6_advance 271 = .ok (.getfield 70, 3)) ∧ (decode cX6_advance 274 = .ok (.iconst 1, 1)) ∧ (decode cX6_advance 275 = .ok (.iadd, 1)) ∧ (decode cX6_advance 276 = .ok (.putfield 70, 3)) ∧ (decode cX6_advance 279 = .ok (.goto (-72), 3)) := have h := dcb_384; ⟨fd_16 h (by decide +kernel), have h := fd_t2 h; ⟨fd_100 h, have h := fd_t1 h; ⟨fd_167 h (by decide +kernel), have h := fd_t3 h; ⟨fd_2 h, have h := fd_t1 h; ⟨fd_181 h rfl, have h := fd_t3 h; ⟨fd_42 h, have h := fd_t1 h; ⟨fd_89 h, have h := fd_t1 h; ⟨fd_180 h rfl, have h := fd_t3 h; ⟨fd_4 h, have h := fd_t1 h; ⟨fd_96 h, have h := fd_t1 h; ⟨fd_181 h rfl, have h := fd_t3 h; fd_167 h (by decide +kernel)⟩⟩⟩⟩⟩⟩⟩⟩⟩⟩⟩
theorem dX6_advance_259 : decode cX6_advance 259 = .ok (.bipush 48, 2) := dcq_384.1
theorem dX6_advance_261 : decode cX6_advance 261 = .ok (.isub, 1) := dcq_384.2.1
theorem dX6_advance_262 : decode cX6_advance 262 = .ok (.goto 4, 3) := dcq_384.2.2.1
theorem dX6_advance_265 : decode cX6_advance 265 = .ok (.iconst (-1), 1) := dcq_384.2.2.2.1
theorem dX6_advance_266 : decode cX6_advance 266 = .ok (.putfield 93, 3) := dcq_384.2.2.2.2.1
theorem dX6_advance_269 : decode cX6_advance 269 = .ok (.aload_n 0, 1) := dcq_384.2.2.2.2.2.1
theorem dX6_advance_270 : decode cX6_advance 270 = .ok (.dup, 1) := dcq_384.2.2.2.2.2.2.1
theorem dX6_advance_271 : decode cX6_advance 271 = .ok (.getfield 70, 3) := dcq_384.2.2.2.2.2.2.2.1
theorem dX6_advance_274 : decode cX6_advance 274 = .ok (.iconst 1, 1) := dcq_384.2.2.2.2.2.2.2.2.1
theorem dX6_advance_275 : decode cX6_advance 275 = .ok (.iadd, 1) := dcq_384.2.2.2.2.2.2.2.2.2.1
theorem dX6_advance_276 : decode cX6_advance 276 = .ok (.putfield 70, 3) := dcq_384.2.2.2.2.2.2.2.2.2.2.1
theorem dX6_advance_279 : decode cX6_advance 279 = .ok (.goto (-72), 3) := dcq_384.2.2.2.2.2.2.2.2.2.2.2
set_option maxRecDepth 20000 in
theorem dcb_385 : fd_B cX6_advance 282 [177] := fd_o cX6_advance 282 _ (by decide +kernel)
theorem dX6_advance_282 : decode cX6_advance 282 = .ok (.return_, 1) := fd_177 dcb_385
set_option maxRecDepth 20000 in
theorem dcb_386 : fd_B cX6_isWord 0 [42, 180, 0, 86, 4, 160, 0, 16, 42, 180, 0, 89, 31, 148, 154, 0, 7, 4, 167, 0, 4, 3] := fd_o cX6_isWord 0 _ (by decide +kernel)
theorem dcq_386 : (decode cX6_isWord 0 = .ok (.aload_n 0, 1)) ∧ (decode cX6_isWord 1 = .ok (.getfield 86, 3)) ∧ (decode cX6_isWord 4 = .ok (.iconst 1, 1)) ∧ (decode cX6_isWord 5 = .ok (.if_icmp .ne 16, 3)) ∧ (decode cX6_isWord 8 = .ok (.aload_n 0, 1)) ∧ (decode cX6_isWord 9 = .ok (.getfield 89, 3)) ∧ (decode cX6_isWord 12 = .ok (.lload_n 1, 1)) ∧ (decode cX6_isWord 13 = .ok (.lcmp, 1)) ∧ (decode cX6_isWord 14 = .ok (.ifCond .ne 7, 3)) ∧ (decode cX6_isWord 17 = .ok (.iconst 1, 1)) ∧ (decode cX6_isWord 18 = .ok (.goto 4, 3)) ∧ (decode cX6_isWord 21 = .ok (.iconst 0, 1)) := have h := dcb_386; ⟨fd_42 h, have h := fd_t1 h; ⟨fd_180 h rfl, have h := fd_t3 h; ⟨fd_4 h, have h := fd_t1 h; ⟨fd_160 h (by decide +kernel), have h := fd_t3 h; ⟨fd_42 h, have h := fd_t1 h; ⟨fd_180 h rfl, have h := fd_t3 h; ⟨fd_31 h, have h := fd_t1 h; ⟨fd_148 h, have h := fd_t1 h; ⟨fd_154 h (by decide +kernel), have h := fd_t3 h; ⟨fd_4 h, have h := fd_t1 h; ⟨fd_167 h (by decide +kernel), have h := fd_t3 h; fd_3 h⟩⟩⟩⟩⟩⟩⟩⟩⟩⟩⟩
theorem dX6_isWord_0 : decode cX6_isWord 0 = .ok (.aload_n 0, 1) := dcq_386.1
theorem dX6_isWord_1 : decode cX6_isWord 1 = .ok (.getfield 86, 3) := dcq_386.2.1
theorem dX6_isWord_4 : decode cX6_isWord 4 = .ok (.iconst 1, 1) := dcq_386.2.2.1
theorem dX6_isWord_5 : decode cX6_isWord 5 = .ok (.if_icmp .ne 16, 3) := dcq_386.2.2.2.1
theorem dX6_isWord_8 : decode cX6_isWord 8 = .ok (.aload_n 0, 1) := dcq_386.2.2.2.2.1
theorem dX6_isWord_9 : decode cX6_isWord 9 = .ok (.getfield 89, 3) := dcq_386.2.2.2.2.2.1
theorem dX6_isWord_12 : decode cX6_isWord 12 = .ok (.lload_n 1, 1) := dcq_386.2.2.2.2.2.2.1
theorem dX6_isWord_13 : decode cX6_isWord 13 = .ok (.lcmp, 1) := dcq_386.2.2.2.2.2.2.2.1
theorem dX6_isWord_14 : decode cX6_isWord 14 = .ok (.ifCond .ne 7, 3) := dcq_386.2.2.2.2.2.2.2.2.1
theorem dX6_isWord_17 : decode cX6_isWord 17 = .ok (.iconst 1, 1) := dcq_386.2.2.2.2.2.2.2.2.2.1
theorem dX6_isWord_18 : decode cX6_isWord 18 = .ok (.goto 4, 3) := dcq_386.2.2.2.2.2.2.2.2.2.2.1
theorem dX6_isWord_21 : decode cX6_isWord 21 = .ok (.iconst 0, 1) := dcq_386.2.2.2.2.2.2.2.2.2.2.2
set_option maxRecDepth 20000 in
theorem dcb_387 : fd_B cX6_isWord 22 [172] := fd_o cX6_isWord 22 _ (by decide +kernel)
theorem dX6_isWord_22 : decode cX6_isWord 22 = .ok (.ireturn, 1) := fd_172 dcb_387
set_option maxRecDepth 20000 in
theorem dcb_388 : fd_B cX6_isMark 0 [42, 180, 0, 86, 6, 160, 0, 15, 42, 180, 0, 93, 27, 160, 0, 7, 4, 167, 0, 4, 3, 172] := fd_o cX6_isMark 0 _ (by decide +kernel)
theorem dcq_388 : (decode cX6_isMark 0 = .ok (.aload_n 0, 1)) ∧ (decode cX6_isMark 1 = .ok (.getfield 86, 3)) ∧ (decode cX6_isMark 4 = .ok (.iconst 3, 1)) ∧ (decode cX6_isMark 5 = .ok (.if_icmp .ne 15, 3)) ∧ (decode cX6_isMark 8 = .ok (.aload_n 0, 1)) ∧ (decode cX6_isMark 9 = .ok (.getfield 93, 3)) ∧ (decode cX6_isMark 12 = .ok (.iload_n 1, 1)) ∧ (decode cX6_isMark 13 = .ok (.if_icmp .ne 7, 3)) ∧ (decode cX6_isMark 16 = .ok (.iconst 1, 1)) ∧ (decode cX6_isMark 17 = .ok (.goto 4, 3)) ∧ (decode cX6_isMark 20 = .ok (.iconst 0, 1)) ∧ (decode cX6_isMark 21 = .ok (.ireturn, 1)) := have h := dcb_388; ⟨fd_42 h, have h := fd_t1 h; ⟨fd_180 h rfl, have h := fd_t3 h; ⟨fd_6 h, have h := fd_t1 h; ⟨fd_160 h (by decide +kernel), have h := fd_t3 h; ⟨fd_42 h, have h := fd_t1 h; ⟨fd_180 h rfl, have h := fd_t3 h; ⟨fd_27 h, have h := fd_t1 h; ⟨fd_160 h (by decide +kernel), have h := fd_t3 h; ⟨fd_4 h, have h := fd_t1 h; ⟨fd_167 h (by decide +kernel), have h := fd_t3 h; ⟨fd_3 h, have h := fd_t1 h; fd_172 h⟩⟩⟩⟩⟩⟩⟩⟩⟩⟩⟩
theorem dX6_isMark_0 : decode cX6_isMark 0 = .ok (.aload_n 0, 1) := dcq_388.1
theorem dX6_isMark_1 : decode cX6_isMark 1 = .ok (.getfield 86, 3) := dcq_388.2.1
theorem dX6_isMark_4 : decode cX6_isMark 4 = .ok (.iconst 3, 1) := dcq_388.2.2.1
theorem dX6_isMark_5 : decode cX6_isMark 5 = .ok (.if_icmp .ne 15, 3) := dcq_388.2.2.2.1
theorem dX6_isMark_8 : decode cX6_isMark 8 = .ok (.aload_n 0, 1) := dcq_388.2.2.2.2.1
theorem dX6_isMark_9 : decode cX6_isMark 9 = .ok (.getfield 93, 3) := dcq_388.2.2.2.2.2.1
theorem dX6_isMark_12 : decode cX6_isMark 12 = .ok (.iload_n 1, 1) := dcq_388.2.2.2.2.2.2.1
theorem dX6_isMark_13 : decode cX6_isMark 13 = .ok (.if_icmp .ne 7, 3) := dcq_388.2.2.2.2.2.2.2.1
theorem dX6_isMark_16 : decode cX6_isMark 16 = .ok (.iconst 1, 1) := dcq_388.2.2.2.2.2.2.2.2.1
theorem dX6_isMark_17 : decode cX6_isMark 17 = .ok (.goto 4, 3) := dcq_388.2.2.2.2.2.2.2.2.2.1
theorem dX6_isMark_20 : decode cX6_isMark 20 = .ok (.iconst 0, 1) := dcq_388.2.2.2.2.2.2.2.2.2.2.1
theorem dX6_isMark_21 : decode cX6_isMark 21 = .ok (.ireturn, 1) := dcq_388.2.2.2.2.2.2.2.2.2.2.2
set_option maxRecDepth 20000 in
theorem dcb_389 : fd_B cX6_kindHere 0 [42, 20, 0, 102, 182, 0, 104, 153, 0, 7, 3, 167, 0, 74, 42, 20, 0, 108, 182, 0, 104, 153, 0, 7, 4, 167, 0, 60] := fd_o cX6_kindHere 0 _ (by decide +kernel)
theorem dcq_389 : (decode cX6_kindHere 0 = .ok (.aload_n 0, 1)) ∧ (decode cX6_kindHere 1 = .ok (.ldc2_w 102, 3)) ∧ (decode cX6_kindHere 4 = .ok (.invokevirtual 104, 3)) ∧ (decode cX6_kindHere 7 = .ok (.ifCond .eq 7, 3)) ∧ (decode cX6_kindHere 10 = .ok (.iconst 0, 1)) ∧ (decode cX6_kindHere 11 = .ok (.goto 74, 3)) ∧ (decode cX6_kindHere 14 = .ok (.aload_n 0, 1)) ∧ (decode cX6_kindHere 15 = .ok (.ldc2_w 108, 3)) ∧ (decode cX6_kindHere 18 = .ok (.invokevirtual 104, 3)) ∧ (decode cX6_kindHere 21 = .ok (.ifCond .eq 7, 3)) ∧ (decode cX6_kindHere 24 = .ok (.iconst 1, 1)) ∧ (decode cX6_kindHere 25 = .ok (.goto 60, 3)) := have h := dcb_389; ⟨fd_42 h, have h := fd_t1 h; ⟨fd_20 h rfl, have h := fd_t3 h; ⟨fd_182 h rfl, have h := fd_t3 h; ⟨fd_153 h (by decide +kernel), have h := fd_t3 h; ⟨fd_3 h, have h := fd_t1 h; ⟨fd_167 h (by decide +kernel), have h := fd_t3 h; ⟨fd_42 h, have h := fd_t1 h; ⟨fd_20 h rfl, have h := fd_t3 h; ⟨fd_182 h rfl, have h := fd_t3 h; ⟨fd_153 h (by decide +kernel), have h := fd_t3 h; ⟨fd_4 h, have h := fd_t1 h; fd_167 h (by decide +kernel)⟩⟩⟩⟩⟩⟩⟩⟩⟩⟩⟩
theorem dX6_kindHere_0 : decode cX6_kindHere 0 = .ok (.aload_n 0, 1) := dcq_389.1
theorem dX6_kindHere_1 : decode cX6_kindHere 1 = .ok (.ldc2_w 102, 3) := dcq_389.2.1
theorem dX6_kindHere_4 : decode cX6_kindHere 4 = .ok (.invokevirtual 104, 3) := dcq_389.2.2.1
theorem dX6_kindHere_7 : decode cX6_kindHere 7 = .ok (.ifCond .eq 7, 3) := dcq_389.2.2.2.1
theorem dX6_kindHere_10 : decode cX6_kindHere 10 = .ok (.iconst 0, 1) := dcq_389.2.2.2.2.1
theorem dX6_kindHere_11 : decode cX6_kindHere 11 = .ok (.goto 74, 3) := dcq_389.2.2.2.2.2.1
theorem dX6_kindHere_14 : decode cX6_kindHere 14 = .ok (.aload_n 0, 1) := dcq_389.2.2.2.2.2.2.1
theorem dX6_kindHere_15 : decode cX6_kindHere 15 = .ok (.ldc2_w 108, 3) := dcq_389.2.2.2.2.2.2.2.1
theorem dX6_kindHere_18 : decode cX6_kindHere 18 = .ok (.invokevirtual 104, 3) := dcq_389.2.2.2.2.2.2.2.2.1
theorem dX6_kindHere_21 : decode cX6_kindHere 21 = .ok (.ifCond .eq 7, 3) := dcq_389.2.2.2.2.2.2.2.2.2.1
theorem dX6_kindHere_24 : decode cX6_kindHere 24 = .ok (.iconst 1, 1) := dcq_389.2.2.2.2.2.2.2.2.2.2.1
theorem dX6_kindHere_25 : decode cX6_kindHere 25 = .ok (.goto 60, 3) := dcq_389.2.2.2.2.2.2.2.2.2.2.2
set_option maxRecDepth 20000 in
theorem dcb_390 : fd_B cX6_kindHere 28 [42, 20, 0, 110, 182, 0, 104, 153, 0, 7, 5, 167, 0, 46, 42, 20, 0, 112, 182, 0, 104, 153, 0, 7, 6, 167, 0, 32] := fd_o cX6_kindHere 28 _ (by decide +kernel)
theorem dcq_390 : (decode cX6_kindHere 28 = .ok (.aload_n 0, 1)) ∧ (decode cX6_kindHere 29 = .ok (.ldc2_w 110, 3)) ∧ (decode cX6_kindHere 32 = .ok (.invokevirtual 104, 3)) ∧ (decode cX6_kindHere 35 = .ok (.ifCond .eq 7, 3)) ∧ (decode cX6_kindHere 38 = .ok (.iconst 2, 1)) ∧ (decode cX6_kindHere 39 = .ok (.goto 46, 3)) ∧ (decode cX6_kindHere 42 = .ok (.aload_n 0, 1)) ∧ (decode cX6_kindHere 43 = .ok (.ldc2_w 112, 3)) ∧ (decode cX6_kindHere 46 = .ok (.invokevirtual 104, 3)) ∧ (decode cX6_kindHere 49 = .ok (.ifCond .eq 7, 3)) ∧ (decode cX6_kindHere 52 = .ok (.iconst 3, 1)) ∧ (decode cX6_kindHere 53 = .ok (.goto 32, 3)) := have h := dcb_390; ⟨fd_42 h, have h := fd_t1 h; ⟨fd_20 h rfl, have h := fd_t3 h; ⟨fd_182 h rfl, have h := fd_t3 h; ⟨fd_153 h (by decide +kernel), have h := fd_t3 h; ⟨fd_5 h, have h := fd_t1 h; ⟨fd_167 h (by decide +kernel), have h := fd_t3 h; ⟨fd_42 h, have h := fd_t1 h; ⟨fd_20 h rfl, have h := fd_t3 h; ⟨fd_182 h rfl, have h := fd_t3 h; ⟨fd_153 h (by decide +kernel), have h := fd_t3 h; ⟨fd_6 h, have h := fd_t1 h; fd_167 h (by decide +kernel)⟩⟩⟩⟩⟩⟩⟩⟩⟩⟩⟩
theorem dX6_kindHere_28 : decode cX6_kindHere 28 = .ok (.aload_n 0, 1) := dcq_390.1
theorem dX6_kindHere_29 : decode cX6_kindHere 29 = .ok (.ldc2_w 110, 3) := dcq_390.2.1
theorem dX6_kindHere_32 : decode cX6_kindHere 32 = .ok (.invokevirtual 104, 3) := dcq_390.2.2.1
theorem dX6_kindHere_35 : decode cX6_kindHere 35 = .ok (.ifCond .eq 7, 3) := dcq_390.2.2.2.1
theorem dX6_kindHere_38 : decode cX6_kindHere 38 = .ok (.iconst 2, 1) := dcq_390.2.2.2.2.1
theorem dX6_kindHere_39 : decode cX6_kindHere 39 = .ok (.goto 46, 3) := dcq_390.2.2.2.2.2.1
theorem dX6_kindHere_42 : decode cX6_kindHere 42 = .ok (.aload_n 0, 1) := dcq_390.2.2.2.2.2.2.1
theorem dX6_kindHere_43 : decode cX6_kindHere 43 = .ok (.ldc2_w 112, 3) := dcq_390.2.2.2.2.2.2.2.1
theorem dX6_kindHere_46 : decode cX6_kindHere 46 = .ok (.invokevirtual 104, 3) := dcq_390.2.2.2.2.2.2.2.2.1
theorem dX6_kindHere_49 : decode cX6_kindHere 49 = .ok (.ifCond .eq 7, 3) := dcq_390.2.2.2.2.2.2.2.2.2.1
theorem dX6_kindHere_52 : decode cX6_kindHere 52 = .ok (.iconst 3, 1) := dcq_390.2.2.2.2.2.2.2.2.2.2.1
theorem dX6_kindHere_53 : decode cX6_kindHere 53 = .ok (.goto 32, 3) := dcq_390.2.2.2.2.2.2.2.2.2.2.2
set_option maxRecDepth 20000 in
theorem dcb_391 : fd_B cX6_kindHere 56 [42, 20, 0, 114, 182, 0, 104, 153, 0, 7, 7, 167, 0, 18, 42, 20, 0, 116, 182, 0, 104, 153, 0, 7, 8, 167, 0, 4] := fd_o cX6_kindHere 56 _ (by decide +kernel)
theorem dcq_391 : (decode cX6_kindHere 56 = .ok (.aload_n 0, 1)) ∧ (decode cX6_kindHere 57 = .ok (.ldc2_w 114, 3)) ∧ (decode cX6_kindHere 60 = .ok (.invokevirtual 104, 3)) ∧ (decode cX6_kindHere 63 = .ok (.ifCond .eq 7, 3)) ∧ (decode cX6_kindHere 66 = .ok (.iconst 4, 1)) ∧ (decode cX6_kindHere 67 = .ok (.goto 18, 3)) ∧ (decode cX6_kindHere 70 = .ok (.aload_n 0, 1)) ∧ (decode cX6_kindHere 71 = .ok (.ldc2_w 116, 3)) ∧ (decode cX6_kindHere 74 = .ok (.invokevirtual 104, 3)) ∧ (decode cX6_kindHere 77 = .ok (.ifCond .eq 7, 3)) ∧ (decode cX6_kindHere 80 = .ok (.iconst 5, 1)) ∧ (decode cX6_kindHere 81 = .ok (.goto 4, 3)) := have h := dcb_391; ⟨fd_42 h, have h := fd_t1 h; ⟨fd_20 h rfl, have h := fd_t3 h; ⟨fd_182 h rfl, have h := fd_t3 h; ⟨fd_153 h (by decide +kernel), have h := fd_t3 h; ⟨fd_7 h, have h := fd_t1 h; ⟨fd_167 h (by decide +kernel), have h := fd_t3 h; ⟨fd_42 h, have h := fd_t1 h; ⟨fd_20 h rfl, have h := fd_t3 h; ⟨fd_182 h rfl, have h := fd_t3 h; ⟨fd_153 h (by decide +kernel), have h := fd_t3 h; ⟨fd_8 h, have h := fd_t1 h; fd_167 h (by decide +kernel)⟩⟩⟩⟩⟩⟩⟩⟩⟩⟩⟩
theorem dX6_kindHere_56 : decode cX6_kindHere 56 = .ok (.aload_n 0, 1) := dcq_391.1
theorem dX6_kindHere_57 : decode cX6_kindHere 57 = .ok (.ldc2_w 114, 3) := dcq_391.2.1
theorem dX6_kindHere_60 : decode cX6_kindHere 60 = .ok (.invokevirtual 104, 3) := dcq_391.2.2.1
theorem dX6_kindHere_63 : decode cX6_kindHere 63 = .ok (.ifCond .eq 7, 3) := dcq_391.2.2.2.1
theorem dX6_kindHere_66 : decode cX6_kindHere 66 = .ok (.iconst 4, 1) := dcq_391.2.2.2.2.1
theorem dX6_kindHere_67 : decode cX6_kindHere 67 = .ok (.goto 18, 3) := dcq_391.2.2.2.2.2.1
theorem dX6_kindHere_70 : decode cX6_kindHere 70 = .ok (.aload_n 0, 1) := dcq_391.2.2.2.2.2.2.1
theorem dX6_kindHere_71 : decode cX6_kindHere 71 = .ok (.ldc2_w 116, 3) := dcq_391.2.2.2.2.2.2.2.1
theorem dX6_kindHere_74 : decode cX6_kindHere 74 = .ok (.invokevirtual 104, 3) := dcq_391.2.2.2.2.2.2.2.2.1
theorem dX6_kindHere_77 : decode cX6_kindHere 77 = .ok (.ifCond .eq 7, 3) := dcq_391.2.2.2.2.2.2.2.2.2.1
theorem dX6_kindHere_80 : decode cX6_kindHere 80 = .ok (.iconst 5, 1) := dcq_391.2.2.2.2.2.2.2.2.2.2.1
theorem dX6_kindHere_81 : decode cX6_kindHere 81 = .ok (.goto 4, 3) := dcq_391.2.2.2.2.2.2.2.2.2.2.2
set_option maxRecDepth 20000 in
theorem dcb_392 : fd_B cX6_kindHere 84 [2, 172] := fd_o cX6_kindHere 84 _ (by decide +kernel)
theorem dcq_392 : (decode cX6_kindHere 84 = .ok (.iconst (-1), 1)) ∧ (decode cX6_kindHere 85 = .ok (.ireturn, 1)) := have h := dcb_392; ⟨fd_2 h, have h := fd_t1 h; fd_172 h⟩
theorem dX6_kindHere_84 : decode cX6_kindHere 84 = .ok (.iconst (-1), 1) := dcq_392.1
theorem dX6_kindHere_85 : decode cX6_kindHere 85 = .ok (.ireturn, 1) := dcq_392.2
set_option maxRecDepth 20000 in
theorem dcb_393 : fd_B cX6_lawHere 0 [42, 20, 0, 118, 182, 0, 104, 153, 0, 7, 3, 167, 0, 46, 42, 20, 0, 120, 182, 0, 104, 153, 0, 7, 4, 167, 0, 32] := fd_o cX6_lawHere 0 _ (by decide +kernel)
theorem dcq_393 : (decode cX6_lawHere 0 = .ok (.aload_n 0, 1)) ∧ (decode cX6_lawHere 1 = .ok (.ldc2_w 118, 3)) ∧ (decode cX6_lawHere 4 = .ok (.invokevirtual 104, 3)) ∧ (decode cX6_lawHere 7 = .ok (.ifCond .eq 7, 3)) ∧ (decode cX6_lawHere 10 = .ok (.iconst 0, 1)) ∧ (decode cX6_lawHere 11 = .ok (.goto 46, 3)) ∧ (decode cX6_lawHere 14 = .ok (.aload_n 0, 1)) ∧ (decode cX6_lawHere 15 = .ok (.ldc2_w 120, 3)) ∧ (decode cX6_lawHere 18 = .ok (.invokevirtual 104, 3)) ∧ (decode cX6_lawHere 21 = .ok (.ifCond .eq 7, 3)) ∧ (decode cX6_lawHere 24 = .ok (.iconst 1, 1)) ∧ (decode cX6_lawHere 25 = .ok (.goto 32, 3)) := have h := dcb_393; ⟨fd_42 h, have h := fd_t1 h; ⟨fd_20 h rfl, have h := fd_t3 h; ⟨fd_182 h rfl, have h := fd_t3 h; ⟨fd_153 h (by decide +kernel), have h := fd_t3 h; ⟨fd_3 h, have h := fd_t1 h; ⟨fd_167 h (by decide +kernel), have h := fd_t3 h; ⟨fd_42 h, have h := fd_t1 h; ⟨fd_20 h rfl, have h := fd_t3 h; ⟨fd_182 h rfl, have h := fd_t3 h; ⟨fd_153 h (by decide +kernel), have h := fd_t3 h; ⟨fd_4 h, have h := fd_t1 h; fd_167 h (by decide +kernel)⟩⟩⟩⟩⟩⟩⟩⟩⟩⟩⟩
theorem dX6_lawHere_0 : decode cX6_lawHere 0 = .ok (.aload_n 0, 1) := dcq_393.1
theorem dX6_lawHere_1 : decode cX6_lawHere 1 = .ok (.ldc2_w 118, 3) := dcq_393.2.1
theorem dX6_lawHere_4 : decode cX6_lawHere 4 = .ok (.invokevirtual 104, 3) := dcq_393.2.2.1
theorem dX6_lawHere_7 : decode cX6_lawHere 7 = .ok (.ifCond .eq 7, 3) := dcq_393.2.2.2.1
theorem dX6_lawHere_10 : decode cX6_lawHere 10 = .ok (.iconst 0, 1) := dcq_393.2.2.2.2.1
theorem dX6_lawHere_11 : decode cX6_lawHere 11 = .ok (.goto 46, 3) := dcq_393.2.2.2.2.2.1
theorem dX6_lawHere_14 : decode cX6_lawHere 14 = .ok (.aload_n 0, 1) := dcq_393.2.2.2.2.2.2.1
theorem dX6_lawHere_15 : decode cX6_lawHere 15 = .ok (.ldc2_w 120, 3) := dcq_393.2.2.2.2.2.2.2.1
theorem dX6_lawHere_18 : decode cX6_lawHere 18 = .ok (.invokevirtual 104, 3) := dcq_393.2.2.2.2.2.2.2.2.1
theorem dX6_lawHere_21 : decode cX6_lawHere 21 = .ok (.ifCond .eq 7, 3) := dcq_393.2.2.2.2.2.2.2.2.2.1
theorem dX6_lawHere_24 : decode cX6_lawHere 24 = .ok (.iconst 1, 1) := dcq_393.2.2.2.2.2.2.2.2.2.2.1
theorem dX6_lawHere_25 : decode cX6_lawHere 25 = .ok (.goto 32, 3) := dcq_393.2.2.2.2.2.2.2.2.2.2.2
set_option maxRecDepth 20000 in
theorem dcb_394 : fd_B cX6_lawHere 28 [42, 20, 0, 122, 182, 0, 104, 153, 0, 7, 5, 167, 0, 18, 42, 20, 0, 124, 182, 0, 104, 153, 0, 7, 6, 167, 0, 4] := fd_o cX6_lawHere 28 _ (by decide +kernel)
theorem dcq_394 : (decode cX6_lawHere 28 = .ok (.aload_n 0, 1)) ∧ (decode cX6_lawHere 29 = .ok (.ldc2_w 122, 3)) ∧ (decode cX6_lawHere 32 = .ok (.invokevirtual 104, 3)) ∧ (decode cX6_lawHere 35 = .ok (.ifCond .eq 7, 3)) ∧ (decode cX6_lawHere 38 = .ok (.iconst 2, 1)) ∧ (decode cX6_lawHere 39 = .ok (.goto 18, 3)) ∧ (decode cX6_lawHere 42 = .ok (.aload_n 0, 1)) ∧ (decode cX6_lawHere 43 = .ok (.ldc2_w 124, 3)) ∧ (decode cX6_lawHere 46 = .ok (.invokevirtual 104, 3)) ∧ (decode cX6_lawHere 49 = .ok (.ifCond .eq 7, 3)) ∧ (decode cX6_lawHere 52 = .ok (.iconst 3, 1)) ∧ (decode cX6_lawHere 53 = .ok (.goto 4, 3)) := have h := dcb_394; ⟨fd_42 h, have h := fd_t1 h; ⟨fd_20 h rfl, have h := fd_t3 h; ⟨fd_182 h rfl, have h := fd_t3 h; ⟨fd_153 h (by decide +kernel), have h := fd_t3 h; ⟨fd_5 h, have h := fd_t1 h; ⟨fd_167 h (by decide +kernel), have h := fd_t3 h; ⟨fd_42 h, have h := fd_t1 h; ⟨fd_20 h rfl, have h := fd_t3 h; ⟨fd_182 h rfl, have h := fd_t3 h; ⟨fd_153 h (by decide +kernel), have h := fd_t3 h; ⟨fd_6 h, have h := fd_t1 h; fd_167 h (by decide +kernel)⟩⟩⟩⟩⟩⟩⟩⟩⟩⟩⟩
theorem dX6_lawHere_28 : decode cX6_lawHere 28 = .ok (.aload_n 0, 1) := dcq_394.1
theorem dX6_lawHere_29 : decode cX6_lawHere 29 = .ok (.ldc2_w 122, 3) := dcq_394.2.1
theorem dX6_lawHere_32 : decode cX6_lawHere 32 = .ok (.invokevirtual 104, 3) := dcq_394.2.2.1
theorem dX6_lawHere_35 : decode cX6_lawHere 35 = .ok (.ifCond .eq 7, 3) := dcq_394.2.2.2.1
theorem dX6_lawHere_38 : decode cX6_lawHere 38 = .ok (.iconst 2, 1) := dcq_394.2.2.2.2.1
theorem dX6_lawHere_39 : decode cX6_lawHere 39 = .ok (.goto 18, 3) := dcq_394.2.2.2.2.2.1
theorem dX6_lawHere_42 : decode cX6_lawHere 42 = .ok (.aload_n 0, 1) := dcq_394.2.2.2.2.2.2.1
theorem dX6_lawHere_43 : decode cX6_lawHere 43 = .ok (.ldc2_w 124, 3) := dcq_394.2.2.2.2.2.2.2.1
theorem dX6_lawHere_46 : decode cX6_lawHere 46 = .ok (.invokevirtual 104, 3) := dcq_394.2.2.2.2.2.2.2.2.1
theorem dX6_lawHere_49 : decode cX6_lawHere 49 = .ok (.ifCond .eq 7, 3) := dcq_394.2.2.2.2.2.2.2.2.2.1
theorem dX6_lawHere_52 : decode cX6_lawHere 52 = .ok (.iconst 3, 1) := dcq_394.2.2.2.2.2.2.2.2.2.2.1
theorem dX6_lawHere_53 : decode cX6_lawHere 53 = .ok (.goto 4, 3) := dcq_394.2.2.2.2.2.2.2.2.2.2.2
set_option maxRecDepth 20000 in
theorem dcb_395 : fd_B cX6_lawHere 56 [2, 172] := fd_o cX6_lawHere 56 _ (by decide +kernel)
theorem dcq_395 : (decode cX6_lawHere 56 = .ok (.iconst (-1), 1)) ∧ (decode cX6_lawHere 57 = .ok (.ireturn, 1)) := have h := dcb_395; ⟨fd_2 h, have h := fd_t1 h; fd_172 h⟩
theorem dX6_lawHere_56 : decode cX6_lawHere 56 = .ok (.iconst (-1), 1) := dcq_395.1
theorem dX6_lawHere_57 : decode cX6_lawHere 57 = .ok (.ireturn, 1) := dcq_395.2
set_option maxRecDepth 20000 in
theorem dcb_396 : fd_B cX6_wantNumber 0 [42, 180, 0, 93, 62, 42, 42, 180, 0, 126, 153, 0, 24, 42, 180, 0, 86, 5, 160, 0, 16, 29] := fd_o cX6_wantNumber 0 _ (by decide +kernel)
theorem dcq_396 : (decode cX6_wantNumber 0 = .ok (.aload_n 0, 1)) ∧ (decode cX6_wantNumber 1 = .ok (.getfield 93, 3)) ∧ (decode cX6_wantNumber 4 = .ok (.istore_n 3, 1)) ∧ (decode cX6_wantNumber 5 = .ok (.aload_n 0, 1)) ∧ (decode cX6_wantNumber 6 = .ok (.aload_n 0, 1)) ∧ (decode cX6_wantNumber 7 = .ok (.getfield 126, 3)) ∧ (decode cX6_wantNumber 10 = .ok (.ifCond .eq 24, 3)) ∧ (decode cX6_wantNumber 13 = .ok (.aload_n 0, 1)) ∧ (decode cX6_wantNumber 14 = .ok (.getfield 86, 3)) ∧ (decode cX6_wantNumber 17 = .ok (.iconst 2, 1)) ∧ (decode cX6_wantNumber 18 = .ok (.if_icmp .ne 16, 3)) ∧ (decode cX6_wantNumber 21 = .ok (.iload_n 3, 1)) := have h := dcb_396; ⟨fd_42 h, have h := fd_t1 h; ⟨fd_180 h rfl, have h := fd_t3 h; ⟨fd_62 h, have h := fd_t1 h; ⟨fd_42 h, have h := fd_t1 h; ⟨fd_42 h, have h := fd_t1 h; ⟨fd_180 h rfl, have h := fd_t3 h; ⟨fd_153 h (by decide +kernel), have h := fd_t3 h; ⟨fd_42 h, have h := fd_t1 h; ⟨fd_180 h rfl, have h := fd_t3 h; ⟨fd_5 h, have h := fd_t1 h; ⟨fd_160 h (by decide +kernel), have h := fd_t3 h; fd_29 h⟩⟩⟩⟩⟩⟩⟩⟩⟩⟩⟩
theorem dX6_wantNumber_0 : decode cX6_wantNumber 0 = .ok (.aload_n 0, 1) := dcq_396.1
