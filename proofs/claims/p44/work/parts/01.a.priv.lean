-- ===== PART A: goes FIRST, ahead of the names: the tables' words, and 'selects' of the private methods out of them =====
/-- a private method of a class that the tables say can be made, by its rows of tables_1 -/
def lw_okq (q : MethodName × Nat) : Prop := (q.1.cls ≠ "java/lang/invoke/MethodHandle" ∧ q.1.cls ≠ "java/lang/invoke/VarHandle") ∧ Cond.instantiable q.1.cls q.2 ∈ tables_1 ∧ Cond.privateMethod q.1 ∈ tables_1 ∧ Cond.instanceMethod q.1 ∈ tables_1
theorem lw_u1 {w : Cond} (h : w ∈ tables_1_1) : w ∈ tables_1 := show w ∈ tables_1_1 ++ (tables_1_2 ++ (tables_1_3 ++ (tables_1_4 ++ (tables_1_5 ++ (tables_1_6))))) from List.mem_append_left _ h
theorem lw_u2 {w : Cond} (h : w ∈ tables_1_2) : w ∈ tables_1 := show w ∈ tables_1_1 ++ (tables_1_2 ++ (tables_1_3 ++ (tables_1_4 ++ (tables_1_5 ++ (tables_1_6))))) from List.mem_append_right _ (List.mem_append_left _ h)
theorem lw_u3 {w : Cond} (h : w ∈ tables_1_3) : w ∈ tables_1 := show w ∈ tables_1_1 ++ (tables_1_2 ++ (tables_1_3 ++ (tables_1_4 ++ (tables_1_5 ++ (tables_1_6))))) from List.mem_append_right _ (List.mem_append_right _ (List.mem_append_left _ h))
theorem lw_u4 {w : Cond} (h : w ∈ tables_1_4) : w ∈ tables_1 := show w ∈ tables_1_1 ++ (tables_1_2 ++ (tables_1_3 ++ (tables_1_4 ++ (tables_1_5 ++ (tables_1_6))))) from List.mem_append_right _ (List.mem_append_right _ (List.mem_append_right _ (List.mem_append_left _ h)))
theorem lw_u5 {w : Cond} (h : w ∈ tables_1_5) : w ∈ tables_1 := show w ∈ tables_1_1 ++ (tables_1_2 ++ (tables_1_3 ++ (tables_1_4 ++ (tables_1_5 ++ (tables_1_6))))) from List.mem_append_right _ (List.mem_append_right _ (List.mem_append_right _ (List.mem_append_right _ (List.mem_append_left _ h))))
theorem lw_u6 {w : Cond} (h : w ∈ tables_1_6) : w ∈ tables_1 := show w ∈ tables_1_1 ++ (tables_1_2 ++ (tables_1_3 ++ (tables_1_4 ++ (tables_1_5 ++ (tables_1_6))))) from List.mem_append_right _ (List.mem_append_right _ (List.mem_append_right _ (List.mem_append_right _ (List.mem_append_right _ (h)))))
theorem lw_c0 : "BlankRations$Tape" ≠ "java/lang/invoke/MethodHandle" ∧ "BlankRations$Tape" ≠ "java/lang/invoke/VarHandle" := ⟨by decide +kernel, by decide +kernel⟩
set_option maxRecDepth 20000 in
theorem lw_p0 : lw_okq (⟨"BlankRations$Tape", "cut", "()V"⟩, 8) := ⟨lw_c0, lw_u1 (List.mem_of_getElem? (i := 90) rfl), lw_u2 (List.mem_of_getElem? (i := 12) rfl), lw_u2 (List.mem_of_getElem? (i := 13) rfl)⟩
set_option maxRecDepth 20000 in
theorem lw_p1 : lw_okq (⟨"BlankRations$Tape", "cutName", "(I)I"⟩, 8) := ⟨lw_c0, lw_u1 (List.mem_of_getElem? (i := 90) rfl), lw_u2 (List.mem_of_getElem? (i := 20) rfl), lw_u2 (List.mem_of_getElem? (i := 21) rfl)⟩
set_option maxRecDepth 20000 in
theorem lw_p2 : lw_okq (⟨"BlankRations$Tape", "wordAt", "(II)I"⟩, 8) := ⟨lw_c0, lw_u1 (List.mem_of_getElem? (i := 90) rfl), lw_u2 (List.mem_of_getElem? (i := 24) rfl), lw_u2 (List.mem_of_getElem? (i := 25) rfl)⟩
set_option maxRecDepth 20000 in
theorem lw_p3 : lw_okq (⟨"BlankRations$Tape", "isSpelt", "(Ljava/lang/String;II)Z"⟩, 8) := ⟨lw_c0, lw_u1 (List.mem_of_getElem? (i := 90) rfl), lw_u2 (List.mem_of_getElem? (i := 45) rfl), lw_u2 (List.mem_of_getElem? (i := 46) rfl)⟩
set_option maxRecDepth 20000 in
theorem lw_p4 : lw_okq (⟨"BlankRations$Tape", "addToken", "(III)V"⟩, 8) := ⟨lw_c0, lw_u1 (List.mem_of_getElem? (i := 90) rfl), lw_u2 (List.mem_of_getElem? (i := 97) rfl), lw_u2 (List.mem_of_getElem? (i := 98) rfl)⟩
set_option maxRecDepth 20000 in
theorem lw_p5 : lw_okq (⟨"BlankRations$Tape", "cutNumber", "(I)I"⟩, 8) := ⟨lw_c0, lw_u1 (List.mem_of_getElem? (i := 90) rfl), lw_u2 (List.mem_of_getElem? (i := 104) rfl), lw_u2 (List.mem_of_getElem? (i := 105) rfl)⟩
set_option maxRecDepth 20000 in
theorem lw_p6 : lw_okq (⟨"BlankRations$Tape", "tellOne", "(LBlankRations$Office;)V"⟩, 8) := ⟨lw_c0, lw_u1 (List.mem_of_getElem? (i := 90) rfl), lw_u2 (List.mem_of_getElem? (i := 111) rfl), lw_u2 (List.mem_of_getElem? (i := 112) rfl)⟩
set_option maxRecDepth 20000 in
theorem lw_p7 : lw_okq (⟨"BlankRations$Tape", "tellPerson", "(LBlankRations$Office;I)V"⟩, 8) := ⟨lw_c0, lw_u1 (List.mem_of_getElem? (i := 90) rfl), lw_u2 (List.mem_of_getElem? (i := 118) rfl), lw_u2 (List.mem_of_getElem? (i := 119) rfl)⟩
set_option maxRecDepth 20000 in
theorem lw_p8 : lw_okq (⟨"BlankRations$Tape", "numberBehind", "(II)I"⟩, 8) := ⟨lw_c0, lw_u1 (List.mem_of_getElem? (i := 90) rfl), lw_u2 (List.mem_of_getElem? (i := 122) rfl), lw_u2 (List.mem_of_getElem? (i := 123) rfl)⟩
set_option maxRecDepth 20000 in
theorem lw_p9 : lw_okq (⟨"BlankRations$Tape", "numberUpTo", "(I)I"⟩, 8) := ⟨lw_c0, lw_u1 (List.mem_of_getElem? (i := 90) rfl), lw_u2 (List.mem_of_getElem? (i := 126) rfl), lw_u2 (List.mem_of_getElem? (i := 127) rfl)⟩
set_option maxRecDepth 20000 in
theorem lw_p10 : lw_okq (⟨"BlankRations$Tape", "fail", "()V"⟩, 8) := ⟨lw_c0, lw_u1 (List.mem_of_getElem? (i := 90) rfl), lw_u2 (List.mem_of_getElem? (i := 130) rfl), lw_u2 (List.mem_of_getElem? (i := 131) rfl)⟩
set_option maxRecDepth 20000 in
theorem lw_p11 : lw_okq (⟨"BlankRations$Tape", "passSemicolon", "()V"⟩, 8) := ⟨lw_c0, lw_u1 (List.mem_of_getElem? (i := 90) rfl), lw_u2 (List.mem_of_getElem? (i := 140) rfl), lw_u2 (List.mem_of_getElem? (i := 141) rfl)⟩
theorem lw_c1 : "BlankRations$Office" ≠ "java/lang/invoke/MethodHandle" ∧ "BlankRations$Office" ≠ "java/lang/invoke/VarHandle" := ⟨by decide +kernel, by decide +kernel⟩
set_option maxRecDepth 20000 in
theorem lw_p12 : lw_okq (⟨"BlankRations$Office", "think", "()V"⟩, 12) := ⟨lw_c1, lw_u1 (List.mem_of_getElem? (i := 24) rfl), lw_u2 (List.mem_of_getElem? (i := 223) rfl), lw_u2 (List.mem_of_getElem? (i := 224) rfl)⟩
set_option maxRecDepth 20000 in
theorem lw_p13 : lw_okq (⟨"BlankRations$Office", "handOut", "(I)V"⟩, 12) := ⟨lw_c1, lw_u1 (List.mem_of_getElem? (i := 24) rfl), lw_u2 (List.mem_of_getElem? (i := 230) rfl), lw_u2 (List.mem_of_getElem? (i := 231) rfl)⟩
set_option maxRecDepth 20000 in
theorem lw_p14 : lw_okq (⟨"BlankRations$Office", "keenest", "(I)I"⟩, 12) := ⟨lw_c1, lw_u1 (List.mem_of_getElem? (i := 24) rfl), lw_u2 (List.mem_of_getElem? (i := 234) rfl), lw_u2 (List.mem_of_getElem? (i := 235) rfl)⟩
set_option maxRecDepth 20000 in
theorem lw_p15 : lw_okq (⟨"BlankRations$Office", "speak", "()I"⟩, 12) := ⟨lw_c1, lw_u1 (List.mem_of_getElem? (i := 24) rfl), lw_u2 (List.mem_of_getElem? (i := 238) rfl), lw_u2 (List.mem_of_getElem? (i := 239) rfl)⟩
def lw_privs_1 : List (MethodName × Nat) := [(⟨"BlankRations$Tape", "cut", "()V"⟩, 8), (⟨"BlankRations$Tape", "cutName", "(I)I"⟩, 8), (⟨"BlankRations$Tape", "wordAt", "(II)I"⟩, 8), (⟨"BlankRations$Tape", "isSpelt", "(Ljava/lang/String;II)Z"⟩, 8), (⟨"BlankRations$Tape", "addToken", "(III)V"⟩, 8), (⟨"BlankRations$Tape", "cutNumber", "(I)I"⟩, 8), (⟨"BlankRations$Tape", "tellOne", "(LBlankRations$Office;)V"⟩, 8), (⟨"BlankRations$Tape", "tellPerson", "(LBlankRations$Office;I)V"⟩, 8), (⟨"BlankRations$Tape", "numberBehind", "(II)I"⟩, 8), (⟨"BlankRations$Tape", "numberUpTo", "(I)I"⟩, 8), (⟨"BlankRations$Tape", "fail", "()V"⟩, 8), (⟨"BlankRations$Tape", "passSemicolon", "()V"⟩, 8), (⟨"BlankRations$Office", "think", "()V"⟩, 12), (⟨"BlankRations$Office", "handOut", "(I)V"⟩, 12), (⟨"BlankRations$Office", "keenest", "(I)I"⟩, 12), (⟨"BlankRations$Office", "speak", "()I"⟩, 12)]
theorem lw_r1 : ∀ q ∈ lw_privs_1, lw_okq q := List.forall_mem_cons.mpr ⟨lw_p0, List.forall_mem_cons.mpr ⟨lw_p1, List.forall_mem_cons.mpr ⟨lw_p2, List.forall_mem_cons.mpr ⟨lw_p3, List.forall_mem_cons.mpr ⟨lw_p4, List.forall_mem_cons.mpr ⟨lw_p5, List.forall_mem_cons.mpr ⟨lw_p6, List.forall_mem_cons.mpr ⟨lw_p7, List.forall_mem_cons.mpr ⟨lw_p8, List.forall_mem_cons.mpr ⟨lw_p9, List.forall_mem_cons.mpr ⟨lw_p10, List.forall_mem_cons.mpr ⟨lw_p11, List.forall_mem_cons.mpr ⟨lw_p12, List.forall_mem_cons.mpr ⟨lw_p13, List.forall_mem_cons.mpr ⟨lw_p14, List.forall_mem_cons.mpr ⟨lw_p15, fun _ h => absurd h List.not_mem_nil⟩⟩⟩⟩⟩⟩⟩⟩⟩⟩⟩⟩⟩⟩⟩⟩
set_option maxRecDepth 20000 in
theorem lw_p16 : lw_okq (⟨"BlankRations$Office", "draw", "()I"⟩, 12) := ⟨lw_c1, lw_u1 (List.mem_of_getElem? (i := 24) rfl), lw_u3 (List.mem_of_getElem? (i := 21) rfl), lw_u3 (List.mem_of_getElem? (i := 22) rfl)⟩
theorem lw_c2 : "BlankRations" ≠ "java/lang/invoke/MethodHandle" ∧ "BlankRations" ≠ "java/lang/invoke/VarHandle" := ⟨by decide +kernel, by decide +kernel⟩
set_option maxRecDepth 20000 in
theorem lw_p17 : lw_okq (⟨"BlankRations", "trial", "()LBlankRations$Office;"⟩, 11) := ⟨lw_c2, lw_u1 (List.mem_of_getElem? (i := 16) rfl), lw_u3 (List.mem_of_getElem? (i := 31) rfl), lw_u3 (List.mem_of_getElem? (i := 32) rfl)⟩
set_option maxRecDepth 20000 in
theorem lw_p18 : lw_okq (⟨"BlankRations", "leastPacking", "(II)I"⟩, 11) := ⟨lw_c2, lw_u1 (List.mem_of_getElem? (i := 16) rfl), lw_u3 (List.mem_of_getElem? (i := 92) rfl), lw_u3 (List.mem_of_getElem? (i := 93) rfl)⟩
set_option maxRecDepth 20000 in
theorem lw_p19 : lw_okq (⟨"BlankRations", "isTold", "(LBlankRations$Sheet;II)Z"⟩, 11) := ⟨lw_c2, lw_u1 (List.mem_of_getElem? (i := 16) rfl), lw_u3 (List.mem_of_getElem? (i := 104) rfl), lw_u3 (List.mem_of_getElem? (i := 105) rfl)⟩
set_option maxRecDepth 20000 in
theorem lw_p20 : lw_okq (⟨"BlankRations", "isInRow", "(II)Z"⟩, 11) := ⟨lw_c2, lw_u1 (List.mem_of_getElem? (i := 16) rfl), lw_u3 (List.mem_of_getElem? (i := 135) rfl), lw_u3 (List.mem_of_getElem? (i := 136) rfl)⟩
theorem lw_c3 : "BlankRations$Actor" ≠ "java/lang/invoke/MethodHandle" ∧ "BlankRations$Actor" ≠ "java/lang/invoke/VarHandle" := ⟨by decide +kernel, by decide +kernel⟩
set_option maxRecDepth 20000 in
theorem lw_p21 : lw_okq (⟨"BlankRations$Actor", "thinks", "(I)I"⟩, 6) := ⟨lw_c3, lw_u1 (List.mem_of_getElem? (i := 122) rfl), lw_u3 (List.mem_of_getElem? (i := 204) rfl), lw_u3 (List.mem_of_getElem? (i := 205) rfl)⟩
set_option maxRecDepth 20000 in
theorem lw_p22 : lw_okq (⟨"BlankRations$Actor", "enter", "(I)V"⟩, 6) := ⟨lw_c3, lw_u1 (List.mem_of_getElem? (i := 122) rfl), lw_u3 (List.mem_of_getElem? (i := 208) rfl), lw_u3 (List.mem_of_getElem? (i := 209) rfl)⟩
set_option maxRecDepth 20000 in
theorem lw_p23 : lw_okq (⟨"BlankRations$Actor", "asks", "(I)I"⟩, 6) := ⟨lw_c3, lw_u1 (List.mem_of_getElem? (i := 122) rfl), lw_u3 (List.mem_of_getElem? (i := 213) rfl), lw_u3 (List.mem_of_getElem? (i := 214) rfl)⟩
set_option maxRecDepth 20000 in
theorem lw_p24 : lw_okq (⟨"BlankRations$Actor", "parts", "(I)I"⟩, 6) := ⟨lw_c3, lw_u1 (List.mem_of_getElem? (i := 122) rfl), lw_u3 (List.mem_of_getElem? (i := 217) rfl), lw_u3 (List.mem_of_getElem? (i := 218) rfl)⟩
set_option maxRecDepth 20000 in
theorem lw_p25 : lw_okq (⟨"BlankRations$Actor", "writes", "(I)I"⟩, 6) := ⟨lw_c3, lw_u1 (List.mem_of_getElem? (i := 122) rfl), lw_u3 (List.mem_of_getElem? (i := 221) rfl), lw_u3 (List.mem_of_getElem? (i := 222) rfl)⟩
theorem lw_c4 : "BlankRationsModel" ≠ "java/lang/invoke/MethodHandle" ∧ "BlankRationsModel" ≠ "java/lang/invoke/VarHandle" := ⟨by decide +kernel, by decide +kernel⟩
set_option maxRecDepth 20000 in
theorem lw_p26 : lw_okq (⟨"BlankRationsModel", "advance", "()V"⟩, 30) := ⟨lw_c4, lw_u4 (List.mem_of_getElem? (i := 1) rfl), lw_u4 (List.mem_of_getElem? (i := 113) rfl), lw_u4 (List.mem_of_getElem? (i := 114) rfl)⟩
set_option maxRecDepth 20000 in
theorem lw_p27 : lw_okq (⟨"BlankRationsModel", "byteAt", "(I)I"⟩, 30) := ⟨lw_c4, lw_u4 (List.mem_of_getElem? (i := 1) rfl), lw_u4 (List.mem_of_getElem? (i := 117) rfl), lw_u4 (List.mem_of_getElem? (i := 118) rfl)⟩
set_option maxRecDepth 20000 in
theorem lw_p28 : lw_okq (⟨"BlankRationsModel", "wantClause", "()V"⟩, 30) := ⟨lw_c4, lw_u4 (List.mem_of_getElem? (i := 1) rfl), lw_u4 (List.mem_of_getElem? (i := 130) rfl), lw_u4 (List.mem_of_getElem? (i := 131) rfl)⟩
set_option maxRecDepth 20000 in
theorem lw_p29 : lw_okq (⟨"BlankRationsModel", "lawHere", "()I"⟩, 30) := ⟨lw_c4, lw_u4 (List.mem_of_getElem? (i := 1) rfl), lw_u4 (List.mem_of_getElem? (i := 134) rfl), lw_u4 (List.mem_of_getElem? (i := 135) rfl)⟩
set_option maxRecDepth 20000 in
theorem lw_p30 : lw_okq (⟨"BlankRationsModel", "isWord", "(J)Z"⟩, 30) := ⟨lw_c4, lw_u4 (List.mem_of_getElem? (i := 1) rfl), lw_u4 (List.mem_of_getElem? (i := 139) rfl), lw_u4 (List.mem_of_getElem? (i := 140) rfl)⟩
set_option maxRecDepth 20000 in
theorem lw_p31 : lw_okq (⟨"BlankRationsModel", "kindHere", "()I"⟩, 30) := ⟨lw_c4, lw_u4 (List.mem_of_getElem? (i := 1) rfl), lw_u4 (List.mem_of_getElem? (i := 146) rfl), lw_u4 (List.mem_of_getElem? (i := 147) rfl)⟩
def lw_privs_2 : List (MethodName × Nat) := [(⟨"BlankRations$Office", "draw", "()I"⟩, 12), (⟨"BlankRations", "trial", "()LBlankRations$Office;"⟩, 11), (⟨"BlankRations", "leastPacking", "(II)I"⟩, 11), (⟨"BlankRations", "isTold", "(LBlankRations$Sheet;II)Z"⟩, 11), (⟨"BlankRations", "isInRow", "(II)Z"⟩, 11), (⟨"BlankRations$Actor", "thinks", "(I)I"⟩, 6), (⟨"BlankRations$Actor", "enter", "(I)V"⟩, 6), (⟨"BlankRations$Actor", "asks", "(I)I"⟩, 6), (⟨"BlankRations$Actor", "parts", "(I)I"⟩, 6), (⟨"BlankRations$Actor", "writes", "(I)I"⟩, 6), (⟨"BlankRationsModel", "advance", "()V"⟩, 30), (⟨"BlankRationsModel", "byteAt", "(I)I"⟩, 30), (⟨"BlankRationsModel", "wantClause", "()V"⟩, 30), (⟨"BlankRationsModel", "lawHere", "()I"⟩, 30), (⟨"BlankRationsModel", "isWord", "(J)Z"⟩, 30), (⟨"BlankRationsModel", "kindHere", "()I"⟩, 30)]
theorem lw_r2 : ∀ q ∈ lw_privs_2, lw_okq q := List.forall_mem_cons.mpr ⟨lw_p16, List.forall_mem_cons.mpr ⟨lw_p17, List.forall_mem_cons.mpr ⟨lw_p18, List.forall_mem_cons.mpr ⟨lw_p19, List.forall_mem_cons.mpr ⟨lw_p20, List.forall_mem_cons.mpr ⟨lw_p21, List.forall_mem_cons.mpr ⟨lw_p22, List.forall_mem_cons.mpr ⟨lw_p23, List.forall_mem_cons.mpr ⟨lw_p24, List.forall_mem_cons.mpr ⟨lw_p25, List.forall_mem_cons.mpr ⟨lw_p26, List.forall_mem_cons.mpr ⟨lw_p27, List.forall_mem_cons.mpr ⟨lw_p28, List.forall_mem_cons.mpr ⟨lw_p29, List.forall_mem_cons.mpr ⟨lw_p30, List.forall_mem_cons.mpr ⟨lw_p31, fun _ h => absurd h List.not_mem_nil⟩⟩⟩⟩⟩⟩⟩⟩⟩⟩⟩⟩⟩⟩⟩⟩
set_option maxRecDepth 20000 in
theorem lw_p32 : lw_okq (⟨"BlankRationsModel", "wantOne", "(I)V"⟩, 30) := ⟨lw_c4, lw_u4 (List.mem_of_getElem? (i := 1) rfl), lw_u4 (List.mem_of_getElem? (i := 156) rfl), lw_u4 (List.mem_of_getElem? (i := 157) rfl)⟩
set_option maxRecDepth 20000 in
theorem lw_p33 : lw_okq (⟨"BlankRationsModel", "mayWant", "(JI)I"⟩, 30) := ⟨lw_c4, lw_u4 (List.mem_of_getElem? (i := 1) rfl), lw_u4 (List.mem_of_getElem? (i := 161) rfl), lw_u4 (List.mem_of_getElem? (i := 162) rfl)⟩
set_option maxRecDepth 20000 in
theorem lw_p34 : lw_okq (⟨"BlankRationsModel", "wantNumber", "(II)I"⟩, 30) := ⟨lw_c4, lw_u4 (List.mem_of_getElem? (i := 1) rfl), lw_u4 (List.mem_of_getElem? (i := 165) rfl), lw_u4 (List.mem_of_getElem? (i := 166) rfl)⟩
set_option maxRecDepth 20000 in
theorem lw_p35 : lw_okq (⟨"BlankRationsModel", "wantEnd", "()V"⟩, 30) := ⟨lw_c4, lw_u4 (List.mem_of_getElem? (i := 1) rfl), lw_u4 (List.mem_of_getElem? (i := 171) rfl), lw_u4 (List.mem_of_getElem? (i := 172) rfl)⟩
set_option maxRecDepth 20000 in
theorem lw_p36 : lw_okq (⟨"BlankRationsModel", "isMark", "(I)Z"⟩, 30) := ⟨lw_c4, lw_u4 (List.mem_of_getElem? (i := 1) rfl), lw_u4 (List.mem_of_getElem? (i := 175) rfl), lw_u4 (List.mem_of_getElem? (i := 176) rfl)⟩
set_option maxRecDepth 20000 in
theorem lw_p37 : lw_okq (⟨"BlankRationsModel", "becomes", "(II)I"⟩, 30) := ⟨lw_c4, lw_u4 (List.mem_of_getElem? (i := 1) rfl), lw_u4 (List.mem_of_getElem? (i := 189) rfl), lw_u4 (List.mem_of_getElem? (i := 190) rfl)⟩
set_option maxRecDepth 20000 in
theorem lw_p38 : lw_okq (⟨"BlankRationsModel", "sets", "(III)V"⟩, 30) := ⟨lw_c4, lw_u4 (List.mem_of_getElem? (i := 1) rfl), lw_u4 (List.mem_of_getElem? (i := 204) rfl), lw_u4 (List.mem_of_getElem? (i := 205) rfl)⟩
set_option maxRecDepth 20000 in
theorem lw_p39 : lw_okq (⟨"BlankRationsModel", "isOne", "(I)Z"⟩, 30) := ⟨lw_c4, lw_u4 (List.mem_of_getElem? (i := 1) rfl), lw_u4 (List.mem_of_getElem? (i := 212) rfl), lw_u4 (List.mem_of_getElem? (i := 213) rfl)⟩
set_option maxRecDepth 20000 in
theorem lw_p40 : lw_okq (⟨"BlankRationsModel", "its", "(II)I"⟩, 30) := ⟨lw_c4, lw_u4 (List.mem_of_getElem? (i := 1) rfl), lw_u4 (List.mem_of_getElem? (i := 216) rfl), lw_u4 (List.mem_of_getElem? (i := 217) rfl)⟩
set_option maxRecDepth 20000 in
theorem lw_p41 : lw_okq (⟨"BlankRationsModel", "thinksOf", "(I)I"⟩, 30) := ⟨lw_c4, lw_u4 (List.mem_of_getElem? (i := 1) rfl), lw_u4 (List.mem_of_getElem? (i := 224) rfl), lw_u4 (List.mem_of_getElem? (i := 225) rfl)⟩
set_option maxRecDepth 20000 in
theorem lw_p42 : lw_okq (⟨"BlankRationsModel", "needs", "(I)I"⟩, 30) := ⟨lw_c4, lw_u4 (List.mem_of_getElem? (i := 1) rfl), lw_u4 (List.mem_of_getElem? (i := 228) rfl), lw_u4 (List.mem_of_getElem? (i := 229) rfl)⟩
set_option maxRecDepth 20000 in
theorem lw_p43 : lw_okq (⟨"BlankRationsModel", "says", "(I)I"⟩, 30) := ⟨lw_c4, lw_u4 (List.mem_of_getElem? (i := 1) rfl), lw_u4 (List.mem_of_getElem? (i := 232) rfl), lw_u4 (List.mem_of_getElem? (i := 233) rfl)⟩
set_option maxRecDepth 20000 in
theorem lw_p44 : lw_okq (⟨"BlankRationsModel", "isUsed", "(I)Z"⟩, 30) := ⟨lw_c4, lw_u4 (List.mem_of_getElem? (i := 1) rfl), lw_u4 (List.mem_of_getElem? (i := 239) rfl), lw_u5 (List.mem_of_getElem? (i := 0) rfl)⟩
set_option maxRecDepth 20000 in
theorem lw_p45 : lw_okq (⟨"BlankRationsModel", "weekGoes", "()I"⟩, 30) := ⟨lw_c4, lw_u4 (List.mem_of_getElem? (i := 1) rfl), lw_u5 (List.mem_of_getElem? (i := 23) rfl), lw_u5 (List.mem_of_getElem? (i := 24) rfl)⟩
set_option maxRecDepth 20000 in
theorem lw_p46 : lw_okq (⟨"BlankRationsModel", "pageGoes", "()V"⟩, 30) := ⟨lw_c4, lw_u4 (List.mem_of_getElem? (i := 1) rfl), lw_u5 (List.mem_of_getElem? (i := 27) rfl), lw_u5 (List.mem_of_getElem? (i := 28) rfl)⟩
set_option maxRecDepth 20000 in
theorem lw_p47 : lw_okq (⟨"BlankRationsModel", "next", "()I"⟩, 30) := ⟨lw_c4, lw_u4 (List.mem_of_getElem? (i := 1) rfl), lw_u5 (List.mem_of_getElem? (i := 31) rfl), lw_u5 (List.mem_of_getElem? (i := 32) rfl)⟩
def lw_privs_3 : List (MethodName × Nat) := [(⟨"BlankRationsModel", "wantOne", "(I)V"⟩, 30), (⟨"BlankRationsModel", "mayWant", "(JI)I"⟩, 30), (⟨"BlankRationsModel", "wantNumber", "(II)I"⟩, 30), (⟨"BlankRationsModel", "wantEnd", "()V"⟩, 30), (⟨"BlankRationsModel", "isMark", "(I)Z"⟩, 30), (⟨"BlankRationsModel", "becomes", "(II)I"⟩, 30), (⟨"BlankRationsModel", "sets", "(III)V"⟩, 30), (⟨"BlankRationsModel", "isOne", "(I)Z"⟩, 30), (⟨"BlankRationsModel", "its", "(II)I"⟩, 30), (⟨"BlankRationsModel", "thinksOf", "(I)I"⟩, 30), (⟨"BlankRationsModel", "needs", "(I)I"⟩, 30), (⟨"BlankRationsModel", "says", "(I)I"⟩, 30), (⟨"BlankRationsModel", "isUsed", "(I)Z"⟩, 30), (⟨"BlankRationsModel", "weekGoes", "()I"⟩, 30), (⟨"BlankRationsModel", "pageGoes", "()V"⟩, 30), (⟨"BlankRationsModel", "next", "()I"⟩, 30)]
theorem lw_r3 : ∀ q ∈ lw_privs_3, lw_okq q := List.forall_mem_cons.mpr ⟨lw_p32, List.forall_mem_cons.mpr ⟨lw_p33, List.forall_mem_cons.mpr ⟨lw_p34, List.forall_mem_cons.mpr ⟨lw_p35, List.forall_mem_cons.mpr ⟨lw_p36, List.forall_mem_cons.mpr ⟨lw_p37, List.forall_mem_cons.mpr ⟨lw_p38, List.forall_mem_cons.mpr ⟨lw_p39, List.forall_mem_cons.mpr ⟨lw_p40, List.forall_mem_cons.mpr ⟨lw_p41, List.forall_mem_cons.mpr ⟨lw_p42, List.forall_mem_cons.mpr ⟨lw_p43, List.forall_mem_cons.mpr ⟨lw_p44, List.forall_mem_cons.mpr ⟨lw_p45, List.forall_mem_cons.mpr ⟨lw_p46, List.forall_mem_cons.mpr ⟨lw_p47, fun _ h => absurd h List.not_mem_nil⟩⟩⟩⟩⟩⟩⟩⟩⟩⟩⟩⟩⟩⟩⟩⟩
set_option maxRecDepth 20000 in
theorem lw_p48 : lw_okq (⟨"BlankRationsModel", "isReady", "(I)Z"⟩, 30) := ⟨lw_c4, lw_u4 (List.mem_of_getElem? (i := 1) rfl), lw_u5 (List.mem_of_getElem? (i := 35) rfl), lw_u5 (List.mem_of_getElem? (i := 36) rfl)⟩
set_option maxRecDepth 20000 in
theorem lw_p49 : lw_okq (⟨"BlankRationsModel", "writes", "(I)I"⟩, 30) := ⟨lw_c4, lw_u4 (List.mem_of_getElem? (i := 1) rfl), lw_u5 (List.mem_of_getElem? (i := 39) rfl), lw_u5 (List.mem_of_getElem? (i := 40) rfl)⟩
set_option maxRecDepth 20000 in
theorem lw_p50 : lw_okq (⟨"BlankRationsModel", "sumOf", "(I)I"⟩, 30) := ⟨lw_c4, lw_u4 (List.mem_of_getElem? (i := 1) rfl), lw_u5 (List.mem_of_getElem? (i := 44) rfl), lw_u5 (List.mem_of_getElem? (i := 45) rfl)⟩
set_option maxRecDepth 20000 in
theorem lw_p51 : lw_okq (⟨"BlankRationsModel", "weekByDraws", "()I"⟩, 30) := ⟨lw_c4, lw_u4 (List.mem_of_getElem? (i := 1) rfl), lw_u5 (List.mem_of_getElem? (i := 56) rfl), lw_u5 (List.mem_of_getElem? (i := 57) rfl)⟩
set_option maxRecDepth 20000 in
theorem lw_p52 : lw_okq (⟨"BlankRationsModel", "drawn", "()I"⟩, 30) := ⟨lw_c4, lw_u4 (List.mem_of_getElem? (i := 1) rfl), lw_u5 (List.mem_of_getElem? (i := 60) rfl), lw_u5 (List.mem_of_getElem? (i := 61) rfl)⟩
set_option maxRecDepth 20000 in
theorem lw_p53 : lw_okq (⟨"BlankRationsModel", "wordsBehind", "(I)I"⟩, 30) := ⟨lw_c4, lw_u4 (List.mem_of_getElem? (i := 1) rfl), lw_u5 (List.mem_of_getElem? (i := 69) rfl), lw_u5 (List.mem_of_getElem? (i := 70) rfl)⟩
set_option maxRecDepth 20000 in
theorem lw_p54 : lw_okq (⟨"BlankRationsModel", "readySet", "()I"⟩, 30) := ⟨lw_c4, lw_u4 (List.mem_of_getElem? (i := 1) rfl), lw_u5 (List.mem_of_getElem? (i := 77) rfl), lw_u5 (List.mem_of_getElem? (i := 78) rfl)⟩
set_option maxRecDepth 20000 in
theorem lw_p55 : lw_okq (⟨"BlankRationsModel", "thoughtOf", "(I)I"⟩, 30) := ⟨lw_c4, lw_u4 (List.mem_of_getElem? (i := 1) rfl), lw_u5 (List.mem_of_getElem? (i := 120) rfl), lw_u5 (List.mem_of_getElem? (i := 121) rfl)⟩
set_option maxRecDepth 20000 in
theorem lw_p56 : lw_okq (⟨"BlankRationsModel", "isSo", "(I)Z"⟩, 30) := ⟨lw_c4, lw_u4 (List.mem_of_getElem? (i := 1) rfl), lw_u5 (List.mem_of_getElem? (i := 131) rfl), lw_u5 (List.mem_of_getElem? (i := 132) rfl)⟩
set_option maxRecDepth 20000 in
theorem lw_p57 : lw_okq (⟨"BlankRationsModel", "findRows", "(II)V"⟩, 30) := ⟨lw_c4, lw_u4 (List.mem_of_getElem? (i := 1) rfl), lw_u5 (List.mem_of_getElem? (i := 154) rfl), lw_u5 (List.mem_of_getElem? (i := 155) rfl)⟩
set_option maxRecDepth 20000 in
theorem lw_p58 : lw_okq (⟨"BlankRationsModel", "isRow", "(II)Z"⟩, 30) := ⟨lw_c4, lw_u4 (List.mem_of_getElem? (i := 1) rfl), lw_u5 (List.mem_of_getElem? (i := 162) rfl), lw_u5 (List.mem_of_getElem? (i := 163) rfl)⟩
set_option maxRecDepth 20000 in
theorem lw_p59 : lw_okq (⟨"BlankRationsModel", "lacksSort", "(II)I"⟩, 30) := ⟨lw_c4, lw_u4 (List.mem_of_getElem? (i := 1) rfl), lw_u5 (List.mem_of_getElem? (i := 178) rfl), lw_u5 (List.mem_of_getElem? (i := 179) rfl)⟩
set_option maxRecDepth 20000 in
theorem lw_p60 : lw_okq (⟨"BlankRationsModel", "isHeld", "(II)Z"⟩, 30) := ⟨lw_c4, lw_u4 (List.mem_of_getElem? (i := 1) rfl), lw_u5 (List.mem_of_getElem? (i := 198) rfl), lw_u5 (List.mem_of_getElem? (i := 199) rfl)⟩
set_option maxRecDepth 20000 in
theorem lw_p61 : lw_okq (⟨"BlankRationsModel", "kindOn", "(I)I"⟩, 30) := ⟨lw_c4, lw_u4 (List.mem_of_getElem? (i := 1) rfl), lw_u5 (List.mem_of_getElem? (i := 206) rfl), lw_u5 (List.mem_of_getElem? (i := 207) rfl)⟩
set_option maxRecDepth 20000 in
theorem lw_p62 : lw_okq (⟨"BlankRationsModel", "thinksIt", "(I)I"⟩, 30) := ⟨lw_c4, lw_u4 (List.mem_of_getElem? (i := 1) rfl), lw_u5 (List.mem_of_getElem? (i := 217) rfl), lw_u5 (List.mem_of_getElem? (i := 218) rfl)⟩
set_option maxRecDepth 20000 in
theorem lw_p63 : lw_okq (⟨"BlankRationsModel", "widowThinks", "(I)I"⟩, 30) := ⟨lw_c4, lw_u4 (List.mem_of_getElem? (i := 1) rfl), lw_u5 (List.mem_of_getElem? (i := 221) rfl), lw_u5 (List.mem_of_getElem? (i := 222) rfl)⟩
def lw_privs_4 : List (MethodName × Nat) := [(⟨"BlankRationsModel", "isReady", "(I)Z"⟩, 30), (⟨"BlankRationsModel", "writes", "(I)I"⟩, 30), (⟨"BlankRationsModel", "sumOf", "(I)I"⟩, 30), (⟨"BlankRationsModel", "weekByDraws", "()I"⟩, 30), (⟨"BlankRationsModel", "drawn", "()I"⟩, 30), (⟨"BlankRationsModel", "wordsBehind", "(I)I"⟩, 30), (⟨"BlankRationsModel", "readySet", "()I"⟩, 30), (⟨"BlankRationsModel", "thoughtOf", "(I)I"⟩, 30), (⟨"BlankRationsModel", "isSo", "(I)Z"⟩, 30), (⟨"BlankRationsModel", "findRows", "(II)V"⟩, 30), (⟨"BlankRationsModel", "isRow", "(II)Z"⟩, 30), (⟨"BlankRationsModel", "lacksSort", "(II)I"⟩, 30), (⟨"BlankRationsModel", "isHeld", "(II)Z"⟩, 30), (⟨"BlankRationsModel", "kindOn", "(I)I"⟩, 30), (⟨"BlankRationsModel", "thinksIt", "(I)I"⟩, 30), (⟨"BlankRationsModel", "widowThinks", "(I)I"⟩, 30)]
theorem lw_r4 : ∀ q ∈ lw_privs_4, lw_okq q := List.forall_mem_cons.mpr ⟨lw_p48, List.forall_mem_cons.mpr ⟨lw_p49, List.forall_mem_cons.mpr ⟨lw_p50, List.forall_mem_cons.mpr ⟨lw_p51, List.forall_mem_cons.mpr ⟨lw_p52, List.forall_mem_cons.mpr ⟨lw_p53, List.forall_mem_cons.mpr ⟨lw_p54, List.forall_mem_cons.mpr ⟨lw_p55, List.forall_mem_cons.mpr ⟨lw_p56, List.forall_mem_cons.mpr ⟨lw_p57, List.forall_mem_cons.mpr ⟨lw_p58, List.forall_mem_cons.mpr ⟨lw_p59, List.forall_mem_cons.mpr ⟨lw_p60, List.forall_mem_cons.mpr ⟨lw_p61, List.forall_mem_cons.mpr ⟨lw_p62, List.forall_mem_cons.mpr ⟨lw_p63, fun _ h => absurd h List.not_mem_nil⟩⟩⟩⟩⟩⟩⟩⟩⟩⟩⟩⟩⟩⟩⟩⟩
set_option maxRecDepth 20000 in
theorem lw_p64 : lw_okq (⟨"BlankRationsModel", "ran", "(I)V"⟩, 30) := ⟨lw_c4, lw_u4 (List.mem_of_getElem? (i := 1) rfl), lw_u5 (List.mem_of_getElem? (i := 225) rfl), lw_u5 (List.mem_of_getElem? (i := 226) rfl)⟩
set_option maxRecDepth 20000 in
theorem lw_p65 : lw_okq (⟨"BlankRationsModel", "plainThinks", "(I)I"⟩, 30) := ⟨lw_c4, lw_u4 (List.mem_of_getElem? (i := 1) rfl), lw_u5 (List.mem_of_getElem? (i := 229) rfl), lw_u5 (List.mem_of_getElem? (i := 230) rfl)⟩
set_option maxRecDepth 20000 in
theorem lw_p66 : lw_okq (⟨"BlankRationsModel", "asksIt", "(I)I"⟩, 30) := ⟨lw_c4, lw_u4 (List.mem_of_getElem? (i := 1) rfl), lw_u5 (List.mem_of_getElem? (i := 233) rfl), lw_u5 (List.mem_of_getElem? (i := 234) rfl)⟩
set_option maxRecDepth 20000 in
theorem lw_p67 : lw_okq (⟨"BlankRationsModel", "plainAsks", "(I)I"⟩, 30) := ⟨lw_c4, lw_u4 (List.mem_of_getElem? (i := 1) rfl), lw_u5 (List.mem_of_getElem? (i := 237) rfl), lw_u5 (List.mem_of_getElem? (i := 238) rfl)⟩
set_option maxRecDepth 20000 in
theorem lw_p68 : lw_okq (⟨"BlankRationsModel", "partsIt", "(I)I"⟩, 30) := ⟨lw_c4, lw_u4 (List.mem_of_getElem? (i := 1) rfl), lw_u6 (List.mem_of_getElem? (i := 1) rfl), lw_u6 (List.mem_of_getElem? (i := 2) rfl)⟩
set_option maxRecDepth 20000 in
theorem lw_p69 : lw_okq (⟨"BlankRationsModel", "plainParts", "(I)I"⟩, 30) := ⟨lw_c4, lw_u4 (List.mem_of_getElem? (i := 1) rfl), lw_u6 (List.mem_of_getElem? (i := 5) rfl), lw_u6 (List.mem_of_getElem? (i := 6) rfl)⟩
set_option maxRecDepth 20000 in
theorem lw_p70 : lw_okq (⟨"BlankRationsModel", "writesIt", "(I)I"⟩, 30) := ⟨lw_c4, lw_u4 (List.mem_of_getElem? (i := 1) rfl), lw_u6 (List.mem_of_getElem? (i := 9) rfl), lw_u6 (List.mem_of_getElem? (i := 10) rfl)⟩
set_option maxRecDepth 20000 in
theorem lw_p71 : lw_okq (⟨"BlankRationsModel", "plainWrites", "(I)I"⟩, 30) := ⟨lw_c4, lw_u4 (List.mem_of_getElem? (i := 1) rfl), lw_u6 (List.mem_of_getElem? (i := 13) rfl), lw_u6 (List.mem_of_getElem? (i := 14) rfl)⟩
set_option maxRecDepth 20000 in
theorem lw_p72 : lw_okq (⟨"BlankRationsModel", "manyWith", "(I)I"⟩, 30) := ⟨lw_c4, lw_u4 (List.mem_of_getElem? (i := 1) rfl), lw_u6 (List.mem_of_getElem? (i := 25) rfl), lw_u6 (List.mem_of_getElem? (i := 26) rfl)⟩
def lw_privs_5 : List (MethodName × Nat) := [(⟨"BlankRationsModel", "ran", "(I)V"⟩, 30), (⟨"BlankRationsModel", "plainThinks", "(I)I"⟩, 30), (⟨"BlankRationsModel", "asksIt", "(I)I"⟩, 30), (⟨"BlankRationsModel", "plainAsks", "(I)I"⟩, 30), (⟨"BlankRationsModel", "partsIt", "(I)I"⟩, 30), (⟨"BlankRationsModel", "plainParts", "(I)I"⟩, 30), (⟨"BlankRationsModel", "writesIt", "(I)I"⟩, 30), (⟨"BlankRationsModel", "plainWrites", "(I)I"⟩, 30), (⟨"BlankRationsModel", "manyWith", "(I)I"⟩, 30)]
theorem lw_r5 : ∀ q ∈ lw_privs_5, lw_okq q := List.forall_mem_cons.mpr ⟨lw_p64, List.forall_mem_cons.mpr ⟨lw_p65, List.forall_mem_cons.mpr ⟨lw_p66, List.forall_mem_cons.mpr ⟨lw_p67, List.forall_mem_cons.mpr ⟨lw_p68, List.forall_mem_cons.mpr ⟨lw_p69, List.forall_mem_cons.mpr ⟨lw_p70, List.forall_mem_cons.mpr ⟨lw_p71, List.forall_mem_cons.mpr ⟨lw_p72, fun _ h => absurd h List.not_mem_nil⟩⟩⟩⟩⟩⟩⟩⟩⟩
def lw_privs : List (MethodName × Nat) := lw_privs_1 ++ (lw_privs_2 ++ (lw_privs_3 ++ (lw_privs_4 ++ (lw_privs_5))))
def lw_tbl : List Cond := k2_sels lw_privs ++ tables_1
theorem lw_privs_ok : ∀ q ∈ lw_privs, lw_okq q := by
  show ∀ q ∈ lw_privs_1 ++ (lw_privs_2 ++ (lw_privs_3 ++ (lw_privs_4 ++ (lw_privs_5)))), lw_okq q
  exact List.forall_mem_append.mpr ⟨lw_r1, List.forall_mem_append.mpr ⟨lw_r2, List.forall_mem_append.mpr ⟨lw_r3, List.forall_mem_append.mpr ⟨lw_r4, lw_r5⟩⟩⟩⟩
