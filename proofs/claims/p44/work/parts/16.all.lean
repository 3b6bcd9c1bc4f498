-- all methods together: a program laid these rows
noncomputable def pm_C0 : Nat → Nat → pm_S := (pm_nd 109 (pm_nd 54 (pm_nd 26 (pm_nd 12 (pm_nd 5 (pm_nd 2 (pm_nd 0 (pm_lf (fun _ => pms_no) 0 pc_X0_init) (pm_nd 1 (pm_lf (fun _ => pms_no) 1 pc_X0_forget) (pm_lf (fun _ => pms_no) 2 pc_X0_play))) (pm_nd 3 (pm_lf (fun _ => pms_no) 3 pc_X0_perform) (pm_nd 4 (pm_lf (fun _ => pms_no) 4 pc_X0_enter) (pm_lf (fun _ => pms_no) 5 pc_X0_thinks)))) (pm_nd 8 (pm_nd 6 (pm_lf (fun _ => pms_no) 6 pc_X0_asks) (pm_nd 7 (pm_lf (fun _ => pms_no) 7 pc_X0_parts) (pm_lf (fun _ => pms_no) 8 pc_X0_writes))) (pm_nd 10 (pm_nd 9 (pm_lf (fun _ => pms_no) 9 pc_X1_init) (pm_lf (fun _ => pms_no) 10 pc_X1_begin)) (pm_nd 11 (pm_lf (fun _ => pms_no) 11 pc_X1_become) (pm_lf (fun _ => pms_no) 12 pc_X1_add))))) (pm_nd 19 (pm_nd 15 (pm_nd 13 (pm_lf (fun _ => pms_no) 13 pc_X1_has) (pm_nd 14 (pm_lf (fun _ => pms_no) 14 pc_X1_sumOf) (pm_lf (fun _ => pms_no) 15 pc_X1_countOf))) (pm_nd 17 (pm_nd 16 (pm_lf (fun _ => pms_no) 16 pc_X1_readySet) (pm_lf (fun _ => pms_no) 17 pc_X1_thinking)) (pm_nd 18 (pm_lf (fun _ => pms_no) 18 pc_X1_needing) (pm_lf (fun _ => pms_no) 19 pc_X1_saying)))) (pm_nd 22 (pm_nd 20 (pm_lf (fun _ => pms_no) 20 pc_X1_isUsing) (pm_nd 21 (pm_lf (fun _ => pms_no) 21 pc_X1_passWeek) (pm_lf (fun _ => pms_no) 22 pc_X1_passWeekByDraws))) (pm_nd 24 (pm_nd 23 (pm_lf (fun _ => pms_no) 23 pc_X1_draw) (pm_lf (fun _ => pms_no) 24 pc_X1_think)) (pm_nd 25 (pm_lf (fun _ => pms_no) 25 pc_X1_handOut) (pm_lf (fun _ => pms_no) 26 pc_X1_keenest)))))) (pm_nd 40 (pm_nd 33 (pm_nd 29 (pm_nd 27 (pm_lf (fun _ => pms_no) 27 pc_X1_speak) (pm_nd 28 (pm_lf (fun _ => pms_no) 28 pc_X2_init) (pm_lf (fun _ => pms_no) 29 pc_X2_begin))) (pm_nd 31 (pm_nd 30 (pm_lf (fun _ => pms_no) 30 pc_X3_init) (pm_lf (fun _ => pms_no) 31 pc_X3_holdPerson)) (pm_nd 32 (pm_lf (fun _ => pms_no) 32 pc_X3_holdRow) (pm_lf (fun _ => pms_no) 33 pc_X4_init)))) (pm_nd 36 (pm_nd 34 (pm_lf (fun _ => pms_no) 34 pc_X4_take) (pm_nd 35 (pm_lf (fun _ => pms_no) 35 pc_X4_tell) (pm_lf (fun _ => pms_no) 36 pc_X4_cut))) (pm_nd 38 (pm_nd 37 (pm_lf (fun _ => pms_no) 37 pc_X4_cutName) (pm_lf (fun _ => pms_no) 38 pc_X4_cutNumber)) (pm_nd 39 (pm_lf (fun _ => pms_no) 39 pc_X4_addToken) (pm_lf (fun _ => pms_no) 40 pc_X4_wordAt))))) (pm_nd 47 (pm_nd 43 (pm_nd 41 (pm_lf (fun _ => pms_no) 41 pc_X4_isSpelt) (pm_nd 42 (pm_lf (fun _ => pms_no) 42 pc_X4_spelling) (pm_lf (fun _ => pms_no) 43 pc_X4_isLetter))) (pm_nd 45 (pm_nd 44 (pm_lf (fun _ => pms_no) 44 pc_X4_isDigit) (pm_lf (fun _ => pms_no) 45 pc_X4_tellOne)) (pm_nd 46 (pm_lf (fun _ => pms_no) 46 pc_X4_tellPerson) (pm_lf (fun _ => pms_no) 47 pc_X4_numberBehind)))) (pm_nd 50 (pm_nd 48 (pm_lf (fun _ => pms_no) 48 pc_X4_numberUpTo) (pm_nd 49 (pm_lf (fun _ => pms_no) 49 pc_X4_passSemicolon) (pm_lf (fun _ => pms_no) 50 pc_X4_fail))) (pm_nd 52 (pm_nd 51 (pm_lf (fun _ => pms_no) 51 pc_X5_init) (pm_lf (fun _ => pms_no) 52 pc_X5_feed)) (pm_nd 53 (pm_lf (fun _ => pms_no) 53 pc_X5_post) (pm_lf (fun _ => pms_no) 54 pc_X5_set))))))) (pm_nd 81 (pm_nd 67 (pm_nd 60 (pm_nd 57 (pm_nd 55 (pm_lf (fun _ => pms_no) 55 pc_X5_lawOf) (pm_nd 56 (pm_lf (fun _ => pms_no) 56 pc_X5_person) (pm_lf (fun _ => pms_no) 57 pc_X5_of))) (pm_nd 58 (pm_lf (fun _ => pms_no) 58 pc_X5_does) (pm_nd 59 (pm_lf (fun _ => pms_no) 59 pc_X5_mind) (pm_lf (fun _ => pms_no) 60 pc_X5_thought)))) (pm_nd 63 (pm_nd 61 (pm_lf (fun _ => pms_no) 61 pc_X5_own) (pm_nd 62 (pm_lf (fun _ => pms_no) 62 pc_X5_give) (pm_lf (fun _ => pms_no) 63 pc_X5_weeks))) (pm_nd 65 (pm_nd 64 (pm_lf (fun _ => pms_no) 64 pc_X5_seed) (pm_lf (fun _ => pms_no) 65 pc_X5_week)) (pm_nd 66 (pm_lf (fun _ => pms_no) 66 pc_X5_poor) (pm_lf (fun _ => pms_no) 67 pc_X5_state))))) (pm_nd 74 (pm_nd 70 (pm_nd 68 (pm_lf (fun _ => pms_no) 68 pc_X5_words) (pm_nd 69 (pm_lf (fun _ => pms_no) 69 pc_X5_gets) (pm_lf (fun _ => pms_no) 70 pc_X5_idle))) (pm_nd 72 (pm_nd 71 (pm_lf (fun _ => pms_no) 71 pc_X5_vanFor) (pm_lf (fun _ => pms_no) 72 pc_X5_kindFor)) (pm_nd 73 (pm_lf (fun _ => pms_no) 73 pc_X5_thoughtFor) (pm_lf (fun _ => pms_no) 74 pc_X5_needed)))) (pm_nd 77 (pm_nd 75 (pm_lf (fun _ => pms_no) 75 pc_X5_fewest) (pm_nd 76 (pm_lf (fun _ => pms_no) 76 pc_X5_packed) (pm_lf (fun _ => pms_no) 77 pc_X5_fits))) (pm_nd 79 (pm_nd 78 (pm_lf (fun _ => pms_no) 78 pc_X5_odds) (pm_lf (fun _ => pms_no) 79 pc_X5_hope)) (pm_nd 80 (pm_lf (fun _ => pms_no) 80 pc_X5_prove) (pm_lf (fun _ => pms_no) 81 pc_X5_row)))))) (pm_nd 95 (pm_nd 88 (pm_nd 84 (pm_nd 82 (pm_lf (fun _ => pms_no) 82 pc_X5_alterRow) (pm_nd 83 (pm_lf (fun _ => pms_no) 83 pc_X5_judge) (pm_lf (fun _ => pms_no) 84 pc_X5_minds))) (pm_nd 86 (pm_nd 85 (pm_lf (fun _ => pms_no) 85 pc_X5_sheet) (pm_lf (fun _ => pms_no) 86 pc_X5_put)) (pm_nd 87 (pm_lf (fun _ => pms_no) 87 pc_X5_item) (pm_lf (fun _ => pms_no) 88 pc_X5_shelf)))) (pm_nd 91 (pm_nd 89 (pm_lf (fun _ => pms_no) 89 pc_X5_taken) (pm_nd 90 (pm_lf (fun _ => pms_no) 90 pc_X5_act) (pm_lf (fun _ => pms_no) 91 pc_X5_trace))) (pm_nd 93 (pm_nd 92 (pm_lf (fun _ => pms_no) 92 pc_X5_many) (pm_lf (fun _ => pms_no) 93 pc_X5_keep)) (pm_nd 94 (pm_lf (fun _ => pms_no) 94 pc_X5_again) (pm_lf (fun _ => pms_no) 95 pc_X5_isWithin))))) (pm_nd 102 (pm_nd 98 (pm_nd 96 (pm_lf (fun _ => pms_no) 96 pc_X5_isKind) (pm_nd 97 (pm_lf (fun _ => pms_no) 97 pc_X5_isPlace) (pm_lf (fun _ => pms_no) 98 pc_X5_isUnder))) (pm_nd 100 (pm_nd 99 (pm_lf (fun _ => pms_no) 99 pc_X5_isInRow) (pm_lf (fun _ => pms_no) 100 pc_X5_trial)) (pm_nd 101 (pm_lf (fun _ => pms_no) 101 pc_X5_wordsBy) (pm_lf (fun _ => pms_no) 102 pc_X5_isTold)))) (pm_nd 105 (pm_nd 103 (pm_lf (fun _ => pms_no) 103 pc_X5_leastPacking) (pm_nd 104 (pm_lf (fun _ => pms_no) 104 pc_X5_choices) (pm_lf (fun _ => pms_no) 105 pc_X5_partOf))) (pm_nd 107 (pm_nd 106 (pm_lf (fun _ => pms_no) 106 pc_X5_commonDivisor) (pm_lf (fun _ => pms_no) 107 pc_X5_narrowed)) (pm_nd 108 (pm_lf (fun _ => pms_no) 108 pc_X6_init) (pm_lf (fun _ => pms_no) 109 pc_X6_begins)))))))) (pm_nd 164 (pm_nd 136 (pm_nd 122 (pm_nd 115 (pm_nd 112 (pm_nd 110 (pm_lf (fun _ => pms_no) 110 pc_X6_in) (pm_nd 111 (pm_lf (fun _ => pms_no) 111 pc_X6_held) (pm_lf (fun _ => pms_no) 112 pc_X6_moveAll))) (pm_nd 113 (pm_lf (fun _ => pms_no) 113 pc_X6_isOne) (pm_nd 114 (pm_lf (fun _ => pms_no) 114 pc_X6_its) (pm_lf (fun _ => pms_no) 115 pc_X6_sets)))) (pm_nd 118 (pm_nd 116 (pm_lf (fun _ => pms_no) 116 pc_X6_becomes) (pm_nd 117 (pm_lf (fun _ => pms_no) 117 pc_X6_ones) (pm_lf (fun _ => pms_no) 118 pc_X6_feed))) (pm_nd 120 (pm_nd 119 (pm_lf (fun _ => pms_no) 119 pc_X6_byteAt) (pm_lf (fun _ => pms_no) 120 pc_X6_isLetter)) (pm_nd 121 (pm_lf (fun _ => pms_no) 121 pc_X6_isDigit) (pm_lf (fun _ => pms_no) 122 pc_X6_advance))))) (pm_nd 129 (pm_nd 125 (pm_nd 123 (pm_lf (fun _ => pms_no) 123 pc_X6_isWord) (pm_nd 124 (pm_lf (fun _ => pms_no) 124 pc_X6_isMark) (pm_lf (fun _ => pms_no) 125 pc_X6_kindHere))) (pm_nd 127 (pm_nd 126 (pm_lf (fun _ => pms_no) 126 pc_X6_lawHere) (pm_lf (fun _ => pms_no) 127 pc_X6_wantNumber)) (pm_nd 128 (pm_lf (fun _ => pms_no) 128 pc_X6_wantEnd) (pm_lf (fun _ => pms_no) 129 pc_X6_mayWant)))) (pm_nd 132 (pm_nd 130 (pm_lf (fun _ => pms_no) 130 pc_X6_wantOne) (pm_nd 131 (pm_lf (fun _ => pms_no) 131 pc_X6_wantClause) (pm_lf (fun _ => pms_no) 132 pc_X6_post))) (pm_nd 134 (pm_nd 133 (pm_lf (fun _ => pms_no) 133 pc_X6_mostOf) (pm_lf (fun _ => pms_no) 134 pc_X6_set)) (pm_nd 135 (pm_lf (fun _ => pms_no) 135 pc_X6_lawOf) (pm_lf (fun _ => pms_no) 136 pc_X6_isKind)))))) (pm_nd 150 (pm_nd 143 (pm_nd 139 (pm_nd 137 (pm_lf (fun _ => pms_no) 137 pc_X6_person) (pm_nd 138 (pm_lf (fun _ => pms_no) 138 pc_X6_of) (pm_lf (fun _ => pms_no) 139 pc_X6_thinksOf))) (pm_nd 141 (pm_nd 140 (pm_lf (fun _ => pms_no) 140 pc_X6_needs) (pm_lf (fun _ => pms_no) 141 pc_X6_says)) (pm_nd 142 (pm_lf (fun _ => pms_no) 142 pc_X6_isUsed) (pm_lf (fun _ => pms_no) 143 pc_X6_does)))) (pm_nd 146 (pm_nd 144 (pm_lf (fun _ => pms_no) 144 pc_X6_mind) (pm_nd 145 (pm_lf (fun _ => pms_no) 145 pc_X6_thought) (pm_lf (fun _ => pms_no) 146 pc_X6_own))) (pm_nd 148 (pm_nd 147 (pm_lf (fun _ => pms_no) 147 pc_X6_give) (pm_lf (fun _ => pms_no) 148 pc_X6_isReady)) (pm_nd 149 (pm_lf (fun _ => pms_no) 149 pc_X6_readySet) (pm_lf (fun _ => pms_no) 150 pc_X6_next))))) (pm_nd 157 (pm_nd 153 (pm_nd 151 (pm_lf (fun _ => pms_no) 151 pc_X6_pageGoes) (pm_nd 152 (pm_lf (fun _ => pms_no) 152 pc_X6_writes) (pm_lf (fun _ => pms_no) 153 pc_X6_weekGoes))) (pm_nd 155 (pm_nd 154 (pm_lf (fun _ => pms_no) 154 pc_X6_sumOf) (pm_lf (fun _ => pms_no) 155 pc_X6_weeks)) (pm_nd 156 (pm_lf (fun _ => pms_no) 156 pc_X6_drawn) (pm_lf (fun _ => pms_no) 157 pc_X6_seed)))) (pm_nd 160 (pm_nd 158 (pm_lf (fun _ => pms_no) 158 pc_X6_weekByDraws) (pm_nd 159 (pm_lf (fun _ => pms_no) 159 pc_X6_week) (pm_lf (fun _ => pms_no) 160 pc_X6_poor))) (pm_nd 162 (pm_nd 161 (pm_lf (fun _ => pms_no) 161 pc_X6_state) (pm_lf (fun _ => pms_no) 162 pc_X6_wordsBehind)) (pm_nd 163 (pm_lf (fun _ => pms_no) 163 pc_X6_words) (pm_lf (fun _ => pms_no) 164 pc_X6_gets))))))) (pm_nd 192 (pm_nd 178 (pm_nd 171 (pm_nd 167 (pm_nd 165 (pm_lf (fun _ => pms_no) 165 pc_X6_idle) (pm_nd 166 (pm_lf (fun _ => pms_no) 166 pc_X6_vanFor) (pm_lf (fun _ => pms_no) 167 pc_X6_kindFor))) (pm_nd 169 (pm_nd 168 (pm_lf (fun _ => pms_no) 168 pc_X6_thoughtFor) (pm_lf (fun _ => pms_no) 169 pc_X6_needed)) (pm_nd 170 (pm_lf (fun _ => pms_no) 170 pc_X6_fewest) (pm_lf (fun _ => pms_no) 171 pc_X6_thoughtOf)))) (pm_nd 174 (pm_nd 172 (pm_lf (fun _ => pms_no) 172 pc_X6_packed) (pm_nd 173 (pm_lf (fun _ => pms_no) 173 pc_X6_isSo) (pm_lf (fun _ => pms_no) 174 pc_X6_fits))) (pm_nd 176 (pm_nd 175 (pm_lf (fun _ => pms_no) 175 pc_X6_lowest) (pm_lf (fun _ => pms_no) 176 pc_X6_powerOf)) (pm_nd 177 (pm_lf (fun _ => pms_no) 177 pc_X6_odds) (pm_lf (fun _ => pms_no) 178 pc_X6_hope))))) (pm_nd 185 (pm_nd 181 (pm_nd 179 (pm_lf (fun _ => pms_no) 179 pc_X6_findRows) (pm_nd 180 (pm_lf (fun _ => pms_no) 180 pc_X6_prove) (pm_lf (fun _ => pms_no) 181 pc_X6_isRow))) (pm_nd 183 (pm_nd 182 (pm_lf (fun _ => pms_no) 182 pc_X6_row) (pm_lf (fun _ => pms_no) 183 pc_X6_alterRow)) (pm_nd 184 (pm_lf (fun _ => pms_no) 184 pc_X6_judge) (pm_lf (fun _ => pms_no) 185 pc_X6_minds)))) (pm_nd 188 (pm_nd 186 (pm_lf (fun _ => pms_no) 186 pc_X6_isShelf) (pm_nd 187 (pm_lf (fun _ => pms_no) 187 pc_X6_sheet) (pm_lf (fun _ => pms_no) 188 pc_X6_put))) (pm_nd 190 (pm_nd 189 (pm_lf (fun _ => pms_no) 189 pc_X6_lacksSort) (pm_lf (fun _ => pms_no) 190 pc_X6_item)) (pm_nd 191 (pm_lf (fun _ => pms_no) 191 pc_X6_isHeld) (pm_lf (fun _ => pms_no) 192 pc_X6_shelf)))))) (pm_nd 206 (pm_nd 199 (pm_nd 195 (pm_nd 193 (pm_lf (fun _ => pms_no) 193 pc_X6_kindOn) (pm_nd 194 (pm_lf (fun _ => pms_no) 194 pc_X6_isUnder) (pm_lf (fun _ => pms_no) 195 pc_X6_taken))) (pm_nd 197 (pm_nd 196 (pm_lf (fun _ => pms_no) 196 pc_X6_ran) (pm_lf (fun _ => pms_no) 197 pc_X6_plainThinks)) (pm_nd 198 (pm_lf (fun _ => pms_no) 198 pc_X6_widowThinks) (pm_lf (fun _ => pms_no) 199 pc_X6_thinksIt)))) (pm_nd 202 (pm_nd 200 (pm_lf (fun _ => pms_no) 200 pc_X6_plainAsks) (pm_nd 201 (pm_lf (fun _ => pms_no) 201 pc_X6_asksIt) (pm_lf (fun _ => pms_no) 202 pc_X6_plainParts))) (pm_nd 204 (pm_nd 203 (pm_lf (fun _ => pms_no) 203 pc_X6_partsIt) (pm_lf (fun _ => pms_no) 204 pc_X6_plainWrites)) (pm_nd 205 (pm_lf (fun _ => pms_no) 205 pc_X6_writesIt) (pm_lf (fun _ => pms_no) 206 pc_X6_act))))) (pm_nd 213 (pm_nd 209 (pm_nd 207 (pm_lf (fun _ => pms_no) 207 pc_X6_trace) (pm_nd 208 (pm_lf (fun _ => pms_no) 208 pc_X6_manyWith) (pm_lf (fun _ => pms_no) 209 pc_X6_many))) (pm_nd 211 (pm_nd 210 (pm_lf (fun _ => pms_no) 210 pc_X6_keep) (pm_lf (fun _ => pms_no) 211 pc_X6_again)) (pm_nd 212 (pm_lf (fun _ => pms_no) 212 pc_J6_bitCount_0f7a4) (pm_lf (fun _ => pms_no) 213 pc_J0_length_8abf5)))) (pm_nd 216 (pm_nd 214 (pm_lf (fun _ => pms_no) 214 pc_J0_charAt_5068e) (pm_nd 215 (pm_lf (fun _ => pms_no) 215 pc_J0_coder_7d493) (pm_lf (fun _ => pms_no) 216 pc_J0_isLatin1_aae02))) (pm_nd 218 (pm_nd 217 (pm_lf (fun _ => pms_no) 217 pc_J0_checkIndex_df160) (pm_lf (fun _ => pms_no) 218 pc_J1_charAt_3b067)) (pm_nd 219 (pm_lf (fun _ => pms_no) 219 pc_J3_checkIndex_8e157) (pm_lf (fun _ => pms_no) 220 pc_L_law)))))))))
set_option maxRecDepth 100000 in
def pm_Ck (K : pm_K) (cR : Nat → ClassId) (D : va_G) (k : Nat) (f : Nat → pm_S) : Prop := ∀ pc : Nat, pm_ok pm_T0 K cR D (pm_T0 k).2 pc (f pc)
theorem pC_nd {K : pm_K} {cR : Nat → ClassId} {D : va_G} {m : Nat} {a b : Nat → Nat → pm_S} (ha : ∀ k : Nat, pm_Ck K cR D k (a k)) (hb : ∀ k : Nat, pm_Ck K cR D k (b k)) : ∀ k : Nat, pm_Ck K cR D k (pm_nd m a b k) := by
  intro k
  unfold pm_nd
  cases Nat.ble k m
  · exact hb k
  · exact ha k
theorem pC_lf {K : pm_K} {cR : Nat → ClassId} {D : va_G} {i : Nat} {v : Nat → pm_S} (hv : pm_Ck K cR D i v) : ∀ k : Nat, pm_Ck K cR D k (pm_lf (fun _ => pms_no) i v k) := by
  intro k
  unfold pm_lf
  cases h : Nat.beq k i
  · exact fun _ => pmk_no
  · rw [Nat.eq_of_beq_eq_true h]; exact hv
theorem pCk_X0_init {K : pm_K} {cR : Nat → ClassId} {D : va_G} : pm_Ck K cR D 0 pc_X0_init := by unfold pm_Ck; rw [pT_0]; exact ok_X0_init
theorem pCk_X0_forget {K : pm_K} {cR : Nat → ClassId} {D : va_G} : pm_Ck K cR D 1 pc_X0_forget := by unfold pm_Ck; rw [pT_1]; exact ok_X0_forget
theorem pCk_X0_play {K : pm_K} {cR : Nat → ClassId} {D : va_G} : pm_Ck K cR D 2 pc_X0_play := by unfold pm_Ck; rw [pT_2]; exact ok_X0_play
theorem pCk_X0_perform {K : pm_K} {cR : Nat → ClassId} {D : va_G} : pm_Ck K cR D 3 pc_X0_perform := by unfold pm_Ck; rw [pT_3]; exact ok_X0_perform
theorem pCk_X0_enter {K : pm_K} {cR : Nat → ClassId} {D : va_G} : pm_Ck K cR D 4 pc_X0_enter := by unfold pm_Ck; rw [pT_4]; exact ok_X0_enter
theorem pCk_X0_thinks {K : pm_K} {cR : Nat → ClassId} {D : va_G} : pm_Ck K cR D 5 pc_X0_thinks := by unfold pm_Ck; rw [pT_5]; exact ok_X0_thinks
theorem pCk_X0_asks {K : pm_K} {cR : Nat → ClassId} {D : va_G} : pm_Ck K cR D 6 pc_X0_asks := by unfold pm_Ck; rw [pT_6]; exact ok_X0_asks
theorem pCk_X0_parts {K : pm_K} {cR : Nat → ClassId} {D : va_G} : pm_Ck K cR D 7 pc_X0_parts := by unfold pm_Ck; rw [pT_7]; exact ok_X0_parts
theorem pCk_X0_writes {K : pm_K} {cR : Nat → ClassId} {D : va_G} : pm_Ck K cR D 8 pc_X0_writes := by unfold pm_Ck; rw [pT_8]; exact ok_X0_writes
theorem pCk_X1_init {K : pm_K} {cR : Nat → ClassId} {D : va_G} : pm_Ck K cR D 9 pc_X1_init := by unfold pm_Ck; rw [pT_9]; exact ok_X1_init
theorem pCk_X1_begin {K : pm_K} {cR : Nat → ClassId} {D : va_G} : pm_Ck K cR D 10 pc_X1_begin := by unfold pm_Ck; rw [pT_10]; exact ok_X1_begin
theorem pCk_X1_become {K : pm_K} {cR : Nat → ClassId} {D : va_G} : pm_Ck K cR D 11 pc_X1_become := by unfold pm_Ck; rw [pT_11]; exact ok_X1_become
theorem pCk_X1_add {K : pm_K} {cR : Nat → ClassId} {D : va_G} : pm_Ck K cR D 12 pc_X1_add := by unfold pm_Ck; rw [pT_12]; exact ok_X1_add
theorem pCk_X1_has {K : pm_K} {cR : Nat → ClassId} {D : va_G} : pm_Ck K cR D 13 pc_X1_has := by unfold pm_Ck; rw [pT_13]; exact ok_X1_has
theorem pCk_X1_sumOf {K : pm_K} {cR : Nat → ClassId} {D : va_G} : pm_Ck K cR D 14 pc_X1_sumOf := by unfold pm_Ck; rw [pT_14]; exact ok_X1_sumOf
theorem pCk_X1_countOf {K : pm_K} {cR : Nat → ClassId} {D : va_G} : pm_Ck K cR D 15 pc_X1_countOf := by unfold pm_Ck; rw [pT_15]; exact ok_X1_countOf
theorem pCk_X1_readySet {K : pm_K} {cR : Nat → ClassId} {D : va_G} : pm_Ck K cR D 16 pc_X1_readySet := by unfold pm_Ck; rw [pT_16]; exact ok_X1_readySet
theorem pCk_X1_thinking {K : pm_K} {cR : Nat → ClassId} {D : va_G} : pm_Ck K cR D 17 pc_X1_thinking := by unfold pm_Ck; rw [pT_17]; exact ok_X1_thinking
theorem pCk_X1_needing {K : pm_K} {cR : Nat → ClassId} {D : va_G} : pm_Ck K cR D 18 pc_X1_needing := by unfold pm_Ck; rw [pT_18]; exact ok_X1_needing
theorem pCk_X1_saying {K : pm_K} {cR : Nat → ClassId} {D : va_G} : pm_Ck K cR D 19 pc_X1_saying := by unfold pm_Ck; rw [pT_19]; exact ok_X1_saying
theorem pCk_X1_isUsing {K : pm_K} {cR : Nat → ClassId} {D : va_G} : pm_Ck K cR D 20 pc_X1_isUsing := by unfold pm_Ck; rw [pT_20]; exact ok_X1_isUsing
theorem pCk_X1_passWeek {K : pm_K} {cR : Nat → ClassId} {D : va_G} : pm_Ck K cR D 21 pc_X1_passWeek := by unfold pm_Ck; rw [pT_21]; exact ok_X1_passWeek
theorem pCk_X1_passWeekByDraws {K : pm_K} {cR : Nat → ClassId} {D : va_G} : pm_Ck K cR D 22 pc_X1_passWeekByDraws := by unfold pm_Ck; rw [pT_22]; exact ok_X1_passWeekByDraws
theorem pCk_X1_draw {K : pm_K} {cR : Nat → ClassId} {D : va_G} : pm_Ck K cR D 23 pc_X1_draw := by unfold pm_Ck; rw [pT_23]; exact ok_X1_draw
theorem pCk_X1_think {K : pm_K} {cR : Nat → ClassId} {D : va_G} : pm_Ck K cR D 24 pc_X1_think := by unfold pm_Ck; rw [pT_24]; exact ok_X1_think
theorem pCk_X1_handOut {K : pm_K} {cR : Nat → ClassId} {D : va_G} : pm_Ck K cR D 25 pc_X1_handOut := by unfold pm_Ck; rw [pT_25]; exact ok_X1_handOut
theorem pCk_X1_keenest {K : pm_K} {cR : Nat → ClassId} {D : va_G} : pm_Ck K cR D 26 pc_X1_keenest := by unfold pm_Ck; rw [pT_26]; exact ok_X1_keenest
theorem pCk_X1_speak {K : pm_K} {cR : Nat → ClassId} {D : va_G} : pm_Ck K cR D 27 pc_X1_speak := by unfold pm_Ck; rw [pT_27]; exact ok_X1_speak
theorem pCk_X2_init {K : pm_K} {cR : Nat → ClassId} {D : va_G} : pm_Ck K cR D 28 pc_X2_init := by unfold pm_Ck; rw [pT_28]; exact ok_X2_init
theorem pCk_X2_begin {K : pm_K} {cR : Nat → ClassId} {D : va_G} : pm_Ck K cR D 29 pc_X2_begin := by unfold pm_Ck; rw [pT_29]; exact ok_X2_begin
theorem pCk_X3_init {K : pm_K} {cR : Nat → ClassId} {D : va_G} : pm_Ck K cR D 30 pc_X3_init := by unfold pm_Ck; rw [pT_30]; exact ok_X3_init
theorem pCk_X3_holdPerson {K : pm_K} {cR : Nat → ClassId} {D : va_G} : pm_Ck K cR D 31 pc_X3_holdPerson := by unfold pm_Ck; rw [pT_31]; exact ok_X3_holdPerson
theorem pCk_X3_holdRow {K : pm_K} {cR : Nat → ClassId} {D : va_G} : pm_Ck K cR D 32 pc_X3_holdRow := by unfold pm_Ck; rw [pT_32]; exact ok_X3_holdRow
theorem pCk_X4_init {K : pm_K} {cR : Nat → ClassId} {D : va_G} : pm_Ck K cR D 33 pc_X4_init := by unfold pm_Ck; rw [pT_33]; exact ok_X4_init
theorem pCk_X4_take {K : pm_K} {cR : Nat → ClassId} {D : va_G} : pm_Ck K cR D 34 pc_X4_take := by unfold pm_Ck; rw [pT_34]; exact ok_X4_take
theorem pCk_X4_tell {K : pm_K} {cR : Nat → ClassId} {D : va_G} : pm_Ck K cR D 35 pc_X4_tell := by unfold pm_Ck; rw [pT_35]; exact ok_X4_tell
theorem pCk_X4_cut {K : pm_K} {cR : Nat → ClassId} {D : va_G} : pm_Ck K cR D 36 pc_X4_cut := by unfold pm_Ck; rw [pT_36]; exact ok_X4_cut
theorem pCk_X4_cutName {K : pm_K} {cR : Nat → ClassId} {D : va_G} : pm_Ck K cR D 37 pc_X4_cutName := by unfold pm_Ck; rw [pT_37]; exact ok_X4_cutName
theorem pCk_X4_cutNumber {K : pm_K} {cR : Nat → ClassId} {D : va_G} : pm_Ck K cR D 38 pc_X4_cutNumber := by unfold pm_Ck; rw [pT_38]; exact ok_X4_cutNumber
theorem pCk_X4_addToken {K : pm_K} {cR : Nat → ClassId} {D : va_G} : pm_Ck K cR D 39 pc_X4_addToken := by unfold pm_Ck; rw [pT_39]; exact ok_X4_addToken
theorem pCk_X4_wordAt {K : pm_K} {cR : Nat → ClassId} {D : va_G} : pm_Ck K cR D 40 pc_X4_wordAt := by unfold pm_Ck; rw [pT_40]; exact ok_X4_wordAt
theorem pCk_X4_isSpelt {K : pm_K} {cR : Nat → ClassId} {D : va_G} : pm_Ck K cR D 41 pc_X4_isSpelt := by unfold pm_Ck; rw [pT_41]; exact ok_X4_isSpelt
theorem pCk_X4_spelling {K : pm_K} {cR : Nat → ClassId} {D : va_G} : pm_Ck K cR D 42 pc_X4_spelling := by unfold pm_Ck; rw [pT_42]; exact ok_X4_spelling
theorem pCk_X4_isLetter {K : pm_K} {cR : Nat → ClassId} {D : va_G} : pm_Ck K cR D 43 pc_X4_isLetter := by unfold pm_Ck; rw [pT_43]; exact ok_X4_isLetter
theorem pCk_X4_isDigit {K : pm_K} {cR : Nat → ClassId} {D : va_G} : pm_Ck K cR D 44 pc_X4_isDigit := by unfold pm_Ck; rw [pT_44]; exact ok_X4_isDigit
theorem pCk_X4_tellOne {K : pm_K} {cR : Nat → ClassId} {D : va_G} : pm_Ck K cR D 45 pc_X4_tellOne := by unfold pm_Ck; rw [pT_45]; exact ok_X4_tellOne
theorem pCk_X4_tellPerson {K : pm_K} {cR : Nat → ClassId} {D : va_G} : pm_Ck K cR D 46 pc_X4_tellPerson := by unfold pm_Ck; rw [pT_46]; exact ok_X4_tellPerson
theorem pCk_X4_numberBehind {K : pm_K} {cR : Nat → ClassId} {D : va_G} : pm_Ck K cR D 47 pc_X4_numberBehind := by unfold pm_Ck; rw [pT_47]; exact ok_X4_numberBehind
theorem pCk_X4_numberUpTo {K : pm_K} {cR : Nat → ClassId} {D : va_G} : pm_Ck K cR D 48 pc_X4_numberUpTo := by unfold pm_Ck; rw [pT_48]; exact ok_X4_numberUpTo
theorem pCk_X4_passSemicolon {K : pm_K} {cR : Nat → ClassId} {D : va_G} : pm_Ck K cR D 49 pc_X4_passSemicolon := by unfold pm_Ck; rw [pT_49]; exact ok_X4_passSemicolon
theorem pCk_X4_fail {K : pm_K} {cR : Nat → ClassId} {D : va_G} : pm_Ck K cR D 50 pc_X4_fail := by unfold pm_Ck; rw [pT_50]; exact ok_X4_fail
theorem pCk_X5_init {K : pm_K} {cR : Nat → ClassId} {D : va_G} : pm_Ck K cR D 51 pc_X5_init := by unfold pm_Ck; rw [pT_51]; exact ok_X5_init
theorem pCk_X5_feed {K : pm_K} {cR : Nat → ClassId} {D : va_G} : pm_Ck K cR D 52 pc_X5_feed := by unfold pm_Ck; rw [pT_52]; exact ok_X5_feed
theorem pCk_X5_post {K : pm_K} {cR : Nat → ClassId} {D : va_G} : pm_Ck K cR D 53 pc_X5_post := by unfold pm_Ck; rw [pT_53]; exact ok_X5_post
theorem pCk_X5_set {K : pm_K} {cR : Nat → ClassId} {D : va_G} : pm_Ck K cR D 54 pc_X5_set := by unfold pm_Ck; rw [pT_54]; exact ok_X5_set
theorem pCk_X5_lawOf {K : pm_K} {cR : Nat → ClassId} {D : va_G} : pm_Ck K cR D 55 pc_X5_lawOf := by unfold pm_Ck; rw [pT_55]; exact ok_X5_lawOf
theorem pCk_X5_person {K : pm_K} {cR : Nat → ClassId} {D : va_G} : pm_Ck K cR D 56 pc_X5_person := by unfold pm_Ck; rw [pT_56]; exact ok_X5_person
theorem pCk_X5_of {K : pm_K} {cR : Nat → ClassId} {D : va_G} : pm_Ck K cR D 57 pc_X5_of := by unfold pm_Ck; rw [pT_57]; exact ok_X5_of
theorem pCk_X5_does {K : pm_K} {cR : Nat → ClassId} {D : va_G} : pm_Ck K cR D 58 pc_X5_does := by unfold pm_Ck; rw [pT_58]; exact ok_X5_does
theorem pCk_X5_mind {K : pm_K} {cR : Nat → ClassId} {D : va_G} : pm_Ck K cR D 59 pc_X5_mind := by unfold pm_Ck; rw [pT_59]; exact ok_X5_mind
theorem pCk_X5_thought {K : pm_K} {cR : Nat → ClassId} {D : va_G} : pm_Ck K cR D 60 pc_X5_thought := by unfold pm_Ck; rw [pT_60]; exact ok_X5_thought
theorem pCk_X5_own {K : pm_K} {cR : Nat → ClassId} {D : va_G} : pm_Ck K cR D 61 pc_X5_own := by unfold pm_Ck; rw [pT_61]; exact ok_X5_own
theorem pCk_X5_give {K : pm_K} {cR : Nat → ClassId} {D : va_G} : pm_Ck K cR D 62 pc_X5_give := by unfold pm_Ck; rw [pT_62]; exact ok_X5_give
theorem pCk_X5_weeks {K : pm_K} {cR : Nat → ClassId} {D : va_G} : pm_Ck K cR D 63 pc_X5_weeks := by unfold pm_Ck; rw [pT_63]; exact ok_X5_weeks
theorem pCk_X5_seed {K : pm_K} {cR : Nat → ClassId} {D : va_G} : pm_Ck K cR D 64 pc_X5_seed := by unfold pm_Ck; rw [pT_64]; exact ok_X5_seed
theorem pCk_X5_week {K : pm_K} {cR : Nat → ClassId} {D : va_G} : pm_Ck K cR D 65 pc_X5_week := by unfold pm_Ck; rw [pT_65]; exact ok_X5_week
theorem pCk_X5_poor {K : pm_K} {cR : Nat → ClassId} {D : va_G} : pm_Ck K cR D 66 pc_X5_poor := by unfold pm_Ck; rw [pT_66]; exact ok_X5_poor
theorem pCk_X5_state {K : pm_K} {cR : Nat → ClassId} {D : va_G} : pm_Ck K cR D 67 pc_X5_state := by unfold pm_Ck; rw [pT_67]; exact ok_X5_state
theorem pCk_X5_words {K : pm_K} {cR : Nat → ClassId} {D : va_G} : pm_Ck K cR D 68 pc_X5_words := by unfold pm_Ck; rw [pT_68]; exact ok_X5_words
theorem pCk_X5_gets {K : pm_K} {cR : Nat → ClassId} {D : va_G} : pm_Ck K cR D 69 pc_X5_gets := by unfold pm_Ck; rw [pT_69]; exact ok_X5_gets
theorem pCk_X5_idle {K : pm_K} {cR : Nat → ClassId} {D : va_G} : pm_Ck K cR D 70 pc_X5_idle := by unfold pm_Ck; rw [pT_70]; exact ok_X5_idle
theorem pCk_X5_vanFor {K : pm_K} {cR : Nat → ClassId} {D : va_G} : pm_Ck K cR D 71 pc_X5_vanFor := by unfold pm_Ck; rw [pT_71]; exact ok_X5_vanFor
theorem pCk_X5_kindFor {K : pm_K} {cR : Nat → ClassId} {D : va_G} : pm_Ck K cR D 72 pc_X5_kindFor := by unfold pm_Ck; rw [pT_72]; exact ok_X5_kindFor
theorem pCk_X5_thoughtFor {K : pm_K} {cR : Nat → ClassId} {D : va_G} : pm_Ck K cR D 73 pc_X5_thoughtFor := by unfold pm_Ck; rw [pT_73]; exact ok_X5_thoughtFor
theorem pCk_X5_needed {K : pm_K} {cR : Nat → ClassId} {D : va_G} : pm_Ck K cR D 74 pc_X5_needed := by unfold pm_Ck; rw [pT_74]; exact ok_X5_needed
theorem pCk_X5_fewest {K : pm_K} {cR : Nat → ClassId} {D : va_G} : pm_Ck K cR D 75 pc_X5_fewest := by unfold pm_Ck; rw [pT_75]; exact ok_X5_fewest
theorem pCk_X5_packed {K : pm_K} {cR : Nat → ClassId} {D : va_G} : pm_Ck K cR D 76 pc_X5_packed := by unfold pm_Ck; rw [pT_76]; exact ok_X5_packed
theorem pCk_X5_fits {K : pm_K} {cR : Nat → ClassId} {D : va_G} : pm_Ck K cR D 77 pc_X5_fits := by unfold pm_Ck; rw [pT_77]; exact ok_X5_fits
theorem pCk_X5_odds {K : pm_K} {cR : Nat → ClassId} {D : va_G} : pm_Ck K cR D 78 pc_X5_odds := by unfold pm_Ck; rw [pT_78]; exact ok_X5_odds
theorem pCk_X5_hope {K : pm_K} {cR : Nat → ClassId} {D : va_G} : pm_Ck K cR D 79 pc_X5_hope := by unfold pm_Ck; rw [pT_79]; exact ok_X5_hope
theorem pCk_X5_prove {K : pm_K} {cR : Nat → ClassId} {D : va_G} : pm_Ck K cR D 80 pc_X5_prove := by unfold pm_Ck; rw [pT_80]; exact ok_X5_prove
theorem pCk_X5_row {K : pm_K} {cR : Nat → ClassId} {D : va_G} : pm_Ck K cR D 81 pc_X5_row := by unfold pm_Ck; rw [pT_81]; exact ok_X5_row
theorem pCk_X5_alterRow {K : pm_K} {cR : Nat → ClassId} {D : va_G} : pm_Ck K cR D 82 pc_X5_alterRow := by unfold pm_Ck; rw [pT_82]; exact ok_X5_alterRow
theorem pCk_X5_judge {K : pm_K} {cR : Nat → ClassId} {D : va_G} : pm_Ck K cR D 83 pc_X5_judge := by unfold pm_Ck; rw [pT_83]; exact ok_X5_judge
theorem pCk_X5_minds {K : pm_K} {cR : Nat → ClassId} {D : va_G} : pm_Ck K cR D 84 pc_X5_minds := by unfold pm_Ck; rw [pT_84]; exact ok_X5_minds
theorem pCk_X5_sheet {K : pm_K} {cR : Nat → ClassId} {D : va_G} : pm_Ck K cR D 85 pc_X5_sheet := by unfold pm_Ck; rw [pT_85]; exact ok_X5_sheet
theorem pCk_X5_put {K : pm_K} {cR : Nat → ClassId} {D : va_G} : pm_Ck K cR D 86 pc_X5_put := by unfold pm_Ck; rw [pT_86]; exact ok_X5_put
theorem pCk_X5_item {K : pm_K} {cR : Nat → ClassId} {D : va_G} : pm_Ck K cR D 87 pc_X5_item := by unfold pm_Ck; rw [pT_87]; exact ok_X5_item
theorem pCk_X5_shelf {K : pm_K} {cR : Nat → ClassId} {D : va_G} : pm_Ck K cR D 88 pc_X5_shelf := by unfold pm_Ck; rw [pT_88]; exact ok_X5_shelf
theorem pCk_X5_taken {K : pm_K} {cR : Nat → ClassId} {D : va_G} : pm_Ck K cR D 89 pc_X5_taken := by unfold pm_Ck; rw [pT_89]; exact ok_X5_taken
theorem pCk_X5_act {K : pm_K} {cR : Nat → ClassId} {D : va_G} : pm_Ck K cR D 90 pc_X5_act := by unfold pm_Ck; rw [pT_90]; exact ok_X5_act
theorem pCk_X5_trace {K : pm_K} {cR : Nat → ClassId} {D : va_G} : pm_Ck K cR D 91 pc_X5_trace := by unfold pm_Ck; rw [pT_91]; exact ok_X5_trace
theorem pCk_X5_many {K : pm_K} {cR : Nat → ClassId} {D : va_G} : pm_Ck K cR D 92 pc_X5_many := by unfold pm_Ck; rw [pT_92]; exact ok_X5_many
theorem pCk_X5_keep {K : pm_K} {cR : Nat → ClassId} {D : va_G} : pm_Ck K cR D 93 pc_X5_keep := by unfold pm_Ck; rw [pT_93]; exact ok_X5_keep
theorem pCk_X5_again {K : pm_K} {cR : Nat → ClassId} {D : va_G} : pm_Ck K cR D 94 pc_X5_again := by unfold pm_Ck; rw [pT_94]; exact ok_X5_again
theorem pCk_X5_isWithin {K : pm_K} {cR : Nat → ClassId} {D : va_G} : pm_Ck K cR D 95 pc_X5_isWithin := by unfold pm_Ck; rw [pT_95]; exact ok_X5_isWithin
theorem pCk_X5_isKind {K : pm_K} {cR : Nat → ClassId} {D : va_G} : pm_Ck K cR D 96 pc_X5_isKind := by unfold pm_Ck; rw [pT_96]; exact ok_X5_isKind
theorem pCk_X5_isPlace {K : pm_K} {cR : Nat → ClassId} {D : va_G} : pm_Ck K cR D 97 pc_X5_isPlace := by unfold pm_Ck; rw [pT_97]; exact ok_X5_isPlace
theorem pCk_X5_isUnder {K : pm_K} {cR : Nat → ClassId} {D : va_G} : pm_Ck K cR D 98 pc_X5_isUnder := by unfold pm_Ck; rw [pT_98]; exact ok_X5_isUnder
theorem pCk_X5_isInRow {K : pm_K} {cR : Nat → ClassId} {D : va_G} : pm_Ck K cR D 99 pc_X5_isInRow := by unfold pm_Ck; rw [pT_99]; exact ok_X5_isInRow
theorem pCk_X5_trial {K : pm_K} {cR : Nat → ClassId} {D : va_G} : pm_Ck K cR D 100 pc_X5_trial := by unfold pm_Ck; rw [pT_100]; exact ok_X5_trial
theorem pCk_X5_wordsBy {K : pm_K} {cR : Nat → ClassId} {D : va_G} : pm_Ck K cR D 101 pc_X5_wordsBy := by unfold pm_Ck; rw [pT_101]; exact ok_X5_wordsBy
theorem pCk_X5_isTold {K : pm_K} {cR : Nat → ClassId} {D : va_G} : pm_Ck K cR D 102 pc_X5_isTold := by unfold pm_Ck; rw [pT_102]; exact ok_X5_isTold
theorem pCk_X5_leastPacking {K : pm_K} {cR : Nat → ClassId} {D : va_G} : pm_Ck K cR D 103 pc_X5_leastPacking := by unfold pm_Ck; rw [pT_103]; exact ok_X5_leastPacking
theorem pCk_X5_choices {K : pm_K} {cR : Nat → ClassId} {D : va_G} : pm_Ck K cR D 104 pc_X5_choices := by unfold pm_Ck; rw [pT_104]; exact ok_X5_choices
theorem pCk_X5_partOf {K : pm_K} {cR : Nat → ClassId} {D : va_G} : pm_Ck K cR D 105 pc_X5_partOf := by unfold pm_Ck; rw [pT_105]; exact ok_X5_partOf
theorem pCk_X5_commonDivisor {K : pm_K} {cR : Nat → ClassId} {D : va_G} : pm_Ck K cR D 106 pc_X5_commonDivisor := by unfold pm_Ck; rw [pT_106]; exact ok_X5_commonDivisor
theorem pCk_X5_narrowed {K : pm_K} {cR : Nat → ClassId} {D : va_G} : pm_Ck K cR D 107 pc_X5_narrowed := by unfold pm_Ck; rw [pT_107]; exact ok_X5_narrowed
theorem pCk_X6_init {K : pm_K} {cR : Nat → ClassId} {D : va_G} : pm_Ck K cR D 108 pc_X6_init := by unfold pm_Ck; rw [pT_108]; exact ok_X6_init
theorem pCk_X6_begins {K : pm_K} {cR : Nat → ClassId} {D : va_G} : pm_Ck K cR D 109 pc_X6_begins := by unfold pm_Ck; rw [pT_109]; exact ok_X6_begins
theorem pCk_X6_in {K : pm_K} {cR : Nat → ClassId} {D : va_G} : pm_Ck K cR D 110 pc_X6_in := by unfold pm_Ck; rw [pT_110]; exact ok_X6_in
theorem pCk_X6_held {K : pm_K} {cR : Nat → ClassId} {D : va_G} : pm_Ck K cR D 111 pc_X6_held := by unfold pm_Ck; rw [pT_111]; exact ok_X6_held
theorem pCk_X6_moveAll {K : pm_K} {cR : Nat → ClassId} {D : va_G} : pm_Ck K cR D 112 pc_X6_moveAll := by unfold pm_Ck; rw [pT_112]; exact ok_X6_moveAll
theorem pCk_X6_isOne {K : pm_K} {cR : Nat → ClassId} {D : va_G} : pm_Ck K cR D 113 pc_X6_isOne := by unfold pm_Ck; rw [pT_113]; exact ok_X6_isOne
theorem pCk_X6_its {K : pm_K} {cR : Nat → ClassId} {D : va_G} : pm_Ck K cR D 114 pc_X6_its := by unfold pm_Ck; rw [pT_114]; exact ok_X6_its
theorem pCk_X6_sets {K : pm_K} {cR : Nat → ClassId} {D : va_G} : pm_Ck K cR D 115 pc_X6_sets := by unfold pm_Ck; rw [pT_115]; exact ok_X6_sets
theorem pCk_X6_becomes {K : pm_K} {cR : Nat → ClassId} {D : va_G} : pm_Ck K cR D 116 pc_X6_becomes := by unfold pm_Ck; rw [pT_116]; exact ok_X6_becomes
theorem pCk_X6_ones {K : pm_K} {cR : Nat → ClassId} {D : va_G} : pm_Ck K cR D 117 pc_X6_ones := by unfold pm_Ck; rw [pT_117]; exact ok_X6_ones
theorem pCk_X6_feed {K : pm_K} {cR : Nat → ClassId} {D : va_G} : pm_Ck K cR D 118 pc_X6_feed := by unfold pm_Ck; rw [pT_118]; exact ok_X6_feed
theorem pCk_X6_byteAt {K : pm_K} {cR : Nat → ClassId} {D : va_G} : pm_Ck K cR D 119 pc_X6_byteAt := by unfold pm_Ck; rw [pT_119]; exact ok_X6_byteAt
theorem pCk_X6_isLetter {K : pm_K} {cR : Nat → ClassId} {D : va_G} : pm_Ck K cR D 120 pc_X6_isLetter := by unfold pm_Ck; rw [pT_120]; exact ok_X6_isLetter
theorem pCk_X6_isDigit {K : pm_K} {cR : Nat → ClassId} {D : va_G} : pm_Ck K cR D 121 pc_X6_isDigit := by unfold pm_Ck; rw [pT_121]; exact ok_X6_isDigit
theorem pCk_X6_advance {K : pm_K} {cR : Nat → ClassId} {D : va_G} : pm_Ck K cR D 122 pc_X6_advance := by unfold pm_Ck; rw [pT_122]; exact ok_X6_advance
theorem pCk_X6_isWord {K : pm_K} {cR : Nat → ClassId} {D : va_G} : pm_Ck K cR D 123 pc_X6_isWord := by unfold pm_Ck; rw [pT_123]; exact ok_X6_isWord
theorem pCk_X6_isMark {K : pm_K} {cR : Nat → ClassId} {D : va_G} : pm_Ck K cR D 124 pc_X6_isMark := by unfold pm_Ck; rw [pT_124]; exact ok_X6_isMark
theorem pCk_X6_kindHere {K : pm_K} {cR : Nat → ClassId} {D : va_G} : pm_Ck K cR D 125 pc_X6_kindHere := by unfold pm_Ck; rw [pT_125]; exact ok_X6_kindHere
theorem pCk_X6_lawHere {K : pm_K} {cR : Nat → ClassId} {D : va_G} : pm_Ck K cR D 126 pc_X6_lawHere := by unfold pm_Ck; rw [pT_126]; exact ok_X6_lawHere
theorem pCk_X6_wantNumber {K : pm_K} {cR : Nat → ClassId} {D : va_G} : pm_Ck K cR D 127 pc_X6_wantNumber := by unfold pm_Ck; rw [pT_127]; exact ok_X6_wantNumber
theorem pCk_X6_wantEnd {K : pm_K} {cR : Nat → ClassId} {D : va_G} : pm_Ck K cR D 128 pc_X6_wantEnd := by unfold pm_Ck; rw [pT_128]; exact ok_X6_wantEnd
theorem pCk_X6_mayWant {K : pm_K} {cR : Nat → ClassId} {D : va_G} : pm_Ck K cR D 129 pc_X6_mayWant := by unfold pm_Ck; rw [pT_129]; exact ok_X6_mayWant
theorem pCk_X6_wantOne {K : pm_K} {cR : Nat → ClassId} {D : va_G} : pm_Ck K cR D 130 pc_X6_wantOne := by unfold pm_Ck; rw [pT_130]; exact ok_X6_wantOne
theorem pCk_X6_wantClause {K : pm_K} {cR : Nat → ClassId} {D : va_G} : pm_Ck K cR D 131 pc_X6_wantClause := by unfold pm_Ck; rw [pT_131]; exact ok_X6_wantClause
theorem pCk_X6_post {K : pm_K} {cR : Nat → ClassId} {D : va_G} : pm_Ck K cR D 132 pc_X6_post := by unfold pm_Ck; rw [pT_132]; exact ok_X6_post
theorem pCk_X6_mostOf {K : pm_K} {cR : Nat → ClassId} {D : va_G} : pm_Ck K cR D 133 pc_X6_mostOf := by unfold pm_Ck; rw [pT_133]; exact ok_X6_mostOf
theorem pCk_X6_set {K : pm_K} {cR : Nat → ClassId} {D : va_G} : pm_Ck K cR D 134 pc_X6_set := by unfold pm_Ck; rw [pT_134]; exact ok_X6_set
theorem pCk_X6_lawOf {K : pm_K} {cR : Nat → ClassId} {D : va_G} : pm_Ck K cR D 135 pc_X6_lawOf := by unfold pm_Ck; rw [pT_135]; exact ok_X6_lawOf
theorem pCk_X6_isKind {K : pm_K} {cR : Nat → ClassId} {D : va_G} : pm_Ck K cR D 136 pc_X6_isKind := by unfold pm_Ck; rw [pT_136]; exact ok_X6_isKind
theorem pCk_X6_person {K : pm_K} {cR : Nat → ClassId} {D : va_G} : pm_Ck K cR D 137 pc_X6_person := by unfold pm_Ck; rw [pT_137]; exact ok_X6_person
theorem pCk_X6_of {K : pm_K} {cR : Nat → ClassId} {D : va_G} : pm_Ck K cR D 138 pc_X6_of := by unfold pm_Ck; rw [pT_138]; exact ok_X6_of
theorem pCk_X6_thinksOf {K : pm_K} {cR : Nat → ClassId} {D : va_G} : pm_Ck K cR D 139 pc_X6_thinksOf := by unfold pm_Ck; rw [pT_139]; exact ok_X6_thinksOf
theorem pCk_X6_needs {K : pm_K} {cR : Nat → ClassId} {D : va_G} : pm_Ck K cR D 140 pc_X6_needs := by unfold pm_Ck; rw [pT_140]; exact ok_X6_needs
theorem pCk_X6_says {K : pm_K} {cR : Nat → ClassId} {D : va_G} : pm_Ck K cR D 141 pc_X6_says := by unfold pm_Ck; rw [pT_141]; exact ok_X6_says
theorem pCk_X6_isUsed {K : pm_K} {cR : Nat → ClassId} {D : va_G} : pm_Ck K cR D 142 pc_X6_isUsed := by unfold pm_Ck; rw [pT_142]; exact ok_X6_isUsed
theorem pCk_X6_does {K : pm_K} {cR : Nat → ClassId} {D : va_G} : pm_Ck K cR D 143 pc_X6_does := by unfold pm_Ck; rw [pT_143]; exact ok_X6_does
theorem pCk_X6_mind {K : pm_K} {cR : Nat → ClassId} {D : va_G} : pm_Ck K cR D 144 pc_X6_mind := by unfold pm_Ck; rw [pT_144]; exact ok_X6_mind
theorem pCk_X6_thought {K : pm_K} {cR : Nat → ClassId} {D : va_G} : pm_Ck K cR D 145 pc_X6_thought := by unfold pm_Ck; rw [pT_145]; exact ok_X6_thought
theorem pCk_X6_own {K : pm_K} {cR : Nat → ClassId} {D : va_G} : pm_Ck K cR D 146 pc_X6_own := by unfold pm_Ck; rw [pT_146]; exact ok_X6_own
theorem pCk_X6_give {K : pm_K} {cR : Nat → ClassId} {D : va_G} : pm_Ck K cR D 147 pc_X6_give := by unfold pm_Ck; rw [pT_147]; exact ok_X6_give
theorem pCk_X6_isReady {K : pm_K} {cR : Nat → ClassId} {D : va_G} : pm_Ck K cR D 148 pc_X6_isReady := by unfold pm_Ck; rw [pT_148]; exact ok_X6_isReady
theorem pCk_X6_readySet {K : pm_K} {cR : Nat → ClassId} {D : va_G} : pm_Ck K cR D 149 pc_X6_readySet := by unfold pm_Ck; rw [pT_149]; exact ok_X6_readySet
theorem pCk_X6_next {K : pm_K} {cR : Nat → ClassId} {D : va_G} : pm_Ck K cR D 150 pc_X6_next := by unfold pm_Ck; rw [pT_150]; exact ok_X6_next
theorem pCk_X6_pageGoes {K : pm_K} {cR : Nat → ClassId} {D : va_G} : pm_Ck K cR D 151 pc_X6_pageGoes := by unfold pm_Ck; rw [pT_151]; exact ok_X6_pageGoes
theorem pCk_X6_writes {K : pm_K} {cR : Nat → ClassId} {D : va_G} : pm_Ck K cR D 152 pc_X6_writes := by unfold pm_Ck; rw [pT_152]; exact ok_X6_writes
theorem pCk_X6_weekGoes {K : pm_K} {cR : Nat → ClassId} {D : va_G} : pm_Ck K cR D 153 pc_X6_weekGoes := by unfold pm_Ck; rw [pT_153]; exact ok_X6_weekGoes
theorem pCk_X6_sumOf {K : pm_K} {cR : Nat → ClassId} {D : va_G} : pm_Ck K cR D 154 pc_X6_sumOf := by unfold pm_Ck; rw [pT_154]; exact ok_X6_sumOf
theorem pCk_X6_weeks {K : pm_K} {cR : Nat → ClassId} {D : va_G} : pm_Ck K cR D 155 pc_X6_weeks := by unfold pm_Ck; rw [pT_155]; exact ok_X6_weeks
theorem pCk_X6_drawn {K : pm_K} {cR : Nat → ClassId} {D : va_G} : pm_Ck K cR D 156 pc_X6_drawn := by unfold pm_Ck; rw [pT_156]; exact ok_X6_drawn
theorem pCk_X6_seed {K : pm_K} {cR : Nat → ClassId} {D : va_G} : pm_Ck K cR D 157 pc_X6_seed := by unfold pm_Ck; rw [pT_157]; exact ok_X6_seed
theorem pCk_X6_weekByDraws {K : pm_K} {cR : Nat → ClassId} {D : va_G} : pm_Ck K cR D 158 pc_X6_weekByDraws := by unfold pm_Ck; rw [pT_158]; exact ok_X6_weekByDraws
theorem pCk_X6_week {K : pm_K} {cR : Nat → ClassId} {D : va_G} : pm_Ck K cR D 159 pc_X6_week := by unfold pm_Ck; rw [pT_159]; exact ok_X6_week
theorem pCk_X6_poor {K : pm_K} {cR : Nat → ClassId} {D : va_G} : pm_Ck K cR D 160 pc_X6_poor := by unfold pm_Ck; rw [pT_160]; exact ok_X6_poor
theorem pCk_X6_state {K : pm_K} {cR : Nat → ClassId} {D : va_G} : pm_Ck K cR D 161 pc_X6_state := by unfold pm_Ck; rw [pT_161]; exact ok_X6_state
theorem pCk_X6_wordsBehind {K : pm_K} {cR : Nat → ClassId} {D : va_G} : pm_Ck K cR D 162 pc_X6_wordsBehind := by unfold pm_Ck; rw [pT_162]; exact ok_X6_wordsBehind
theorem pCk_X6_words {K : pm_K} {cR : Nat → ClassId} {D : va_G} : pm_Ck K cR D 163 pc_X6_words := by unfold pm_Ck; rw [pT_163]; exact ok_X6_words
theorem pCk_X6_gets {K : pm_K} {cR : Nat → ClassId} {D : va_G} : pm_Ck K cR D 164 pc_X6_gets := by unfold pm_Ck; rw [pT_164]; exact ok_X6_gets
theorem pCk_X6_idle {K : pm_K} {cR : Nat → ClassId} {D : va_G} : pm_Ck K cR D 165 pc_X6_idle := by unfold pm_Ck; rw [pT_165]; exact ok_X6_idle
theorem pCk_X6_vanFor {K : pm_K} {cR : Nat → ClassId} {D : va_G} : pm_Ck K cR D 166 pc_X6_vanFor := by unfold pm_Ck; rw [pT_166]; exact ok_X6_vanFor
theorem pCk_X6_kindFor {K : pm_K} {cR : Nat → ClassId} {D : va_G} : pm_Ck K cR D 167 pc_X6_kindFor := by unfold pm_Ck; rw [pT_167]; exact ok_X6_kindFor
theorem pCk_X6_thoughtFor {K : pm_K} {cR : Nat → ClassId} {D : va_G} : pm_Ck K cR D 168 pc_X6_thoughtFor := by unfold pm_Ck; rw [pT_168]; exact ok_X6_thoughtFor
theorem pCk_X6_needed {K : pm_K} {cR : Nat → ClassId} {D : va_G} : pm_Ck K cR D 169 pc_X6_needed := by unfold pm_Ck; rw [pT_169]; exact ok_X6_needed
theorem pCk_X6_fewest {K : pm_K} {cR : Nat → ClassId} {D : va_G} : pm_Ck K cR D 170 pc_X6_fewest := by unfold pm_Ck; rw [pT_170]; exact ok_X6_fewest
theorem pCk_X6_thoughtOf {K : pm_K} {cR : Nat → ClassId} {D : va_G} : pm_Ck K cR D 171 pc_X6_thoughtOf := by unfold pm_Ck; rw [pT_171]; exact ok_X6_thoughtOf
theorem pCk_X6_packed {K : pm_K} {cR : Nat → ClassId} {D : va_G} : pm_Ck K cR D 172 pc_X6_packed := by unfold pm_Ck; rw [pT_172]; exact ok_X6_packed
theorem pCk_X6_isSo {K : pm_K} {cR : Nat → ClassId} {D : va_G} : pm_Ck K cR D 173 pc_X6_isSo := by unfold pm_Ck; rw [pT_173]; exact ok_X6_isSo
theorem pCk_X6_fits {K : pm_K} {cR : Nat → ClassId} {D : va_G} : pm_Ck K cR D 174 pc_X6_fits := by unfold pm_Ck; rw [pT_174]; exact ok_X6_fits
theorem pCk_X6_lowest {K : pm_K} {cR : Nat → ClassId} {D : va_G} : pm_Ck K cR D 175 pc_X6_lowest := by unfold pm_Ck; rw [pT_175]; exact ok_X6_lowest
theorem pCk_X6_powerOf {K : pm_K} {cR : Nat → ClassId} {D : va_G} : pm_Ck K cR D 176 pc_X6_powerOf := by unfold pm_Ck; rw [pT_176]; exact ok_X6_powerOf
theorem pCk_X6_odds {K : pm_K} {cR : Nat → ClassId} {D : va_G} : pm_Ck K cR D 177 pc_X6_odds := by unfold pm_Ck; rw [pT_177]; exact ok_X6_odds
theorem pCk_X6_hope {K : pm_K} {cR : Nat → ClassId} {D : va_G} : pm_Ck K cR D 178 pc_X6_hope := by unfold pm_Ck; rw [pT_178]; exact ok_X6_hope
theorem pCk_X6_findRows {K : pm_K} {cR : Nat → ClassId} {D : va_G} : pm_Ck K cR D 179 pc_X6_findRows := by unfold pm_Ck; rw [pT_179]; exact ok_X6_findRows
theorem pCk_X6_prove {K : pm_K} {cR : Nat → ClassId} {D : va_G} : pm_Ck K cR D 180 pc_X6_prove := by unfold pm_Ck; rw [pT_180]; exact ok_X6_prove
theorem pCk_X6_isRow {K : pm_K} {cR : Nat → ClassId} {D : va_G} : pm_Ck K cR D 181 pc_X6_isRow := by unfold pm_Ck; rw [pT_181]; exact ok_X6_isRow
theorem pCk_X6_row {K : pm_K} {cR : Nat → ClassId} {D : va_G} : pm_Ck K cR D 182 pc_X6_row := by unfold pm_Ck; rw [pT_182]; exact ok_X6_row
theorem pCk_X6_alterRow {K : pm_K} {cR : Nat → ClassId} {D : va_G} : pm_Ck K cR D 183 pc_X6_alterRow := by unfold pm_Ck; rw [pT_183]; exact ok_X6_alterRow
theorem pCk_X6_judge {K : pm_K} {cR : Nat → ClassId} {D : va_G} : pm_Ck K cR D 184 pc_X6_judge := by unfold pm_Ck; rw [pT_184]; exact ok_X6_judge
theorem pCk_X6_minds {K : pm_K} {cR : Nat → ClassId} {D : va_G} : pm_Ck K cR D 185 pc_X6_minds := by unfold pm_Ck; rw [pT_185]; exact ok_X6_minds
theorem pCk_X6_isShelf {K : pm_K} {cR : Nat → ClassId} {D : va_G} : pm_Ck K cR D 186 pc_X6_isShelf := by unfold pm_Ck; rw [pT_186]; exact ok_X6_isShelf
theorem pCk_X6_sheet {K : pm_K} {cR : Nat → ClassId} {D : va_G} : pm_Ck K cR D 187 pc_X6_sheet := by unfold pm_Ck; rw [pT_187]; exact ok_X6_sheet
theorem pCk_X6_put {K : pm_K} {cR : Nat → ClassId} {D : va_G} : pm_Ck K cR D 188 pc_X6_put := by unfold pm_Ck; rw [pT_188]; exact ok_X6_put
theorem pCk_X6_lacksSort {K : pm_K} {cR : Nat → ClassId} {D : va_G} : pm_Ck K cR D 189 pc_X6_lacksSort := by unfold pm_Ck; rw [pT_189]; exact ok_X6_lacksSort
theorem pCk_X6_item {K : pm_K} {cR : Nat → ClassId} {D : va_G} : pm_Ck K cR D 190 pc_X6_item := by unfold pm_Ck; rw [pT_190]; exact ok_X6_item
theorem pCk_X6_isHeld {K : pm_K} {cR : Nat → ClassId} {D : va_G} : pm_Ck K cR D 191 pc_X6_isHeld := by unfold pm_Ck; rw [pT_191]; exact ok_X6_isHeld
theorem pCk_X6_shelf {K : pm_K} {cR : Nat → ClassId} {D : va_G} : pm_Ck K cR D 192 pc_X6_shelf := by unfold pm_Ck; rw [pT_192]; exact ok_X6_shelf
theorem pCk_X6_kindOn {K : pm_K} {cR : Nat → ClassId} {D : va_G} : pm_Ck K cR D 193 pc_X6_kindOn := by unfold pm_Ck; rw [pT_193]; exact ok_X6_kindOn
theorem pCk_X6_isUnder {K : pm_K} {cR : Nat → ClassId} {D : va_G} : pm_Ck K cR D 194 pc_X6_isUnder := by unfold pm_Ck; rw [pT_194]; exact ok_X6_isUnder
theorem pCk_X6_taken {K : pm_K} {cR : Nat → ClassId} {D : va_G} : pm_Ck K cR D 195 pc_X6_taken := by unfold pm_Ck; rw [pT_195]; exact ok_X6_taken
theorem pCk_X6_ran {K : pm_K} {cR : Nat → ClassId} {D : va_G} : pm_Ck K cR D 196 pc_X6_ran := by unfold pm_Ck; rw [pT_196]; exact ok_X6_ran
theorem pCk_X6_plainThinks {K : pm_K} {cR : Nat → ClassId} {D : va_G} : pm_Ck K cR D 197 pc_X6_plainThinks := by unfold pm_Ck; rw [pT_197]; exact ok_X6_plainThinks
theorem pCk_X6_widowThinks {K : pm_K} {cR : Nat → ClassId} {D : va_G} : pm_Ck K cR D 198 pc_X6_widowThinks := by unfold pm_Ck; rw [pT_198]; exact ok_X6_widowThinks
theorem pCk_X6_thinksIt {K : pm_K} {cR : Nat → ClassId} {D : va_G} : pm_Ck K cR D 199 pc_X6_thinksIt := by unfold pm_Ck; rw [pT_199]; exact ok_X6_thinksIt
theorem pCk_X6_plainAsks {K : pm_K} {cR : Nat → ClassId} {D : va_G} : pm_Ck K cR D 200 pc_X6_plainAsks := by unfold pm_Ck; rw [pT_200]; exact ok_X6_plainAsks
theorem pCk_X6_asksIt {K : pm_K} {cR : Nat → ClassId} {D : va_G} : pm_Ck K cR D 201 pc_X6_asksIt := by unfold pm_Ck; rw [pT_201]; exact ok_X6_asksIt
theorem pCk_X6_plainParts {K : pm_K} {cR : Nat → ClassId} {D : va_G} : pm_Ck K cR D 202 pc_X6_plainParts := by unfold pm_Ck; rw [pT_202]; exact ok_X6_plainParts
theorem pCk_X6_partsIt {K : pm_K} {cR : Nat → ClassId} {D : va_G} : pm_Ck K cR D 203 pc_X6_partsIt := by unfold pm_Ck; rw [pT_203]; exact ok_X6_partsIt
theorem pCk_X6_plainWrites {K : pm_K} {cR : Nat → ClassId} {D : va_G} : pm_Ck K cR D 204 pc_X6_plainWrites := by unfold pm_Ck; rw [pT_204]; exact ok_X6_plainWrites
theorem pCk_X6_writesIt {K : pm_K} {cR : Nat → ClassId} {D : va_G} : pm_Ck K cR D 205 pc_X6_writesIt := by unfold pm_Ck; rw [pT_205]; exact ok_X6_writesIt
theorem pCk_X6_act {K : pm_K} {cR : Nat → ClassId} {D : va_G} : pm_Ck K cR D 206 pc_X6_act := by unfold pm_Ck; rw [pT_206]; exact ok_X6_act
theorem pCk_X6_trace {K : pm_K} {cR : Nat → ClassId} {D : va_G} : pm_Ck K cR D 207 pc_X6_trace := by unfold pm_Ck; rw [pT_207]; exact ok_X6_trace
theorem pCk_X6_manyWith {K : pm_K} {cR : Nat → ClassId} {D : va_G} : pm_Ck K cR D 208 pc_X6_manyWith := by unfold pm_Ck; rw [pT_208]; exact ok_X6_manyWith
theorem pCk_X6_many {K : pm_K} {cR : Nat → ClassId} {D : va_G} : pm_Ck K cR D 209 pc_X6_many := by unfold pm_Ck; rw [pT_209]; exact ok_X6_many
theorem pCk_X6_keep {K : pm_K} {cR : Nat → ClassId} {D : va_G} : pm_Ck K cR D 210 pc_X6_keep := by unfold pm_Ck; rw [pT_210]; exact ok_X6_keep
theorem pCk_X6_again {K : pm_K} {cR : Nat → ClassId} {D : va_G} : pm_Ck K cR D 211 pc_X6_again := by unfold pm_Ck; rw [pT_211]; exact ok_X6_again
theorem pCk_J6_bitCount_0f7a4 {K : pm_K} {cR : Nat → ClassId} {D : va_G} : pm_Ck K cR D 212 pc_J6_bitCount_0f7a4 := by unfold pm_Ck; rw [pT_212]; exact ok_J6_bitCount_0f7a4
theorem pCk_J0_length_8abf5 {K : pm_K} {cR : Nat → ClassId} {D : va_G} : pm_Ck K cR D 213 pc_J0_length_8abf5 := by unfold pm_Ck; rw [pT_213]; exact ok_J0_length_8abf5
theorem pCk_J0_charAt_5068e {K : pm_K} {cR : Nat → ClassId} {D : va_G} : pm_Ck K cR D 214 pc_J0_charAt_5068e := by unfold pm_Ck; rw [pT_214]; exact ok_J0_charAt_5068e
theorem pCk_J0_coder_7d493 {K : pm_K} {cR : Nat → ClassId} {D : va_G} : pm_Ck K cR D 215 pc_J0_coder_7d493 := by unfold pm_Ck; rw [pT_215]; exact ok_J0_coder_7d493
theorem pCk_J0_isLatin1_aae02 {K : pm_K} {cR : Nat → ClassId} {D : va_G} : pm_Ck K cR D 216 pc_J0_isLatin1_aae02 := by unfold pm_Ck; rw [pT_216]; exact ok_J0_isLatin1_aae02
theorem pCk_J0_checkIndex_df160 {K : pm_K} {cR : Nat → ClassId} {D : va_G} : pm_Ck K cR D 217 pc_J0_checkIndex_df160 := by unfold pm_Ck; rw [pT_217]; exact ok_J0_checkIndex_df160
theorem pCk_J1_charAt_3b067 {K : pm_K} {cR : Nat → ClassId} {D : va_G} : pm_Ck K cR D 218 pc_J1_charAt_3b067 := by unfold pm_Ck; rw [pT_218]; exact ok_J1_charAt_3b067
theorem pCk_J3_checkIndex_8e157 {K : pm_K} {cR : Nat → ClassId} {D : va_G} : pm_Ck K cR D 219 pc_J3_checkIndex_8e157 := by unfold pm_Ck; rw [pT_219]; exact ok_J3_checkIndex_8e157
theorem pCk_L_law {K : pm_K} {cR : Nat → ClassId} {D : va_G} : pm_Ck K cR D 220 pc_L_law := by unfold pm_Ck; rw [pT_220]; exact ok_L_law
theorem pm_C0_ok {K : pm_K} {cR : Nat → ClassId} {D : va_G} : ∀ k : Nat, pm_Ck K cR D k (pm_C0 k) := (pC_nd (pC_nd (pC_nd (pC_nd (pC_nd (pC_nd (pC_nd (pC_lf pCk_X0_init) (pC_nd (pC_lf pCk_X0_forget) (pC_lf pCk_X0_play))) (pC_nd (pC_lf pCk_X0_perform) (pC_nd (pC_lf pCk_X0_enter) (pC_lf pCk_X0_thinks)))) (pC_nd (pC_nd (pC_lf pCk_X0_asks) (pC_nd (pC_lf pCk_X0_parts) (pC_lf pCk_X0_writes))) (pC_nd (pC_nd (pC_lf pCk_X1_init) (pC_lf pCk_X1_begin)) (pC_nd (pC_lf pCk_X1_become) (pC_lf pCk_X1_add))))) (pC_nd (pC_nd (pC_nd (pC_lf pCk_X1_has) (pC_nd (pC_lf pCk_X1_sumOf) (pC_lf pCk_X1_countOf))) (pC_nd (pC_nd (pC_lf pCk_X1_readySet) (pC_lf pCk_X1_thinking)) (pC_nd (pC_lf pCk_X1_needing) (pC_lf pCk_X1_saying)))) (pC_nd (pC_nd (pC_lf pCk_X1_isUsing) (pC_nd (pC_lf pCk_X1_passWeek) (pC_lf pCk_X1_passWeekByDraws))) (pC_nd (pC_nd (pC_lf pCk_X1_draw) (pC_lf pCk_X1_think)) (pC_nd (pC_lf pCk_X1_handOut) (pC_lf pCk_X1_keenest)))))) (pC_nd (pC_nd (pC_nd (pC_nd (pC_lf pCk_X1_speak) (pC_nd (pC_lf pCk_X2_init) (pC_lf pCk_X2_begin))) (pC_nd (pC_nd (pC_lf pCk_X3_init) (pC_lf pCk_X3_holdPerson)) (pC_nd (pC_lf pCk_X3_holdRow) (pC_lf pCk_X4_init)))) (pC_nd (pC_nd (pC_lf pCk_X4_take) (pC_nd (pC_lf pCk_X4_tell) (pC_lf pCk_X4_cut))) (pC_nd (pC_nd (pC_lf pCk_X4_cutName) (pC_lf pCk_X4_cutNumber)) (pC_nd (pC_lf pCk_X4_addToken) (pC_lf pCk_X4_wordAt))))) (pC_nd (pC_nd (pC_nd (pC_lf pCk_X4_isSpelt) (pC_nd (pC_lf pCk_X4_spelling) (pC_lf pCk_X4_isLetter))) (pC_nd (pC_nd (pC_lf pCk_X4_isDigit) (pC_lf pCk_X4_tellOne)) (pC_nd (pC_lf pCk_X4_tellPerson) (pC_lf pCk_X4_numberBehind)))) (pC_nd (pC_nd (pC_lf pCk_X4_numberUpTo) (pC_nd (pC_lf pCk_X4_passSemicolon) (pC_lf pCk_X4_fail))) (pC_nd (pC_nd (pC_lf pCk_X5_init) (pC_lf pCk_X5_feed)) (pC_nd (pC_lf pCk_X5_post) (pC_lf pCk_X5_set))))))) (pC_nd (pC_nd (pC_nd (pC_nd (pC_nd (pC_lf pCk_X5_lawOf) (pC_nd (pC_lf pCk_X5_person) (pC_lf pCk_X5_of))) (pC_nd (pC_lf pCk_X5_does) (pC_nd (pC_lf pCk_X5_mind) (pC_lf pCk_X5_thought)))) (pC_nd (pC_nd (pC_lf pCk_X5_own) (pC_nd (pC_lf pCk_X5_give) (pC_lf pCk_X5_weeks))) (pC_nd (pC_nd (pC_lf pCk_X5_seed) (pC_lf pCk_X5_week)) (pC_nd (pC_lf pCk_X5_poor) (pC_lf pCk_X5_state))))) (pC_nd (pC_nd (pC_nd (pC_lf pCk_X5_words) (pC_nd (pC_lf pCk_X5_gets) (pC_lf pCk_X5_idle))) (pC_nd (pC_nd (pC_lf pCk_X5_vanFor) (pC_lf pCk_X5_kindFor)) (pC_nd (pC_lf pCk_X5_thoughtFor) (pC_lf pCk_X5_needed)))) (pC_nd (pC_nd (pC_lf pCk_X5_fewest) (pC_nd (pC_lf pCk_X5_packed) (pC_lf pCk_X5_fits))) (pC_nd (pC_nd (pC_lf pCk_X5_odds) (pC_lf pCk_X5_hope)) (pC_nd (pC_lf pCk_X5_prove) (pC_lf pCk_X5_row)))))) (pC_nd (pC_nd (pC_nd (pC_nd (pC_lf pCk_X5_alterRow) (pC_nd (pC_lf pCk_X5_judge) (pC_lf pCk_X5_minds))) (pC_nd (pC_nd (pC_lf pCk_X5_sheet) (pC_lf pCk_X5_put)) (pC_nd (pC_lf pCk_X5_item) (pC_lf pCk_X5_shelf)))) (pC_nd (pC_nd (pC_lf pCk_X5_taken) (pC_nd (pC_lf pCk_X5_act) (pC_lf pCk_X5_trace))) (pC_nd (pC_nd (pC_lf pCk_X5_many) (pC_lf pCk_X5_keep)) (pC_nd (pC_lf pCk_X5_again) (pC_lf pCk_X5_isWithin))))) (pC_nd (pC_nd (pC_nd (pC_lf pCk_X5_isKind) (pC_nd (pC_lf pCk_X5_isPlace) (pC_lf pCk_X5_isUnder))) (pC_nd (pC_nd (pC_lf pCk_X5_isInRow) (pC_lf pCk_X5_trial)) (pC_nd (pC_lf pCk_X5_wordsBy) (pC_lf pCk_X5_isTold)))) (pC_nd (pC_nd (pC_lf pCk_X5_leastPacking) (pC_nd (pC_lf pCk_X5_choices) (pC_lf pCk_X5_partOf))) (pC_nd (pC_nd (pC_lf pCk_X5_commonDivisor) (pC_lf pCk_X5_narrowed)) (pC_nd (pC_lf pCk_X6_init) (pC_lf pCk_X6_begins)))))))) (pC_nd (pC_nd (pC_nd (pC_nd (pC_nd (pC_nd (pC_lf pCk_X6_in) (pC_nd (pC_lf pCk_X6_held) (pC_lf pCk_X6_moveAll))) (pC_nd (pC_lf pCk_X6_isOne) (pC_nd (pC_lf pCk_X6_its) (pC_lf pCk_X6_sets)))) (pC_nd (pC_nd (pC_lf pCk_X6_becomes) (pC_nd (pC_lf pCk_X6_ones) (pC_lf pCk_X6_feed))) (pC_nd (pC_nd (pC_lf pCk_X6_byteAt) (pC_lf pCk_X6_isLetter)) (pC_nd (pC_lf pCk_X6_isDigit) (pC_lf pCk_X6_advance))))) (pC_nd (pC_nd (pC_nd (pC_lf pCk_X6_isWord) (pC_nd (pC_lf pCk_X6_isMark) (pC_lf pCk_X6_kindHere))) (pC_nd (pC_nd (pC_lf pCk_X6_lawHere) (pC_lf pCk_X6_wantNumber)) (pC_nd (pC_lf pCk_X6_wantEnd) (pC_lf pCk_X6_mayWant)))) (pC_nd (pC_nd (pC_lf pCk_X6_wantOne) (pC_nd (pC_lf pCk_X6_wantClause) (pC_lf pCk_X6_post))) (pC_nd (pC_nd (pC_lf pCk_X6_mostOf) (pC_lf pCk_X6_set)) (pC_nd (pC_lf pCk_X6_lawOf) (pC_lf pCk_X6_isKind)))))) (pC_nd (pC_nd (pC_nd (pC_nd (pC_lf pCk_X6_person) (pC_nd (pC_lf pCk_X6_of) (pC_lf pCk_X6_thinksOf))) (pC_nd (pC_nd (pC_lf pCk_X6_needs) (pC_lf pCk_X6_says)) (pC_nd (pC_lf pCk_X6_isUsed) (pC_lf pCk_X6_does)))) (pC_nd (pC_nd (pC_lf pCk_X6_mind) (pC_nd (pC_lf pCk_X6_thought) (pC_lf pCk_X6_own))) (pC_nd (pC_nd (pC_lf pCk_X6_give) (pC_lf pCk_X6_isReady)) (pC_nd (pC_lf pCk_X6_readySet) (pC_lf pCk_X6_next))))) (pC_nd (pC_nd (pC_nd (pC_lf pCk_X6_pageGoes) (pC_nd (pC_lf pCk_X6_writes) (pC_lf pCk_X6_weekGoes))) (pC_nd (pC_nd (pC_lf pCk_X6_sumOf) (pC_lf pCk_X6_weeks)) (pC_nd (pC_lf pCk_X6_drawn) (pC_lf pCk_X6_seed)))) (pC_nd (pC_nd (pC_lf pCk_X6_weekByDraws) (pC_nd (pC_lf pCk_X6_week) (pC_lf pCk_X6_poor))) (pC_nd (pC_nd (pC_lf pCk_X6_state) (pC_lf pCk_X6_wordsBehind)) (pC_nd (pC_lf pCk_X6_words) (pC_lf pCk_X6_gets))))))) (pC_nd (pC_nd (pC_nd (pC_nd (pC_nd (pC_lf pCk_X6_idle) (pC_nd (pC_lf pCk_X6_vanFor) (pC_lf pCk_X6_kindFor))) (pC_nd (pC_nd (pC_lf pCk_X6_thoughtFor) (pC_lf pCk_X6_needed)) (pC_nd (pC_lf pCk_X6_fewest) (pC_lf pCk_X6_thoughtOf)))) (pC_nd (pC_nd (pC_lf pCk_X6_packed) (pC_nd (pC_lf pCk_X6_isSo) (pC_lf pCk_X6_fits))) (pC_nd (pC_nd (pC_lf pCk_X6_lowest) (pC_lf pCk_X6_powerOf)) (pC_nd (pC_lf pCk_X6_odds) (pC_lf pCk_X6_hope))))) (pC_nd (pC_nd (pC_nd (pC_lf pCk_X6_findRows) (pC_nd (pC_lf pCk_X6_prove) (pC_lf pCk_X6_isRow))) (pC_nd (pC_nd (pC_lf pCk_X6_row) (pC_lf pCk_X6_alterRow)) (pC_nd (pC_lf pCk_X6_judge) (pC_lf pCk_X6_minds)))) (pC_nd (pC_nd (pC_lf pCk_X6_isShelf) (pC_nd (pC_lf pCk_X6_sheet) (pC_lf pCk_X6_put))) (pC_nd (pC_nd (pC_lf pCk_X6_lacksSort) (pC_lf pCk_X6_item)) (pC_nd (pC_lf pCk_X6_isHeld) (pC_lf pCk_X6_shelf)))))) (pC_nd (pC_nd (pC_nd (pC_nd (pC_lf pCk_X6_kindOn) (pC_nd (pC_lf pCk_X6_isUnder) (pC_lf pCk_X6_taken))) (pC_nd (pC_nd (pC_lf pCk_X6_ran) (pC_lf pCk_X6_plainThinks)) (pC_nd (pC_lf pCk_X6_widowThinks) (pC_lf pCk_X6_thinksIt)))) (pC_nd (pC_nd (pC_lf pCk_X6_plainAsks) (pC_nd (pC_lf pCk_X6_asksIt) (pC_lf pCk_X6_plainParts))) (pC_nd (pC_nd (pC_lf pCk_X6_partsIt) (pC_lf pCk_X6_plainWrites)) (pC_nd (pC_lf pCk_X6_writesIt) (pC_lf pCk_X6_act))))) (pC_nd (pC_nd (pC_nd (pC_lf pCk_X6_trace) (pC_nd (pC_lf pCk_X6_manyWith) (pC_lf pCk_X6_many))) (pC_nd (pC_nd (pC_lf pCk_X6_keep) (pC_lf pCk_X6_again)) (pC_nd (pC_lf pCk_J6_bitCount_0f7a4) (pC_lf pCk_J0_length_8abf5)))) (pC_nd (pC_nd (pC_lf pCk_J0_charAt_5068e) (pC_nd (pC_lf pCk_J0_coder_7d493) (pC_lf pCk_J0_isLatin1_aae02))) (pC_nd (pC_nd (pC_lf pCk_J0_checkIndex_df160) (pC_lf pCk_J1_charAt_3b067)) (pC_nd (pC_lf pCk_J3_checkIndex_8e157) (pC_lf pCk_L_law)))))))))
theorem pC_X0_init : pm_C0 0 = pc_X0_init := rfl
theorem pC_X0_forget : pm_C0 1 = pc_X0_forget := rfl
theorem pC_X0_play : pm_C0 2 = pc_X0_play := rfl
theorem pC_X0_perform : pm_C0 3 = pc_X0_perform := rfl
theorem pC_X0_enter : pm_C0 4 = pc_X0_enter := rfl
theorem pC_X0_thinks : pm_C0 5 = pc_X0_thinks := rfl
theorem pC_X0_asks : pm_C0 6 = pc_X0_asks := rfl
theorem pC_X0_parts : pm_C0 7 = pc_X0_parts := rfl
theorem pC_X0_writes : pm_C0 8 = pc_X0_writes := rfl
theorem pC_X1_init : pm_C0 9 = pc_X1_init := rfl
theorem pC_X1_begin : pm_C0 10 = pc_X1_begin := rfl
theorem pC_X1_become : pm_C0 11 = pc_X1_become := rfl
theorem pC_X1_add : pm_C0 12 = pc_X1_add := rfl
theorem pC_X1_has : pm_C0 13 = pc_X1_has := rfl
theorem pC_X1_sumOf : pm_C0 14 = pc_X1_sumOf := rfl
theorem pC_X1_countOf : pm_C0 15 = pc_X1_countOf := rfl
theorem pC_X1_readySet : pm_C0 16 = pc_X1_readySet := rfl
theorem pC_X1_thinking : pm_C0 17 = pc_X1_thinking := rfl
theorem pC_X1_needing : pm_C0 18 = pc_X1_needing := rfl
theorem pC_X1_saying : pm_C0 19 = pc_X1_saying := rfl
theorem pC_X1_isUsing : pm_C0 20 = pc_X1_isUsing := rfl
theorem pC_X1_passWeek : pm_C0 21 = pc_X1_passWeek := rfl
theorem pC_X1_passWeekByDraws : pm_C0 22 = pc_X1_passWeekByDraws := rfl
theorem pC_X1_draw : pm_C0 23 = pc_X1_draw := rfl
theorem pC_X1_think : pm_C0 24 = pc_X1_think := rfl
theorem pC_X1_handOut : pm_C0 25 = pc_X1_handOut := rfl
theorem pC_X1_keenest : pm_C0 26 = pc_X1_keenest := rfl
theorem pC_X1_speak : pm_C0 27 = pc_X1_speak := rfl
theorem pC_X2_init : pm_C0 28 = pc_X2_init := rfl
theorem pC_X2_begin : pm_C0 29 = pc_X2_begin := rfl
theorem pC_X3_init : pm_C0 30 = pc_X3_init := rfl
theorem pC_X3_holdPerson : pm_C0 31 = pc_X3_holdPerson := rfl
theorem pC_X3_holdRow : pm_C0 32 = pc_X3_holdRow := rfl
theorem pC_X4_init : pm_C0 33 = pc_X4_init := rfl
theorem pC_X4_take : pm_C0 34 = pc_X4_take := rfl
theorem pC_X4_tell : pm_C0 35 = pc_X4_tell := rfl
theorem pC_X4_cut : pm_C0 36 = pc_X4_cut := rfl
theorem pC_X4_cutName : pm_C0 37 = pc_X4_cutName := rfl
theorem pC_X4_cutNumber : pm_C0 38 = pc_X4_cutNumber := rfl
theorem pC_X4_addToken : pm_C0 39 = pc_X4_addToken := rfl
theorem pC_X4_wordAt : pm_C0 40 = pc_X4_wordAt := rfl
theorem pC_X4_isSpelt : pm_C0 41 = pc_X4_isSpelt := rfl
theorem pC_X4_spelling : pm_C0 42 = pc_X4_spelling := rfl
theorem pC_X4_isLetter : pm_C0 43 = pc_X4_isLetter := rfl
theorem pC_X4_isDigit : pm_C0 44 = pc_X4_isDigit := rfl
theorem pC_X4_tellOne : pm_C0 45 = pc_X4_tellOne := rfl
theorem pC_X4_tellPerson : pm_C0 46 = pc_X4_tellPerson := rfl
theorem pC_X4_numberBehind : pm_C0 47 = pc_X4_numberBehind := rfl
theorem pC_X4_numberUpTo : pm_C0 48 = pc_X4_numberUpTo := rfl
theorem pC_X4_passSemicolon : pm_C0 49 = pc_X4_passSemicolon := rfl
theorem pC_X4_fail : pm_C0 50 = pc_X4_fail := rfl
theorem pC_X5_init : pm_C0 51 = pc_X5_init := rfl
theorem pC_X5_feed : pm_C0 52 = pc_X5_feed := rfl
theorem pC_X5_post : pm_C0 53 = pc_X5_post := rfl
theorem pC_X5_set : pm_C0 54 = pc_X5_set := rfl
theorem pC_X5_lawOf : pm_C0 55 = pc_X5_lawOf := rfl
theorem pC_X5_person : pm_C0 56 = pc_X5_person := rfl
theorem pC_X5_of : pm_C0 57 = pc_X5_of := rfl
theorem pC_X5_does : pm_C0 58 = pc_X5_does := rfl
theorem pC_X5_mind : pm_C0 59 = pc_X5_mind := rfl
theorem pC_X5_thought : pm_C0 60 = pc_X5_thought := rfl
theorem pC_X5_own : pm_C0 61 = pc_X5_own := rfl
theorem pC_X5_give : pm_C0 62 = pc_X5_give := rfl
theorem pC_X5_weeks : pm_C0 63 = pc_X5_weeks := rfl
theorem pC_X5_seed : pm_C0 64 = pc_X5_seed := rfl
theorem pC_X5_week : pm_C0 65 = pc_X5_week := rfl
theorem pC_X5_poor : pm_C0 66 = pc_X5_poor := rfl
theorem pC_X5_state : pm_C0 67 = pc_X5_state := rfl
theorem pC_X5_words : pm_C0 68 = pc_X5_words := rfl
theorem pC_X5_gets : pm_C0 69 = pc_X5_gets := rfl
theorem pC_X5_idle : pm_C0 70 = pc_X5_idle := rfl
theorem pC_X5_vanFor : pm_C0 71 = pc_X5_vanFor := rfl
theorem pC_X5_kindFor : pm_C0 72 = pc_X5_kindFor := rfl
theorem pC_X5_thoughtFor : pm_C0 73 = pc_X5_thoughtFor := rfl
theorem pC_X5_needed : pm_C0 74 = pc_X5_needed := rfl
theorem pC_X5_fewest : pm_C0 75 = pc_X5_fewest := rfl
theorem pC_X5_packed : pm_C0 76 = pc_X5_packed := rfl
theorem pC_X5_fits : pm_C0 77 = pc_X5_fits := rfl
theorem pC_X5_odds : pm_C0 78 = pc_X5_odds := rfl
theorem pC_X5_hope : pm_C0 79 = pc_X5_hope := rfl
theorem pC_X5_prove : pm_C0 80 = pc_X5_prove := rfl
theorem pC_X5_row : pm_C0 81 = pc_X5_row := rfl
theorem pC_X5_alterRow : pm_C0 82 = pc_X5_alterRow := rfl
theorem pC_X5_judge : pm_C0 83 = pc_X5_judge := rfl
theorem pC_X5_minds : pm_C0 84 = pc_X5_minds := rfl
theorem pC_X5_sheet : pm_C0 85 = pc_X5_sheet := rfl
theorem pC_X5_put : pm_C0 86 = pc_X5_put := rfl
theorem pC_X5_item : pm_C0 87 = pc_X5_item := rfl
theorem pC_X5_shelf : pm_C0 88 = pc_X5_shelf := rfl
theorem pC_X5_taken : pm_C0 89 = pc_X5_taken := rfl
theorem pC_X5_act : pm_C0 90 = pc_X5_act := rfl
theorem pC_X5_trace : pm_C0 91 = pc_X5_trace := rfl
theorem pC_X5_many : pm_C0 92 = pc_X5_many := rfl
theorem pC_X5_keep : pm_C0 93 = pc_X5_keep := rfl
theorem pC_X5_again : pm_C0 94 = pc_X5_again := rfl
theorem pC_X5_isWithin : pm_C0 95 = pc_X5_isWithin := rfl
theorem pC_X5_isKind : pm_C0 96 = pc_X5_isKind := rfl
theorem pC_X5_isPlace : pm_C0 97 = pc_X5_isPlace := rfl
theorem pC_X5_isUnder : pm_C0 98 = pc_X5_isUnder := rfl
theorem pC_X5_isInRow : pm_C0 99 = pc_X5_isInRow := rfl
theorem pC_X5_trial : pm_C0 100 = pc_X5_trial := rfl
theorem pC_X5_wordsBy : pm_C0 101 = pc_X5_wordsBy := rfl
theorem pC_X5_isTold : pm_C0 102 = pc_X5_isTold := rfl
theorem pC_X5_leastPacking : pm_C0 103 = pc_X5_leastPacking := rfl
theorem pC_X5_choices : pm_C0 104 = pc_X5_choices := rfl
theorem pC_X5_partOf : pm_C0 105 = pc_X5_partOf := rfl
theorem pC_X5_commonDivisor : pm_C0 106 = pc_X5_commonDivisor := rfl
theorem pC_X5_narrowed : pm_C0 107 = pc_X5_narrowed := rfl
theorem pC_X6_init : pm_C0 108 = pc_X6_init := rfl
theorem pC_X6_begins : pm_C0 109 = pc_X6_begins := rfl
theorem pC_X6_in : pm_C0 110 = pc_X6_in := rfl
theorem pC_X6_held : pm_C0 111 = pc_X6_held := rfl
theorem pC_X6_moveAll : pm_C0 112 = pc_X6_moveAll := rfl
theorem pC_X6_isOne : pm_C0 113 = pc_X6_isOne := rfl
theorem pC_X6_its : pm_C0 114 = pc_X6_its := rfl
theorem pC_X6_sets : pm_C0 115 = pc_X6_sets := rfl
theorem pC_X6_becomes : pm_C0 116 = pc_X6_becomes := rfl
theorem pC_X6_ones : pm_C0 117 = pc_X6_ones := rfl
theorem pC_X6_feed : pm_C0 118 = pc_X6_feed := rfl
theorem pC_X6_byteAt : pm_C0 119 = pc_X6_byteAt := rfl
theorem pC_X6_isLetter : pm_C0 120 = pc_X6_isLetter := rfl
theorem pC_X6_isDigit : pm_C0 121 = pc_X6_isDigit := rfl
theorem pC_X6_advance : pm_C0 122 = pc_X6_advance := rfl
theorem pC_X6_isWord : pm_C0 123 = pc_X6_isWord := rfl
theorem pC_X6_isMark : pm_C0 124 = pc_X6_isMark := rfl
theorem pC_X6_kindHere : pm_C0 125 = pc_X6_kindHere := rfl
theorem pC_X6_lawHere : pm_C0 126 = pc_X6_lawHere := rfl
theorem pC_X6_wantNumber : pm_C0 127 = pc_X6_wantNumber := rfl
theorem pC_X6_wantEnd : pm_C0 128 = pc_X6_wantEnd := rfl
theorem pC_X6_mayWant : pm_C0 129 = pc_X6_mayWant := rfl
theorem pC_X6_wantOne : pm_C0 130 = pc_X6_wantOne := rfl
theorem pC_X6_wantClause : pm_C0 131 = pc_X6_wantClause := rfl
theorem pC_X6_post : pm_C0 132 = pc_X6_post := rfl
theorem pC_X6_mostOf : pm_C0 133 = pc_X6_mostOf := rfl
theorem pC_X6_set : pm_C0 134 = pc_X6_set := rfl
theorem pC_X6_lawOf : pm_C0 135 = pc_X6_lawOf := rfl
theorem pC_X6_isKind : pm_C0 136 = pc_X6_isKind := rfl
theorem pC_X6_person : pm_C0 137 = pc_X6_person := rfl
theorem pC_X6_of : pm_C0 138 = pc_X6_of := rfl
theorem pC_X6_thinksOf : pm_C0 139 = pc_X6_thinksOf := rfl
theorem pC_X6_needs : pm_C0 140 = pc_X6_needs := rfl
theorem pC_X6_says : pm_C0 141 = pc_X6_says := rfl
theorem pC_X6_isUsed : pm_C0 142 = pc_X6_isUsed := rfl
theorem pC_X6_does : pm_C0 143 = pc_X6_does := rfl
theorem pC_X6_mind : pm_C0 144 = pc_X6_mind := rfl
theorem pC_X6_thought : pm_C0 145 = pc_X6_thought := rfl
theorem pC_X6_own : pm_C0 146 = pc_X6_own := rfl
theorem pC_X6_give : pm_C0 147 = pc_X6_give := rfl
theorem pC_X6_isReady : pm_C0 148 = pc_X6_isReady := rfl
theorem pC_X6_readySet : pm_C0 149 = pc_X6_readySet := rfl
theorem pC_X6_next : pm_C0 150 = pc_X6_next := rfl
theorem pC_X6_pageGoes : pm_C0 151 = pc_X6_pageGoes := rfl
theorem pC_X6_writes : pm_C0 152 = pc_X6_writes := rfl
theorem pC_X6_weekGoes : pm_C0 153 = pc_X6_weekGoes := rfl
theorem pC_X6_sumOf : pm_C0 154 = pc_X6_sumOf := rfl
theorem pC_X6_weeks : pm_C0 155 = pc_X6_weeks := rfl
theorem pC_X6_drawn : pm_C0 156 = pc_X6_drawn := rfl
theorem pC_X6_seed : pm_C0 157 = pc_X6_seed := rfl
theorem pC_X6_weekByDraws : pm_C0 158 = pc_X6_weekByDraws := rfl
theorem pC_X6_week : pm_C0 159 = pc_X6_week := rfl
theorem pC_X6_poor : pm_C0 160 = pc_X6_poor := rfl
theorem pC_X6_state : pm_C0 161 = pc_X6_state := rfl
theorem pC_X6_wordsBehind : pm_C0 162 = pc_X6_wordsBehind := rfl
theorem pC_X6_words : pm_C0 163 = pc_X6_words := rfl
theorem pC_X6_gets : pm_C0 164 = pc_X6_gets := rfl
theorem pC_X6_idle : pm_C0 165 = pc_X6_idle := rfl
theorem pC_X6_vanFor : pm_C0 166 = pc_X6_vanFor := rfl
theorem pC_X6_kindFor : pm_C0 167 = pc_X6_kindFor := rfl
theorem pC_X6_thoughtFor : pm_C0 168 = pc_X6_thoughtFor := rfl
theorem pC_X6_needed : pm_C0 169 = pc_X6_needed := rfl
theorem pC_X6_fewest : pm_C0 170 = pc_X6_fewest := rfl
theorem pC_X6_thoughtOf : pm_C0 171 = pc_X6_thoughtOf := rfl
theorem pC_X6_packed : pm_C0 172 = pc_X6_packed := rfl
theorem pC_X6_isSo : pm_C0 173 = pc_X6_isSo := rfl
theorem pC_X6_fits : pm_C0 174 = pc_X6_fits := rfl
theorem pC_X6_lowest : pm_C0 175 = pc_X6_lowest := rfl
theorem pC_X6_powerOf : pm_C0 176 = pc_X6_powerOf := rfl
theorem pC_X6_odds : pm_C0 177 = pc_X6_odds := rfl
theorem pC_X6_hope : pm_C0 178 = pc_X6_hope := rfl
theorem pC_X6_findRows : pm_C0 179 = pc_X6_findRows := rfl
theorem pC_X6_prove : pm_C0 180 = pc_X6_prove := rfl
theorem pC_X6_isRow : pm_C0 181 = pc_X6_isRow := rfl
theorem pC_X6_row : pm_C0 182 = pc_X6_row := rfl
theorem pC_X6_alterRow : pm_C0 183 = pc_X6_alterRow := rfl
theorem pC_X6_judge : pm_C0 184 = pc_X6_judge := rfl
theorem pC_X6_minds : pm_C0 185 = pc_X6_minds := rfl
theorem pC_X6_isShelf : pm_C0 186 = pc_X6_isShelf := rfl
theorem pC_X6_sheet : pm_C0 187 = pc_X6_sheet := rfl
theorem pC_X6_put : pm_C0 188 = pc_X6_put := rfl
theorem pC_X6_lacksSort : pm_C0 189 = pc_X6_lacksSort := rfl
theorem pC_X6_item : pm_C0 190 = pc_X6_item := rfl
theorem pC_X6_isHeld : pm_C0 191 = pc_X6_isHeld := rfl
theorem pC_X6_shelf : pm_C0 192 = pc_X6_shelf := rfl
theorem pC_X6_kindOn : pm_C0 193 = pc_X6_kindOn := rfl
theorem pC_X6_isUnder : pm_C0 194 = pc_X6_isUnder := rfl
theorem pC_X6_taken : pm_C0 195 = pc_X6_taken := rfl
theorem pC_X6_ran : pm_C0 196 = pc_X6_ran := rfl
theorem pC_X6_plainThinks : pm_C0 197 = pc_X6_plainThinks := rfl
theorem pC_X6_widowThinks : pm_C0 198 = pc_X6_widowThinks := rfl
theorem pC_X6_thinksIt : pm_C0 199 = pc_X6_thinksIt := rfl
theorem pC_X6_plainAsks : pm_C0 200 = pc_X6_plainAsks := rfl
theorem pC_X6_asksIt : pm_C0 201 = pc_X6_asksIt := rfl
theorem pC_X6_plainParts : pm_C0 202 = pc_X6_plainParts := rfl
theorem pC_X6_partsIt : pm_C0 203 = pc_X6_partsIt := rfl
theorem pC_X6_plainWrites : pm_C0 204 = pc_X6_plainWrites := rfl
theorem pC_X6_writesIt : pm_C0 205 = pc_X6_writesIt := rfl
theorem pC_X6_act : pm_C0 206 = pc_X6_act := rfl
theorem pC_X6_trace : pm_C0 207 = pc_X6_trace := rfl
theorem pC_X6_manyWith : pm_C0 208 = pc_X6_manyWith := rfl
theorem pC_X6_many : pm_C0 209 = pc_X6_many := rfl
theorem pC_X6_keep : pm_C0 210 = pc_X6_keep := rfl
theorem pC_X6_again : pm_C0 211 = pc_X6_again := rfl
theorem pC_J6_bitCount_0f7a4 : pm_C0 212 = pc_J6_bitCount_0f7a4 := rfl
theorem pC_J0_length_8abf5 : pm_C0 213 = pc_J0_length_8abf5 := rfl
theorem pC_J0_charAt_5068e : pm_C0 214 = pc_J0_charAt_5068e := rfl
theorem pC_J0_coder_7d493 : pm_C0 215 = pc_J0_coder_7d493 := rfl
theorem pC_J0_isLatin1_aae02 : pm_C0 216 = pc_J0_isLatin1_aae02 := rfl
theorem pC_J0_checkIndex_df160 : pm_C0 217 = pc_J0_checkIndex_df160 := rfl
theorem pC_J1_charAt_3b067 : pm_C0 218 = pc_J1_charAt_3b067 := rfl
theorem pC_J3_checkIndex_8e157 : pm_C0 219 = pc_J3_checkIndex_8e157 := rfl
theorem pC_L_law : pm_C0 220 = pc_L_law := rfl
