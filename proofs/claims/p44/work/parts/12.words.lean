-- the words of the tables that the instructions ask for: a program laid these rows
theorem pm_wms (is : List Nat) (ws : List Cond) (h : is.map (fun i => lw_tbl[i]?) = ws.map some) (g : ws.all goodWord = true) : ∀ w ∈ ws, w ∈ pm_w := fun w hw => List.mem_filter.mpr ⟨by
  have h1 : some w ∈ ws.map some := List.mem_map.mpr ⟨w, hw, rfl⟩
  rw [← h] at h1
  obtain ⟨i, _, hi⟩ := List.mem_map.mp h1
  exact List.mem_of_getElem? hi, List.all_eq_true.mp g w hw⟩
theorem pm_t1 {w : Cond} (h : w ∈ tables_1_1) (hg : goodWord w = true) : w ∈ pm_w := List.mem_filter.mpr ⟨show w ∈ k2_sels lw_privs ++ tables_1 from List.mem_append_right _ (show w ∈ tables_1_1 ++ (tables_1_2 ++ (tables_1_3 ++ (tables_1_4 ++ (tables_1_5 ++ (tables_1_6))))) from (List.mem_append_left _ h)), hg⟩
theorem pm_t2 {w : Cond} (h : w ∈ tables_1_2) (hg : goodWord w = true) : w ∈ pm_w := List.mem_filter.mpr ⟨show w ∈ k2_sels lw_privs ++ tables_1 from List.mem_append_right _ (show w ∈ tables_1_1 ++ (tables_1_2 ++ (tables_1_3 ++ (tables_1_4 ++ (tables_1_5 ++ (tables_1_6))))) from (List.mem_append_right _ (List.mem_append_left _ h))), hg⟩
theorem pm_t3 {w : Cond} (h : w ∈ tables_1_3) (hg : goodWord w = true) : w ∈ pm_w := List.mem_filter.mpr ⟨show w ∈ k2_sels lw_privs ++ tables_1 from List.mem_append_right _ (show w ∈ tables_1_1 ++ (tables_1_2 ++ (tables_1_3 ++ (tables_1_4 ++ (tables_1_5 ++ (tables_1_6))))) from (List.mem_append_right _ (List.mem_append_right _ (List.mem_append_left _ h)))), hg⟩
theorem pm_t4 {w : Cond} (h : w ∈ tables_1_4) (hg : goodWord w = true) : w ∈ pm_w := List.mem_filter.mpr ⟨show w ∈ k2_sels lw_privs ++ tables_1 from List.mem_append_right _ (show w ∈ tables_1_1 ++ (tables_1_2 ++ (tables_1_3 ++ (tables_1_4 ++ (tables_1_5 ++ (tables_1_6))))) from (List.mem_append_right _ (List.mem_append_right _ (List.mem_append_right _ (List.mem_append_left _ h))))), hg⟩
theorem pm_t5 {w : Cond} (h : w ∈ tables_1_5) (hg : goodWord w = true) : w ∈ pm_w := List.mem_filter.mpr ⟨show w ∈ k2_sels lw_privs ++ tables_1 from List.mem_append_right _ (show w ∈ tables_1_1 ++ (tables_1_2 ++ (tables_1_3 ++ (tables_1_4 ++ (tables_1_5 ++ (tables_1_6))))) from (List.mem_append_right _ (List.mem_append_right _ (List.mem_append_right _ (List.mem_append_right _ (List.mem_append_left _ h)))))), hg⟩
theorem pm_t6 {w : Cond} (h : w ∈ tables_1_6) (hg : goodWord w = true) : w ∈ pm_w := List.mem_filter.mpr ⟨show w ∈ k2_sels lw_privs ++ tables_1 from List.mem_append_right _ (show w ∈ tables_1_1 ++ (tables_1_2 ++ (tables_1_3 ++ (tables_1_4 ++ (tables_1_5 ++ (tables_1_6))))) from (List.mem_append_right _ (List.mem_append_right _ (List.mem_append_right _ (List.mem_append_right _ (List.mem_append_right _ h)))))), hg⟩
theorem gw_methodLink (a : String) (b : Nat) (c : MethodName) : goodWord (.methodLink a b c) = true := rfl
theorem gw_fieldLink (a : String) (b : Nat) (c d e : String) : goodWord (.fieldLink a b c d e) = true := rfl
theorem gw_instanceMethod (a : MethodName) : goodWord (.instanceMethod a) = true := rfl
theorem gw_static (a : MethodName) : goodWord (.static a) = true := rfl
theorem gw_lays (a b c d : String) : goodWord (.lays a b c d) = true := rfl
theorem gw_laysFinal (a b c d : String) : goodWord (.laysFinal a b c d) = true := rfl
theorem gw_selects (a : String) (b c : MethodName) : goodWord (.selects a b c) = true := rfl
theorem gw_code (a : MethodName) (b : ByteArray) (c : Nat) (d : Option FieldType) : goodWord (.code a b c d) = true := rfl
def wU (C : String) (T : u_T) (N : Nat) : Prop := ∀ k : Nat, k < N → u_lay C T k ∈ pm_w
theorem wU0 {C : String} {T : u_T} : wU C T 0 := fun k h => absurd h (Nat.not_lt_zero k)
theorem wUS {C : String} {T : u_T} {n : Nat} (h : wU C T n) (e : u_lay C T n ∈ pm_w) : wU C T (n + 1) := fun k hk => by
  rcases Nat.lt_or_ge k n with z | z
  · exact h k z
  · have e2 : k = n := Nat.le_antisymm (Nat.le_of_lt_succ hk) z
    rw [e2]
    exact e
theorem wU_i {C : String} {T : u_T} {N : Nat} (h : wU C T N) : ∀ w ∈ u_ws C T N, w ∈ pm_w := fun w hw => by
  obtain ⟨k, hk, e⟩ := List.mem_map.mp hw
  rw [← e]
  exact h k (List.mem_range.mp hk)
set_option maxRecDepth 20000 in
theorem wj_0_0 : u_lay RX0 TX0 0 ∈ pm_w := pm_t1 (List.mem_of_getElem? (i := 136) rfl) (gw_laysFinal _ _ _ _)
set_option maxRecDepth 20000 in
theorem wj_0_1 : u_lay RX0 TX0 1 ∈ pm_w := pm_t1 (List.mem_of_getElem? (i := 138) rfl) (gw_lays _ _ _ _)
set_option maxRecDepth 20000 in
theorem wj_0_2 : u_lay RX0 TX0 2 ∈ pm_w := pm_t1 (List.mem_of_getElem? (i := 140) rfl) (gw_lays _ _ _ _)
set_option maxRecDepth 20000 in
theorem wj_0_3 : u_lay RX0 TX0 3 ∈ pm_w := pm_t1 (List.mem_of_getElem? (i := 142) rfl) (gw_lays _ _ _ _)
set_option maxRecDepth 20000 in
theorem wj_0_4 : u_lay RX0 TX0 4 ∈ pm_w := pm_t1 (List.mem_of_getElem? (i := 144) rfl) (gw_lays _ _ _ _)
set_option maxRecDepth 20000 in
theorem wj_0_5 : u_lay RX0 TX0 5 ∈ pm_w := pm_t1 (List.mem_of_getElem? (i := 146) rfl) (gw_lays _ _ _ _)
theorem wi_0 : ∀ w ∈ u_ws RX0 TX0 6, w ∈ pm_w := wU_i (wUS (wUS (wUS (wUS (wUS (wUS wU0 wj_0_0) wj_0_1) wj_0_2) wj_0_3) wj_0_4) wj_0_5)
set_option maxRecDepth 20000 in
theorem wj_1_0 : u_lay RX1 TX1 0 ∈ pm_w := pm_t1 (List.mem_of_getElem? (i := 63) rfl) (gw_laysFinal _ _ _ _)
set_option maxRecDepth 20000 in
theorem wj_1_1 : u_lay RX1 TX1 1 ∈ pm_w := pm_t1 (List.mem_of_getElem? (i := 65) rfl) (gw_laysFinal _ _ _ _)
set_option maxRecDepth 20000 in
theorem wj_1_2 : u_lay RX1 TX1 2 ∈ pm_w := pm_t1 (List.mem_of_getElem? (i := 67) rfl) (gw_laysFinal _ _ _ _)
set_option maxRecDepth 20000 in
theorem wj_1_3 : u_lay RX1 TX1 3 ∈ pm_w := pm_t1 (List.mem_of_getElem? (i := 69) rfl) (gw_laysFinal _ _ _ _)
set_option maxRecDepth 20000 in
theorem wj_1_4 : u_lay RX1 TX1 4 ∈ pm_w := pm_t1 (List.mem_of_getElem? (i := 71) rfl) (gw_laysFinal _ _ _ _)
set_option maxRecDepth 20000 in
theorem wj_1_5 : u_lay RX1 TX1 5 ∈ pm_w := pm_t1 (List.mem_of_getElem? (i := 73) rfl) (gw_laysFinal _ _ _ _)
set_option maxRecDepth 20000 in
theorem wj_1_6 : u_lay RX1 TX1 6 ∈ pm_w := pm_t1 (List.mem_of_getElem? (i := 75) rfl) (gw_laysFinal _ _ _ _)
set_option maxRecDepth 20000 in
theorem wj_1_7 : u_lay RX1 TX1 7 ∈ pm_w := pm_t1 (List.mem_of_getElem? (i := 77) rfl) (gw_laysFinal _ _ _ _)
set_option maxRecDepth 20000 in
theorem wj_1_8 : u_lay RX1 TX1 8 ∈ pm_w := pm_t1 (List.mem_of_getElem? (i := 79) rfl) (gw_lays _ _ _ _)
set_option maxRecDepth 20000 in
theorem wj_1_9 : u_lay RX1 TX1 9 ∈ pm_w := pm_t1 (List.mem_of_getElem? (i := 81) rfl) (gw_lays _ _ _ _)
set_option maxRecDepth 20000 in
theorem wj_1_10 : u_lay RX1 TX1 10 ∈ pm_w := pm_t1 (List.mem_of_getElem? (i := 83) rfl) (gw_lays _ _ _ _)
set_option maxRecDepth 20000 in
theorem wj_1_11 : u_lay RX1 TX1 11 ∈ pm_w := pm_t1 (List.mem_of_getElem? (i := 85) rfl) (gw_lays _ _ _ _)
theorem wi_1 : ∀ w ∈ u_ws RX1 TX1 12, w ∈ pm_w := wU_i (wUS (wUS (wUS (wUS (wUS (wUS (wUS (wUS (wUS (wUS (wUS (wUS wU0 wj_1_0) wj_1_1) wj_1_2) wj_1_3) wj_1_4) wj_1_5) wj_1_6) wj_1_7) wj_1_8) wj_1_9) wj_1_10) wj_1_11)
set_option maxRecDepth 20000 in
theorem wj_2_0 : u_lay RX2 TX2 0 ∈ pm_w := pm_t1 (List.mem_of_getElem? (i := 166) rfl) (gw_laysFinal _ _ _ _)
set_option maxRecDepth 20000 in
theorem wj_2_1 : u_lay RX2 TX2 1 ∈ pm_w := pm_t1 (List.mem_of_getElem? (i := 168) rfl) (gw_lays _ _ _ _)
set_option maxRecDepth 20000 in
theorem wj_2_2 : u_lay RX2 TX2 2 ∈ pm_w := pm_t1 (List.mem_of_getElem? (i := 170) rfl) (gw_lays _ _ _ _)
theorem wi_2 : ∀ w ∈ u_ws RX2 TX2 3, w ∈ pm_w := wU_i (wUS (wUS (wUS wU0 wj_2_0) wj_2_1) wj_2_2)
set_option maxRecDepth 20000 in
theorem wj_3_0 : u_lay RX3 TX3 0 ∈ pm_w := pm_t1 (List.mem_of_getElem? (i := 187) rfl) (gw_lays _ _ _ _)
set_option maxRecDepth 20000 in
theorem wj_3_1 : u_lay RX3 TX3 1 ∈ pm_w := pm_t1 (List.mem_of_getElem? (i := 189) rfl) (gw_lays _ _ _ _)
set_option maxRecDepth 20000 in
theorem wj_3_2 : u_lay RX3 TX3 2 ∈ pm_w := pm_t1 (List.mem_of_getElem? (i := 191) rfl) (gw_lays _ _ _ _)
set_option maxRecDepth 20000 in
theorem wj_3_3 : u_lay RX3 TX3 3 ∈ pm_w := pm_t1 (List.mem_of_getElem? (i := 193) rfl) (gw_lays _ _ _ _)
theorem wi_3 : ∀ w ∈ u_ws RX3 TX3 4, w ∈ pm_w := wU_i (wUS (wUS (wUS (wUS wU0 wj_3_0) wj_3_1) wj_3_2) wj_3_3)
set_option maxRecDepth 20000 in
theorem wj_4_0 : u_lay RX4 TX4 0 ∈ pm_w := pm_t1 (List.mem_of_getElem? (i := 104) rfl) (gw_laysFinal _ _ _ _)
set_option maxRecDepth 20000 in
theorem wj_4_1 : u_lay RX4 TX4 1 ∈ pm_w := pm_t1 (List.mem_of_getElem? (i := 106) rfl) (gw_laysFinal _ _ _ _)
set_option maxRecDepth 20000 in
theorem wj_4_2 : u_lay RX4 TX4 2 ∈ pm_w := pm_t1 (List.mem_of_getElem? (i := 108) rfl) (gw_laysFinal _ _ _ _)
set_option maxRecDepth 20000 in
theorem wj_4_3 : u_lay RX4 TX4 3 ∈ pm_w := pm_t1 (List.mem_of_getElem? (i := 110) rfl) (gw_laysFinal _ _ _ _)
set_option maxRecDepth 20000 in
theorem wj_4_4 : u_lay RX4 TX4 4 ∈ pm_w := pm_t1 (List.mem_of_getElem? (i := 112) rfl) (gw_lays _ _ _ _)
set_option maxRecDepth 20000 in
theorem wj_4_5 : u_lay RX4 TX4 5 ∈ pm_w := pm_t1 (List.mem_of_getElem? (i := 114) rfl) (gw_lays _ _ _ _)
set_option maxRecDepth 20000 in
theorem wj_4_6 : u_lay RX4 TX4 6 ∈ pm_w := pm_t1 (List.mem_of_getElem? (i := 116) rfl) (gw_lays _ _ _ _)
set_option maxRecDepth 20000 in
theorem wj_4_7 : u_lay RX4 TX4 7 ∈ pm_w := pm_t1 (List.mem_of_getElem? (i := 118) rfl) (gw_lays _ _ _ _)
theorem wi_4 : ∀ w ∈ u_ws RX4 TX4 8, w ∈ pm_w := wU_i (wUS (wUS (wUS (wUS (wUS (wUS (wUS (wUS wU0 wj_4_0) wj_4_1) wj_4_2) wj_4_3) wj_4_4) wj_4_5) wj_4_6) wj_4_7)
set_option maxRecDepth 20000 in
theorem wj_5_0 : u_lay RX5 TX5 0 ∈ pm_w := pm_t1 (List.mem_of_getElem? (i := 207) rfl) (gw_laysFinal _ _ _ _)
set_option maxRecDepth 20000 in
theorem wj_5_1 : u_lay RX5 TX5 1 ∈ pm_w := pm_t1 (List.mem_of_getElem? (i := 209) rfl) (gw_laysFinal _ _ _ _)
set_option maxRecDepth 20000 in
theorem wj_5_2 : u_lay RX5 TX5 2 ∈ pm_w := pm_t1 (List.mem_of_getElem? (i := 211) rfl) (gw_laysFinal _ _ _ _)
set_option maxRecDepth 20000 in
theorem wj_5_3 : u_lay RX5 TX5 3 ∈ pm_w := pm_t1 (List.mem_of_getElem? (i := 213) rfl) (gw_laysFinal _ _ _ _)
set_option maxRecDepth 20000 in
theorem wj_5_4 : u_lay RX5 TX5 4 ∈ pm_w := pm_t1 (List.mem_of_getElem? (i := 215) rfl) (gw_laysFinal _ _ _ _)
set_option maxRecDepth 20000 in
theorem wj_5_5 : u_lay RX5 TX5 5 ∈ pm_w := pm_t1 (List.mem_of_getElem? (i := 217) rfl) (gw_laysFinal _ _ _ _)
set_option maxRecDepth 20000 in
theorem wj_5_6 : u_lay RX5 TX5 6 ∈ pm_w := pm_t1 (List.mem_of_getElem? (i := 219) rfl) (gw_laysFinal _ _ _ _)
set_option maxRecDepth 20000 in
theorem wj_5_7 : u_lay RX5 TX5 7 ∈ pm_w := pm_t1 (List.mem_of_getElem? (i := 221) rfl) (gw_laysFinal _ _ _ _)
set_option maxRecDepth 20000 in
theorem wj_5_8 : u_lay RX5 TX5 8 ∈ pm_w := pm_t1 (List.mem_of_getElem? (i := 223) rfl) (gw_laysFinal _ _ _ _)
set_option maxRecDepth 20000 in
theorem wj_5_9 : u_lay RX5 TX5 9 ∈ pm_w := pm_t1 (List.mem_of_getElem? (i := 225) rfl) (gw_lays _ _ _ _)
set_option maxRecDepth 20000 in
theorem wj_5_10 : u_lay RX5 TX5 10 ∈ pm_w := pm_t1 (List.mem_of_getElem? (i := 227) rfl) (gw_lays _ _ _ _)
theorem wi_5 : ∀ w ∈ u_ws RX5 TX5 11, w ∈ pm_w := wU_i (wUS (wUS (wUS (wUS (wUS (wUS (wUS (wUS (wUS (wUS (wUS wU0 wj_5_0) wj_5_1) wj_5_2) wj_5_3) wj_5_4) wj_5_5) wj_5_6) wj_5_7) wj_5_8) wj_5_9) wj_5_10)
set_option maxRecDepth 20000 in
theorem wj_6_0 : u_lay RX6 TX6 0 ∈ pm_w := pm_t4 (List.mem_of_getElem? (i := 39) rfl) (gw_laysFinal _ _ _ _)
set_option maxRecDepth 20000 in
theorem wj_6_1 : u_lay RX6 TX6 1 ∈ pm_w := pm_t4 (List.mem_of_getElem? (i := 41) rfl) (gw_laysFinal _ _ _ _)
set_option maxRecDepth 20000 in
theorem wj_6_2 : u_lay RX6 TX6 2 ∈ pm_w := pm_t4 (List.mem_of_getElem? (i := 43) rfl) (gw_laysFinal _ _ _ _)
set_option maxRecDepth 20000 in
theorem wj_6_3 : u_lay RX6 TX6 3 ∈ pm_w := pm_t4 (List.mem_of_getElem? (i := 45) rfl) (gw_laysFinal _ _ _ _)
set_option maxRecDepth 20000 in
theorem wj_6_4 : u_lay RX6 TX6 4 ∈ pm_w := pm_t4 (List.mem_of_getElem? (i := 47) rfl) (gw_lays _ _ _ _)
set_option maxRecDepth 20000 in
theorem wj_6_5 : u_lay RX6 TX6 5 ∈ pm_w := pm_t4 (List.mem_of_getElem? (i := 49) rfl) (gw_lays _ _ _ _)
set_option maxRecDepth 20000 in
theorem wj_6_6 : u_lay RX6 TX6 6 ∈ pm_w := pm_t4 (List.mem_of_getElem? (i := 51) rfl) (gw_laysFinal _ _ _ _)
set_option maxRecDepth 20000 in
theorem wj_6_7 : u_lay RX6 TX6 7 ∈ pm_w := pm_t4 (List.mem_of_getElem? (i := 53) rfl) (gw_lays _ _ _ _)
set_option maxRecDepth 20000 in
theorem wj_6_8 : u_lay RX6 TX6 8 ∈ pm_w := pm_t4 (List.mem_of_getElem? (i := 55) rfl) (gw_lays _ _ _ _)
set_option maxRecDepth 20000 in
theorem wj_6_9 : u_lay RX6 TX6 9 ∈ pm_w := pm_t4 (List.mem_of_getElem? (i := 57) rfl) (gw_lays _ _ _ _)
set_option maxRecDepth 20000 in
theorem wj_6_10 : u_lay RX6 TX6 10 ∈ pm_w := pm_t4 (List.mem_of_getElem? (i := 59) rfl) (gw_lays _ _ _ _)
set_option maxRecDepth 20000 in
theorem wj_6_11 : u_lay RX6 TX6 11 ∈ pm_w := pm_t4 (List.mem_of_getElem? (i := 61) rfl) (gw_lays _ _ _ _)
set_option maxRecDepth 20000 in
theorem wj_6_12 : u_lay RX6 TX6 12 ∈ pm_w := pm_t4 (List.mem_of_getElem? (i := 63) rfl) (gw_lays _ _ _ _)
set_option maxRecDepth 20000 in
theorem wj_6_13 : u_lay RX6 TX6 13 ∈ pm_w := pm_t4 (List.mem_of_getElem? (i := 65) rfl) (gw_lays _ _ _ _)
set_option maxRecDepth 20000 in
theorem wj_6_14 : u_lay RX6 TX6 14 ∈ pm_w := pm_t4 (List.mem_of_getElem? (i := 67) rfl) (gw_laysFinal _ _ _ _)
set_option maxRecDepth 20000 in
theorem wj_6_15 : u_lay RX6 TX6 15 ∈ pm_w := pm_t4 (List.mem_of_getElem? (i := 69) rfl) (gw_laysFinal _ _ _ _)
set_option maxRecDepth 20000 in
theorem wj_6_16 : u_lay RX6 TX6 16 ∈ pm_w := pm_t4 (List.mem_of_getElem? (i := 71) rfl) (gw_laysFinal _ _ _ _)
set_option maxRecDepth 20000 in
theorem wj_6_17 : u_lay RX6 TX6 17 ∈ pm_w := pm_t4 (List.mem_of_getElem? (i := 73) rfl) (gw_lays _ _ _ _)
set_option maxRecDepth 20000 in
theorem wj_6_18 : u_lay RX6 TX6 18 ∈ pm_w := pm_t4 (List.mem_of_getElem? (i := 75) rfl) (gw_laysFinal _ _ _ _)
set_option maxRecDepth 20000 in
theorem wj_6_19 : u_lay RX6 TX6 19 ∈ pm_w := pm_t4 (List.mem_of_getElem? (i := 77) rfl) (gw_laysFinal _ _ _ _)
set_option maxRecDepth 20000 in
theorem wj_6_20 : u_lay RX6 TX6 20 ∈ pm_w := pm_t4 (List.mem_of_getElem? (i := 79) rfl) (gw_laysFinal _ _ _ _)
set_option maxRecDepth 20000 in
theorem wj_6_21 : u_lay RX6 TX6 21 ∈ pm_w := pm_t4 (List.mem_of_getElem? (i := 81) rfl) (gw_laysFinal _ _ _ _)
set_option maxRecDepth 20000 in
theorem wj_6_22 : u_lay RX6 TX6 22 ∈ pm_w := pm_t4 (List.mem_of_getElem? (i := 83) rfl) (gw_laysFinal _ _ _ _)
set_option maxRecDepth 20000 in
theorem wj_6_23 : u_lay RX6 TX6 23 ∈ pm_w := pm_t4 (List.mem_of_getElem? (i := 85) rfl) (gw_laysFinal _ _ _ _)
set_option maxRecDepth 20000 in
theorem wj_6_24 : u_lay RX6 TX6 24 ∈ pm_w := pm_t4 (List.mem_of_getElem? (i := 87) rfl) (gw_lays _ _ _ _)
set_option maxRecDepth 20000 in
theorem wj_6_25 : u_lay RX6 TX6 25 ∈ pm_w := pm_t4 (List.mem_of_getElem? (i := 89) rfl) (gw_lays _ _ _ _)
set_option maxRecDepth 20000 in
theorem wj_6_26 : u_lay RX6 TX6 26 ∈ pm_w := pm_t4 (List.mem_of_getElem? (i := 91) rfl) (gw_lays _ _ _ _)
set_option maxRecDepth 20000 in
theorem wj_6_27 : u_lay RX6 TX6 27 ∈ pm_w := pm_t4 (List.mem_of_getElem? (i := 93) rfl) (gw_laysFinal _ _ _ _)
set_option maxRecDepth 20000 in
theorem wj_6_28 : u_lay RX6 TX6 28 ∈ pm_w := pm_t4 (List.mem_of_getElem? (i := 95) rfl) (gw_lays _ _ _ _)
set_option maxRecDepth 20000 in
theorem wj_6_29 : u_lay RX6 TX6 29 ∈ pm_w := pm_t4 (List.mem_of_getElem? (i := 97) rfl) (gw_lays _ _ _ _)
theorem wi_6 : ∀ w ∈ u_ws RX6 TX6 30, w ∈ pm_w := wU_i (wUS (wUS (wUS (wUS (wUS (wUS (wUS (wUS (wUS (wUS (wUS (wUS (wUS (wUS (wUS (wUS (wUS (wUS (wUS (wUS (wUS (wUS (wUS (wUS (wUS (wUS (wUS (wUS (wUS (wUS wU0 wj_6_0) wj_6_1) wj_6_2) wj_6_3) wj_6_4) wj_6_5) wj_6_6) wj_6_7) wj_6_8) wj_6_9) wj_6_10) wj_6_11) wj_6_12) wj_6_13) wj_6_14) wj_6_15) wj_6_16) wj_6_17) wj_6_18) wj_6_19) wj_6_20) wj_6_21) wj_6_22) wj_6_23) wj_6_24) wj_6_25) wj_6_26) wj_6_27) wj_6_28) wj_6_29)
set_option maxRecDepth 20000 in
theorem pw_0 : Cond.methodLink RX0 3 objectInit ∈ pm_w := pm_t1 (List.mem_of_getElem? (i := 126) rfl) (gw_methodLink _ _ _)
set_option maxRecDepth 20000 in
theorem pw_1 : Cond.instanceMethod objectInit ∈ pm_w := pm_t1 (List.mem_of_getElem? (i := 21) rfl) (gw_instanceMethod _)
set_option maxRecDepth 20000 in
theorem pw_2 : Cond.code objectInit ⟨#[0xb1]⟩ 1 none ∈ pm_w := pm_t1 (List.mem_of_getElem? (i := 22) rfl) (gw_code _ _ _ _)
set_option maxRecDepth 20000 in
theorem pw_3 : Cond.arrayClass .int ∈ pm_w := pm_t1 (List.mem_of_getElem? (i := 88) rfl) (by decide +kernel)
set_option maxRecDepth 20000 in
theorem pw_4 : Cond.fieldLink RX0 9 "BlankRations$Actor" "bodies" "[I" ∈ pm_w := pm_t1 (List.mem_of_getElem? (i := 127) rfl) (gw_fieldLink _ _ _ _ _)
set_option maxRecDepth 20000 in
theorem pw_5 : Cond.fieldLink RX0 15 "BlankRations$Actor" "ran" "I" ∈ pm_w := pm_t1 (List.mem_of_getElem? (i := 129) rfl) (gw_fieldLink _ _ _ _ _)
set_option maxRecDepth 20000 in
theorem pw_6 : Cond.fieldLink RX0 19 "BlankRations$Actor" "isStopped" "Z" ∈ pm_w := pm_t1 (List.mem_of_getElem? (i := 131) rfl) (gw_fieldLink _ _ _ _ _)
set_option maxRecDepth 20000 in
theorem pw_7 : Cond.fieldLink RX0 23 "BlankRations$Actor" "kind" "I" ∈ pm_w := pm_t1 (List.mem_of_getElem? (i := 133) rfl) (gw_fieldLink _ _ _ _ _)
set_option maxRecDepth 20000 in
theorem pw_8 : Cond.fieldLink RX0 26 "BlankRations$Actor" "number" "I" ∈ pm_w := pm_t1 (List.mem_of_getElem? (i := 134) rfl) (gw_fieldLink _ _ _ _ _)
set_option maxRecDepth 20000 in
theorem pw_9 : Cond.fieldLink RX0 29 "BlankRations$Actor" "hand" "I" ∈ pm_w := pm_t1 (List.mem_of_getElem? (i := 135) rfl) (gw_fieldLink _ _ _ _ _)
set_option maxRecDepth 20000 in
theorem pw_10 : Cond.code yX0_thinks cX0_thinks 3 (some .int) ∈ pm_w := pm_t3 (List.mem_of_getElem? (i := 206) rfl) (gw_code _ _ _ _)
set_option maxRecDepth 20000 in
theorem pw_11 : Cond.initialized RX0 ∈ pm_w := pm_t1 (List.mem_of_getElem? (i := 5) rfl) (by decide +kernel)
set_option maxRecDepth 20000 in
theorem pw_12 : Cond.methodLink RX0 32 yX0_thinks ∈ pm_w := pm_t3 (List.mem_of_getElem? (i := 203) rfl) (gw_methodLink _ _ _)
set_option maxRecDepth 20000 in
theorem pw_13 : Cond.instanceMethod yX0_thinks ∈ pm_w := pm_t3 (List.mem_of_getElem? (i := 205) rfl) (gw_instanceMethod _)
set_option maxRecDepth 20000 in
theorem pw_14 : Cond.selects RX0 yX0_thinks yX0_thinks ∈ pm_w := pm_wm 21 rfl (gw_selects _ _ _)
set_option maxRecDepth 20000 in
theorem pw_15 : Cond.code yX0_asks cX0_asks 3 (some .int) ∈ pm_w := pm_t3 (List.mem_of_getElem? (i := 215) rfl) (gw_code _ _ _ _)
set_option maxRecDepth 20000 in
theorem pw_16 : Cond.methodLink RX0 36 yX0_asks ∈ pm_w := pm_t3 (List.mem_of_getElem? (i := 212) rfl) (gw_methodLink _ _ _)
set_option maxRecDepth 20000 in
theorem pw_17 : Cond.instanceMethod yX0_asks ∈ pm_w := pm_t3 (List.mem_of_getElem? (i := 214) rfl) (gw_instanceMethod _)
set_option maxRecDepth 20000 in
theorem pw_18 : Cond.selects RX0 yX0_asks yX0_asks ∈ pm_w := pm_wm 23 rfl (gw_selects _ _ _)
set_option maxRecDepth 20000 in
theorem pw_19 : Cond.code yX0_parts cX0_parts 4 (some .int) ∈ pm_w := pm_t3 (List.mem_of_getElem? (i := 219) rfl) (gw_code _ _ _ _)
set_option maxRecDepth 20000 in
theorem pw_20 : Cond.methodLink RX0 39 yX0_parts ∈ pm_w := pm_t3 (List.mem_of_getElem? (i := 216) rfl) (gw_methodLink _ _ _)
set_option maxRecDepth 20000 in
theorem pw_21 : Cond.instanceMethod yX0_parts ∈ pm_w := pm_t3 (List.mem_of_getElem? (i := 218) rfl) (gw_instanceMethod _)
set_option maxRecDepth 20000 in
theorem pw_22 : Cond.selects RX0 yX0_parts yX0_parts ∈ pm_w := pm_wm 24 rfl (gw_selects _ _ _)
set_option maxRecDepth 20000 in
theorem pw_23 : Cond.code yX0_writes cX0_writes 3 (some .int) ∈ pm_w := pm_t3 (List.mem_of_getElem? (i := 223) rfl) (gw_code _ _ _ _)
set_option maxRecDepth 20000 in
theorem pw_24 : Cond.methodLink RX0 42 yX0_writes ∈ pm_w := pm_t3 (List.mem_of_getElem? (i := 220) rfl) (gw_methodLink _ _ _)
set_option maxRecDepth 20000 in
theorem pw_25 : Cond.instanceMethod yX0_writes ∈ pm_w := pm_t3 (List.mem_of_getElem? (i := 222) rfl) (gw_instanceMethod _)
set_option maxRecDepth 20000 in
theorem pw_26 : Cond.selects RX0 yX0_writes yX0_writes ∈ pm_w := pm_wm 25 rfl (gw_selects _ _ _)
set_option maxRecDepth 20000 in
theorem pw_27 : Cond.code yX0_enter cX0_enter 2 (none) ∈ pm_w := pm_t3 (List.mem_of_getElem? (i := 210) rfl) (gw_code _ _ _ _)
set_option maxRecDepth 20000 in
theorem pw_28 : Cond.methodLink RX0 45 yX0_enter ∈ pm_w := pm_t3 (List.mem_of_getElem? (i := 207) rfl) (gw_methodLink _ _ _)
set_option maxRecDepth 20000 in
theorem pw_29 : Cond.instanceMethod yX0_enter ∈ pm_w := pm_t3 (List.mem_of_getElem? (i := 209) rfl) (gw_instanceMethod _)
set_option maxRecDepth 20000 in
theorem pw_30 : Cond.selects RX0 yX0_enter yX0_enter ∈ pm_w := pm_wm 22 rfl (gw_selects _ _ _)
set_option maxRecDepth 20000 in
theorem pw_31 : Cond.code yX5_isUnder cX5_isUnder 2 (some .boolean) ∈ pm_w := pm_t2 (List.mem_of_getElem? (i := 182) rfl) (gw_code _ _ _ _)
set_option maxRecDepth 20000 in
theorem pw_32 : Cond.initialized RX5 ∈ pm_w := pm_t1 (List.mem_of_getElem? (i := 1) rfl) (by decide +kernel)
set_option maxRecDepth 20000 in
theorem pw_33 : Cond.static yX5_isUnder ∈ pm_w := pm_t2 (List.mem_of_getElem? (i := 181) rfl) (gw_static _)
set_option maxRecDepth 20000 in
theorem pw_34 : Cond.methodLink RX1 3 objectInit ∈ pm_w := pm_t1 (List.mem_of_getElem? (i := 28) rfl) (gw_methodLink _ _ _)
set_option maxRecDepth 20000 in
theorem pw_35 : Cond.fieldLink RX1 13 "BlankRations$Office" "laws" "[I" ∈ pm_w := pm_t1 (List.mem_of_getElem? (i := 38) rfl) (gw_fieldLink _ _ _ _ _)
set_option maxRecDepth 20000 in
theorem pw_36 : Cond.fieldLink RX1 18 "BlankRations$Office" "kinds" "[I" ∈ pm_w := pm_t1 (List.mem_of_getElem? (i := 41) rfl) (gw_fieldLink _ _ _ _ _)
set_option maxRecDepth 20000 in
theorem pw_37 : Cond.fieldLink RX1 21 "BlankRations$Office" "thoughts" "[I" ∈ pm_w := pm_t1 (List.mem_of_getElem? (i := 43) rfl) (gw_fieldLink _ _ _ _ _)
set_option maxRecDepth 20000 in
theorem pw_38 : Cond.fieldLink RX1 24 "BlankRations$Office" "hands" "[I" ∈ pm_w := pm_t1 (List.mem_of_getElem? (i := 45) rfl) (gw_fieldLink _ _ _ _ _)
set_option maxRecDepth 20000 in
theorem pw_39 : Cond.fieldLink RX1 27 "BlankRations$Office" "pages" "[I" ∈ pm_w := pm_t1 (List.mem_of_getElem? (i := 47) rfl) (gw_fieldLink _ _ _ _ _)
set_option maxRecDepth 20000 in
theorem pw_40 : Cond.fieldLink RX1 30 "BlankRations$Office" "gots" "[I" ∈ pm_w := pm_t1 (List.mem_of_getElem? (i := 49) rfl) (gw_fieldLink _ _ _ _ _)
set_option maxRecDepth 20000 in
theorem pw_41 : Cond.fieldLink RX1 33 "BlankRations$Office" "saids" "[I" ∈ pm_w := pm_t1 (List.mem_of_getElem? (i := 51) rfl) (gw_fieldLink _ _ _ _ _)
set_option maxRecDepth 20000 in
theorem pw_42 : Cond.fieldLink RX1 36 "BlankRations$Office" "needs" "[I" ∈ pm_w := pm_t1 (List.mem_of_getElem? (i := 53) rfl) (gw_fieldLink _ _ _ _ _)
set_option maxRecDepth 20000 in
theorem pw_43 : Cond.code yX1_begin cX1_begin 1 (none) ∈ pm_w := pm_t1 (List.mem_of_getElem? (i := 34) rfl) (gw_code _ _ _ _)
set_option maxRecDepth 20000 in
theorem pw_44 : Cond.initialized RX1 ∈ pm_w := pm_t1 (List.mem_of_getElem? (i := 2) rfl) (by decide +kernel)
set_option maxRecDepth 20000 in
theorem pw_45 : Cond.methodLink RX1 39 yX1_begin ∈ pm_w := pm_t1 (List.mem_of_getElem? (i := 31) rfl) (gw_methodLink _ _ _)
set_option maxRecDepth 20000 in
theorem pw_46 : Cond.instanceMethod yX1_begin ∈ pm_w := pm_t1 (List.mem_of_getElem? (i := 32) rfl) (gw_instanceMethod _)
set_option maxRecDepth 20000 in
theorem pw_47 : Cond.selects RX1 yX1_begin yX1_begin ∈ pm_w := pm_t1 (List.mem_of_getElem? (i := 33) rfl) (gw_selects _ _ _)
set_option maxRecDepth 20000 in
theorem pw_48 : Cond.fieldLink RX1 42 "BlankRations$Office" "z" "I" ∈ pm_w := pm_t1 (List.mem_of_getElem? (i := 61) rfl) (gw_fieldLink _ _ _ _ _)
set_option maxRecDepth 20000 in
theorem pw_49 : Cond.methodLink RX1 46 arraycopyName ∈ pm_w := pm_t1 (List.mem_of_getElem? (i := 35) rfl) (gw_methodLink _ _ _)
set_option maxRecDepth 20000 in
theorem pw_50 : Cond.native arraycopyName ∈ pm_w := pm_t1 (List.mem_of_getElem? (i := 37) rfl) (by decide +kernel)
set_option maxRecDepth 20000 in
theorem pw_51 : Cond.static arraycopyName ∈ pm_w := pm_t1 (List.mem_of_getElem? (i := 36) rfl) (gw_static _)
set_option maxRecDepth 20000 in
theorem pw_52 : Cond.initialized RJ10 ∈ pm_w := pm_t1 (List.mem_of_getElem? (i := 3) rfl) (by decide +kernel)
set_option maxRecDepth 20000 in
theorem pw_53 : Cond.fieldLink RX1 52 "BlankRations$Office" "count" "I" ∈ pm_w := pm_t1 (List.mem_of_getElem? (i := 54) rfl) (gw_fieldLink _ _ _ _ _)
set_option maxRecDepth 20000 in
theorem pw_54 : Cond.fieldLink RX1 55 "BlankRations$Office" "week" "I" ∈ pm_w := pm_t1 (List.mem_of_getElem? (i := 57) rfl) (gw_fieldLink _ _ _ _ _)
set_option maxRecDepth 20000 in
theorem pw_55 : Cond.fieldLink RX1 58 "BlankRations$Office" "back" "I" ∈ pm_w := pm_t1 (List.mem_of_getElem? (i := 59) rfl) (gw_fieldLink _ _ _ _ _)
set_option maxRecDepth 20000 in
theorem pw_56 : Cond.code yX5_isWithin cX5_isWithin 3 (some .boolean) ∈ pm_w := pm_t1 (List.mem_of_getElem? (i := 236) rfl) (gw_code _ _ _ _)
set_option maxRecDepth 20000 in
theorem pw_57 : Cond.static yX5_isWithin ∈ pm_w := pm_t1 (List.mem_of_getElem? (i := 235) rfl) (gw_static _)
set_option maxRecDepth 20000 in
theorem pw_58 : Cond.code yX1_needing cX1_needing 4 (some .int) ∈ pm_w := pm_t2 (List.mem_of_getElem? (i := 186) rfl) (gw_code _ _ _ _)
set_option maxRecDepth 20000 in
theorem pw_59 : Cond.methodLink RX1 65 yX1_needing ∈ pm_w := pm_t2 (List.mem_of_getElem? (i := 228) rfl) (gw_methodLink _ _ _)
set_option maxRecDepth 20000 in
theorem pw_60 : Cond.instanceMethod yX1_needing ∈ pm_w := pm_t2 (List.mem_of_getElem? (i := 184) rfl) (gw_instanceMethod _)
set_option maxRecDepth 20000 in
theorem pw_61 : Cond.selects RX1 yX1_needing yX1_needing ∈ pm_w := pm_t2 (List.mem_of_getElem? (i := 185) rfl) (gw_selects _ _ _)
set_option maxRecDepth 20000 in
theorem pw_62 : Cond.methodLink RX1 73 Lib.Math.max.name ∈ pm_w := pm_t2 (List.mem_of_getElem? (i := 191) rfl) (gw_methodLink _ _ _)
set_option maxRecDepth 20000 in
theorem pw_63 : Cond.static Lib.Math.max.name ∈ pm_w := pm_t2 (List.mem_of_getElem? (i := 192) rfl) (gw_static _)
set_option maxRecDepth 20000 in
theorem pw_64 : Cond.initialized RJ9 ∈ pm_w := pm_t1 (List.mem_of_getElem? (i := 13) rfl) (by decide +kernel)
set_option maxRecDepth 20000 in
theorem pw_65 : Cond.code Lib.Math.max.name Lib.Math.max.code 2 (some .int) ∈ pm_w := pm_t2 (List.mem_of_getElem? (i := 193) rfl) (gw_code _ _ _ _)
set_option maxRecDepth 20000 in
theorem pw_66 : Cond.code yX1_think cX1_think 2 (none) ∈ pm_w := pm_t2 (List.mem_of_getElem? (i := 225) rfl) (gw_code _ _ _ _)
set_option maxRecDepth 20000 in
theorem pw_67 : Cond.methodLink RX1 79 yX1_think ∈ pm_w := pm_t2 (List.mem_of_getElem? (i := 222) rfl) (gw_methodLink _ _ _)
set_option maxRecDepth 20000 in
theorem pw_68 : Cond.instanceMethod yX1_think ∈ pm_w := pm_t2 (List.mem_of_getElem? (i := 224) rfl) (gw_instanceMethod _)
set_option maxRecDepth 20000 in
theorem pw_69 : Cond.selects RX1 yX1_think yX1_think ∈ pm_w := pm_wm 12 rfl (gw_selects _ _ _)
set_option maxRecDepth 20000 in
theorem pw_70 : Cond.code yX1_handOut cX1_handOut 4 (none) ∈ pm_w := pm_t2 (List.mem_of_getElem? (i := 232) rfl) (gw_code _ _ _ _)
set_option maxRecDepth 20000 in
theorem pw_71 : Cond.methodLink RX1 82 yX1_handOut ∈ pm_w := pm_t2 (List.mem_of_getElem? (i := 229) rfl) (gw_methodLink _ _ _)
set_option maxRecDepth 20000 in
theorem pw_72 : Cond.instanceMethod yX1_handOut ∈ pm_w := pm_t2 (List.mem_of_getElem? (i := 231) rfl) (gw_instanceMethod _)
set_option maxRecDepth 20000 in
theorem pw_73 : Cond.selects RX1 yX1_handOut yX1_handOut ∈ pm_w := pm_wm 13 rfl (gw_selects _ _ _)
set_option maxRecDepth 20000 in
theorem pw_74 : Cond.code yX1_speak cX1_speak 4 (some .int) ∈ pm_w := pm_t3 (List.mem_of_getElem? (i := 0) rfl) (gw_code _ _ _ _)
set_option maxRecDepth 20000 in
theorem pw_75 : Cond.methodLink RX1 86 yX1_speak ∈ pm_w := pm_t2 (List.mem_of_getElem? (i := 237) rfl) (gw_methodLink _ _ _)
set_option maxRecDepth 20000 in
theorem pw_76 : Cond.instanceMethod yX1_speak ∈ pm_w := pm_t2 (List.mem_of_getElem? (i := 239) rfl) (gw_instanceMethod _)
set_option maxRecDepth 20000 in
theorem pw_77 : Cond.selects RX1 yX1_speak yX1_speak ∈ pm_w := pm_wm 15 rfl (gw_selects _ _ _)
set_option maxRecDepth 20000 in
theorem pw_78 : Cond.code yX1_draw cX1_draw 1 (some .int) ∈ pm_w := pm_t3 (List.mem_of_getElem? (i := 23) rfl) (gw_code _ _ _ _)
set_option maxRecDepth 20000 in
theorem pw_79 : Cond.methodLink RX1 90 yX1_draw ∈ pm_w := pm_t3 (List.mem_of_getElem? (i := 20) rfl) (gw_methodLink _ _ _)
set_option maxRecDepth 20000 in
theorem pw_80 : Cond.instanceMethod yX1_draw ∈ pm_w := pm_t3 (List.mem_of_getElem? (i := 22) rfl) (gw_instanceMethod _)
set_option maxRecDepth 20000 in
theorem pw_81 : Cond.selects RX1 yX1_draw yX1_draw ∈ pm_w := pm_wm 16 rfl (gw_selects _ _ _)
set_option maxRecDepth 20000 in
theorem pw_82 : Cond.code yX1_passWeek cX1_passWeek 3 (some .int) ∈ pm_w := pm_t2 (List.mem_of_getElem? (i := 221) rfl) (gw_code _ _ _ _)
set_option maxRecDepth 20000 in
theorem pw_83 : Cond.methodLink RX1 93 yX1_passWeek ∈ pm_w := pm_t3 (List.mem_of_getElem? (i := 25) rfl) (gw_methodLink _ _ _)
set_option maxRecDepth 20000 in
theorem pw_84 : Cond.instanceMethod yX1_passWeek ∈ pm_w := pm_t2 (List.mem_of_getElem? (i := 219) rfl) (gw_instanceMethod _)
set_option maxRecDepth 20000 in
theorem pw_85 : Cond.selects RX1 yX1_passWeek yX1_passWeek ∈ pm_w := pm_t2 (List.mem_of_getElem? (i := 220) rfl) (gw_selects _ _ _)
set_option maxRecDepth 20000 in
theorem pw_86 : Cond.constant RX1 96 (1103515245) ∈ pm_w := pm_t3 (List.mem_of_getElem? (i := 24) rfl) (by decide +kernel)
set_option maxRecDepth 20000 in
theorem pw_87 : Cond.code yX1_thinking cX1_thinking 4 (some .int) ∈ pm_w := pm_t2 (List.mem_of_getElem? (i := 179) rfl) (gw_code _ _ _ _)
set_option maxRecDepth 20000 in
theorem pw_88 : Cond.methodLink RX1 97 yX1_thinking ∈ pm_w := pm_t2 (List.mem_of_getElem? (i := 226) rfl) (gw_methodLink _ _ _)
set_option maxRecDepth 20000 in
theorem pw_89 : Cond.instanceMethod yX1_thinking ∈ pm_w := pm_t2 (List.mem_of_getElem? (i := 177) rfl) (gw_instanceMethod _)
set_option maxRecDepth 20000 in
theorem pw_90 : Cond.selects RX1 yX1_thinking yX1_thinking ∈ pm_w := pm_t2 (List.mem_of_getElem? (i := 178) rfl) (gw_selects _ _ _)
set_option maxRecDepth 20000 in
theorem pw_91 : Cond.methodLink RX1 100 Lib.Math.min.name ∈ pm_w := pm_t2 (List.mem_of_getElem? (i := 227) rfl) (gw_methodLink _ _ _)
set_option maxRecDepth 20000 in
theorem pw_92 : Cond.static Lib.Math.min.name ∈ pm_w := pm_t2 (List.mem_of_getElem? (i := 108) rfl) (gw_static _)
set_option maxRecDepth 20000 in
theorem pw_93 : Cond.code Lib.Math.min.name Lib.Math.min.code 2 (some .int) ∈ pm_w := pm_t2 (List.mem_of_getElem? (i := 109) rfl) (gw_code _ _ _ _)
set_option maxRecDepth 20000 in
theorem pw_94 : Cond.code yX1_keenest cX1_keenest 6 (some .int) ∈ pm_w := pm_t2 (List.mem_of_getElem? (i := 236) rfl) (gw_code _ _ _ _)
set_option maxRecDepth 20000 in
theorem pw_95 : Cond.methodLink RX1 103 yX1_keenest ∈ pm_w := pm_t2 (List.mem_of_getElem? (i := 233) rfl) (gw_methodLink _ _ _)
set_option maxRecDepth 20000 in
theorem pw_96 : Cond.instanceMethod yX1_keenest ∈ pm_w := pm_t2 (List.mem_of_getElem? (i := 235) rfl) (gw_instanceMethod _)
set_option maxRecDepth 20000 in
theorem pw_97 : Cond.selects RX1 yX1_keenest yX1_keenest ∈ pm_w := pm_wm 14 rfl (gw_selects _ _ _)
set_option maxRecDepth 20000 in
theorem pw_98 : Cond.code yX1_saying cX1_saying 4 (some .int) ∈ pm_w := pm_t2 (List.mem_of_getElem? (i := 190) rfl) (gw_code _ _ _ _)
set_option maxRecDepth 20000 in
theorem pw_99 : Cond.methodLink RX1 106 yX1_saying ∈ pm_w := pm_t3 (List.mem_of_getElem? (i := 1) rfl) (gw_methodLink _ _ _)
set_option maxRecDepth 20000 in
theorem pw_100 : Cond.instanceMethod yX1_saying ∈ pm_w := pm_t2 (List.mem_of_getElem? (i := 188) rfl) (gw_instanceMethod _)
set_option maxRecDepth 20000 in
theorem pw_101 : Cond.selects RX1 yX1_saying yX1_saying ∈ pm_w := pm_t2 (List.mem_of_getElem? (i := 189) rfl) (gw_selects _ _ _)
set_option maxRecDepth 20000 in
theorem pw_102 : Cond.constant RX1 109 (99999) ∈ pm_w := pm_t3 (List.mem_of_getElem? (i := 2) rfl) (by decide +kernel)
set_option maxRecDepth 20000 in
theorem pw_103 : Cond.code yX1_isUsing cX1_isUsing 3 (some .boolean) ∈ pm_w := pm_t2 (List.mem_of_getElem? (i := 197) rfl) (gw_code _ _ _ _)
set_option maxRecDepth 20000 in
theorem pw_104 : Cond.methodLink RX1 110 yX1_isUsing ∈ pm_w := pm_t3 (List.mem_of_getElem? (i := 3) rfl) (gw_methodLink _ _ _)
set_option maxRecDepth 20000 in
theorem pw_105 : Cond.instanceMethod yX1_isUsing ∈ pm_w := pm_t2 (List.mem_of_getElem? (i := 195) rfl) (gw_instanceMethod _)
set_option maxRecDepth 20000 in
theorem pw_106 : Cond.selects RX1 yX1_isUsing yX1_isUsing ∈ pm_w := pm_t2 (List.mem_of_getElem? (i := 196) rfl) (gw_selects _ _ _)
set_option maxRecDepth 20000 in
theorem pw_107 : Cond.methodLink RX2 3 objectInit ∈ pm_w := pm_t1 (List.mem_of_getElem? (i := 157) rfl) (gw_methodLink _ _ _)
set_option maxRecDepth 20000 in
theorem pw_108 : Cond.arrayClass .long ∈ pm_w := pm_t1 (List.mem_of_getElem? (i := 173) rfl) (by decide +kernel)
set_option maxRecDepth 20000 in
theorem pw_109 : Cond.fieldLink RX2 9 "BlankRations$Sheet" "items" "[J" ∈ pm_w := pm_t1 (List.mem_of_getElem? (i := 158) rfl) (gw_fieldLink _ _ _ _ _)
set_option maxRecDepth 20000 in
theorem pw_110 : Cond.fieldLink RX2 15 "BlankRations$Sheet" "sort" "I" ∈ pm_w := pm_t1 (List.mem_of_getElem? (i := 160) rfl) (gw_fieldLink _ _ _ _ _)
set_option maxRecDepth 20000 in
theorem pw_111 : Cond.fieldLink RX2 19 "BlankRations$Sheet" "size" "I" ∈ pm_w := pm_t1 (List.mem_of_getElem? (i := 163) rfl) (gw_fieldLink _ _ _ _ _)
set_option maxRecDepth 20000 in
theorem pw_112 : Cond.methodLink RX3 3 objectInit ∈ pm_w := pm_t1 (List.mem_of_getElem? (i := 178) rfl) (gw_methodLink _ _ _)
set_option maxRecDepth 20000 in
theorem pw_113 : Cond.fieldLink RX3 9 "BlankRations$Shelf" "what" "I" ∈ pm_w := pm_t1 (List.mem_of_getElem? (i := 179) rfl) (gw_fieldLink _ _ _ _ _)
set_option maxRecDepth 20000 in
theorem pw_114 : Cond.fieldLink RX3 15 "BlankRations$Shelf" "number" "I" ∈ pm_w := pm_t1 (List.mem_of_getElem? (i := 181) rfl) (gw_fieldLink _ _ _ _ _)
set_option maxRecDepth 20000 in
theorem pw_115 : Cond.fieldLink RX3 18 "BlankRations$Sheet" "sort" "I" ∈ pm_w := pm_t1 (List.mem_of_getElem? (i := 161) rfl) (gw_fieldLink _ _ _ _ _)
set_option maxRecDepth 20000 in
theorem pw_116 : Cond.fieldLink RX3 23 "BlankRations$Shelf" "sort" "I" ∈ pm_w := pm_t1 (List.mem_of_getElem? (i := 183) rfl) (gw_fieldLink _ _ _ _ _)
set_option maxRecDepth 20000 in
theorem pw_117 : Cond.fieldLink RX3 24 "BlankRations$Sheet" "size" "I" ∈ pm_w := pm_t1 (List.mem_of_getElem? (i := 164) rfl) (gw_fieldLink _ _ _ _ _)
set_option maxRecDepth 20000 in
theorem pw_118 : Cond.fieldLink RX3 27 "BlankRations$Shelf" "size" "I" ∈ pm_w := pm_t1 (List.mem_of_getElem? (i := 185) rfl) (gw_fieldLink _ _ _ _ _)
set_option maxRecDepth 20000 in
theorem pw_119 : Cond.methodLink RX4 3 objectInit ∈ pm_w := pm_t1 (List.mem_of_getElem? (i := 94) rfl) (gw_methodLink _ _ _)
set_option maxRecDepth 20000 in
theorem pw_120 : Cond.fieldLink RX4 11 "BlankRations$Tape" "bytes" "[I" ∈ pm_w := pm_t1 (List.mem_of_getElem? (i := 95) rfl) (gw_fieldLink _ _ _ _ _)
set_option maxRecDepth 20000 in
theorem pw_121 : Cond.fieldLink RX4 15 "BlankRations$Tape" "sorts" "[I" ∈ pm_w := pm_t1 (List.mem_of_getElem? (i := 96) rfl) (gw_fieldLink _ _ _ _ _)
set_option maxRecDepth 20000 in
theorem pw_122 : Cond.fieldLink RX4 18 "BlankRations$Tape" "values" "[I" ∈ pm_w := pm_t1 (List.mem_of_getElem? (i := 97) rfl) (gw_fieldLink _ _ _ _ _)
set_option maxRecDepth 20000 in
theorem pw_123 : Cond.fieldLink RX4 21 "BlankRations$Tape" "starts" "[I" ∈ pm_w := pm_t1 (List.mem_of_getElem? (i := 98) rfl) (gw_fieldLink _ _ _ _ _)
set_option maxRecDepth 20000 in
theorem pw_124 : Cond.fieldLink RX4 24 "BlankRations$Tape" "size" "I" ∈ pm_w := pm_t1 (List.mem_of_getElem? (i := 102) rfl) (gw_fieldLink _ _ _ _ _)
set_option maxRecDepth 20000 in
theorem pw_125 : Cond.constantLong RX4 28 (255) ∈ pm_w := pm_t2 (List.mem_of_getElem? (i := 1) rfl) (by decide +kernel)
set_option maxRecDepth 20000 in
theorem pw_126 : Cond.code yX4_cut cX4_cut 4 (none) ∈ pm_w := pm_t2 (List.mem_of_getElem? (i := 14) rfl) (gw_code _ _ _ _)
set_option maxRecDepth 20000 in
theorem pw_127 : Cond.initialized RX4 ∈ pm_w := pm_t1 (List.mem_of_getElem? (i := 4) rfl) (by decide +kernel)
set_option maxRecDepth 20000 in
theorem pw_128 : Cond.methodLink RX4 30 yX4_cut ∈ pm_w := pm_t2 (List.mem_of_getElem? (i := 11) rfl) (gw_methodLink _ _ _)
set_option maxRecDepth 20000 in
theorem pw_129 : Cond.instanceMethod yX4_cut ∈ pm_w := pm_t2 (List.mem_of_getElem? (i := 13) rfl) (gw_instanceMethod _)
set_option maxRecDepth 20000 in
theorem pw_130 : Cond.selects RX4 yX4_cut yX4_cut ∈ pm_w := pm_wm 0 rfl (gw_selects _ _ _)
set_option maxRecDepth 20000 in
theorem pw_131 : Cond.fieldLink RX4 33 "BlankRations$Tape" "at" "I" ∈ pm_w := pm_t1 (List.mem_of_getElem? (i := 100) rfl) (gw_fieldLink _ _ _ _ _)
set_option maxRecDepth 20000 in
theorem pw_132 : Cond.fieldLink RX4 36 "BlankRations$Tape" "fault" "I" ∈ pm_w := pm_t1 (List.mem_of_getElem? (i := 101) rfl) (gw_fieldLink _ _ _ _ _)
set_option maxRecDepth 20000 in
theorem pw_133 : Cond.fieldLink RX4 39 "BlankRations$Tape" "tokens" "I" ∈ pm_w := pm_t1 (List.mem_of_getElem? (i := 99) rfl) (gw_fieldLink _ _ _ _ _)
set_option maxRecDepth 20000 in
theorem pw_134 : Cond.code yX4_tellOne cX4_tellOne 4 (none) ∈ pm_w := pm_t2 (List.mem_of_getElem? (i := 113) rfl) (gw_code _ _ _ _)
set_option maxRecDepth 20000 in
theorem pw_135 : Cond.methodLink RX4 42 yX4_tellOne ∈ pm_w := pm_t2 (List.mem_of_getElem? (i := 110) rfl) (gw_methodLink _ _ _)
set_option maxRecDepth 20000 in
theorem pw_136 : Cond.instanceMethod yX4_tellOne ∈ pm_w := pm_t2 (List.mem_of_getElem? (i := 112) rfl) (gw_instanceMethod _)
set_option maxRecDepth 20000 in
theorem pw_137 : Cond.selects RX4 yX4_tellOne yX4_tellOne ∈ pm_w := pm_wm 6 rfl (gw_selects _ _ _)
set_option maxRecDepth 20000 in
theorem pw_138 : Cond.code yX4_isLetter cX4_isLetter 1 (some .boolean) ∈ pm_w := pm_t2 (List.mem_of_getElem? (i := 17) rfl) (gw_code _ _ _ _)
set_option maxRecDepth 20000 in
theorem pw_139 : Cond.methodLink RX4 46 yX4_isLetter ∈ pm_w := pm_t2 (List.mem_of_getElem? (i := 15) rfl) (gw_methodLink _ _ _)
set_option maxRecDepth 20000 in
theorem pw_140 : Cond.static yX4_isLetter ∈ pm_w := pm_t2 (List.mem_of_getElem? (i := 16) rfl) (gw_static _)
set_option maxRecDepth 20000 in
theorem pw_141 : Cond.code yX4_cutName cX4_cutName 3 (some .int) ∈ pm_w := pm_t2 (List.mem_of_getElem? (i := 22) rfl) (gw_code _ _ _ _)
set_option maxRecDepth 20000 in
theorem pw_142 : Cond.methodLink RX4 50 yX4_cutName ∈ pm_w := pm_t2 (List.mem_of_getElem? (i := 19) rfl) (gw_methodLink _ _ _)
set_option maxRecDepth 20000 in
theorem pw_143 : Cond.instanceMethod yX4_cutName ∈ pm_w := pm_t2 (List.mem_of_getElem? (i := 21) rfl) (gw_instanceMethod _)
set_option maxRecDepth 20000 in
theorem pw_144 : Cond.selects RX4 yX4_cutName yX4_cutName ∈ pm_w := pm_wm 1 rfl (gw_selects _ _ _)
set_option maxRecDepth 20000 in
theorem pw_145 : Cond.code yX4_isDigit cX4_isDigit 1 (some .boolean) ∈ pm_w := pm_t2 (List.mem_of_getElem? (i := 102) rfl) (gw_code _ _ _ _)
set_option maxRecDepth 20000 in
theorem pw_146 : Cond.methodLink RX4 54 yX4_isDigit ∈ pm_w := pm_t2 (List.mem_of_getElem? (i := 100) rfl) (gw_methodLink _ _ _)
set_option maxRecDepth 20000 in
theorem pw_147 : Cond.static yX4_isDigit ∈ pm_w := pm_t2 (List.mem_of_getElem? (i := 101) rfl) (gw_static _)
set_option maxRecDepth 20000 in
theorem pw_148 : Cond.code yX4_cutNumber cX4_cutNumber 4 (some .int) ∈ pm_w := pm_t2 (List.mem_of_getElem? (i := 106) rfl) (gw_code _ _ _ _)
set_option maxRecDepth 20000 in
theorem pw_149 : Cond.methodLink RX4 57 yX4_cutNumber ∈ pm_w := pm_t2 (List.mem_of_getElem? (i := 103) rfl) (gw_methodLink _ _ _)
set_option maxRecDepth 20000 in
theorem pw_150 : Cond.instanceMethod yX4_cutNumber ∈ pm_w := pm_t2 (List.mem_of_getElem? (i := 105) rfl) (gw_instanceMethod _)
set_option maxRecDepth 20000 in
theorem pw_151 : Cond.selects RX4 yX4_cutNumber yX4_cutNumber ∈ pm_w := pm_wm 5 rfl (gw_selects _ _ _)
set_option maxRecDepth 20000 in
theorem pw_152 : Cond.code yX4_addToken cX4_addToken 4 (none) ∈ pm_w := pm_t2 (List.mem_of_getElem? (i := 99) rfl) (gw_code _ _ _ _)
set_option maxRecDepth 20000 in
theorem pw_153 : Cond.methodLink RX4 60 yX4_addToken ∈ pm_w := pm_t2 (List.mem_of_getElem? (i := 96) rfl) (gw_methodLink _ _ _)
set_option maxRecDepth 20000 in
theorem pw_154 : Cond.instanceMethod yX4_addToken ∈ pm_w := pm_t2 (List.mem_of_getElem? (i := 98) rfl) (gw_instanceMethod _)
set_option maxRecDepth 20000 in
theorem pw_155 : Cond.selects RX4 yX4_addToken yX4_addToken ∈ pm_w := pm_wm 4 rfl (gw_selects _ _ _)
set_option maxRecDepth 20000 in
theorem pw_156 : Cond.code yX4_wordAt cX4_wordAt 4 (some .int) ∈ pm_w := pm_t2 (List.mem_of_getElem? (i := 26) rfl) (gw_code _ _ _ _)
set_option maxRecDepth 20000 in
theorem pw_157 : Cond.methodLink RX4 64 yX4_wordAt ∈ pm_w := pm_t2 (List.mem_of_getElem? (i := 23) rfl) (gw_methodLink _ _ _)
set_option maxRecDepth 20000 in
theorem pw_158 : Cond.instanceMethod yX4_wordAt ∈ pm_w := pm_t2 (List.mem_of_getElem? (i := 25) rfl) (gw_instanceMethod _)
set_option maxRecDepth 20000 in
theorem pw_159 : Cond.selects RX4 yX4_wordAt yX4_wordAt ∈ pm_w := pm_wm 2 rfl (gw_selects _ _ _)
set_option maxRecDepth 20000 in
theorem pw_160 : Cond.methodLink RX4 68 Lib.Math.min.name ∈ pm_w := pm_t2 (List.mem_of_getElem? (i := 107) rfl) (gw_methodLink _ _ _)
set_option maxRecDepth 20000 in
theorem pw_161 : Cond.code yX4_spelling cX4_spelling 1 (some (.object "java/lang/String")) ∈ pm_w := pm_t2 (List.mem_of_getElem? (i := 29) rfl) (gw_code _ _ _ _)
set_option maxRecDepth 20000 in
theorem pw_162 : Cond.methodLink RX4 73 yX4_spelling ∈ pm_w := pm_t2 (List.mem_of_getElem? (i := 27) rfl) (gw_methodLink _ _ _)
set_option maxRecDepth 20000 in
theorem pw_163 : Cond.static yX4_spelling ∈ pm_w := pm_t2 (List.mem_of_getElem? (i := 28) rfl) (gw_static _)
set_option maxRecDepth 20000 in
theorem pw_164 : Cond.code yX4_isSpelt cX4_isSpelt 5 (some .boolean) ∈ pm_w := pm_t2 (List.mem_of_getElem? (i := 47) rfl) (gw_code _ _ _ _)
set_option maxRecDepth 20000 in
theorem pw_165 : Cond.methodLink RX4 77 yX4_isSpelt ∈ pm_w := pm_t2 (List.mem_of_getElem? (i := 44) rfl) (gw_methodLink _ _ _)
set_option maxRecDepth 20000 in
theorem pw_166 : Cond.instanceMethod yX4_isSpelt ∈ pm_w := pm_t2 (List.mem_of_getElem? (i := 46) rfl) (gw_instanceMethod _)
set_option maxRecDepth 20000 in
theorem pw_167 : Cond.selects RX4 yX4_isSpelt yX4_isSpelt ∈ pm_w := pm_wm 3 rfl (gw_selects _ _ _)
set_option maxRecDepth 20000 in
theorem pw_168 : Cond.code yJ0_length_8abf5 cJ0_length_8abf5 1 (some .int) ∈ pm_w := pm_t2 (List.mem_of_getElem? (i := 51) rfl) (gw_code _ _ _ _)
set_option maxRecDepth 20000 in
theorem pw_169 : Cond.initialized RJ0 ∈ pm_w := pm_t1 (List.mem_of_getElem? (i := 9) rfl) (by decide +kernel)
set_option maxRecDepth 20000 in
theorem pw_170 : Cond.methodLink RX4 81 yJ0_length_8abf5 ∈ pm_w := pm_t2 (List.mem_of_getElem? (i := 48) rfl) (gw_methodLink _ _ _)
set_option maxRecDepth 20000 in
theorem pw_171 : Cond.instanceMethod yJ0_length_8abf5 ∈ pm_w := pm_t2 (List.mem_of_getElem? (i := 49) rfl) (gw_instanceMethod _)
set_option maxRecDepth 20000 in
theorem pw_172 : Cond.selects RJ0 yJ0_length_8abf5 yJ0_length_8abf5 ∈ pm_w := pm_t2 (List.mem_of_getElem? (i := 50) rfl) (gw_selects _ _ _)
set_option maxRecDepth 20000 in
theorem pw_173 : Cond.code yJ0_charAt_5068e cJ0_charAt_5068e 2 (some .char) ∈ pm_w := pm_t2 (List.mem_of_getElem? (i := 61) rfl) (gw_code _ _ _ _)
set_option maxRecDepth 20000 in
theorem pw_174 : Cond.methodLink RX4 87 yJ0_charAt_5068e ∈ pm_w := pm_t2 (List.mem_of_getElem? (i := 58) rfl) (gw_methodLink _ _ _)
set_option maxRecDepth 20000 in
theorem pw_175 : Cond.instanceMethod yJ0_charAt_5068e ∈ pm_w := pm_t2 (List.mem_of_getElem? (i := 59) rfl) (gw_instanceMethod _)
set_option maxRecDepth 20000 in
theorem pw_176 : Cond.selects RJ0 yJ0_charAt_5068e yJ0_charAt_5068e ∈ pm_w := pm_t2 (List.mem_of_getElem? (i := 60) rfl) (gw_selects _ _ _)
set_option maxRecDepth 20000 in
theorem pw_177 : Cond.code yX5_isKind cX5_isKind 1 (some .boolean) ∈ pm_w := pm_t2 (List.mem_of_getElem? (i := 116) rfl) (gw_code _ _ _ _)
set_option maxRecDepth 20000 in
theorem pw_178 : Cond.static yX5_isKind ∈ pm_w := pm_t2 (List.mem_of_getElem? (i := 115) rfl) (gw_static _)
set_option maxRecDepth 20000 in
theorem pw_179 : Cond.fieldLink RX4 126 "BlankRations$Office" "count" "I" ∈ pm_w := pm_t1 (List.mem_of_getElem? (i := 56) rfl) (gw_fieldLink _ _ _ _ _)
set_option maxRecDepth 20000 in
theorem pw_180 : Cond.code yX4_tellPerson cX4_tellPerson 6 (none) ∈ pm_w := pm_t2 (List.mem_of_getElem? (i := 120) rfl) (gw_code _ _ _ _)
set_option maxRecDepth 20000 in
theorem pw_181 : Cond.methodLink RX4 131 yX4_tellPerson ∈ pm_w := pm_t2 (List.mem_of_getElem? (i := 117) rfl) (gw_methodLink _ _ _)
set_option maxRecDepth 20000 in
theorem pw_182 : Cond.instanceMethod yX4_tellPerson ∈ pm_w := pm_t2 (List.mem_of_getElem? (i := 119) rfl) (gw_instanceMethod _)
set_option maxRecDepth 20000 in
theorem pw_183 : Cond.selects RX4 yX4_tellPerson yX4_tellPerson ∈ pm_w := pm_wm 7 rfl (gw_selects _ _ _)
set_option maxRecDepth 20000 in
theorem pw_184 : Cond.fieldLink RX4 135 "BlankRations$Office" "laws" "[I" ∈ pm_w := pm_t1 (List.mem_of_getElem? (i := 40) rfl) (gw_fieldLink _ _ _ _ _)
set_option maxRecDepth 20000 in
theorem pw_185 : Cond.code yX4_numberUpTo cX4_numberUpTo 3 (some .int) ∈ pm_w := pm_t2 (List.mem_of_getElem? (i := 128) rfl) (gw_code _ _ _ _)
set_option maxRecDepth 20000 in
theorem pw_186 : Cond.methodLink RX4 141 yX4_numberUpTo ∈ pm_w := pm_t2 (List.mem_of_getElem? (i := 125) rfl) (gw_methodLink _ _ _)
set_option maxRecDepth 20000 in
theorem pw_187 : Cond.instanceMethod yX4_numberUpTo ∈ pm_w := pm_t2 (List.mem_of_getElem? (i := 127) rfl) (gw_instanceMethod _)
set_option maxRecDepth 20000 in
theorem pw_188 : Cond.selects RX4 yX4_numberUpTo yX4_numberUpTo ∈ pm_w := pm_wm 9 rfl (gw_selects _ _ _)
set_option maxRecDepth 20000 in
theorem pw_189 : Cond.code yX4_fail cX4_fail 1 (none) ∈ pm_w := pm_t2 (List.mem_of_getElem? (i := 132) rfl) (gw_code _ _ _ _)
set_option maxRecDepth 20000 in
theorem pw_190 : Cond.methodLink RX4 144 yX4_fail ∈ pm_w := pm_t2 (List.mem_of_getElem? (i := 129) rfl) (gw_methodLink _ _ _)
set_option maxRecDepth 20000 in
theorem pw_191 : Cond.instanceMethod yX4_fail ∈ pm_w := pm_t2 (List.mem_of_getElem? (i := 131) rfl) (gw_instanceMethod _)
set_option maxRecDepth 20000 in
theorem pw_192 : Cond.selects RX4 yX4_fail yX4_fail ∈ pm_w := pm_wm 10 rfl (gw_selects _ _ _)
set_option maxRecDepth 20000 in
theorem pw_193 : Cond.code yX4_passSemicolon cX4_passSemicolon 1 (none) ∈ pm_w := pm_t2 (List.mem_of_getElem? (i := 142) rfl) (gw_code _ _ _ _)
set_option maxRecDepth 20000 in
theorem pw_194 : Cond.methodLink RX4 147 yX4_passSemicolon ∈ pm_w := pm_t2 (List.mem_of_getElem? (i := 139) rfl) (gw_methodLink _ _ _)
set_option maxRecDepth 20000 in
theorem pw_195 : Cond.instanceMethod yX4_passSemicolon ∈ pm_w := pm_t2 (List.mem_of_getElem? (i := 141) rfl) (gw_instanceMethod _)
set_option maxRecDepth 20000 in
theorem pw_196 : Cond.selects RX4 yX4_passSemicolon yX4_passSemicolon ∈ pm_w := pm_wm 11 rfl (gw_selects _ _ _)
set_option maxRecDepth 20000 in
theorem pw_197 : Cond.code yX4_numberBehind cX4_numberBehind 3 (some .int) ∈ pm_w := pm_t2 (List.mem_of_getElem? (i := 124) rfl) (gw_code _ _ _ _)
set_option maxRecDepth 20000 in
theorem pw_198 : Cond.methodLink RX4 150 yX4_numberBehind ∈ pm_w := pm_t2 (List.mem_of_getElem? (i := 121) rfl) (gw_methodLink _ _ _)
set_option maxRecDepth 20000 in
theorem pw_199 : Cond.instanceMethod yX4_numberBehind ∈ pm_w := pm_t2 (List.mem_of_getElem? (i := 123) rfl) (gw_instanceMethod _)
set_option maxRecDepth 20000 in
theorem pw_200 : Cond.selects RX4 yX4_numberBehind yX4_numberBehind ∈ pm_w := pm_wm 8 rfl (gw_selects _ _ _)
set_option maxRecDepth 20000 in
theorem pw_201 : Cond.code yX1_add cX1_add 5 (none) ∈ pm_w := pm_t2 (List.mem_of_getElem? (i := 136) rfl) (gw_code _ _ _ _)
set_option maxRecDepth 20000 in
theorem pw_202 : Cond.methodLink RX4 153 yX1_add ∈ pm_w := pm_t2 (List.mem_of_getElem? (i := 133) rfl) (gw_methodLink _ _ _)
set_option maxRecDepth 20000 in
theorem pw_203 : Cond.instanceMethod yX1_add ∈ pm_w := pm_t2 (List.mem_of_getElem? (i := 134) rfl) (gw_instanceMethod _)
set_option maxRecDepth 20000 in
theorem pw_204 : Cond.selects RX1 yX1_add yX1_add ∈ pm_w := pm_t2 (List.mem_of_getElem? (i := 135) rfl) (gw_selects _ _ _)
set_option maxRecDepth 20000 in
theorem pw_205 : Cond.methodLink RX5 1 objectInit ∈ pm_w := pm_t1 (List.mem_of_getElem? (i := 20) rfl) (gw_methodLink _ _ _)
set_option maxRecDepth 20000 in
theorem pw_206 : Cond.classLink RX5 7 "BlankRations$Office" ∈ pm_w := pm_t1 (List.mem_of_getElem? (i := 23) rfl) (by decide +kernel)
set_option maxRecDepth 20000 in
theorem pw_207 : Cond.instantiable "BlankRations$Office" 12 ∈ pm_w := pm_t1 (List.mem_of_getElem? (i := 24) rfl) (by decide +kernel)
set_option maxRecDepth 20000 in
theorem pw_208 : Cond.code yX1_init cX1_init 1 (none) ∈ pm_w := pm_t1 (List.mem_of_getElem? (i := 27) rfl) (gw_code _ _ _ _)
set_option maxRecDepth 20000 in
theorem pw_209 : Cond.methodLink RX5 9 yX1_init ∈ pm_w := pm_t1 (List.mem_of_getElem? (i := 25) rfl) (gw_methodLink _ _ _)
set_option maxRecDepth 20000 in
theorem pw_210 : Cond.instanceMethod yX1_init ∈ pm_w := pm_t1 (List.mem_of_getElem? (i := 26) rfl) (gw_instanceMethod _)
set_option maxRecDepth 20000 in
theorem pw_211 : Cond.fieldLink RX5 10 "BlankRations" "now" "LBlankRations$Office;" ∈ pm_w := pm_t1 (List.mem_of_getElem? (i := 196) rfl) (gw_fieldLink _ _ _ _ _)
set_option maxRecDepth 20000 in
theorem pw_212 : Cond.fieldLink RX5 16 "BlankRations" "kept" "LBlankRations$Office;" ∈ pm_w := pm_t1 (List.mem_of_getElem? (i := 197) rfl) (gw_fieldLink _ _ _ _ _)
set_option maxRecDepth 20000 in
theorem pw_213 : Cond.fieldLink RX5 19 "BlankRations" "tried" "LBlankRations$Office;" ∈ pm_w := pm_t1 (List.mem_of_getElem? (i := 198) rfl) (gw_fieldLink _ _ _ _ _)
set_option maxRecDepth 20000 in
theorem pw_214 : Cond.classLink RX5 22 "BlankRations$Tape" ∈ pm_w := pm_t1 (List.mem_of_getElem? (i := 89) rfl) (by decide +kernel)
set_option maxRecDepth 20000 in
theorem pw_215 : Cond.instantiable "BlankRations$Tape" 8 ∈ pm_w := pm_t1 (List.mem_of_getElem? (i := 90) rfl) (by decide +kernel)
set_option maxRecDepth 20000 in
theorem pw_216 : Cond.code yX4_init cX4_init 1 (none) ∈ pm_w := pm_t1 (List.mem_of_getElem? (i := 93) rfl) (gw_code _ _ _ _)
set_option maxRecDepth 20000 in
theorem pw_217 : Cond.instanceMethod yX4_init ∈ pm_w := pm_t1 (List.mem_of_getElem? (i := 92) rfl) (gw_instanceMethod _)
set_option maxRecDepth 20000 in
theorem pw_218 : Cond.fieldLink RX5 25 "BlankRations" "tape" "LBlankRations$Tape;" ∈ pm_w := pm_t1 (List.mem_of_getElem? (i := 199) rfl) (gw_fieldLink _ _ _ _ _)
set_option maxRecDepth 20000 in
theorem pw_219 : Cond.classLink RX5 29 "BlankRations$Actor" ∈ pm_w := pm_t1 (List.mem_of_getElem? (i := 121) rfl) (by decide +kernel)
set_option maxRecDepth 20000 in
theorem pw_220 : Cond.instantiable "BlankRations$Actor" 6 ∈ pm_w := pm_t1 (List.mem_of_getElem? (i := 122) rfl) (by decide +kernel)
set_option maxRecDepth 20000 in
theorem pw_221 : Cond.code yX0_init cX0_init 1 (none) ∈ pm_w := pm_t1 (List.mem_of_getElem? (i := 125) rfl) (gw_code _ _ _ _)
set_option maxRecDepth 20000 in
theorem pw_222 : Cond.instanceMethod yX0_init ∈ pm_w := pm_t1 (List.mem_of_getElem? (i := 124) rfl) (gw_instanceMethod _)
set_option maxRecDepth 20000 in
theorem pw_223 : Cond.fieldLink RX5 32 "BlankRations" "actor" "LBlankRations$Actor;" ∈ pm_w := pm_t1 (List.mem_of_getElem? (i := 200) rfl) (gw_fieldLink _ _ _ _ _)
set_option maxRecDepth 20000 in
theorem pw_224 : Cond.classLink RX5 36 "BlankRations$Sheet" ∈ pm_w := pm_t1 (List.mem_of_getElem? (i := 149) rfl) (by decide +kernel)
set_option maxRecDepth 20000 in
theorem pw_225 : Cond.fieldLink RX5 38 "BlankRations" "sheets" "[LBlankRations$Sheet;" ∈ pm_w := pm_t1 (List.mem_of_getElem? (i := 201) rfl) (gw_fieldLink _ _ _ _ _)
set_option maxRecDepth 20000 in
theorem pw_226 : Cond.classLink RX5 42 "BlankRations$Shelf" ∈ pm_w := pm_t1 (List.mem_of_getElem? (i := 151) rfl) (by decide +kernel)
set_option maxRecDepth 20000 in
theorem pw_227 : Cond.fieldLink RX5 44 "BlankRations" "shelves" "[LBlankRations$Shelf;" ∈ pm_w := pm_t1 (List.mem_of_getElem? (i := 202) rfl) (gw_fieldLink _ _ _ _ _)
set_option maxRecDepth 20000 in
theorem pw_228 : Cond.instantiable "BlankRations$Sheet" 3 ∈ pm_w := pm_t1 (List.mem_of_getElem? (i := 153) rfl) (by decide +kernel)
set_option maxRecDepth 20000 in
theorem pw_229 : Cond.initialized RX2 ∈ pm_w := pm_t1 (List.mem_of_getElem? (i := 6) rfl) (by decide +kernel)
set_option maxRecDepth 20000 in
theorem pw_230 : Cond.code yX2_init cX2_init 1 (none) ∈ pm_w := pm_t1 (List.mem_of_getElem? (i := 156) rfl) (gw_code _ _ _ _)
set_option maxRecDepth 20000 in
theorem pw_231 : Cond.instanceMethod yX2_init ∈ pm_w := pm_t1 (List.mem_of_getElem? (i := 155) rfl) (gw_instanceMethod _)
set_option maxRecDepth 20000 in
theorem pw_232 : Cond.instantiable "BlankRations$Shelf" 4 ∈ pm_w := pm_t1 (List.mem_of_getElem? (i := 174) rfl) (by decide +kernel)
set_option maxRecDepth 20000 in
theorem pw_233 : Cond.initialized RX3 ∈ pm_w := pm_t1 (List.mem_of_getElem? (i := 7) rfl) (by decide +kernel)
set_option maxRecDepth 20000 in
theorem pw_234 : Cond.code yX3_init cX3_init 1 (none) ∈ pm_w := pm_t1 (List.mem_of_getElem? (i := 177) rfl) (gw_code _ _ _ _)
set_option maxRecDepth 20000 in
theorem pw_235 : Cond.instanceMethod yX3_init ∈ pm_w := pm_t1 (List.mem_of_getElem? (i := 176) rfl) (gw_instanceMethod _)
set_option maxRecDepth 20000 in
theorem pw_236 : Cond.fieldLink RX5 50 "BlankRations" "rows" "[I" ∈ pm_w := pm_t1 (List.mem_of_getElem? (i := 203) rfl) (gw_fieldLink _ _ _ _ _)
set_option maxRecDepth 20000 in
theorem pw_237 : Cond.fieldLink RX5 54 "BlankRations" "packings" "[I" ∈ pm_w := pm_t1 (List.mem_of_getElem? (i := 204) rfl) (gw_fieldLink _ _ _ _ _)
set_option maxRecDepth 20000 in
theorem pw_238 : Cond.methodLink RX5 57 yX5_isWithin ∈ pm_w := pm_t1 (List.mem_of_getElem? (i := 234) rfl) (gw_methodLink _ _ _)
set_option maxRecDepth 20000 in
theorem pw_239 : Cond.code yX4_take cX4_take 5 (some .boolean) ∈ pm_w := pm_t2 (List.mem_of_getElem? (i := 0) rfl) (gw_code _ _ _ _)
set_option maxRecDepth 20000 in
theorem pw_240 : Cond.methodLink RX5 61 yX4_take ∈ pm_w := pm_t1 (List.mem_of_getElem? (i := 237) rfl) (gw_methodLink _ _ _)
set_option maxRecDepth 20000 in
theorem pw_241 : Cond.instanceMethod yX4_take ∈ pm_w := pm_t1 (List.mem_of_getElem? (i := 238) rfl) (gw_instanceMethod _)
set_option maxRecDepth 20000 in
theorem pw_242 : Cond.selects RX4 yX4_take yX4_take ∈ pm_w := pm_t1 (List.mem_of_getElem? (i := 239) rfl) (gw_selects _ _ _)
set_option maxRecDepth 20000 in
theorem pw_243 : Cond.fieldLink RX5 65 "BlankRations$Tape" "size" "I" ∈ pm_w := pm_t1 (List.mem_of_getElem? (i := 103) rfl) (gw_fieldLink _ _ _ _ _)
set_option maxRecDepth 20000 in
theorem pw_244 : Cond.methodLink RX5 69 yX1_begin ∈ pm_w := pm_t2 (List.mem_of_getElem? (i := 6) rfl) (gw_methodLink _ _ _)
set_option maxRecDepth 20000 in
theorem pw_245 : Cond.fieldLink RX5 72 "BlankRations$Office" "z" "I" ∈ pm_w := pm_t1 (List.mem_of_getElem? (i := 62) rfl) (gw_fieldLink _ _ _ _ _)
set_option maxRecDepth 20000 in
theorem pw_246 : Cond.code yX4_tell cX4_tell 3 (some .int) ∈ pm_w := pm_t2 (List.mem_of_getElem? (i := 10) rfl) (gw_code _ _ _ _)
set_option maxRecDepth 20000 in
theorem pw_247 : Cond.methodLink RX5 75 yX4_tell ∈ pm_w := pm_t2 (List.mem_of_getElem? (i := 7) rfl) (gw_methodLink _ _ _)
set_option maxRecDepth 20000 in
theorem pw_248 : Cond.instanceMethod yX4_tell ∈ pm_w := pm_t2 (List.mem_of_getElem? (i := 8) rfl) (gw_instanceMethod _)
set_option maxRecDepth 20000 in
theorem pw_249 : Cond.selects RX4 yX4_tell yX4_tell ∈ pm_w := pm_t2 (List.mem_of_getElem? (i := 9) rfl) (gw_selects _ _ _)
set_option maxRecDepth 20000 in
theorem pw_250 : Cond.code yX1_become cX1_become 2 (none) ∈ pm_w := pm_t2 (List.mem_of_getElem? (i := 146) rfl) (gw_code _ _ _ _)
set_option maxRecDepth 20000 in
theorem pw_251 : Cond.methodLink RX5 79 yX1_become ∈ pm_w := pm_t2 (List.mem_of_getElem? (i := 143) rfl) (gw_methodLink _ _ _)
set_option maxRecDepth 20000 in
theorem pw_252 : Cond.instanceMethod yX1_become ∈ pm_w := pm_t2 (List.mem_of_getElem? (i := 144) rfl) (gw_instanceMethod _)
set_option maxRecDepth 20000 in
theorem pw_253 : Cond.selects RX1 yX1_become yX1_become ∈ pm_w := pm_t2 (List.mem_of_getElem? (i := 145) rfl) (gw_selects _ _ _)
set_option maxRecDepth 20000 in
theorem pw_254 : Cond.fieldLink RX5 83 "BlankRations" "rowCount" "I" ∈ pm_w := pm_t1 (List.mem_of_getElem? (i := 205) rfl) (gw_fieldLink _ _ _ _ _)
set_option maxRecDepth 20000 in
theorem pw_255 : Cond.fieldLink RX5 86 "BlankRations$Office" "count" "I" ∈ pm_w := pm_t1 (List.mem_of_getElem? (i := 55) rfl) (gw_fieldLink _ _ _ _ _)
set_option maxRecDepth 20000 in
theorem pw_256 : Cond.fieldLink RX5 89 "BlankRations" "LAW_MOST" "[I" ∈ pm_w := pm_t2 (List.mem_of_getElem? (i := 152) rfl) (gw_fieldLink _ _ _ _ _)
set_option maxRecDepth 20000 in
theorem pw_257 : Cond.fieldLink RX5 92 "BlankRations$Office" "laws" "[I" ∈ pm_w := pm_t1 (List.mem_of_getElem? (i := 39) rfl) (gw_fieldLink _ _ _ _ _)
set_option maxRecDepth 20000 in
theorem pw_258 : Cond.methodLink RX5 95 yX5_isKind ∈ pm_w := pm_t2 (List.mem_of_getElem? (i := 161) rfl) (gw_methodLink _ _ _)
set_option maxRecDepth 20000 in
theorem pw_259 : Cond.methodLink RX5 99 yX1_add ∈ pm_w := pm_t2 (List.mem_of_getElem? (i := 162) rfl) (gw_methodLink _ _ _)
set_option maxRecDepth 20000 in
theorem pw_260 : Cond.code yX1_has cX1_has 2 (some .boolean) ∈ pm_w := pm_t2 (List.mem_of_getElem? (i := 170) rfl) (gw_code _ _ _ _)
set_option maxRecDepth 20000 in
theorem pw_261 : Cond.methodLink RX5 103 yX1_has ∈ pm_w := pm_t2 (List.mem_of_getElem? (i := 167) rfl) (gw_methodLink _ _ _)
set_option maxRecDepth 20000 in
theorem pw_262 : Cond.instanceMethod yX1_has ∈ pm_w := pm_t2 (List.mem_of_getElem? (i := 168) rfl) (gw_instanceMethod _)
set_option maxRecDepth 20000 in
theorem pw_263 : Cond.selects RX1 yX1_has yX1_has ∈ pm_w := pm_t2 (List.mem_of_getElem? (i := 169) rfl) (gw_selects _ _ _)
set_option maxRecDepth 20000 in
theorem pw_264 : Cond.fieldLink RX5 106 "BlankRations$Office" "kinds" "[I" ∈ pm_w := pm_t1 (List.mem_of_getElem? (i := 42) rfl) (gw_fieldLink _ _ _ _ _)
set_option maxRecDepth 20000 in
theorem pw_265 : Cond.fieldLink RX5 109 "BlankRations$Office" "thoughts" "[I" ∈ pm_w := pm_t1 (List.mem_of_getElem? (i := 44) rfl) (gw_fieldLink _ _ _ _ _)
set_option maxRecDepth 20000 in
theorem pw_266 : Cond.fieldLink RX5 112 "BlankRations$Office" "hands" "[I" ∈ pm_w := pm_t1 (List.mem_of_getElem? (i := 46) rfl) (gw_fieldLink _ _ _ _ _)
set_option maxRecDepth 20000 in
theorem pw_267 : Cond.fieldLink RX5 115 "BlankRations$Office" "pages" "[I" ∈ pm_w := pm_t1 (List.mem_of_getElem? (i := 48) rfl) (gw_fieldLink _ _ _ _ _)
set_option maxRecDepth 20000 in
theorem pw_268 : Cond.fieldLink RX5 118 "BlankRations$Office" "gots" "[I" ∈ pm_w := pm_t1 (List.mem_of_getElem? (i := 50) rfl) (gw_fieldLink _ _ _ _ _)
set_option maxRecDepth 20000 in
theorem pw_269 : Cond.fieldLink RX5 121 "BlankRations$Office" "saids" "[I" ∈ pm_w := pm_t1 (List.mem_of_getElem? (i := 52) rfl) (gw_fieldLink _ _ _ _ _)
set_option maxRecDepth 20000 in
theorem pw_270 : Cond.methodLink RX5 124 yX1_thinking ∈ pm_w := pm_t2 (List.mem_of_getElem? (i := 176) rfl) (gw_methodLink _ _ _)
set_option maxRecDepth 20000 in
theorem pw_271 : Cond.methodLink RX5 128 yX1_needing ∈ pm_w := pm_t2 (List.mem_of_getElem? (i := 183) rfl) (gw_methodLink _ _ _)
set_option maxRecDepth 20000 in
theorem pw_272 : Cond.methodLink RX5 131 yX1_saying ∈ pm_w := pm_t2 (List.mem_of_getElem? (i := 187) rfl) (gw_methodLink _ _ _)
set_option maxRecDepth 20000 in
theorem pw_273 : Cond.methodLink RX5 134 yX1_isUsing ∈ pm_w := pm_t2 (List.mem_of_getElem? (i := 194) rfl) (gw_methodLink _ _ _)
set_option maxRecDepth 20000 in
theorem pw_274 : Cond.methodLink RX5 137 yX1_passWeek ∈ pm_w := pm_t2 (List.mem_of_getElem? (i := 218) rfl) (gw_methodLink _ _ _)
set_option maxRecDepth 20000 in
theorem pw_275 : Cond.code yX1_sumOf cX1_sumOf 4 (some .int) ∈ pm_w := pm_t3 (List.mem_of_getElem? (i := 7) rfl) (gw_code _ _ _ _)
set_option maxRecDepth 20000 in
theorem pw_276 : Cond.methodLink RX5 140 yX1_sumOf ∈ pm_w := pm_t3 (List.mem_of_getElem? (i := 4) rfl) (gw_methodLink _ _ _)
set_option maxRecDepth 20000 in
theorem pw_277 : Cond.instanceMethod yX1_sumOf ∈ pm_w := pm_t3 (List.mem_of_getElem? (i := 5) rfl) (gw_instanceMethod _)
set_option maxRecDepth 20000 in
theorem pw_278 : Cond.selects RX1 yX1_sumOf yX1_sumOf ∈ pm_w := pm_t3 (List.mem_of_getElem? (i := 6) rfl) (gw_selects _ _ _)
set_option maxRecDepth 20000 in
theorem pw_279 : Cond.code yX1_passWeekByDraws cX1_passWeekByDraws 2 (some .int) ∈ pm_w := pm_t3 (List.mem_of_getElem? (i := 19) rfl) (gw_code _ _ _ _)
set_option maxRecDepth 20000 in
theorem pw_280 : Cond.methodLink RX5 144 yX1_passWeekByDraws ∈ pm_w := pm_t3 (List.mem_of_getElem? (i := 16) rfl) (gw_methodLink _ _ _)
set_option maxRecDepth 20000 in
theorem pw_281 : Cond.instanceMethod yX1_passWeekByDraws ∈ pm_w := pm_t3 (List.mem_of_getElem? (i := 17) rfl) (gw_instanceMethod _)
set_option maxRecDepth 20000 in
theorem pw_282 : Cond.selects RX1 yX1_passWeekByDraws yX1_passWeekByDraws ∈ pm_w := pm_t3 (List.mem_of_getElem? (i := 18) rfl) (gw_selects _ _ _)
set_option maxRecDepth 20000 in
theorem pw_283 : Cond.code yX5_trial cX5_trial 1 (some (.object "BlankRations$Office")) ∈ pm_w := pm_t3 (List.mem_of_getElem? (i := 33) rfl) (gw_code _ _ _ _)
set_option maxRecDepth 20000 in
theorem pw_284 : Cond.methodLink RX5 148 yX5_trial ∈ pm_w := pm_t3 (List.mem_of_getElem? (i := 30) rfl) (gw_methodLink _ _ _)
set_option maxRecDepth 20000 in
theorem pw_285 : Cond.instanceMethod yX5_trial ∈ pm_w := pm_t3 (List.mem_of_getElem? (i := 32) rfl) (gw_instanceMethod _)
set_option maxRecDepth 20000 in
theorem pw_286 : Cond.selects RX5 yX5_trial yX5_trial ∈ pm_w := pm_wm 17 rfl (gw_selects _ _ _)
set_option maxRecDepth 20000 in
theorem pw_287 : Cond.code yX5_wordsBy cX5_wordsBy 5 (some .int) ∈ pm_w := pm_t3 (List.mem_of_getElem? (i := 36) rfl) (gw_code _ _ _ _)
set_option maxRecDepth 20000 in
theorem pw_288 : Cond.methodLink RX5 152 yX5_wordsBy ∈ pm_w := pm_t3 (List.mem_of_getElem? (i := 34) rfl) (gw_methodLink _ _ _)
set_option maxRecDepth 20000 in
theorem pw_289 : Cond.static yX5_wordsBy ∈ pm_w := pm_t3 (List.mem_of_getElem? (i := 35) rfl) (gw_static _)
set_option maxRecDepth 20000 in
theorem pw_290 : Cond.fieldLink RX5 156 "BlankRations$Office" "week" "I" ∈ pm_w := pm_t1 (List.mem_of_getElem? (i := 58) rfl) (gw_fieldLink _ _ _ _ _)
set_option maxRecDepth 20000 in
theorem pw_291 : Cond.fieldLink RX5 159 "BlankRations$Office" "back" "I" ∈ pm_w := pm_t1 (List.mem_of_getElem? (i := 60) rfl) (gw_fieldLink _ _ _ _ _)
set_option maxRecDepth 20000 in
theorem pw_292 : Cond.code yX1_readySet cX1_readySet 3 (some .int) ∈ pm_w := pm_t3 (List.mem_of_getElem? (i := 44) rfl) (gw_code _ _ _ _)
set_option maxRecDepth 20000 in
theorem pw_293 : Cond.methodLink RX5 162 yX1_readySet ∈ pm_w := pm_t3 (List.mem_of_getElem? (i := 41) rfl) (gw_methodLink _ _ _)
set_option maxRecDepth 20000 in
theorem pw_294 : Cond.instanceMethod yX1_readySet ∈ pm_w := pm_t3 (List.mem_of_getElem? (i := 42) rfl) (gw_instanceMethod _)
set_option maxRecDepth 20000 in
theorem pw_295 : Cond.selects RX1 yX1_readySet yX1_readySet ∈ pm_w := pm_t3 (List.mem_of_getElem? (i := 43) rfl) (gw_selects _ _ _)
set_option maxRecDepth 20000 in
theorem pw_296 : Cond.code yX1_countOf cX1_countOf 4 (some .int) ∈ pm_w := pm_t3 (List.mem_of_getElem? (i := 60) rfl) (gw_code _ _ _ _)
set_option maxRecDepth 20000 in
theorem pw_297 : Cond.methodLink RX5 165 yX1_countOf ∈ pm_w := pm_t3 (List.mem_of_getElem? (i := 57) rfl) (gw_methodLink _ _ _)
set_option maxRecDepth 20000 in
theorem pw_298 : Cond.instanceMethod yX1_countOf ∈ pm_w := pm_t3 (List.mem_of_getElem? (i := 58) rfl) (gw_instanceMethod _)
set_option maxRecDepth 20000 in
theorem pw_299 : Cond.selects RX1 yX1_countOf yX1_countOf ∈ pm_w := pm_t3 (List.mem_of_getElem? (i := 59) rfl) (gw_selects _ _ _)
set_option maxRecDepth 20000 in
theorem pw_300 : Cond.code yJ6_bitCount_0f7a4 cJ6_bitCount_0f7a4 1 (some .int) ∈ pm_w := pm_t3 (List.mem_of_getElem? (i := 83) rfl) (gw_code _ _ _ _)
set_option maxRecDepth 20000 in
theorem pw_301 : Cond.initialized RJ6 ∈ pm_w := pm_t1 (List.mem_of_getElem? (i := 14) rfl) (by decide +kernel)
set_option maxRecDepth 20000 in
theorem pw_302 : Cond.methodLink RX5 168 yJ6_bitCount_0f7a4 ∈ pm_w := pm_t3 (List.mem_of_getElem? (i := 81) rfl) (gw_methodLink _ _ _)
set_option maxRecDepth 20000 in
theorem pw_303 : Cond.static yJ6_bitCount_0f7a4 ∈ pm_w := pm_t3 (List.mem_of_getElem? (i := 82) rfl) (gw_static _)
set_option maxRecDepth 20000 in
theorem pw_304 : Cond.code yX5_leastPacking cX5_leastPacking 9 (some .int) ∈ pm_w := pm_t3 (List.mem_of_getElem? (i := 94) rfl) (gw_code _ _ _ _)
set_option maxRecDepth 20000 in
theorem pw_305 : Cond.methodLink RX5 173 yX5_leastPacking ∈ pm_w := pm_t3 (List.mem_of_getElem? (i := 91) rfl) (gw_methodLink _ _ _)
set_option maxRecDepth 20000 in
theorem pw_306 : Cond.instanceMethod yX5_leastPacking ∈ pm_w := pm_t3 (List.mem_of_getElem? (i := 93) rfl) (gw_instanceMethod _)
set_option maxRecDepth 20000 in
theorem pw_307 : Cond.selects RX5 yX5_leastPacking yX5_leastPacking ∈ pm_w := pm_wm 18 rfl (gw_selects _ _ _)
set_option maxRecDepth 20000 in
theorem pw_308 : Cond.code yX5_isPlace cX5_isPlace 1 (some .boolean) ∈ pm_w := pm_t3 (List.mem_of_getElem? (i := 102) rfl) (gw_code _ _ _ _)
set_option maxRecDepth 20000 in
theorem pw_309 : Cond.methodLink RX5 177 yX5_isPlace ∈ pm_w := pm_t3 (List.mem_of_getElem? (i := 100) rfl) (gw_methodLink _ _ _)
set_option maxRecDepth 20000 in
theorem pw_310 : Cond.static yX5_isPlace ∈ pm_w := pm_t3 (List.mem_of_getElem? (i := 101) rfl) (gw_static _)
set_option maxRecDepth 20000 in
theorem pw_311 : Cond.fieldLink RX5 180 "BlankRations$Sheet" "sort" "I" ∈ pm_w := pm_t1 (List.mem_of_getElem? (i := 162) rfl) (gw_fieldLink _ _ _ _ _)
set_option maxRecDepth 20000 in
theorem pw_312 : Cond.code yX5_isTold cX5_isTold 7 (some .boolean) ∈ pm_w := pm_t3 (List.mem_of_getElem? (i := 106) rfl) (gw_code _ _ _ _)
set_option maxRecDepth 20000 in
theorem pw_313 : Cond.methodLink RX5 183 yX5_isTold ∈ pm_w := pm_t3 (List.mem_of_getElem? (i := 103) rfl) (gw_methodLink _ _ _)
set_option maxRecDepth 20000 in
theorem pw_314 : Cond.instanceMethod yX5_isTold ∈ pm_w := pm_t3 (List.mem_of_getElem? (i := 105) rfl) (gw_instanceMethod _)
set_option maxRecDepth 20000 in
theorem pw_315 : Cond.selects RX5 yX5_isTold yX5_isTold ∈ pm_w := pm_wm 19 rfl (gw_selects _ _ _)
set_option maxRecDepth 20000 in
theorem pw_316 : Cond.constantLong RX5 187 (-1) ∈ pm_w := pm_t3 (List.mem_of_getElem? (i := 107) rfl) (by decide +kernel)
set_option maxRecDepth 20000 in
theorem pw_317 : Cond.constantLong RX5 189 (100) ∈ pm_w := pm_t3 (List.mem_of_getElem? (i := 112) rfl) (by decide +kernel)
set_option maxRecDepth 20000 in
theorem pw_318 : Cond.code yX5_choices cX5_choices 5 (some .long) ∈ pm_w := pm_t3 (List.mem_of_getElem? (i := 115) rfl) (gw_code _ _ _ _)
set_option maxRecDepth 20000 in
theorem pw_319 : Cond.methodLink RX5 191 yX5_choices ∈ pm_w := pm_t3 (List.mem_of_getElem? (i := 113) rfl) (gw_methodLink _ _ _)
set_option maxRecDepth 20000 in
theorem pw_320 : Cond.static yX5_choices ∈ pm_w := pm_t3 (List.mem_of_getElem? (i := 114) rfl) (gw_static _)
set_option maxRecDepth 20000 in
theorem pw_321 : Cond.code yX5_partOf cX5_partOf 9 (some .long) ∈ pm_w := pm_t3 (List.mem_of_getElem? (i := 118) rfl) (gw_code _ _ _ _)
set_option maxRecDepth 20000 in
theorem pw_322 : Cond.methodLink RX5 195 yX5_partOf ∈ pm_w := pm_t3 (List.mem_of_getElem? (i := 116) rfl) (gw_methodLink _ _ _)
set_option maxRecDepth 20000 in
theorem pw_323 : Cond.static yX5_partOf ∈ pm_w := pm_t3 (List.mem_of_getElem? (i := 117) rfl) (gw_static _)
set_option maxRecDepth 20000 in
theorem pw_324 : Cond.code yX5_isInRow cX5_isInRow 3 (some .boolean) ∈ pm_w := pm_t3 (List.mem_of_getElem? (i := 137) rfl) (gw_code _ _ _ _)
set_option maxRecDepth 20000 in
theorem pw_325 : Cond.methodLink RX5 199 yX5_isInRow ∈ pm_w := pm_t3 (List.mem_of_getElem? (i := 134) rfl) (gw_methodLink _ _ _)
set_option maxRecDepth 20000 in
theorem pw_326 : Cond.instanceMethod yX5_isInRow ∈ pm_w := pm_t3 (List.mem_of_getElem? (i := 136) rfl) (gw_instanceMethod _)
set_option maxRecDepth 20000 in
theorem pw_327 : Cond.selects RX5 yX5_isInRow yX5_isInRow ∈ pm_w := pm_wm 20 rfl (gw_selects _ _ _)
set_option maxRecDepth 20000 in
theorem pw_328 : Cond.fieldLink RX5 203 "BlankRations$Sheet" "size" "I" ∈ pm_w := pm_t1 (List.mem_of_getElem? (i := 165) rfl) (gw_fieldLink _ _ _ _ _)
set_option maxRecDepth 20000 in
theorem pw_329 : Cond.fieldLink RX5 204 "BlankRations$Sheet" "items" "[J" ∈ pm_w := pm_t1 (List.mem_of_getElem? (i := 159) rfl) (gw_fieldLink _ _ _ _ _)
set_option maxRecDepth 20000 in
theorem pw_330 : Cond.methodLink RX5 208 Lib.Math.min.name ∈ pm_w := pm_t3 (List.mem_of_getElem? (i := 95) rfl) (gw_methodLink _ _ _)
set_option maxRecDepth 20000 in
theorem pw_331 : Cond.methodLink RX5 213 Lib.Math.max.name ∈ pm_w := pm_t3 (List.mem_of_getElem? (i := 150) rfl) (gw_methodLink _ _ _)
set_option maxRecDepth 20000 in
theorem pw_332 : Cond.code yX2_begin cX2_begin 4 (none) ∈ pm_w := pm_t3 (List.mem_of_getElem? (i := 158) rfl) (gw_code _ _ _ _)
set_option maxRecDepth 20000 in
theorem pw_333 : Cond.methodLink RX5 216 yX2_begin ∈ pm_w := pm_t3 (List.mem_of_getElem? (i := 155) rfl) (gw_methodLink _ _ _)
set_option maxRecDepth 20000 in
theorem pw_334 : Cond.instanceMethod yX2_begin ∈ pm_w := pm_t3 (List.mem_of_getElem? (i := 156) rfl) (gw_instanceMethod _)
set_option maxRecDepth 20000 in
theorem pw_335 : Cond.selects RX2 yX2_begin yX2_begin ∈ pm_w := pm_t3 (List.mem_of_getElem? (i := 157) rfl) (gw_selects _ _ _)
set_option maxRecDepth 20000 in
theorem pw_336 : Cond.code yX5_narrowed cX5_narrowed 2 (some .long) ∈ pm_w := pm_t3 (List.mem_of_getElem? (i := 165) rfl) (gw_code _ _ _ _)
set_option maxRecDepth 20000 in
theorem pw_337 : Cond.methodLink RX5 219 yX5_narrowed ∈ pm_w := pm_t3 (List.mem_of_getElem? (i := 163) rfl) (gw_methodLink _ _ _)
set_option maxRecDepth 20000 in
theorem pw_338 : Cond.static yX5_narrowed ∈ pm_w := pm_t3 (List.mem_of_getElem? (i := 164) rfl) (gw_static _)
set_option maxRecDepth 20000 in
theorem pw_339 : Cond.code yX3_holdPerson cX3_holdPerson 2 (none) ∈ pm_w := pm_t3 (List.mem_of_getElem? (i := 177) rfl) (gw_code _ _ _ _)
set_option maxRecDepth 20000 in
theorem pw_340 : Cond.methodLink RX5 222 yX3_holdPerson ∈ pm_w := pm_t3 (List.mem_of_getElem? (i := 174) rfl) (gw_methodLink _ _ _)
set_option maxRecDepth 20000 in
theorem pw_341 : Cond.instanceMethod yX3_holdPerson ∈ pm_w := pm_t3 (List.mem_of_getElem? (i := 175) rfl) (gw_instanceMethod _)
set_option maxRecDepth 20000 in
theorem pw_342 : Cond.selects RX3 yX3_holdPerson yX3_holdPerson ∈ pm_w := pm_t3 (List.mem_of_getElem? (i := 176) rfl) (gw_selects _ _ _)
set_option maxRecDepth 20000 in
theorem pw_343 : Cond.code yX3_holdRow cX3_holdRow 2 (none) ∈ pm_w := pm_t3 (List.mem_of_getElem? (i := 181) rfl) (gw_code _ _ _ _)
set_option maxRecDepth 20000 in
theorem pw_344 : Cond.methodLink RX5 226 yX3_holdRow ∈ pm_w := pm_t3 (List.mem_of_getElem? (i := 178) rfl) (gw_methodLink _ _ _)
set_option maxRecDepth 20000 in
theorem pw_345 : Cond.instanceMethod yX3_holdRow ∈ pm_w := pm_t3 (List.mem_of_getElem? (i := 179) rfl) (gw_instanceMethod _)
set_option maxRecDepth 20000 in
theorem pw_346 : Cond.selects RX3 yX3_holdRow yX3_holdRow ∈ pm_w := pm_t3 (List.mem_of_getElem? (i := 180) rfl) (gw_selects _ _ _)
set_option maxRecDepth 20000 in
theorem pw_347 : Cond.fieldLink RX5 230 "BlankRations$Shelf" "what" "I" ∈ pm_w := pm_t1 (List.mem_of_getElem? (i := 180) rfl) (gw_fieldLink _ _ _ _ _)
set_option maxRecDepth 20000 in
theorem pw_348 : Cond.fieldLink RX5 233 "BlankRations$Shelf" "sort" "I" ∈ pm_w := pm_t1 (List.mem_of_getElem? (i := 184) rfl) (gw_fieldLink _ _ _ _ _)
set_option maxRecDepth 20000 in
theorem pw_349 : Cond.fieldLink RX5 234 "BlankRations$Shelf" "size" "I" ∈ pm_w := pm_t1 (List.mem_of_getElem? (i := 186) rfl) (gw_fieldLink _ _ _ _ _)
set_option maxRecDepth 20000 in
theorem pw_350 : Cond.fieldLink RX5 235 "BlankRations$Shelf" "number" "I" ∈ pm_w := pm_t1 (List.mem_of_getElem? (i := 182) rfl) (gw_fieldLink _ _ _ _ _)
set_option maxRecDepth 20000 in
theorem pw_351 : Cond.methodLink RX5 238 yX5_isUnder ∈ pm_w := pm_t3 (List.mem_of_getElem? (i := 186) rfl) (gw_methodLink _ _ _)
set_option maxRecDepth 20000 in
theorem pw_352 : Cond.code yX0_forget cX0_forget 1 (none) ∈ pm_w := pm_t3 (List.mem_of_getElem? (i := 194) rfl) (gw_code _ _ _ _)
set_option maxRecDepth 20000 in
theorem pw_353 : Cond.methodLink RX5 241 yX0_forget ∈ pm_w := pm_t3 (List.mem_of_getElem? (i := 191) rfl) (gw_methodLink _ _ _)
set_option maxRecDepth 20000 in
theorem pw_354 : Cond.instanceMethod yX0_forget ∈ pm_w := pm_t3 (List.mem_of_getElem? (i := 192) rfl) (gw_instanceMethod _)
set_option maxRecDepth 20000 in
theorem pw_355 : Cond.selects RX0 yX0_forget yX0_forget ∈ pm_w := pm_t3 (List.mem_of_getElem? (i := 193) rfl) (gw_selects _ _ _)
set_option maxRecDepth 20000 in
theorem pw_356 : Cond.code yX0_play cX0_play 4 (none) ∈ pm_w := pm_t3 (List.mem_of_getElem? (i := 198) rfl) (gw_code _ _ _ _)
set_option maxRecDepth 20000 in
theorem pw_357 : Cond.methodLink RX5 244 yX0_play ∈ pm_w := pm_t3 (List.mem_of_getElem? (i := 195) rfl) (gw_methodLink _ _ _)
set_option maxRecDepth 20000 in
theorem pw_358 : Cond.instanceMethod yX0_play ∈ pm_w := pm_t3 (List.mem_of_getElem? (i := 196) rfl) (gw_instanceMethod _)
set_option maxRecDepth 20000 in
theorem pw_359 : Cond.selects RX0 yX0_play yX0_play ∈ pm_w := pm_t3 (List.mem_of_getElem? (i := 197) rfl) (gw_selects _ _ _)
set_option maxRecDepth 20000 in
theorem pw_360 : Cond.code yX0_perform cX0_perform 3 (some .int) ∈ pm_w := pm_t3 (List.mem_of_getElem? (i := 202) rfl) (gw_code _ _ _ _)
set_option maxRecDepth 20000 in
theorem pw_361 : Cond.methodLink RX5 248 yX0_perform ∈ pm_w := pm_t3 (List.mem_of_getElem? (i := 199) rfl) (gw_methodLink _ _ _)
set_option maxRecDepth 20000 in
theorem pw_362 : Cond.instanceMethod yX0_perform ∈ pm_w := pm_t3 (List.mem_of_getElem? (i := 200) rfl) (gw_instanceMethod _)
set_option maxRecDepth 20000 in
theorem pw_363 : Cond.selects RX0 yX0_perform yX0_perform ∈ pm_w := pm_t3 (List.mem_of_getElem? (i := 201) rfl) (gw_selects _ _ _)
set_option maxRecDepth 20000 in
theorem pw_364 : Cond.fieldLink RX5 251 "BlankRations$Actor" "isStopped" "Z" ∈ pm_w := pm_t1 (List.mem_of_getElem? (i := 132) rfl) (gw_fieldLink _ _ _ _ _)
set_option maxRecDepth 20000 in
theorem pw_365 : Cond.fieldLink RX5 255 "BlankRations$Actor" "ran" "I" ∈ pm_w := pm_t1 (List.mem_of_getElem? (i := 130) rfl) (gw_fieldLink _ _ _ _ _)
set_option maxRecDepth 20000 in
theorem pw_366 : Cond.fieldLink RX5 258 "BlankRations$Actor" "bodies" "[I" ∈ pm_w := pm_t1 (List.mem_of_getElem? (i := 128) rfl) (gw_fieldLink _ _ _ _ _)
set_option maxRecDepth 20000 in
theorem pw_367 : Cond.fieldLink RX5 261 "BlankRations" "isKept" "Z" ∈ pm_w := pm_t1 (List.mem_of_getElem? (i := 206) rfl) (gw_fieldLink _ _ _ _ _)
set_option maxRecDepth 20000 in
theorem pw_368 : Cond.code yX5_commonDivisor cX5_commonDivisor 11 (some .long) ∈ pm_w := pm_t3 (List.mem_of_getElem? (i := 121) rfl) (gw_code _ _ _ _)
set_option maxRecDepth 20000 in
theorem pw_369 : Cond.methodLink RX5 264 yX5_commonDivisor ∈ pm_w := pm_t3 (List.mem_of_getElem? (i := 119) rfl) (gw_methodLink _ _ _)
set_option maxRecDepth 20000 in
theorem pw_370 : Cond.static yX5_commonDivisor ∈ pm_w := pm_t3 (List.mem_of_getElem? (i := 120) rfl) (gw_static _)
set_option maxRecDepth 20000 in
theorem pw_371 : Cond.methodLink RX6 1 objectInit ∈ pm_w := pm_t4 (List.mem_of_getElem? (i := 5) rfl) (gw_methodLink _ _ _)
set_option maxRecDepth 20000 in
theorem pw_372 : Cond.fieldLink RX6 7 "BlankRationsModel" "row" "[I" ∈ pm_w := pm_t4 (List.mem_of_getElem? (i := 9) rfl) (gw_fieldLink _ _ _ _ _)
set_option maxRecDepth 20000 in
theorem pw_373 : Cond.fieldLink RX6 13 "BlankRationsModel" "fresh" "[I" ∈ pm_w := pm_t4 (List.mem_of_getElem? (i := 10) rfl) (gw_fieldLink _ _ _ _ _)
set_option maxRecDepth 20000 in
theorem pw_374 : Cond.fieldLink RX6 16 "BlankRationsModel" "kept" "[I" ∈ pm_w := pm_t4 (List.mem_of_getElem? (i := 11) rfl) (gw_fieldLink _ _ _ _ _)
set_option maxRecDepth 20000 in
theorem pw_375 : Cond.fieldLink RX6 19 "BlankRationsModel" "tried" "[I" ∈ pm_w := pm_t4 (List.mem_of_getElem? (i := 12) rfl) (gw_fieldLink _ _ _ _ _)
set_option maxRecDepth 20000 in
theorem pw_376 : Cond.fieldLink RX6 22 "BlankRationsModel" "tape" "[I" ∈ pm_w := pm_t4 (List.mem_of_getElem? (i := 15) rfl) (gw_fieldLink _ _ _ _ _)
set_option maxRecDepth 20000 in
theorem pw_377 : Cond.fieldLink RX6 25 "BlankRationsModel" "stands" "[I" ∈ pm_w := pm_t4 (List.mem_of_getElem? (i := 23) rfl) (gw_fieldLink _ _ _ _ _)
set_option maxRecDepth 20000 in
theorem pw_378 : Cond.fieldLink RX6 28 "BlankRationsModel" "rows" "[I" ∈ pm_w := pm_t4 (List.mem_of_getElem? (i := 24) rfl) (gw_fieldLink _ _ _ _ _)
set_option maxRecDepth 20000 in
theorem pw_379 : Cond.fieldLink RX6 31 "BlankRationsModel" "must" "[I" ∈ pm_w := pm_t4 (List.mem_of_getElem? (i := 25) rfl) (gw_fieldLink _ _ _ _ _)
set_option maxRecDepth 20000 in
theorem pw_380 : Cond.fieldLink RX6 34 "BlankRationsModel" "sorts" "[I" ∈ pm_w := pm_t4 (List.mem_of_getElem? (i := 27) rfl) (gw_fieldLink _ _ _ _ _)
set_option maxRecDepth 20000 in
theorem pw_381 : Cond.fieldLink RX6 37 "BlankRationsModel" "sizes" "[I" ∈ pm_w := pm_t4 (List.mem_of_getElem? (i := 28) rfl) (gw_fieldLink _ _ _ _ _)
set_option maxRecDepth 20000 in
theorem pw_382 : Cond.fieldLink RX6 40 "BlankRationsModel" "sheets" "[J" ∈ pm_w := pm_t4 (List.mem_of_getElem? (i := 29) rfl) (gw_fieldLink _ _ _ _ _)
set_option maxRecDepth 20000 in
theorem pw_383 : Cond.fieldLink RX6 44 "BlankRationsModel" "holds" "[I" ∈ pm_w := pm_t4 (List.mem_of_getElem? (i := 30) rfl) (gw_fieldLink _ _ _ _ _)
set_option maxRecDepth 20000 in
theorem pw_384 : Cond.fieldLink RX6 47 "BlankRationsModel" "heldNumber" "[I" ∈ pm_w := pm_t4 (List.mem_of_getElem? (i := 31) rfl) (gw_fieldLink _ _ _ _ _)
set_option maxRecDepth 20000 in
theorem pw_385 : Cond.fieldLink RX6 50 "BlankRationsModel" "heldSize" "[I" ∈ pm_w := pm_t4 (List.mem_of_getElem? (i := 32) rfl) (gw_fieldLink _ _ _ _ _)
set_option maxRecDepth 20000 in
theorem pw_386 : Cond.fieldLink RX6 53 "BlankRationsModel" "traced" "[I" ∈ pm_w := pm_t4 (List.mem_of_getElem? (i := 36) rfl) (gw_fieldLink _ _ _ _ _)
set_option maxRecDepth 20000 in
theorem pw_387 : Cond.code yX6_begins cX6_begins 2 (none) ∈ pm_w := pm_t4 (List.mem_of_getElem? (i := 8) rfl) (gw_code _ _ _ _)
set_option maxRecDepth 20000 in
theorem pw_388 : Cond.initialized RX6 ∈ pm_w := pm_t1 (List.mem_of_getElem? (i := 8) rfl) (by decide +kernel)
set_option maxRecDepth 20000 in
theorem pw_389 : Cond.methodLink RX6 56 yX6_begins ∈ pm_w := pm_t4 (List.mem_of_getElem? (i := 6) rfl) (gw_methodLink _ _ _)
set_option maxRecDepth 20000 in
theorem pw_390 : Cond.static yX6_begins ∈ pm_w := pm_t4 (List.mem_of_getElem? (i := 7) rfl) (gw_static _)
set_option maxRecDepth 20000 in
theorem pw_391 : Cond.code yX6_in cX6_in 3 (some .boolean) ∈ pm_w := pm_t4 (List.mem_of_getElem? (i := 106) rfl) (gw_code _ _ _ _)
set_option maxRecDepth 20000 in
theorem pw_392 : Cond.methodLink RX6 60 yX6_in ∈ pm_w := pm_t4 (List.mem_of_getElem? (i := 104) rfl) (gw_methodLink _ _ _)
set_option maxRecDepth 20000 in
theorem pw_393 : Cond.static yX6_in ∈ pm_w := pm_t4 (List.mem_of_getElem? (i := 105) rfl) (gw_static _)
set_option maxRecDepth 20000 in
theorem pw_394 : Cond.fieldLink RX6 64 "BlankRationsModel" "tapeMany" "I" ∈ pm_w := pm_t4 (List.mem_of_getElem? (i := 16) rfl) (gw_fieldLink _ _ _ _ _)
set_option maxRecDepth 20000 in
theorem pw_395 : Cond.constantLong RX6 68 (255) ∈ pm_w := pm_t4 (List.mem_of_getElem? (i := 107) rfl) (by decide +kernel)
set_option maxRecDepth 20000 in
theorem pw_396 : Cond.fieldLink RX6 70 "BlankRationsModel" "tokenEnds" "I" ∈ pm_w := pm_t4 (List.mem_of_getElem? (i := 19) rfl) (gw_fieldLink _ _ _ _ _)
set_option maxRecDepth 20000 in
theorem pw_397 : Cond.fieldLink RX6 73 "BlankRationsModel" "begins" "I" ∈ pm_w := pm_t4 (List.mem_of_getElem? (i := 18) rfl) (gw_fieldLink _ _ _ _ _)
set_option maxRecDepth 20000 in
theorem pw_398 : Cond.code yX6_byteAt cX6_byteAt 2 (some .int) ∈ pm_w := pm_t4 (List.mem_of_getElem? (i := 119) rfl) (gw_code _ _ _ _)
set_option maxRecDepth 20000 in
theorem pw_399 : Cond.methodLink RX6 75 yX6_byteAt ∈ pm_w := pm_t4 (List.mem_of_getElem? (i := 116) rfl) (gw_methodLink _ _ _)
set_option maxRecDepth 20000 in
theorem pw_400 : Cond.instanceMethod yX6_byteAt ∈ pm_w := pm_t4 (List.mem_of_getElem? (i := 118) rfl) (gw_instanceMethod _)
set_option maxRecDepth 20000 in
theorem pw_401 : Cond.selects RX6 yX6_byteAt yX6_byteAt ∈ pm_w := pm_wm 27 rfl (gw_selects _ _ _)
set_option maxRecDepth 20000 in
theorem pw_402 : Cond.code yX6_isLetter cX6_isLetter 1 (some .boolean) ∈ pm_w := pm_t4 (List.mem_of_getElem? (i := 122) rfl) (gw_code _ _ _ _)
set_option maxRecDepth 20000 in
theorem pw_403 : Cond.methodLink RX6 79 yX6_isLetter ∈ pm_w := pm_t4 (List.mem_of_getElem? (i := 120) rfl) (gw_methodLink _ _ _)
set_option maxRecDepth 20000 in
theorem pw_404 : Cond.static yX6_isLetter ∈ pm_w := pm_t4 (List.mem_of_getElem? (i := 121) rfl) (gw_static _)
set_option maxRecDepth 20000 in
theorem pw_405 : Cond.code yX6_isDigit cX6_isDigit 1 (some .boolean) ∈ pm_w := pm_t4 (List.mem_of_getElem? (i := 125) rfl) (gw_code _ _ _ _)
set_option maxRecDepth 20000 in
theorem pw_406 : Cond.methodLink RX6 83 yX6_isDigit ∈ pm_w := pm_t4 (List.mem_of_getElem? (i := 123) rfl) (gw_methodLink _ _ _)
set_option maxRecDepth 20000 in
theorem pw_407 : Cond.static yX6_isDigit ∈ pm_w := pm_t4 (List.mem_of_getElem? (i := 124) rfl) (gw_static _)
set_option maxRecDepth 20000 in
theorem pw_408 : Cond.fieldLink RX6 86 "BlankRationsModel" "sort" "I" ∈ pm_w := pm_t4 (List.mem_of_getElem? (i := 17) rfl) (gw_fieldLink _ _ _ _ _)
set_option maxRecDepth 20000 in
theorem pw_409 : Cond.fieldLink RX6 89 "BlankRationsModel" "word" "J" ∈ pm_w := pm_t4 (List.mem_of_getElem? (i := 20) rfl) (gw_fieldLink _ _ _ _ _)
set_option maxRecDepth 20000 in
theorem pw_410 : Cond.fieldLink RX6 93 "BlankRationsModel" "value" "I" ∈ pm_w := pm_t4 (List.mem_of_getElem? (i := 21) rfl) (gw_fieldLink _ _ _ _ _)
set_option maxRecDepth 20000 in
theorem pw_411 : Cond.constantLong RX6 96 (27) ∈ pm_w := pm_t4 (List.mem_of_getElem? (i := 126) rfl) (by decide +kernel)
set_option maxRecDepth 20000 in
theorem pw_412 : Cond.constantLong RX6 98 (96) ∈ pm_w := pm_t4 (List.mem_of_getElem? (i := 127) rfl) (by decide +kernel)
set_option maxRecDepth 20000 in
theorem pw_413 : Cond.constantLong RX6 100 (-1) ∈ pm_w := pm_t4 (List.mem_of_getElem? (i := 128) rfl) (by decide +kernel)
set_option maxRecDepth 20000 in
theorem pw_414 : Cond.constantLong RX6 102 (913590) ∈ pm_w := pm_t4 (List.mem_of_getElem? (i := 149) rfl) (by decide +kernel)
set_option maxRecDepth 20000 in
theorem pw_415 : Cond.code yX6_isWord cX6_isWord 3 (some .boolean) ∈ pm_w := pm_t4 (List.mem_of_getElem? (i := 141) rfl) (gw_code _ _ _ _)
set_option maxRecDepth 20000 in
theorem pw_416 : Cond.methodLink RX6 104 yX6_isWord ∈ pm_w := pm_t4 (List.mem_of_getElem? (i := 138) rfl) (gw_methodLink _ _ _)
set_option maxRecDepth 20000 in
theorem pw_417 : Cond.instanceMethod yX6_isWord ∈ pm_w := pm_t4 (List.mem_of_getElem? (i := 140) rfl) (gw_instanceMethod _)
set_option maxRecDepth 20000 in
theorem pw_418 : Cond.selects RX6 yX6_isWord yX6_isWord ∈ pm_w := pm_wm 30 rfl (gw_selects _ _ _)
set_option maxRecDepth 20000 in
theorem pw_419 : Cond.constantLong RX6 108 (152574828626) ∈ pm_w := pm_t4 (List.mem_of_getElem? (i := 150) rfl) (by decide +kernel)
set_option maxRecDepth 20000 in
theorem pw_420 : Cond.constantLong RX6 110 (12403634) ∈ pm_w := pm_t4 (List.mem_of_getElem? (i := 151) rfl) (by decide +kernel)
set_option maxRecDepth 20000 in
theorem pw_421 : Cond.constantLong RX6 112 (326018) ∈ pm_w := pm_t4 (List.mem_of_getElem? (i := 152) rfl) (by decide +kernel)
set_option maxRecDepth 20000 in
theorem pw_422 : Cond.constantLong RX6 114 (277800912) ∈ pm_w := pm_t4 (List.mem_of_getElem? (i := 153) rfl) (by decide +kernel)
set_option maxRecDepth 20000 in
theorem pw_423 : Cond.constantLong RX6 116 (1888) ∈ pm_w := pm_t4 (List.mem_of_getElem? (i := 154) rfl) (by decide +kernel)
set_option maxRecDepth 20000 in
theorem pw_424 : Cond.constantLong RX6 118 (16079) ∈ pm_w := pm_t4 (List.mem_of_getElem? (i := 137) rfl) (by decide +kernel)
set_option maxRecDepth 20000 in
theorem pw_425 : Cond.constantLong RX6 120 (6564799) ∈ pm_w := pm_t4 (List.mem_of_getElem? (i := 142) rfl) (by decide +kernel)
set_option maxRecDepth 20000 in
theorem pw_426 : Cond.constantLong RX6 122 (13691) ∈ pm_w := pm_t4 (List.mem_of_getElem? (i := 143) rfl) (by decide +kernel)
set_option maxRecDepth 20000 in
theorem pw_427 : Cond.constantLong RX6 124 (382984) ∈ pm_w := pm_t4 (List.mem_of_getElem? (i := 144) rfl) (by decide +kernel)
set_option maxRecDepth 20000 in
theorem pw_428 : Cond.fieldLink RX6 126 "BlankRationsModel" "good" "Z" ∈ pm_w := pm_t4 (List.mem_of_getElem? (i := 22) rfl) (gw_fieldLink _ _ _ _ _)
set_option maxRecDepth 20000 in
theorem pw_429 : Cond.code yX6_advance cX6_advance 2 (none) ∈ pm_w := pm_t4 (List.mem_of_getElem? (i := 115) rfl) (gw_code _ _ _ _)
set_option maxRecDepth 20000 in
theorem pw_430 : Cond.methodLink RX6 130 yX6_advance ∈ pm_w := pm_t4 (List.mem_of_getElem? (i := 112) rfl) (gw_methodLink _ _ _)
set_option maxRecDepth 20000 in
theorem pw_431 : Cond.instanceMethod yX6_advance ∈ pm_w := pm_t4 (List.mem_of_getElem? (i := 114) rfl) (gw_instanceMethod _)
set_option maxRecDepth 20000 in
theorem pw_432 : Cond.selects RX6 yX6_advance yX6_advance ∈ pm_w := pm_wm 26 rfl (gw_selects _ _ _)
set_option maxRecDepth 20000 in
theorem pw_433 : Cond.code yX6_isMark cX6_isMark 2 (some .boolean) ∈ pm_w := pm_t4 (List.mem_of_getElem? (i := 177) rfl) (gw_code _ _ _ _)
set_option maxRecDepth 20000 in
theorem pw_434 : Cond.methodLink RX6 133 yX6_isMark ∈ pm_w := pm_t4 (List.mem_of_getElem? (i := 174) rfl) (gw_methodLink _ _ _)
set_option maxRecDepth 20000 in
theorem pw_435 : Cond.instanceMethod yX6_isMark ∈ pm_w := pm_t4 (List.mem_of_getElem? (i := 176) rfl) (gw_instanceMethod _)
set_option maxRecDepth 20000 in
theorem pw_436 : Cond.selects RX6 yX6_isMark yX6_isMark ∈ pm_w := pm_wm 36 rfl (gw_selects _ _ _)
set_option maxRecDepth 20000 in
theorem pw_437 : Cond.code yX6_wantNumber cX6_wantNumber 4 (some .int) ∈ pm_w := pm_t4 (List.mem_of_getElem? (i := 167) rfl) (gw_code _ _ _ _)
set_option maxRecDepth 20000 in
theorem pw_438 : Cond.methodLink RX6 136 yX6_wantNumber ∈ pm_w := pm_t4 (List.mem_of_getElem? (i := 164) rfl) (gw_methodLink _ _ _)
set_option maxRecDepth 20000 in
theorem pw_439 : Cond.instanceMethod yX6_wantNumber ∈ pm_w := pm_t4 (List.mem_of_getElem? (i := 166) rfl) (gw_instanceMethod _)
set_option maxRecDepth 20000 in
theorem pw_440 : Cond.selects RX6 yX6_wantNumber yX6_wantNumber ∈ pm_w := pm_wm 34 rfl (gw_selects _ _ _)
set_option maxRecDepth 20000 in
theorem pw_441 : Cond.constantLong RX6 140 (7871591333) ∈ pm_w := pm_t4 (List.mem_of_getElem? (i := 159) rfl) (by decide +kernel)
set_option maxRecDepth 20000 in
theorem pw_442 : Cond.code yX6_mayWant cX6_mayWant 4 (some .int) ∈ pm_w := pm_t4 (List.mem_of_getElem? (i := 163) rfl) (gw_code _ _ _ _)
set_option maxRecDepth 20000 in
theorem pw_443 : Cond.methodLink RX6 142 yX6_mayWant ∈ pm_w := pm_t4 (List.mem_of_getElem? (i := 160) rfl) (gw_methodLink _ _ _)
set_option maxRecDepth 20000 in
theorem pw_444 : Cond.instanceMethod yX6_mayWant ∈ pm_w := pm_t4 (List.mem_of_getElem? (i := 162) rfl) (gw_instanceMethod _)
set_option maxRecDepth 20000 in
theorem pw_445 : Cond.selects RX6 yX6_mayWant yX6_mayWant ∈ pm_w := pm_wm 33 rfl (gw_selects _ _ _)
set_option maxRecDepth 20000 in
theorem pw_446 : Cond.constantLong RX6 146 (158575) ∈ pm_w := pm_t4 (List.mem_of_getElem? (i := 168) rfl) (by decide +kernel)
set_option maxRecDepth 20000 in
theorem pw_447 : Cond.constantLong RX6 148 (8527996) ∈ pm_w := pm_t4 (List.mem_of_getElem? (i := 169) rfl) (by decide +kernel)
set_option maxRecDepth 20000 in
theorem pw_448 : Cond.code yX6_wantEnd cX6_wantEnd 1 (none) ∈ pm_w := pm_t4 (List.mem_of_getElem? (i := 173) rfl) (gw_code _ _ _ _)
set_option maxRecDepth 20000 in
theorem pw_449 : Cond.methodLink RX6 150 yX6_wantEnd ∈ pm_w := pm_t4 (List.mem_of_getElem? (i := 170) rfl) (gw_methodLink _ _ _)
set_option maxRecDepth 20000 in
theorem pw_450 : Cond.instanceMethod yX6_wantEnd ∈ pm_w := pm_t4 (List.mem_of_getElem? (i := 172) rfl) (gw_instanceMethod _)
set_option maxRecDepth 20000 in
theorem pw_451 : Cond.selects RX6 yX6_wantEnd yX6_wantEnd ∈ pm_w := pm_wm 35 rfl (gw_selects _ _ _)
set_option maxRecDepth 20000 in
theorem pw_452 : Cond.code yX6_lawHere cX6_lawHere 1 (some .int) ∈ pm_w := pm_t4 (List.mem_of_getElem? (i := 136) rfl) (gw_code _ _ _ _)
set_option maxRecDepth 20000 in
theorem pw_453 : Cond.methodLink RX6 153 yX6_lawHere ∈ pm_w := pm_t4 (List.mem_of_getElem? (i := 133) rfl) (gw_methodLink _ _ _)
set_option maxRecDepth 20000 in
theorem pw_454 : Cond.instanceMethod yX6_lawHere ∈ pm_w := pm_t4 (List.mem_of_getElem? (i := 135) rfl) (gw_instanceMethod _)
set_option maxRecDepth 20000 in
theorem pw_455 : Cond.selects RX6 yX6_lawHere yX6_lawHere ∈ pm_w := pm_wm 29 rfl (gw_selects _ _ _)
set_option maxRecDepth 20000 in
theorem pw_456 : Cond.code yX6_kindHere cX6_kindHere 1 (some .int) ∈ pm_w := pm_t4 (List.mem_of_getElem? (i := 148) rfl) (gw_code _ _ _ _)
set_option maxRecDepth 20000 in
theorem pw_457 : Cond.methodLink RX6 157 yX6_kindHere ∈ pm_w := pm_t4 (List.mem_of_getElem? (i := 145) rfl) (gw_methodLink _ _ _)
set_option maxRecDepth 20000 in
theorem pw_458 : Cond.instanceMethod yX6_kindHere ∈ pm_w := pm_t4 (List.mem_of_getElem? (i := 147) rfl) (gw_instanceMethod _)
set_option maxRecDepth 20000 in
theorem pw_459 : Cond.selects RX6 yX6_kindHere yX6_kindHere ∈ pm_w := pm_wm 31 rfl (gw_selects _ _ _)
set_option maxRecDepth 20000 in
theorem pw_460 : Cond.code yX6_wantOne cX6_wantOne 6 (none) ∈ pm_w := pm_t4 (List.mem_of_getElem? (i := 158) rfl) (gw_code _ _ _ _)
set_option maxRecDepth 20000 in
theorem pw_461 : Cond.methodLink RX6 160 yX6_wantOne ∈ pm_w := pm_t4 (List.mem_of_getElem? (i := 155) rfl) (gw_methodLink _ _ _)
set_option maxRecDepth 20000 in
theorem pw_462 : Cond.instanceMethod yX6_wantOne ∈ pm_w := pm_t4 (List.mem_of_getElem? (i := 157) rfl) (gw_instanceMethod _)
set_option maxRecDepth 20000 in
theorem pw_463 : Cond.selects RX6 yX6_wantOne yX6_wantOne ∈ pm_w := pm_wm 32 rfl (gw_selects _ _ _)
set_option maxRecDepth 20000 in
theorem pw_464 : Cond.code yX6_mostOf cX6_mostOf 1 (some .int) ∈ pm_w := pm_t4 (List.mem_of_getElem? (i := 180) rfl) (gw_code _ _ _ _)
set_option maxRecDepth 20000 in
theorem pw_465 : Cond.methodLink RX6 164 yX6_mostOf ∈ pm_w := pm_t4 (List.mem_of_getElem? (i := 178) rfl) (gw_methodLink _ _ _)
set_option maxRecDepth 20000 in
theorem pw_466 : Cond.static yX6_mostOf ∈ pm_w := pm_t4 (List.mem_of_getElem? (i := 179) rfl) (gw_static _)
set_option maxRecDepth 20000 in
theorem pw_467 : Cond.code yX6_wantClause cX6_wantClause 2 (none) ∈ pm_w := pm_t4 (List.mem_of_getElem? (i := 132) rfl) (gw_code _ _ _ _)
set_option maxRecDepth 20000 in
theorem pw_468 : Cond.methodLink RX6 167 yX6_wantClause ∈ pm_w := pm_t4 (List.mem_of_getElem? (i := 129) rfl) (gw_methodLink _ _ _)
set_option maxRecDepth 20000 in
theorem pw_469 : Cond.instanceMethod yX6_wantClause ∈ pm_w := pm_t4 (List.mem_of_getElem? (i := 131) rfl) (gw_instanceMethod _)
set_option maxRecDepth 20000 in
theorem pw_470 : Cond.selects RX6 yX6_wantClause yX6_wantClause ∈ pm_w := pm_wm 28 rfl (gw_selects _ _ _)
set_option maxRecDepth 20000 in
theorem pw_471 : Cond.code yX6_moveAll cX6_moveAll 3 (none) ∈ pm_w := pm_t4 (List.mem_of_getElem? (i := 183) rfl) (gw_code _ _ _ _)
set_option maxRecDepth 20000 in
theorem pw_472 : Cond.methodLink RX6 170 yX6_moveAll ∈ pm_w := pm_t4 (List.mem_of_getElem? (i := 181) rfl) (gw_methodLink _ _ _)
set_option maxRecDepth 20000 in
theorem pw_473 : Cond.static yX6_moveAll ∈ pm_w := pm_t4 (List.mem_of_getElem? (i := 182) rfl) (gw_static _)
set_option maxRecDepth 20000 in
theorem pw_474 : Cond.fieldLink RX6 174 "BlankRationsModel" "rowMany" "I" ∈ pm_w := pm_t4 (List.mem_of_getElem? (i := 26) rfl) (gw_fieldLink _ _ _ _ _)
set_option maxRecDepth 20000 in
theorem pw_475 : Cond.code yX6_becomes cX6_becomes 4 (some .int) ∈ pm_w := pm_t4 (List.mem_of_getElem? (i := 191) rfl) (gw_code _ _ _ _)
set_option maxRecDepth 20000 in
theorem pw_476 : Cond.methodLink RX6 177 yX6_becomes ∈ pm_w := pm_t4 (List.mem_of_getElem? (i := 188) rfl) (gw_methodLink _ _ _)
set_option maxRecDepth 20000 in
theorem pw_477 : Cond.instanceMethod yX6_becomes ∈ pm_w := pm_t4 (List.mem_of_getElem? (i := 190) rfl) (gw_instanceMethod _)
set_option maxRecDepth 20000 in
theorem pw_478 : Cond.selects RX6 yX6_becomes yX6_becomes ∈ pm_w := pm_wm 37 rfl (gw_selects _ _ _)
set_option maxRecDepth 20000 in
theorem pw_479 : Cond.code yX6_isKind cX6_isKind 2 (some .boolean) ∈ pm_w := pm_t4 (List.mem_of_getElem? (i := 202) rfl) (gw_code _ _ _ _)
set_option maxRecDepth 20000 in
theorem pw_480 : Cond.methodLink RX6 180 yX6_isKind ∈ pm_w := pm_t4 (List.mem_of_getElem? (i := 200) rfl) (gw_methodLink _ _ _)
set_option maxRecDepth 20000 in
theorem pw_481 : Cond.static yX6_isKind ∈ pm_w := pm_t4 (List.mem_of_getElem? (i := 201) rfl) (gw_static _)
set_option maxRecDepth 20000 in
theorem pw_482 : Cond.code yX6_sets cX6_sets 4 (none) ∈ pm_w := pm_t4 (List.mem_of_getElem? (i := 206) rfl) (gw_code _ _ _ _)
set_option maxRecDepth 20000 in
theorem pw_483 : Cond.methodLink RX6 184 yX6_sets ∈ pm_w := pm_t4 (List.mem_of_getElem? (i := 203) rfl) (gw_methodLink _ _ _)
set_option maxRecDepth 20000 in
theorem pw_484 : Cond.instanceMethod yX6_sets ∈ pm_w := pm_t4 (List.mem_of_getElem? (i := 205) rfl) (gw_instanceMethod _)
set_option maxRecDepth 20000 in
theorem pw_485 : Cond.selects RX6 yX6_sets yX6_sets ∈ pm_w := pm_wm 38 rfl (gw_selects _ _ _)
set_option maxRecDepth 20000 in
theorem pw_486 : Cond.code yX6_isOne cX6_isOne 2 (some .boolean) ∈ pm_w := pm_t4 (List.mem_of_getElem? (i := 214) rfl) (gw_code _ _ _ _)
set_option maxRecDepth 20000 in
theorem pw_487 : Cond.methodLink RX6 188 yX6_isOne ∈ pm_w := pm_t4 (List.mem_of_getElem? (i := 211) rfl) (gw_methodLink _ _ _)
set_option maxRecDepth 20000 in
theorem pw_488 : Cond.instanceMethod yX6_isOne ∈ pm_w := pm_t4 (List.mem_of_getElem? (i := 213) rfl) (gw_instanceMethod _)
set_option maxRecDepth 20000 in
theorem pw_489 : Cond.selects RX6 yX6_isOne yX6_isOne ∈ pm_w := pm_wm 39 rfl (gw_selects _ _ _)
set_option maxRecDepth 20000 in
theorem pw_490 : Cond.code yX6_its cX6_its 3 (some .int) ∈ pm_w := pm_t4 (List.mem_of_getElem? (i := 218) rfl) (gw_code _ _ _ _)
set_option maxRecDepth 20000 in
theorem pw_491 : Cond.methodLink RX6 191 yX6_its ∈ pm_w := pm_t4 (List.mem_of_getElem? (i := 215) rfl) (gw_methodLink _ _ _)
set_option maxRecDepth 20000 in
theorem pw_492 : Cond.instanceMethod yX6_its ∈ pm_w := pm_t4 (List.mem_of_getElem? (i := 217) rfl) (gw_instanceMethod _)
set_option maxRecDepth 20000 in
theorem pw_493 : Cond.selects RX6 yX6_its yX6_its ∈ pm_w := pm_wm 40 rfl (gw_selects _ _ _)
set_option maxRecDepth 20000 in
theorem pw_494 : Cond.code yX6_held cX6_held 3 (some .int) ∈ pm_w := pm_t4 (List.mem_of_getElem? (i := 237) rfl) (gw_code _ _ _ _)
set_option maxRecDepth 20000 in
theorem pw_495 : Cond.methodLink RX6 194 yX6_held ∈ pm_w := pm_t4 (List.mem_of_getElem? (i := 235) rfl) (gw_methodLink _ _ _)
set_option maxRecDepth 20000 in
theorem pw_496 : Cond.static yX6_held ∈ pm_w := pm_t4 (List.mem_of_getElem? (i := 236) rfl) (gw_static _)
set_option maxRecDepth 20000 in
theorem pw_497 : Cond.code yX6_thinksOf cX6_thinksOf 2 (some .int) ∈ pm_w := pm_t4 (List.mem_of_getElem? (i := 226) rfl) (gw_code _ _ _ _)
set_option maxRecDepth 20000 in
theorem pw_498 : Cond.methodLink RX6 198 yX6_thinksOf ∈ pm_w := pm_t4 (List.mem_of_getElem? (i := 223) rfl) (gw_methodLink _ _ _)
set_option maxRecDepth 20000 in
theorem pw_499 : Cond.instanceMethod yX6_thinksOf ∈ pm_w := pm_t4 (List.mem_of_getElem? (i := 225) rfl) (gw_instanceMethod _)
set_option maxRecDepth 20000 in
theorem pw_500 : Cond.selects RX6 yX6_thinksOf yX6_thinksOf ∈ pm_w := pm_wm 41 rfl (gw_selects _ _ _)
set_option maxRecDepth 20000 in
theorem pw_501 : Cond.code yX6_needs cX6_needs 2 (some .int) ∈ pm_w := pm_t4 (List.mem_of_getElem? (i := 230) rfl) (gw_code _ _ _ _)
set_option maxRecDepth 20000 in
theorem pw_502 : Cond.methodLink RX6 201 yX6_needs ∈ pm_w := pm_t4 (List.mem_of_getElem? (i := 227) rfl) (gw_methodLink _ _ _)
set_option maxRecDepth 20000 in
theorem pw_503 : Cond.instanceMethod yX6_needs ∈ pm_w := pm_t4 (List.mem_of_getElem? (i := 229) rfl) (gw_instanceMethod _)
set_option maxRecDepth 20000 in
theorem pw_504 : Cond.selects RX6 yX6_needs yX6_needs ∈ pm_w := pm_wm 42 rfl (gw_selects _ _ _)
set_option maxRecDepth 20000 in
theorem pw_505 : Cond.code yX6_says cX6_says 3 (some .int) ∈ pm_w := pm_t4 (List.mem_of_getElem? (i := 234) rfl) (gw_code _ _ _ _)
set_option maxRecDepth 20000 in
theorem pw_506 : Cond.methodLink RX6 204 yX6_says ∈ pm_w := pm_t4 (List.mem_of_getElem? (i := 231) rfl) (gw_methodLink _ _ _)
set_option maxRecDepth 20000 in
theorem pw_507 : Cond.instanceMethod yX6_says ∈ pm_w := pm_t4 (List.mem_of_getElem? (i := 233) rfl) (gw_instanceMethod _)
set_option maxRecDepth 20000 in
theorem pw_508 : Cond.selects RX6 yX6_says yX6_says ∈ pm_w := pm_wm 43 rfl (gw_selects _ _ _)
set_option maxRecDepth 20000 in
theorem pw_509 : Cond.code yX6_isUsed cX6_isUsed 3 (some .boolean) ∈ pm_w := pm_t5 (List.mem_of_getElem? (i := 1) rfl) (gw_code _ _ _ _)
set_option maxRecDepth 20000 in
theorem pw_510 : Cond.methodLink RX6 207 yX6_isUsed ∈ pm_w := pm_t4 (List.mem_of_getElem? (i := 238) rfl) (gw_methodLink _ _ _)
set_option maxRecDepth 20000 in
theorem pw_511 : Cond.instanceMethod yX6_isUsed ∈ pm_w := pm_t5 (List.mem_of_getElem? (i := 0) rfl) (gw_instanceMethod _)
set_option maxRecDepth 20000 in
theorem pw_512 : Cond.selects RX6 yX6_isUsed yX6_isUsed ∈ pm_w := pm_wm 44 rfl (gw_selects _ _ _)
set_option maxRecDepth 20000 in
theorem pw_513 : Cond.code yX6_isReady cX6_isReady 2 (some .boolean) ∈ pm_w := pm_t5 (List.mem_of_getElem? (i := 37) rfl) (gw_code _ _ _ _)
set_option maxRecDepth 20000 in
theorem pw_514 : Cond.methodLink RX6 210 yX6_isReady ∈ pm_w := pm_t5 (List.mem_of_getElem? (i := 34) rfl) (gw_methodLink _ _ _)
set_option maxRecDepth 20000 in
theorem pw_515 : Cond.instanceMethod yX6_isReady ∈ pm_w := pm_t5 (List.mem_of_getElem? (i := 36) rfl) (gw_instanceMethod _)
set_option maxRecDepth 20000 in
theorem pw_516 : Cond.selects RX6 yX6_isReady yX6_isReady ∈ pm_w := pm_wm 48 rfl (gw_selects _ _ _)
set_option maxRecDepth 20000 in
theorem pw_517 : Cond.fieldLink RX6 213 "BlankRationsModel" "left" "I" ∈ pm_w := pm_t4 (List.mem_of_getElem? (i := 14) rfl) (gw_fieldLink _ _ _ _ _)
set_option maxRecDepth 20000 in
theorem pw_518 : Cond.code yX6_next cX6_next 4 (some .int) ∈ pm_w := pm_t5 (List.mem_of_getElem? (i := 33) rfl) (gw_code _ _ _ _)
set_option maxRecDepth 20000 in
theorem pw_519 : Cond.methodLink RX6 216 yX6_next ∈ pm_w := pm_t5 (List.mem_of_getElem? (i := 30) rfl) (gw_methodLink _ _ _)
set_option maxRecDepth 20000 in
theorem pw_520 : Cond.instanceMethod yX6_next ∈ pm_w := pm_t5 (List.mem_of_getElem? (i := 32) rfl) (gw_instanceMethod _)
set_option maxRecDepth 20000 in
theorem pw_521 : Cond.selects RX6 yX6_next yX6_next ∈ pm_w := pm_wm 47 rfl (gw_selects _ _ _)
set_option maxRecDepth 20000 in
theorem pw_522 : Cond.constant RX6 219 (99999) ∈ pm_w := pm_t5 (List.mem_of_getElem? (i := 42) rfl) (by decide +kernel)
set_option maxRecDepth 20000 in
theorem pw_523 : Cond.code yX6_pageGoes cX6_pageGoes 2 (none) ∈ pm_w := pm_t5 (List.mem_of_getElem? (i := 29) rfl) (gw_code _ _ _ _)
set_option maxRecDepth 20000 in
theorem pw_524 : Cond.methodLink RX6 220 yX6_pageGoes ∈ pm_w := pm_t5 (List.mem_of_getElem? (i := 26) rfl) (gw_methodLink _ _ _)
set_option maxRecDepth 20000 in
theorem pw_525 : Cond.instanceMethod yX6_pageGoes ∈ pm_w := pm_t5 (List.mem_of_getElem? (i := 28) rfl) (gw_instanceMethod _)
set_option maxRecDepth 20000 in
theorem pw_526 : Cond.selects RX6 yX6_pageGoes yX6_pageGoes ∈ pm_w := pm_wm 46 rfl (gw_selects _ _ _)
set_option maxRecDepth 20000 in
theorem pw_527 : Cond.code yX6_writes cX6_writes 3 (some .int) ∈ pm_w := pm_t5 (List.mem_of_getElem? (i := 41) rfl) (gw_code _ _ _ _)
set_option maxRecDepth 20000 in
theorem pw_528 : Cond.methodLink RX6 223 yX6_writes ∈ pm_w := pm_t5 (List.mem_of_getElem? (i := 38) rfl) (gw_methodLink _ _ _)
set_option maxRecDepth 20000 in
theorem pw_529 : Cond.instanceMethod yX6_writes ∈ pm_w := pm_t5 (List.mem_of_getElem? (i := 40) rfl) (gw_instanceMethod _)
set_option maxRecDepth 20000 in
theorem pw_530 : Cond.selects RX6 yX6_writes yX6_writes ∈ pm_w := pm_wm 49 rfl (gw_selects _ _ _)
set_option maxRecDepth 20000 in
theorem pw_531 : Cond.code yX6_weekGoes cX6_weekGoes 3 (some .int) ∈ pm_w := pm_t5 (List.mem_of_getElem? (i := 25) rfl) (gw_code _ _ _ _)
set_option maxRecDepth 20000 in
theorem pw_532 : Cond.methodLink RX6 226 yX6_weekGoes ∈ pm_w := pm_t5 (List.mem_of_getElem? (i := 22) rfl) (gw_methodLink _ _ _)
set_option maxRecDepth 20000 in
theorem pw_533 : Cond.instanceMethod yX6_weekGoes ∈ pm_w := pm_t5 (List.mem_of_getElem? (i := 24) rfl) (gw_instanceMethod _)
set_option maxRecDepth 20000 in
theorem pw_534 : Cond.selects RX6 yX6_weekGoes yX6_weekGoes ∈ pm_w := pm_wm 45 rfl (gw_selects _ _ _)
set_option maxRecDepth 20000 in
theorem pw_535 : Cond.code yX6_sumOf cX6_sumOf 4 (some .int) ∈ pm_w := pm_t5 (List.mem_of_getElem? (i := 46) rfl) (gw_code _ _ _ _)
set_option maxRecDepth 20000 in
theorem pw_536 : Cond.methodLink RX6 229 yX6_sumOf ∈ pm_w := pm_t5 (List.mem_of_getElem? (i := 43) rfl) (gw_methodLink _ _ _)
set_option maxRecDepth 20000 in
theorem pw_537 : Cond.instanceMethod yX6_sumOf ∈ pm_w := pm_t5 (List.mem_of_getElem? (i := 45) rfl) (gw_instanceMethod _)
set_option maxRecDepth 20000 in
theorem pw_538 : Cond.selects RX6 yX6_sumOf yX6_sumOf ∈ pm_w := pm_wm 50 rfl (gw_selects _ _ _)
set_option maxRecDepth 20000 in
theorem pw_539 : Cond.constant RX6 232 (1103515245) ∈ pm_w := pm_t5 (List.mem_of_getElem? (i := 63) rfl) (by decide +kernel)
set_option maxRecDepth 20000 in
theorem pw_540 : Cond.code yX6_drawn cX6_drawn 1 (some .int) ∈ pm_w := pm_t5 (List.mem_of_getElem? (i := 62) rfl) (gw_code _ _ _ _)
set_option maxRecDepth 20000 in
theorem pw_541 : Cond.methodLink RX6 233 yX6_drawn ∈ pm_w := pm_t5 (List.mem_of_getElem? (i := 59) rfl) (gw_methodLink _ _ _)
set_option maxRecDepth 20000 in
theorem pw_542 : Cond.instanceMethod yX6_drawn ∈ pm_w := pm_t5 (List.mem_of_getElem? (i := 61) rfl) (gw_instanceMethod _)
set_option maxRecDepth 20000 in
theorem pw_543 : Cond.selects RX6 yX6_drawn yX6_drawn ∈ pm_w := pm_wm 52 rfl (gw_selects _ _ _)
set_option maxRecDepth 20000 in
theorem pw_544 : Cond.code yX6_weekByDraws cX6_weekByDraws 2 (some .int) ∈ pm_w := pm_t5 (List.mem_of_getElem? (i := 58) rfl) (gw_code _ _ _ _)
set_option maxRecDepth 20000 in
theorem pw_545 : Cond.methodLink RX6 236 yX6_weekByDraws ∈ pm_w := pm_t5 (List.mem_of_getElem? (i := 55) rfl) (gw_methodLink _ _ _)
set_option maxRecDepth 20000 in
theorem pw_546 : Cond.instanceMethod yX6_weekByDraws ∈ pm_w := pm_t5 (List.mem_of_getElem? (i := 57) rfl) (gw_instanceMethod _)
set_option maxRecDepth 20000 in
theorem pw_547 : Cond.selects RX6 yX6_weekByDraws yX6_weekByDraws ∈ pm_w := pm_wm 51 rfl (gw_selects _ _ _)
set_option maxRecDepth 20000 in
theorem pw_548 : Cond.code yX6_wordsBehind cX6_wordsBehind 4 (some .int) ∈ pm_w := pm_t5 (List.mem_of_getElem? (i := 71) rfl) (gw_code _ _ _ _)
set_option maxRecDepth 20000 in
theorem pw_549 : Cond.methodLink RX6 239 yX6_wordsBehind ∈ pm_w := pm_t5 (List.mem_of_getElem? (i := 68) rfl) (gw_methodLink _ _ _)
set_option maxRecDepth 20000 in
theorem pw_550 : Cond.instanceMethod yX6_wordsBehind ∈ pm_w := pm_t5 (List.mem_of_getElem? (i := 70) rfl) (gw_instanceMethod _)
set_option maxRecDepth 20000 in
theorem pw_551 : Cond.selects RX6 yX6_wordsBehind yX6_wordsBehind ∈ pm_w := pm_wm 53 rfl (gw_selects _ _ _)
set_option maxRecDepth 20000 in
theorem pw_552 : Cond.code yX6_readySet cX6_readySet 3 (some .int) ∈ pm_w := pm_t5 (List.mem_of_getElem? (i := 79) rfl) (gw_code _ _ _ _)
set_option maxRecDepth 20000 in
theorem pw_553 : Cond.methodLink RX6 242 yX6_readySet ∈ pm_w := pm_t5 (List.mem_of_getElem? (i := 76) rfl) (gw_methodLink _ _ _)
set_option maxRecDepth 20000 in
theorem pw_554 : Cond.instanceMethod yX6_readySet ∈ pm_w := pm_t5 (List.mem_of_getElem? (i := 78) rfl) (gw_instanceMethod _)
set_option maxRecDepth 20000 in
theorem pw_555 : Cond.selects RX6 yX6_readySet yX6_readySet ∈ pm_w := pm_wm 54 rfl (gw_selects _ _ _)
set_option maxRecDepth 20000 in
theorem pw_556 : Cond.code yX6_ones cX6_ones 3 (some .int) ∈ pm_w := pm_t5 (List.mem_of_getElem? (i := 114) rfl) (gw_code _ _ _ _)
set_option maxRecDepth 20000 in
theorem pw_557 : Cond.methodLink RX6 245 yX6_ones ∈ pm_w := pm_t5 (List.mem_of_getElem? (i := 112) rfl) (gw_methodLink _ _ _)
set_option maxRecDepth 20000 in
theorem pw_558 : Cond.static yX6_ones ∈ pm_w := pm_t5 (List.mem_of_getElem? (i := 113) rfl) (gw_static _)
set_option maxRecDepth 20000 in
theorem pw_559 : Cond.code yX6_thoughtOf cX6_thoughtOf 4 (some .int) ∈ pm_w := pm_t5 (List.mem_of_getElem? (i := 122) rfl) (gw_code _ _ _ _)
set_option maxRecDepth 20000 in
theorem pw_560 : Cond.methodLink RX6 248 yX6_thoughtOf ∈ pm_w := pm_t5 (List.mem_of_getElem? (i := 119) rfl) (gw_methodLink _ _ _)
set_option maxRecDepth 20000 in
theorem pw_561 : Cond.instanceMethod yX6_thoughtOf ∈ pm_w := pm_t5 (List.mem_of_getElem? (i := 121) rfl) (gw_instanceMethod _)
set_option maxRecDepth 20000 in
theorem pw_562 : Cond.selects RX6 yX6_thoughtOf yX6_thoughtOf ∈ pm_w := pm_wm 55 rfl (gw_selects _ _ _)
set_option maxRecDepth 20000 in
theorem pw_563 : Cond.code yX6_isShelf cX6_isShelf 1 (some .boolean) ∈ pm_w := pm_t5 (List.mem_of_getElem? (i := 129) rfl) (gw_code _ _ _ _)
set_option maxRecDepth 20000 in
theorem pw_564 : Cond.methodLink RX6 251 yX6_isShelf ∈ pm_w := pm_t5 (List.mem_of_getElem? (i := 127) rfl) (gw_methodLink _ _ _)
set_option maxRecDepth 20000 in
theorem pw_565 : Cond.static yX6_isShelf ∈ pm_w := pm_t5 (List.mem_of_getElem? (i := 128) rfl) (gw_static _)
set_option maxRecDepth 20000 in
theorem pw_566 : Cond.code yX6_isSo cX6_isSo 5 (some .boolean) ∈ pm_w := pm_t5 (List.mem_of_getElem? (i := 133) rfl) (gw_code _ _ _ _)
set_option maxRecDepth 20000 in
theorem pw_567 : Cond.methodLink RX6 254 yX6_isSo ∈ pm_w := pm_t5 (List.mem_of_getElem? (i := 130) rfl) (gw_methodLink _ _ _)
set_option maxRecDepth 20000 in
theorem pw_568 : Cond.instanceMethod yX6_isSo ∈ pm_w := pm_t5 (List.mem_of_getElem? (i := 132) rfl) (gw_instanceMethod _)
set_option maxRecDepth 20000 in
theorem pw_569 : Cond.selects RX6 yX6_isSo yX6_isSo ∈ pm_w := pm_wm 56 rfl (gw_selects _ _ _)
set_option maxRecDepth 20000 in
theorem pw_570 : Cond.code yX6_powerOf cX6_powerOf 5 (some .long) ∈ pm_w := pm_t5 (List.mem_of_getElem? (i := 140) rfl) (gw_code _ _ _ _)
set_option maxRecDepth 20000 in
theorem pw_571 : Cond.methodLink RX6 257 yX6_powerOf ∈ pm_w := pm_t5 (List.mem_of_getElem? (i := 138) rfl) (gw_methodLink _ _ _)
set_option maxRecDepth 20000 in
theorem pw_572 : Cond.static yX6_powerOf ∈ pm_w := pm_t5 (List.mem_of_getElem? (i := 139) rfl) (gw_static _)
set_option maxRecDepth 20000 in
theorem pw_573 : Cond.code yX6_lowest cX6_lowest 11 (some .long) ∈ pm_w := pm_t5 (List.mem_of_getElem? (i := 143) rfl) (gw_code _ _ _ _)
set_option maxRecDepth 20000 in
theorem pw_574 : Cond.methodLink RX6 261 yX6_lowest ∈ pm_w := pm_t5 (List.mem_of_getElem? (i := 141) rfl) (gw_methodLink _ _ _)
set_option maxRecDepth 20000 in
theorem pw_575 : Cond.static yX6_lowest ∈ pm_w := pm_t5 (List.mem_of_getElem? (i := 142) rfl) (gw_static _)
set_option maxRecDepth 20000 in
theorem pw_576 : Cond.constantLong RX6 265 (100) ∈ pm_w := pm_t5 (List.mem_of_getElem? (i := 148) rfl) (by decide +kernel)
set_option maxRecDepth 20000 in
theorem pw_577 : Cond.code yX6_findRows cX6_findRows 5 (none) ∈ pm_w := pm_t5 (List.mem_of_getElem? (i := 156) rfl) (gw_code _ _ _ _)
set_option maxRecDepth 20000 in
theorem pw_578 : Cond.methodLink RX6 267 yX6_findRows ∈ pm_w := pm_t5 (List.mem_of_getElem? (i := 153) rfl) (gw_methodLink _ _ _)
set_option maxRecDepth 20000 in
theorem pw_579 : Cond.instanceMethod yX6_findRows ∈ pm_w := pm_t5 (List.mem_of_getElem? (i := 155) rfl) (gw_instanceMethod _)
set_option maxRecDepth 20000 in
theorem pw_580 : Cond.selects RX6 yX6_findRows yX6_findRows ∈ pm_w := pm_wm 57 rfl (gw_selects _ _ _)
set_option maxRecDepth 20000 in
theorem pw_581 : Cond.code yX6_isRow cX6_isRow 3 (some .boolean) ∈ pm_w := pm_t5 (List.mem_of_getElem? (i := 164) rfl) (gw_code _ _ _ _)
set_option maxRecDepth 20000 in
theorem pw_582 : Cond.methodLink RX6 271 yX6_isRow ∈ pm_w := pm_t5 (List.mem_of_getElem? (i := 161) rfl) (gw_methodLink _ _ _)
set_option maxRecDepth 20000 in
theorem pw_583 : Cond.instanceMethod yX6_isRow ∈ pm_w := pm_t5 (List.mem_of_getElem? (i := 163) rfl) (gw_instanceMethod _)
set_option maxRecDepth 20000 in
theorem pw_584 : Cond.selects RX6 yX6_isRow yX6_isRow ∈ pm_w := pm_wm 58 rfl (gw_selects _ _ _)
set_option maxRecDepth 20000 in
theorem pw_585 : Cond.code yX6_lacksSort cX6_lacksSort 3 (some .int) ∈ pm_w := pm_t5 (List.mem_of_getElem? (i := 180) rfl) (gw_code _ _ _ _)
set_option maxRecDepth 20000 in
theorem pw_586 : Cond.methodLink RX6 274 yX6_lacksSort ∈ pm_w := pm_t5 (List.mem_of_getElem? (i := 177) rfl) (gw_methodLink _ _ _)
set_option maxRecDepth 20000 in
theorem pw_587 : Cond.instanceMethod yX6_lacksSort ∈ pm_w := pm_t5 (List.mem_of_getElem? (i := 179) rfl) (gw_instanceMethod _)
set_option maxRecDepth 20000 in
theorem pw_588 : Cond.selects RX6 yX6_lacksSort yX6_lacksSort ∈ pm_w := pm_wm 59 rfl (gw_selects _ _ _)
set_option maxRecDepth 20000 in
theorem pw_589 : Cond.code yX6_isHeld cX6_isHeld 3 (some .boolean) ∈ pm_w := pm_t5 (List.mem_of_getElem? (i := 200) rfl) (gw_code _ _ _ _)
set_option maxRecDepth 20000 in
theorem pw_590 : Cond.methodLink RX6 277 yX6_isHeld ∈ pm_w := pm_t5 (List.mem_of_getElem? (i := 197) rfl) (gw_methodLink _ _ _)
set_option maxRecDepth 20000 in
theorem pw_591 : Cond.instanceMethod yX6_isHeld ∈ pm_w := pm_t5 (List.mem_of_getElem? (i := 199) rfl) (gw_instanceMethod _)
set_option maxRecDepth 20000 in
theorem pw_592 : Cond.selects RX6 yX6_isHeld yX6_isHeld ∈ pm_w := pm_wm 60 rfl (gw_selects _ _ _)
set_option maxRecDepth 20000 in
theorem pw_593 : Cond.code yX6_kindOn cX6_kindOn 2 (some .int) ∈ pm_w := pm_t5 (List.mem_of_getElem? (i := 208) rfl) (gw_code _ _ _ _)
set_option maxRecDepth 20000 in
theorem pw_594 : Cond.methodLink RX6 280 yX6_kindOn ∈ pm_w := pm_t5 (List.mem_of_getElem? (i := 205) rfl) (gw_methodLink _ _ _)
set_option maxRecDepth 20000 in
theorem pw_595 : Cond.instanceMethod yX6_kindOn ∈ pm_w := pm_t5 (List.mem_of_getElem? (i := 207) rfl) (gw_instanceMethod _)
set_option maxRecDepth 20000 in
theorem pw_596 : Cond.selects RX6 yX6_kindOn yX6_kindOn ∈ pm_w := pm_wm 61 rfl (gw_selects _ _ _)
set_option maxRecDepth 20000 in
theorem pw_597 : Cond.code yX6_isUnder cX6_isUnder 2 (some .boolean) ∈ pm_w := pm_t5 (List.mem_of_getElem? (i := 211) rfl) (gw_code _ _ _ _)
set_option maxRecDepth 20000 in
theorem pw_598 : Cond.methodLink RX6 283 yX6_isUnder ∈ pm_w := pm_t5 (List.mem_of_getElem? (i := 209) rfl) (gw_methodLink _ _ _)
set_option maxRecDepth 20000 in
theorem pw_599 : Cond.static yX6_isUnder ∈ pm_w := pm_t5 (List.mem_of_getElem? (i := 210) rfl) (gw_static _)
set_option maxRecDepth 20000 in
theorem pw_600 : Cond.fieldLink RX6 286 "BlankRationsModel" "bodies" "I" ∈ pm_w := pm_t4 (List.mem_of_getElem? (i := 37) rfl) (gw_fieldLink _ _ _ _ _)
set_option maxRecDepth 20000 in
theorem pw_601 : Cond.code yX6_ran cX6_ran 2 (none) ∈ pm_w := pm_t5 (List.mem_of_getElem? (i := 227) rfl) (gw_code _ _ _ _)
set_option maxRecDepth 20000 in
theorem pw_602 : Cond.methodLink RX6 289 yX6_ran ∈ pm_w := pm_t5 (List.mem_of_getElem? (i := 224) rfl) (gw_methodLink _ _ _)
set_option maxRecDepth 20000 in
theorem pw_603 : Cond.instanceMethod yX6_ran ∈ pm_w := pm_t5 (List.mem_of_getElem? (i := 226) rfl) (gw_instanceMethod _)
set_option maxRecDepth 20000 in
theorem pw_604 : Cond.selects RX6 yX6_ran yX6_ran ∈ pm_w := pm_wm 64 rfl (gw_selects _ _ _)
set_option maxRecDepth 20000 in
theorem pw_605 : Cond.fieldLink RX6 292 "BlankRationsModel" "number" "I" ∈ pm_w := pm_t4 (List.mem_of_getElem? (i := 34) rfl) (gw_fieldLink _ _ _ _ _)
set_option maxRecDepth 20000 in
theorem pw_606 : Cond.code yX6_plainThinks cX6_plainThinks 2 (some .int) ∈ pm_w := pm_t5 (List.mem_of_getElem? (i := 231) rfl) (gw_code _ _ _ _)
set_option maxRecDepth 20000 in
theorem pw_607 : Cond.methodLink RX6 295 yX6_plainThinks ∈ pm_w := pm_t5 (List.mem_of_getElem? (i := 228) rfl) (gw_methodLink _ _ _)
set_option maxRecDepth 20000 in
theorem pw_608 : Cond.instanceMethod yX6_plainThinks ∈ pm_w := pm_t5 (List.mem_of_getElem? (i := 230) rfl) (gw_instanceMethod _)
set_option maxRecDepth 20000 in
theorem pw_609 : Cond.selects RX6 yX6_plainThinks yX6_plainThinks ∈ pm_w := pm_wm 65 rfl (gw_selects _ _ _)
set_option maxRecDepth 20000 in
theorem pw_610 : Cond.fieldLink RX6 298 "BlankRationsModel" "kind" "I" ∈ pm_w := pm_t4 (List.mem_of_getElem? (i := 33) rfl) (gw_fieldLink _ _ _ _ _)
set_option maxRecDepth 20000 in
theorem pw_611 : Cond.code yX6_widowThinks cX6_widowThinks 2 (some .int) ∈ pm_w := pm_t5 (List.mem_of_getElem? (i := 223) rfl) (gw_code _ _ _ _)
set_option maxRecDepth 20000 in
theorem pw_612 : Cond.methodLink RX6 301 yX6_widowThinks ∈ pm_w := pm_t5 (List.mem_of_getElem? (i := 220) rfl) (gw_methodLink _ _ _)
set_option maxRecDepth 20000 in
theorem pw_613 : Cond.instanceMethod yX6_widowThinks ∈ pm_w := pm_t5 (List.mem_of_getElem? (i := 222) rfl) (gw_instanceMethod _)
set_option maxRecDepth 20000 in
theorem pw_614 : Cond.selects RX6 yX6_widowThinks yX6_widowThinks ∈ pm_w := pm_wm 63 rfl (gw_selects _ _ _)
set_option maxRecDepth 20000 in
theorem pw_615 : Cond.fieldLink RX6 304 "BlankRationsModel" "hand" "I" ∈ pm_w := pm_t4 (List.mem_of_getElem? (i := 35) rfl) (gw_fieldLink _ _ _ _ _)
set_option maxRecDepth 20000 in
theorem pw_616 : Cond.code yX6_thinksIt cX6_thinksIt 2 (some .int) ∈ pm_w := pm_t5 (List.mem_of_getElem? (i := 219) rfl) (gw_code _ _ _ _)
set_option maxRecDepth 20000 in
theorem pw_617 : Cond.methodLink RX6 307 yX6_thinksIt ∈ pm_w := pm_t5 (List.mem_of_getElem? (i := 216) rfl) (gw_methodLink _ _ _)
set_option maxRecDepth 20000 in
theorem pw_618 : Cond.instanceMethod yX6_thinksIt ∈ pm_w := pm_t5 (List.mem_of_getElem? (i := 218) rfl) (gw_instanceMethod _)
set_option maxRecDepth 20000 in
theorem pw_619 : Cond.selects RX6 yX6_thinksIt yX6_thinksIt ∈ pm_w := pm_wm 62 rfl (gw_selects _ _ _)
set_option maxRecDepth 20000 in
theorem pw_620 : Cond.code yX6_plainAsks cX6_plainAsks 2 (some .int) ∈ pm_w := pm_t5 (List.mem_of_getElem? (i := 239) rfl) (gw_code _ _ _ _)
set_option maxRecDepth 20000 in
theorem pw_621 : Cond.methodLink RX6 310 yX6_plainAsks ∈ pm_w := pm_t5 (List.mem_of_getElem? (i := 236) rfl) (gw_methodLink _ _ _)
set_option maxRecDepth 20000 in
theorem pw_622 : Cond.instanceMethod yX6_plainAsks ∈ pm_w := pm_t5 (List.mem_of_getElem? (i := 238) rfl) (gw_instanceMethod _)
set_option maxRecDepth 20000 in
theorem pw_623 : Cond.selects RX6 yX6_plainAsks yX6_plainAsks ∈ pm_w := pm_wm 67 rfl (gw_selects _ _ _)
set_option maxRecDepth 20000 in
theorem pw_624 : Cond.fieldLink RX6 313 "BlankRationsModel" "isParted" "Z" ∈ pm_w := pm_t4 (List.mem_of_getElem? (i := 38) rfl) (gw_fieldLink _ _ _ _ _)
set_option maxRecDepth 20000 in
theorem pw_625 : Cond.code yX6_plainParts cX6_plainParts 2 (some .int) ∈ pm_w := pm_t6 (List.mem_of_getElem? (i := 7) rfl) (gw_code _ _ _ _)
set_option maxRecDepth 20000 in
theorem pw_626 : Cond.methodLink RX6 316 yX6_plainParts ∈ pm_w := pm_t6 (List.mem_of_getElem? (i := 4) rfl) (gw_methodLink _ _ _)
set_option maxRecDepth 20000 in
theorem pw_627 : Cond.instanceMethod yX6_plainParts ∈ pm_w := pm_t6 (List.mem_of_getElem? (i := 6) rfl) (gw_instanceMethod _)
set_option maxRecDepth 20000 in
theorem pw_628 : Cond.selects RX6 yX6_plainParts yX6_plainParts ∈ pm_w := pm_wm 69 rfl (gw_selects _ _ _)
set_option maxRecDepth 20000 in
theorem pw_629 : Cond.code yX6_asksIt cX6_asksIt 3 (some .int) ∈ pm_w := pm_t5 (List.mem_of_getElem? (i := 235) rfl) (gw_code _ _ _ _)
set_option maxRecDepth 20000 in
theorem pw_630 : Cond.methodLink RX6 319 yX6_asksIt ∈ pm_w := pm_t5 (List.mem_of_getElem? (i := 232) rfl) (gw_methodLink _ _ _)
set_option maxRecDepth 20000 in
theorem pw_631 : Cond.instanceMethod yX6_asksIt ∈ pm_w := pm_t5 (List.mem_of_getElem? (i := 234) rfl) (gw_instanceMethod _)
set_option maxRecDepth 20000 in
theorem pw_632 : Cond.selects RX6 yX6_asksIt yX6_asksIt ∈ pm_w := pm_wm 66 rfl (gw_selects _ _ _)
set_option maxRecDepth 20000 in
theorem pw_633 : Cond.code yX6_plainWrites cX6_plainWrites 2 (some .int) ∈ pm_w := pm_t6 (List.mem_of_getElem? (i := 15) rfl) (gw_code _ _ _ _)
set_option maxRecDepth 20000 in
theorem pw_634 : Cond.methodLink RX6 322 yX6_plainWrites ∈ pm_w := pm_t6 (List.mem_of_getElem? (i := 12) rfl) (gw_methodLink _ _ _)
set_option maxRecDepth 20000 in
theorem pw_635 : Cond.instanceMethod yX6_plainWrites ∈ pm_w := pm_t6 (List.mem_of_getElem? (i := 14) rfl) (gw_instanceMethod _)
set_option maxRecDepth 20000 in
theorem pw_636 : Cond.selects RX6 yX6_plainWrites yX6_plainWrites ∈ pm_w := pm_wm 71 rfl (gw_selects _ _ _)
set_option maxRecDepth 20000 in
theorem pw_637 : Cond.code yX6_partsIt cX6_partsIt 3 (some .int) ∈ pm_w := pm_t6 (List.mem_of_getElem? (i := 3) rfl) (gw_code _ _ _ _)
set_option maxRecDepth 20000 in
theorem pw_638 : Cond.methodLink RX6 325 yX6_partsIt ∈ pm_w := pm_t6 (List.mem_of_getElem? (i := 0) rfl) (gw_methodLink _ _ _)
set_option maxRecDepth 20000 in
theorem pw_639 : Cond.instanceMethod yX6_partsIt ∈ pm_w := pm_t6 (List.mem_of_getElem? (i := 2) rfl) (gw_instanceMethod _)
set_option maxRecDepth 20000 in
theorem pw_640 : Cond.selects RX6 yX6_partsIt yX6_partsIt ∈ pm_w := pm_wm 68 rfl (gw_selects _ _ _)
set_option maxRecDepth 20000 in
theorem pw_641 : Cond.code yX6_writesIt cX6_writesIt 3 (some .int) ∈ pm_w := pm_t6 (List.mem_of_getElem? (i := 11) rfl) (gw_code _ _ _ _)
set_option maxRecDepth 20000 in
theorem pw_642 : Cond.methodLink RX6 328 yX6_writesIt ∈ pm_w := pm_t6 (List.mem_of_getElem? (i := 8) rfl) (gw_methodLink _ _ _)
set_option maxRecDepth 20000 in
theorem pw_643 : Cond.instanceMethod yX6_writesIt ∈ pm_w := pm_t6 (List.mem_of_getElem? (i := 10) rfl) (gw_instanceMethod _)
set_option maxRecDepth 20000 in
theorem pw_644 : Cond.selects RX6 yX6_writesIt yX6_writesIt ∈ pm_w := pm_wm 70 rfl (gw_selects _ _ _)
set_option maxRecDepth 20000 in
theorem pw_645 : Cond.code yX6_manyWith cX6_manyWith 4 (some .int) ∈ pm_w := pm_t6 (List.mem_of_getElem? (i := 27) rfl) (gw_code _ _ _ _)
set_option maxRecDepth 20000 in
theorem pw_646 : Cond.methodLink RX6 331 yX6_manyWith ∈ pm_w := pm_t6 (List.mem_of_getElem? (i := 24) rfl) (gw_methodLink _ _ _)
set_option maxRecDepth 20000 in
theorem pw_647 : Cond.instanceMethod yX6_manyWith ∈ pm_w := pm_t6 (List.mem_of_getElem? (i := 26) rfl) (gw_instanceMethod _)
set_option maxRecDepth 20000 in
theorem pw_648 : Cond.selects RX6 yX6_manyWith yX6_manyWith ∈ pm_w := pm_wm 72 rfl (gw_selects _ _ _)
set_option maxRecDepth 20000 in
theorem pw_649 : Cond.fieldLink RX6 334 "BlankRationsModel" "isKept" "Z" ∈ pm_w := pm_t4 (List.mem_of_getElem? (i := 13) rfl) (gw_fieldLink _ _ _ _ _)
set_option maxRecDepth 20000 in
theorem pw_650 : Cond.constant RJ6 265 (1431655765) ∈ pm_w := pm_t3 (List.mem_of_getElem? (i := 84) rfl) (by decide +kernel)
set_option maxRecDepth 20000 in
theorem pw_651 : Cond.constant RJ6 266 (858993459) ∈ pm_w := pm_t3 (List.mem_of_getElem? (i := 85) rfl) (by decide +kernel)
set_option maxRecDepth 20000 in
theorem pw_652 : Cond.constant RJ6 267 (252645135) ∈ pm_w := pm_t3 (List.mem_of_getElem? (i := 86) rfl) (by decide +kernel)
set_option maxRecDepth 20000 in
theorem pw_653 : Cond.fieldLink RJ0 9 "java/lang/String" "value" "[B" ∈ pm_w := pm_t6 (List.mem_of_getElem? (i := 37) rfl) (gw_fieldLink _ _ _ _ _)
set_option maxRecDepth 20000 in
theorem pw_654 : Cond.code yJ0_coder_7d493 cJ0_coder_7d493 1 (some .byte) ∈ pm_w := pm_t2 (List.mem_of_getElem? (i := 55) rfl) (gw_code _ _ _ _)
set_option maxRecDepth 20000 in
theorem pw_655 : Cond.methodLink RJ0 335 yJ0_coder_7d493 ∈ pm_w := pm_t2 (List.mem_of_getElem? (i := 52) rfl) (gw_methodLink _ _ _)
set_option maxRecDepth 20000 in
theorem pw_656 : Cond.instanceMethod yJ0_coder_7d493 ∈ pm_w := pm_t2 (List.mem_of_getElem? (i := 53) rfl) (gw_instanceMethod _)
set_option maxRecDepth 20000 in
theorem pw_657 : Cond.selects RJ0 yJ0_coder_7d493 yJ0_coder_7d493 ∈ pm_w := pm_t2 (List.mem_of_getElem? (i := 54) rfl) (gw_selects _ _ _)
set_option maxRecDepth 20000 in
theorem pw_658 : Cond.code yJ0_isLatin1_aae02 cJ0_isLatin1_aae02 1 (some .boolean) ∈ pm_w := pm_t2 (List.mem_of_getElem? (i := 65) rfl) (gw_code _ _ _ _)
set_option maxRecDepth 20000 in
theorem pw_659 : Cond.methodLink RJ0 492 yJ0_isLatin1_aae02 ∈ pm_w := pm_t2 (List.mem_of_getElem? (i := 62) rfl) (gw_methodLink _ _ _)
set_option maxRecDepth 20000 in
theorem pw_660 : Cond.instanceMethod yJ0_isLatin1_aae02 ∈ pm_w := pm_t2 (List.mem_of_getElem? (i := 63) rfl) (gw_instanceMethod _)
set_option maxRecDepth 20000 in
theorem pw_661 : Cond.selects RJ0 yJ0_isLatin1_aae02 yJ0_isLatin1_aae02 ∈ pm_w := pm_t2 (List.mem_of_getElem? (i := 64) rfl) (gw_selects _ _ _)
set_option maxRecDepth 20000 in
theorem pw_662 : Cond.code yJ1_charAt_3b067 cJ1_charAt_3b067 2 (some .char) ∈ pm_w := pm_t2 (List.mem_of_getElem? (i := 68) rfl) (gw_code _ _ _ _)
set_option maxRecDepth 20000 in
theorem pw_663 : Cond.initialized RJ1 ∈ pm_w := pm_t1 (List.mem_of_getElem? (i := 10) rfl) (by decide +kernel)
set_option maxRecDepth 20000 in
theorem pw_664 : Cond.methodLink RJ0 495 yJ1_charAt_3b067 ∈ pm_w := pm_t2 (List.mem_of_getElem? (i := 66) rfl) (gw_methodLink _ _ _)
set_option maxRecDepth 20000 in
theorem pw_665 : Cond.static yJ1_charAt_3b067 ∈ pm_w := pm_t2 (List.mem_of_getElem? (i := 67) rfl) (gw_static _)
set_option maxRecDepth 20000 in
theorem pw_666 : Cond.fieldLink RJ0 38 "java/lang/String" "COMPACT_STRINGS" "Z" ∈ pm_w := pm_t2 (List.mem_of_getElem? (i := 56) rfl) (gw_fieldLink _ _ _ _ _)
set_option maxRecDepth 20000 in
theorem pw_667 : Cond.fieldLink RJ0 15 "java/lang/String" "coder" "B" ∈ pm_w := pm_t6 (List.mem_of_getElem? (i := 38) rfl) (gw_fieldLink _ _ _ _ _)
set_option maxRecDepth 20000 in
theorem pw_668 : Cond.fieldLink RJ0 1053 "jdk/internal/util/Preconditions" "SIOOBE_FORMATTER" "Ljava/util/function/BiFunction;" ∈ pm_w := pm_t2 (List.mem_of_getElem? (i := 72) rfl) (gw_fieldLink _ _ _ _ _)
set_option maxRecDepth 20000 in
theorem pw_669 : Cond.code yJ3_checkIndex_8e157 cJ3_checkIndex_8e157 3 (some .int) ∈ pm_w := pm_t2 (List.mem_of_getElem? (i := 76) rfl) (gw_code _ _ _ _)
set_option maxRecDepth 20000 in
theorem pw_670 : Cond.initialized RJ3 ∈ pm_w := pm_t1 (List.mem_of_getElem? (i := 11) rfl) (by decide +kernel)
set_option maxRecDepth 20000 in
theorem pw_671 : Cond.methodLink RJ0 1059 yJ3_checkIndex_8e157 ∈ pm_w := pm_t2 (List.mem_of_getElem? (i := 74) rfl) (gw_methodLink _ _ _)
set_option maxRecDepth 20000 in
theorem pw_672 : Cond.static yJ3_checkIndex_8e157 ∈ pm_w := pm_t2 (List.mem_of_getElem? (i := 75) rfl) (gw_static _)
set_option maxRecDepth 20000 in
theorem pw_673 : Cond.code yJ0_checkIndex_df160 cJ0_checkIndex_df160 2 (none) ∈ pm_w := pm_t2 (List.mem_of_getElem? (i := 71) rfl) (gw_code _ _ _ _)
set_option maxRecDepth 20000 in
theorem pw_674 : Cond.methodLink RJ1 9 yJ0_checkIndex_df160 ∈ pm_w := pm_t2 (List.mem_of_getElem? (i := 69) rfl) (gw_methodLink _ _ _)
set_option maxRecDepth 20000 in
theorem pw_675 : Cond.static yJ0_checkIndex_df160 ∈ pm_w := pm_t2 (List.mem_of_getElem? (i := 70) rfl) (gw_static _)
set_option maxRecDepth 20000 in
theorem pw_676 : Cond.classLink RL 7 "BlankRations" ∈ pm_w := pm_t1 (List.mem_of_getElem? (i := 15) rfl) (by decide +kernel)
set_option maxRecDepth 20000 in
theorem pw_677 : Cond.instantiable "BlankRations" 11 ∈ pm_w := pm_t1 (List.mem_of_getElem? (i := 16) rfl) (by decide +kernel)
set_option maxRecDepth 20000 in
theorem pw_678 : Cond.code yX5_init cX5_init 2 (none) ∈ pm_w := pm_t1 (List.mem_of_getElem? (i := 19) rfl) (gw_code _ _ _ _)
set_option maxRecDepth 20000 in
theorem pw_679 : Cond.methodLink RL 9 yX5_init ∈ pm_w := pm_t1 (List.mem_of_getElem? (i := 17) rfl) (gw_methodLink _ _ _)
set_option maxRecDepth 20000 in
theorem pw_680 : Cond.instanceMethod yX5_init ∈ pm_w := pm_t1 (List.mem_of_getElem? (i := 18) rfl) (gw_instanceMethod _)
set_option maxRecDepth 20000 in
theorem pw_681 : Cond.classLink RL 10 "BlankRationsModel" ∈ pm_w := pm_t4 (List.mem_of_getElem? (i := 0) rfl) (by decide +kernel)
set_option maxRecDepth 20000 in
theorem pw_682 : Cond.instantiable "BlankRationsModel" 30 ∈ pm_w := pm_t4 (List.mem_of_getElem? (i := 1) rfl) (by decide +kernel)
set_option maxRecDepth 20000 in
theorem pw_683 : Cond.code yX6_init cX6_init 1 (none) ∈ pm_w := pm_t4 (List.mem_of_getElem? (i := 4) rfl) (gw_code _ _ _ _)
set_option maxRecDepth 20000 in
theorem pw_684 : Cond.methodLink RL 12 yX6_init ∈ pm_w := pm_t4 (List.mem_of_getElem? (i := 2) rfl) (gw_methodLink _ _ _)
set_option maxRecDepth 20000 in
theorem pw_685 : Cond.instanceMethod yX6_init ∈ pm_w := pm_t4 (List.mem_of_getElem? (i := 3) rfl) (gw_instanceMethod _)
set_option maxRecDepth 20000 in
theorem pw_686 : Cond.constantLong RL 13 (4294967295) ∈ pm_w := pm_t6 (List.mem_of_getElem? (i := 36) rfl) (by decide +kernel)
set_option maxRecDepth 20000 in
theorem pw_687 : Cond.code yX5_feed cX5_feed 4 (some .int) ∈ pm_w := pm_t1 (List.mem_of_getElem? (i := 233) rfl) (gw_code _ _ _ _)
set_option maxRecDepth 20000 in
theorem pw_688 : Cond.methodLink RL 15 yX5_feed ∈ pm_w := pm_t1 (List.mem_of_getElem? (i := 230) rfl) (gw_methodLink _ _ _)
set_option maxRecDepth 20000 in
theorem pw_689 : Cond.instanceMethod yX5_feed ∈ pm_w := pm_t1 (List.mem_of_getElem? (i := 231) rfl) (gw_instanceMethod _)
set_option maxRecDepth 20000 in
theorem pw_690 : Cond.selects RX5 yX5_feed yX5_feed ∈ pm_w := pm_t1 (List.mem_of_getElem? (i := 232) rfl) (gw_selects _ _ _)
set_option maxRecDepth 20000 in
theorem pw_691 : Cond.code yX6_feed cX6_feed 5 (some .int) ∈ pm_w := pm_t4 (List.mem_of_getElem? (i := 103) rfl) (gw_code _ _ _ _)
set_option maxRecDepth 20000 in
theorem pw_692 : Cond.methodLink RL 19 yX6_feed ∈ pm_w := pm_t4 (List.mem_of_getElem? (i := 100) rfl) (gw_methodLink _ _ _)
set_option maxRecDepth 20000 in
theorem pw_693 : Cond.instanceMethod yX6_feed ∈ pm_w := pm_t4 (List.mem_of_getElem? (i := 101) rfl) (gw_instanceMethod _)
set_option maxRecDepth 20000 in
theorem pw_694 : Cond.selects RX6 yX6_feed yX6_feed ∈ pm_w := pm_t4 (List.mem_of_getElem? (i := 102) rfl) (gw_selects _ _ _)
set_option maxRecDepth 20000 in
theorem pw_695 : Cond.code yX5_post cX5_post 2 (some .int) ∈ pm_w := pm_t2 (List.mem_of_getElem? (i := 5) rfl) (gw_code _ _ _ _)
set_option maxRecDepth 20000 in
theorem pw_696 : Cond.methodLink RL 20 yX5_post ∈ pm_w := pm_t2 (List.mem_of_getElem? (i := 2) rfl) (gw_methodLink _ _ _)
set_option maxRecDepth 20000 in
theorem pw_697 : Cond.instanceMethod yX5_post ∈ pm_w := pm_t2 (List.mem_of_getElem? (i := 3) rfl) (gw_instanceMethod _)
set_option maxRecDepth 20000 in
theorem pw_698 : Cond.selects RX5 yX5_post yX5_post ∈ pm_w := pm_t2 (List.mem_of_getElem? (i := 4) rfl) (gw_selects _ _ _)
set_option maxRecDepth 20000 in
theorem pw_699 : Cond.code yX6_post cX6_post 1 (some .int) ∈ pm_w := pm_t4 (List.mem_of_getElem? (i := 111) rfl) (gw_code _ _ _ _)
set_option maxRecDepth 20000 in
theorem pw_700 : Cond.methodLink RL 24 yX6_post ∈ pm_w := pm_t4 (List.mem_of_getElem? (i := 108) rfl) (gw_methodLink _ _ _)
set_option maxRecDepth 20000 in
theorem pw_701 : Cond.instanceMethod yX6_post ∈ pm_w := pm_t4 (List.mem_of_getElem? (i := 109) rfl) (gw_instanceMethod _)
set_option maxRecDepth 20000 in
theorem pw_702 : Cond.selects RX6 yX6_post yX6_post ∈ pm_w := pm_t4 (List.mem_of_getElem? (i := 110) rfl) (gw_selects _ _ _)
set_option maxRecDepth 20000 in
theorem pw_703 : Cond.code yX5_set cX5_set 4 (some .int) ∈ pm_w := pm_t2 (List.mem_of_getElem? (i := 151) rfl) (gw_code _ _ _ _)
set_option maxRecDepth 20000 in
theorem pw_704 : Cond.methodLink RL 25 yX5_set ∈ pm_w := pm_t2 (List.mem_of_getElem? (i := 148) rfl) (gw_methodLink _ _ _)
set_option maxRecDepth 20000 in
theorem pw_705 : Cond.instanceMethod yX5_set ∈ pm_w := pm_t2 (List.mem_of_getElem? (i := 149) rfl) (gw_instanceMethod _)
set_option maxRecDepth 20000 in
theorem pw_706 : Cond.selects RX5 yX5_set yX5_set ∈ pm_w := pm_t2 (List.mem_of_getElem? (i := 150) rfl) (gw_selects _ _ _)
set_option maxRecDepth 20000 in
theorem pw_707 : Cond.code yX6_set cX6_set 3 (some .int) ∈ pm_w := pm_t4 (List.mem_of_getElem? (i := 187) rfl) (gw_code _ _ _ _)
set_option maxRecDepth 20000 in
theorem pw_708 : Cond.methodLink RL 29 yX6_set ∈ pm_w := pm_t4 (List.mem_of_getElem? (i := 184) rfl) (gw_methodLink _ _ _)
set_option maxRecDepth 20000 in
theorem pw_709 : Cond.instanceMethod yX6_set ∈ pm_w := pm_t4 (List.mem_of_getElem? (i := 185) rfl) (gw_instanceMethod _)
set_option maxRecDepth 20000 in
theorem pw_710 : Cond.selects RX6 yX6_set yX6_set ∈ pm_w := pm_t4 (List.mem_of_getElem? (i := 186) rfl) (gw_selects _ _ _)
set_option maxRecDepth 20000 in
theorem pw_711 : Cond.code yX5_lawOf cX5_lawOf 2 (some .int) ∈ pm_w := pm_t2 (List.mem_of_getElem? (i := 156) rfl) (gw_code _ _ _ _)
set_option maxRecDepth 20000 in
theorem pw_712 : Cond.methodLink RL 30 yX5_lawOf ∈ pm_w := pm_t2 (List.mem_of_getElem? (i := 153) rfl) (gw_methodLink _ _ _)
set_option maxRecDepth 20000 in
theorem pw_713 : Cond.instanceMethod yX5_lawOf ∈ pm_w := pm_t2 (List.mem_of_getElem? (i := 154) rfl) (gw_instanceMethod _)
set_option maxRecDepth 20000 in
theorem pw_714 : Cond.selects RX5 yX5_lawOf yX5_lawOf ∈ pm_w := pm_t2 (List.mem_of_getElem? (i := 155) rfl) (gw_selects _ _ _)
set_option maxRecDepth 20000 in
theorem pw_715 : Cond.code yX6_lawOf cX6_lawOf 2 (some .int) ∈ pm_w := pm_t4 (List.mem_of_getElem? (i := 195) rfl) (gw_code _ _ _ _)
set_option maxRecDepth 20000 in
theorem pw_716 : Cond.methodLink RL 34 yX6_lawOf ∈ pm_w := pm_t4 (List.mem_of_getElem? (i := 192) rfl) (gw_methodLink _ _ _)
set_option maxRecDepth 20000 in
theorem pw_717 : Cond.instanceMethod yX6_lawOf ∈ pm_w := pm_t4 (List.mem_of_getElem? (i := 193) rfl) (gw_instanceMethod _)
set_option maxRecDepth 20000 in
theorem pw_718 : Cond.selects RX6 yX6_lawOf yX6_lawOf ∈ pm_w := pm_t4 (List.mem_of_getElem? (i := 194) rfl) (gw_selects _ _ _)
set_option maxRecDepth 20000 in
theorem pw_719 : Cond.code yX5_person cX5_person 5 (some .int) ∈ pm_w := pm_t2 (List.mem_of_getElem? (i := 160) rfl) (gw_code _ _ _ _)
set_option maxRecDepth 20000 in
theorem pw_720 : Cond.methodLink RL 35 yX5_person ∈ pm_w := pm_t2 (List.mem_of_getElem? (i := 157) rfl) (gw_methodLink _ _ _)
set_option maxRecDepth 20000 in
theorem pw_721 : Cond.instanceMethod yX5_person ∈ pm_w := pm_t2 (List.mem_of_getElem? (i := 158) rfl) (gw_instanceMethod _)
set_option maxRecDepth 20000 in
theorem pw_722 : Cond.selects RX5 yX5_person yX5_person ∈ pm_w := pm_t2 (List.mem_of_getElem? (i := 159) rfl) (gw_selects _ _ _)
set_option maxRecDepth 20000 in
theorem pw_723 : Cond.code yX6_person cX6_person 6 (some .int) ∈ pm_w := pm_t4 (List.mem_of_getElem? (i := 199) rfl) (gw_code _ _ _ _)
set_option maxRecDepth 20000 in
theorem pw_724 : Cond.methodLink RL 39 yX6_person ∈ pm_w := pm_t4 (List.mem_of_getElem? (i := 196) rfl) (gw_methodLink _ _ _)
set_option maxRecDepth 20000 in
theorem pw_725 : Cond.instanceMethod yX6_person ∈ pm_w := pm_t4 (List.mem_of_getElem? (i := 197) rfl) (gw_instanceMethod _)
set_option maxRecDepth 20000 in
theorem pw_726 : Cond.selects RX6 yX6_person yX6_person ∈ pm_w := pm_t4 (List.mem_of_getElem? (i := 198) rfl) (gw_selects _ _ _)
set_option maxRecDepth 20000 in
theorem pw_727 : Cond.code yX5_of cX5_of 3 (some .int) ∈ pm_w := pm_t2 (List.mem_of_getElem? (i := 166) rfl) (gw_code _ _ _ _)
set_option maxRecDepth 20000 in
theorem pw_728 : Cond.methodLink RL 40 yX5_of ∈ pm_w := pm_t2 (List.mem_of_getElem? (i := 163) rfl) (gw_methodLink _ _ _)
set_option maxRecDepth 20000 in
theorem pw_729 : Cond.instanceMethod yX5_of ∈ pm_w := pm_t2 (List.mem_of_getElem? (i := 164) rfl) (gw_instanceMethod _)
set_option maxRecDepth 20000 in
theorem pw_730 : Cond.selects RX5 yX5_of yX5_of ∈ pm_w := pm_t2 (List.mem_of_getElem? (i := 165) rfl) (gw_selects _ _ _)
set_option maxRecDepth 20000 in
theorem pw_731 : Cond.code yX6_of cX6_of 3 (some .int) ∈ pm_w := pm_t4 (List.mem_of_getElem? (i := 210) rfl) (gw_code _ _ _ _)
set_option maxRecDepth 20000 in
theorem pw_732 : Cond.methodLink RL 43 yX6_of ∈ pm_w := pm_t4 (List.mem_of_getElem? (i := 207) rfl) (gw_methodLink _ _ _)
set_option maxRecDepth 20000 in
theorem pw_733 : Cond.instanceMethod yX6_of ∈ pm_w := pm_t4 (List.mem_of_getElem? (i := 208) rfl) (gw_instanceMethod _)
set_option maxRecDepth 20000 in
theorem pw_734 : Cond.selects RX6 yX6_of yX6_of ∈ pm_w := pm_t4 (List.mem_of_getElem? (i := 209) rfl) (gw_selects _ _ _)
set_option maxRecDepth 20000 in
theorem pw_735 : Cond.code yX5_does cX5_does 3 (some .int) ∈ pm_w := pm_t2 (List.mem_of_getElem? (i := 175) rfl) (gw_code _ _ _ _)
set_option maxRecDepth 20000 in
theorem pw_736 : Cond.methodLink RL 44 yX5_does ∈ pm_w := pm_t2 (List.mem_of_getElem? (i := 172) rfl) (gw_methodLink _ _ _)
set_option maxRecDepth 20000 in
theorem pw_737 : Cond.instanceMethod yX5_does ∈ pm_w := pm_t2 (List.mem_of_getElem? (i := 173) rfl) (gw_instanceMethod _)
set_option maxRecDepth 20000 in
theorem pw_738 : Cond.selects RX5 yX5_does yX5_does ∈ pm_w := pm_t2 (List.mem_of_getElem? (i := 174) rfl) (gw_selects _ _ _)
set_option maxRecDepth 20000 in
theorem pw_739 : Cond.code yX6_does cX6_does 3 (some .int) ∈ pm_w := pm_t4 (List.mem_of_getElem? (i := 222) rfl) (gw_code _ _ _ _)
set_option maxRecDepth 20000 in
theorem pw_740 : Cond.methodLink RL 47 yX6_does ∈ pm_w := pm_t4 (List.mem_of_getElem? (i := 219) rfl) (gw_methodLink _ _ _)
set_option maxRecDepth 20000 in
theorem pw_741 : Cond.instanceMethod yX6_does ∈ pm_w := pm_t4 (List.mem_of_getElem? (i := 220) rfl) (gw_instanceMethod _)
set_option maxRecDepth 20000 in
theorem pw_742 : Cond.selects RX6 yX6_does yX6_does ∈ pm_w := pm_t4 (List.mem_of_getElem? (i := 221) rfl) (gw_selects _ _ _)
set_option maxRecDepth 20000 in
theorem pw_743 : Cond.code yX5_mind cX5_mind 5 (some .int) ∈ pm_w := pm_t2 (List.mem_of_getElem? (i := 201) rfl) (gw_code _ _ _ _)
set_option maxRecDepth 20000 in
theorem pw_744 : Cond.methodLink RL 48 yX5_mind ∈ pm_w := pm_t2 (List.mem_of_getElem? (i := 198) rfl) (gw_methodLink _ _ _)
set_option maxRecDepth 20000 in
theorem pw_745 : Cond.instanceMethod yX5_mind ∈ pm_w := pm_t2 (List.mem_of_getElem? (i := 199) rfl) (gw_instanceMethod _)
set_option maxRecDepth 20000 in
theorem pw_746 : Cond.selects RX5 yX5_mind yX5_mind ∈ pm_w := pm_t2 (List.mem_of_getElem? (i := 200) rfl) (gw_selects _ _ _)
set_option maxRecDepth 20000 in
theorem pw_747 : Cond.code yX6_mind cX6_mind 4 (some .int) ∈ pm_w := pm_t5 (List.mem_of_getElem? (i := 5) rfl) (gw_code _ _ _ _)
set_option maxRecDepth 20000 in
theorem pw_748 : Cond.methodLink RL 52 yX6_mind ∈ pm_w := pm_t5 (List.mem_of_getElem? (i := 2) rfl) (gw_methodLink _ _ _)
set_option maxRecDepth 20000 in
theorem pw_749 : Cond.instanceMethod yX6_mind ∈ pm_w := pm_t5 (List.mem_of_getElem? (i := 3) rfl) (gw_instanceMethod _)
set_option maxRecDepth 20000 in
theorem pw_750 : Cond.selects RX6 yX6_mind yX6_mind ∈ pm_w := pm_t5 (List.mem_of_getElem? (i := 4) rfl) (gw_selects _ _ _)
set_option maxRecDepth 20000 in
theorem pw_751 : Cond.code yX5_thought cX5_thought 4 (some .int) ∈ pm_w := pm_t2 (List.mem_of_getElem? (i := 205) rfl) (gw_code _ _ _ _)
set_option maxRecDepth 20000 in
theorem pw_752 : Cond.methodLink RL 53 yX5_thought ∈ pm_w := pm_t2 (List.mem_of_getElem? (i := 202) rfl) (gw_methodLink _ _ _)
set_option maxRecDepth 20000 in
theorem pw_753 : Cond.instanceMethod yX5_thought ∈ pm_w := pm_t2 (List.mem_of_getElem? (i := 203) rfl) (gw_instanceMethod _)
set_option maxRecDepth 20000 in
theorem pw_754 : Cond.selects RX5 yX5_thought yX5_thought ∈ pm_w := pm_t2 (List.mem_of_getElem? (i := 204) rfl) (gw_selects _ _ _)
set_option maxRecDepth 20000 in
theorem pw_755 : Cond.code yX6_thought cX6_thought 3 (some .int) ∈ pm_w := pm_t5 (List.mem_of_getElem? (i := 9) rfl) (gw_code _ _ _ _)
set_option maxRecDepth 20000 in
theorem pw_756 : Cond.methodLink RL 56 yX6_thought ∈ pm_w := pm_t5 (List.mem_of_getElem? (i := 6) rfl) (gw_methodLink _ _ _)
set_option maxRecDepth 20000 in
theorem pw_757 : Cond.instanceMethod yX6_thought ∈ pm_w := pm_t5 (List.mem_of_getElem? (i := 7) rfl) (gw_instanceMethod _)
set_option maxRecDepth 20000 in
theorem pw_758 : Cond.selects RX6 yX6_thought yX6_thought ∈ pm_w := pm_t5 (List.mem_of_getElem? (i := 8) rfl) (gw_selects _ _ _)
set_option maxRecDepth 20000 in
theorem pw_759 : Cond.code yX5_own cX5_own 4 (some .int) ∈ pm_w := pm_t2 (List.mem_of_getElem? (i := 209) rfl) (gw_code _ _ _ _)
set_option maxRecDepth 20000 in
theorem pw_760 : Cond.methodLink RL 57 yX5_own ∈ pm_w := pm_t2 (List.mem_of_getElem? (i := 206) rfl) (gw_methodLink _ _ _)
set_option maxRecDepth 20000 in
theorem pw_761 : Cond.instanceMethod yX5_own ∈ pm_w := pm_t2 (List.mem_of_getElem? (i := 207) rfl) (gw_instanceMethod _)
set_option maxRecDepth 20000 in
theorem pw_762 : Cond.selects RX5 yX5_own yX5_own ∈ pm_w := pm_t2 (List.mem_of_getElem? (i := 208) rfl) (gw_selects _ _ _)
set_option maxRecDepth 20000 in
theorem pw_763 : Cond.code yX6_own cX6_own 3 (some .int) ∈ pm_w := pm_t5 (List.mem_of_getElem? (i := 13) rfl) (gw_code _ _ _ _)
set_option maxRecDepth 20000 in
theorem pw_764 : Cond.methodLink RL 60 yX6_own ∈ pm_w := pm_t5 (List.mem_of_getElem? (i := 10) rfl) (gw_methodLink _ _ _)
set_option maxRecDepth 20000 in
theorem pw_765 : Cond.instanceMethod yX6_own ∈ pm_w := pm_t5 (List.mem_of_getElem? (i := 11) rfl) (gw_instanceMethod _)
set_option maxRecDepth 20000 in
theorem pw_766 : Cond.selects RX6 yX6_own yX6_own ∈ pm_w := pm_t5 (List.mem_of_getElem? (i := 12) rfl) (gw_selects _ _ _)
set_option maxRecDepth 20000 in
theorem pw_767 : Cond.code yX5_give cX5_give 3 (some .int) ∈ pm_w := pm_t2 (List.mem_of_getElem? (i := 213) rfl) (gw_code _ _ _ _)
set_option maxRecDepth 20000 in
theorem pw_768 : Cond.methodLink RL 61 yX5_give ∈ pm_w := pm_t2 (List.mem_of_getElem? (i := 210) rfl) (gw_methodLink _ _ _)
set_option maxRecDepth 20000 in
theorem pw_769 : Cond.instanceMethod yX5_give ∈ pm_w := pm_t2 (List.mem_of_getElem? (i := 211) rfl) (gw_instanceMethod _)
set_option maxRecDepth 20000 in
theorem pw_770 : Cond.selects RX5 yX5_give yX5_give ∈ pm_w := pm_t2 (List.mem_of_getElem? (i := 212) rfl) (gw_selects _ _ _)
set_option maxRecDepth 20000 in
theorem pw_771 : Cond.code yX6_give cX6_give 3 (some .int) ∈ pm_w := pm_t5 (List.mem_of_getElem? (i := 17) rfl) (gw_code _ _ _ _)
set_option maxRecDepth 20000 in
theorem pw_772 : Cond.methodLink RL 64 yX6_give ∈ pm_w := pm_t5 (List.mem_of_getElem? (i := 14) rfl) (gw_methodLink _ _ _)
set_option maxRecDepth 20000 in
theorem pw_773 : Cond.instanceMethod yX6_give ∈ pm_w := pm_t5 (List.mem_of_getElem? (i := 15) rfl) (gw_instanceMethod _)
set_option maxRecDepth 20000 in
theorem pw_774 : Cond.selects RX6 yX6_give yX6_give ∈ pm_w := pm_t5 (List.mem_of_getElem? (i := 16) rfl) (gw_selects _ _ _)
set_option maxRecDepth 20000 in
theorem pw_775 : Cond.code yX5_weeks cX5_weeks 3 (some .int) ∈ pm_w := pm_t2 (List.mem_of_getElem? (i := 217) rfl) (gw_code _ _ _ _)
set_option maxRecDepth 20000 in
theorem pw_776 : Cond.methodLink RL 65 yX5_weeks ∈ pm_w := pm_t2 (List.mem_of_getElem? (i := 214) rfl) (gw_methodLink _ _ _)
set_option maxRecDepth 20000 in
theorem pw_777 : Cond.instanceMethod yX5_weeks ∈ pm_w := pm_t2 (List.mem_of_getElem? (i := 215) rfl) (gw_instanceMethod _)
set_option maxRecDepth 20000 in
theorem pw_778 : Cond.selects RX5 yX5_weeks yX5_weeks ∈ pm_w := pm_t2 (List.mem_of_getElem? (i := 216) rfl) (gw_selects _ _ _)
set_option maxRecDepth 20000 in
theorem pw_779 : Cond.code yX6_weeks cX6_weeks 3 (some .int) ∈ pm_w := pm_t5 (List.mem_of_getElem? (i := 21) rfl) (gw_code _ _ _ _)
set_option maxRecDepth 20000 in
theorem pw_780 : Cond.methodLink RL 68 yX6_weeks ∈ pm_w := pm_t5 (List.mem_of_getElem? (i := 18) rfl) (gw_methodLink _ _ _)
set_option maxRecDepth 20000 in
theorem pw_781 : Cond.instanceMethod yX6_weeks ∈ pm_w := pm_t5 (List.mem_of_getElem? (i := 19) rfl) (gw_instanceMethod _)
set_option maxRecDepth 20000 in
theorem pw_782 : Cond.selects RX6 yX6_weeks yX6_weeks ∈ pm_w := pm_t5 (List.mem_of_getElem? (i := 20) rfl) (gw_selects _ _ _)
set_option maxRecDepth 20000 in
theorem pw_783 : Cond.code yX5_seed cX5_seed 3 (some .int) ∈ pm_w := pm_t3 (List.mem_of_getElem? (i := 11) rfl) (gw_code _ _ _ _)
set_option maxRecDepth 20000 in
theorem pw_784 : Cond.methodLink RL 69 yX5_seed ∈ pm_w := pm_t3 (List.mem_of_getElem? (i := 8) rfl) (gw_methodLink _ _ _)
set_option maxRecDepth 20000 in
theorem pw_785 : Cond.instanceMethod yX5_seed ∈ pm_w := pm_t3 (List.mem_of_getElem? (i := 9) rfl) (gw_instanceMethod _)
set_option maxRecDepth 20000 in
theorem pw_786 : Cond.selects RX5 yX5_seed yX5_seed ∈ pm_w := pm_t3 (List.mem_of_getElem? (i := 10) rfl) (gw_selects _ _ _)
set_option maxRecDepth 20000 in
theorem pw_787 : Cond.code yX6_seed cX6_seed 2 (some .int) ∈ pm_w := pm_t5 (List.mem_of_getElem? (i := 50) rfl) (gw_code _ _ _ _)
set_option maxRecDepth 20000 in
theorem pw_788 : Cond.methodLink RL 72 yX6_seed ∈ pm_w := pm_t5 (List.mem_of_getElem? (i := 47) rfl) (gw_methodLink _ _ _)
set_option maxRecDepth 20000 in
theorem pw_789 : Cond.instanceMethod yX6_seed ∈ pm_w := pm_t5 (List.mem_of_getElem? (i := 48) rfl) (gw_instanceMethod _)
set_option maxRecDepth 20000 in
theorem pw_790 : Cond.selects RX6 yX6_seed yX6_seed ∈ pm_w := pm_t5 (List.mem_of_getElem? (i := 49) rfl) (gw_selects _ _ _)
set_option maxRecDepth 20000 in
theorem pw_791 : Cond.code yX5_week cX5_week 1 (some .int) ∈ pm_w := pm_t3 (List.mem_of_getElem? (i := 15) rfl) (gw_code _ _ _ _)
set_option maxRecDepth 20000 in
theorem pw_792 : Cond.methodLink RL 73 yX5_week ∈ pm_w := pm_t3 (List.mem_of_getElem? (i := 12) rfl) (gw_methodLink _ _ _)
set_option maxRecDepth 20000 in
theorem pw_793 : Cond.instanceMethod yX5_week ∈ pm_w := pm_t3 (List.mem_of_getElem? (i := 13) rfl) (gw_instanceMethod _)
set_option maxRecDepth 20000 in
theorem pw_794 : Cond.selects RX5 yX5_week yX5_week ∈ pm_w := pm_t3 (List.mem_of_getElem? (i := 14) rfl) (gw_selects _ _ _)
set_option maxRecDepth 20000 in
theorem pw_795 : Cond.code yX6_week cX6_week 1 (some .int) ∈ pm_w := pm_t5 (List.mem_of_getElem? (i := 54) rfl) (gw_code _ _ _ _)
set_option maxRecDepth 20000 in
theorem pw_796 : Cond.methodLink RL 76 yX6_week ∈ pm_w := pm_t5 (List.mem_of_getElem? (i := 51) rfl) (gw_methodLink _ _ _)
set_option maxRecDepth 20000 in
theorem pw_797 : Cond.instanceMethod yX6_week ∈ pm_w := pm_t5 (List.mem_of_getElem? (i := 52) rfl) (gw_instanceMethod _)
set_option maxRecDepth 20000 in
theorem pw_798 : Cond.selects RX6 yX6_week yX6_week ∈ pm_w := pm_t5 (List.mem_of_getElem? (i := 53) rfl) (gw_selects _ _ _)
set_option maxRecDepth 20000 in
theorem pw_799 : Cond.code yX5_poor cX5_poor 7 (some .int) ∈ pm_w := pm_t3 (List.mem_of_getElem? (i := 29) rfl) (gw_code _ _ _ _)
set_option maxRecDepth 20000 in
theorem pw_800 : Cond.methodLink RL 77 yX5_poor ∈ pm_w := pm_t3 (List.mem_of_getElem? (i := 26) rfl) (gw_methodLink _ _ _)
set_option maxRecDepth 20000 in
theorem pw_801 : Cond.instanceMethod yX5_poor ∈ pm_w := pm_t3 (List.mem_of_getElem? (i := 27) rfl) (gw_instanceMethod _)
set_option maxRecDepth 20000 in
theorem pw_802 : Cond.selects RX5 yX5_poor yX5_poor ∈ pm_w := pm_t3 (List.mem_of_getElem? (i := 28) rfl) (gw_selects _ _ _)
set_option maxRecDepth 20000 in
theorem pw_803 : Cond.code yX6_poor cX6_poor 6 (some .int) ∈ pm_w := pm_t5 (List.mem_of_getElem? (i := 67) rfl) (gw_code _ _ _ _)
set_option maxRecDepth 20000 in
theorem pw_804 : Cond.methodLink RL 80 yX6_poor ∈ pm_w := pm_t5 (List.mem_of_getElem? (i := 64) rfl) (gw_methodLink _ _ _)
set_option maxRecDepth 20000 in
theorem pw_805 : Cond.instanceMethod yX6_poor ∈ pm_w := pm_t5 (List.mem_of_getElem? (i := 65) rfl) (gw_instanceMethod _)
set_option maxRecDepth 20000 in
theorem pw_806 : Cond.selects RX6 yX6_poor yX6_poor ∈ pm_w := pm_t5 (List.mem_of_getElem? (i := 66) rfl) (gw_selects _ _ _)
set_option maxRecDepth 20000 in
theorem pw_807 : Cond.code yX5_state cX5_state 2 (some .int) ∈ pm_w := pm_t3 (List.mem_of_getElem? (i := 40) rfl) (gw_code _ _ _ _)
set_option maxRecDepth 20000 in
theorem pw_808 : Cond.methodLink RL 81 yX5_state ∈ pm_w := pm_t3 (List.mem_of_getElem? (i := 37) rfl) (gw_methodLink _ _ _)
set_option maxRecDepth 20000 in
theorem pw_809 : Cond.instanceMethod yX5_state ∈ pm_w := pm_t3 (List.mem_of_getElem? (i := 38) rfl) (gw_instanceMethod _)
set_option maxRecDepth 20000 in
theorem pw_810 : Cond.selects RX5 yX5_state yX5_state ∈ pm_w := pm_t3 (List.mem_of_getElem? (i := 39) rfl) (gw_selects _ _ _)
set_option maxRecDepth 20000 in
theorem pw_811 : Cond.code yX6_state cX6_state 2 (some .int) ∈ pm_w := pm_t5 (List.mem_of_getElem? (i := 75) rfl) (gw_code _ _ _ _)
set_option maxRecDepth 20000 in
theorem pw_812 : Cond.methodLink RL 84 yX6_state ∈ pm_w := pm_t5 (List.mem_of_getElem? (i := 72) rfl) (gw_methodLink _ _ _)
set_option maxRecDepth 20000 in
theorem pw_813 : Cond.instanceMethod yX6_state ∈ pm_w := pm_t5 (List.mem_of_getElem? (i := 73) rfl) (gw_instanceMethod _)
set_option maxRecDepth 20000 in
theorem pw_814 : Cond.selects RX6 yX6_state yX6_state ∈ pm_w := pm_t5 (List.mem_of_getElem? (i := 74) rfl) (gw_selects _ _ _)
set_option maxRecDepth 20000 in
theorem pw_815 : Cond.code yX5_words cX5_words 2 (some .int) ∈ pm_w := pm_t3 (List.mem_of_getElem? (i := 48) rfl) (gw_code _ _ _ _)
set_option maxRecDepth 20000 in
theorem pw_816 : Cond.methodLink RL 85 yX5_words ∈ pm_w := pm_t3 (List.mem_of_getElem? (i := 45) rfl) (gw_methodLink _ _ _)
set_option maxRecDepth 20000 in
theorem pw_817 : Cond.instanceMethod yX5_words ∈ pm_w := pm_t3 (List.mem_of_getElem? (i := 46) rfl) (gw_instanceMethod _)
set_option maxRecDepth 20000 in
theorem pw_818 : Cond.selects RX5 yX5_words yX5_words ∈ pm_w := pm_t3 (List.mem_of_getElem? (i := 47) rfl) (gw_selects _ _ _)
set_option maxRecDepth 20000 in
theorem pw_819 : Cond.code yX6_words cX6_words 2 (some .int) ∈ pm_w := pm_t5 (List.mem_of_getElem? (i := 83) rfl) (gw_code _ _ _ _)
set_option maxRecDepth 20000 in
theorem pw_820 : Cond.methodLink RL 88 yX6_words ∈ pm_w := pm_t5 (List.mem_of_getElem? (i := 80) rfl) (gw_methodLink _ _ _)
set_option maxRecDepth 20000 in
theorem pw_821 : Cond.instanceMethod yX6_words ∈ pm_w := pm_t5 (List.mem_of_getElem? (i := 81) rfl) (gw_instanceMethod _)
set_option maxRecDepth 20000 in
theorem pw_822 : Cond.selects RX6 yX6_words yX6_words ∈ pm_w := pm_t5 (List.mem_of_getElem? (i := 82) rfl) (gw_selects _ _ _)
set_option maxRecDepth 20000 in
theorem pw_823 : Cond.code yX5_gets cX5_gets 4 (some .int) ∈ pm_w := pm_t3 (List.mem_of_getElem? (i := 52) rfl) (gw_code _ _ _ _)
set_option maxRecDepth 20000 in
theorem pw_824 : Cond.methodLink RL 89 yX5_gets ∈ pm_w := pm_t3 (List.mem_of_getElem? (i := 49) rfl) (gw_methodLink _ _ _)
set_option maxRecDepth 20000 in
theorem pw_825 : Cond.instanceMethod yX5_gets ∈ pm_w := pm_t3 (List.mem_of_getElem? (i := 50) rfl) (gw_instanceMethod _)
set_option maxRecDepth 20000 in
theorem pw_826 : Cond.selects RX5 yX5_gets yX5_gets ∈ pm_w := pm_t3 (List.mem_of_getElem? (i := 51) rfl) (gw_selects _ _ _)
set_option maxRecDepth 20000 in
theorem pw_827 : Cond.code yX6_gets cX6_gets 4 (some .int) ∈ pm_w := pm_t5 (List.mem_of_getElem? (i := 87) rfl) (gw_code _ _ _ _)
set_option maxRecDepth 20000 in
theorem pw_828 : Cond.methodLink RL 92 yX6_gets ∈ pm_w := pm_t5 (List.mem_of_getElem? (i := 84) rfl) (gw_methodLink _ _ _)
set_option maxRecDepth 20000 in
theorem pw_829 : Cond.instanceMethod yX6_gets ∈ pm_w := pm_t5 (List.mem_of_getElem? (i := 85) rfl) (gw_instanceMethod _)
set_option maxRecDepth 20000 in
theorem pw_830 : Cond.selects RX6 yX6_gets yX6_gets ∈ pm_w := pm_t5 (List.mem_of_getElem? (i := 86) rfl) (gw_selects _ _ _)
set_option maxRecDepth 20000 in
theorem pw_831 : Cond.code yX5_idle cX5_idle 3 (some .int) ∈ pm_w := pm_t3 (List.mem_of_getElem? (i := 56) rfl) (gw_code _ _ _ _)
set_option maxRecDepth 20000 in
theorem pw_832 : Cond.methodLink RL 93 yX5_idle ∈ pm_w := pm_t3 (List.mem_of_getElem? (i := 53) rfl) (gw_methodLink _ _ _)
set_option maxRecDepth 20000 in
theorem pw_833 : Cond.instanceMethod yX5_idle ∈ pm_w := pm_t3 (List.mem_of_getElem? (i := 54) rfl) (gw_instanceMethod _)
set_option maxRecDepth 20000 in
theorem pw_834 : Cond.selects RX5 yX5_idle yX5_idle ∈ pm_w := pm_t3 (List.mem_of_getElem? (i := 55) rfl) (gw_selects _ _ _)
set_option maxRecDepth 20000 in
theorem pw_835 : Cond.code yX6_idle cX6_idle 2 (some .int) ∈ pm_w := pm_t5 (List.mem_of_getElem? (i := 91) rfl) (gw_code _ _ _ _)
set_option maxRecDepth 20000 in
theorem pw_836 : Cond.methodLink RL 96 yX6_idle ∈ pm_w := pm_t5 (List.mem_of_getElem? (i := 88) rfl) (gw_methodLink _ _ _)
set_option maxRecDepth 20000 in
theorem pw_837 : Cond.instanceMethod yX6_idle ∈ pm_w := pm_t5 (List.mem_of_getElem? (i := 89) rfl) (gw_instanceMethod _)
set_option maxRecDepth 20000 in
theorem pw_838 : Cond.selects RX6 yX6_idle yX6_idle ∈ pm_w := pm_t5 (List.mem_of_getElem? (i := 90) rfl) (gw_selects _ _ _)
set_option maxRecDepth 20000 in
theorem pw_839 : Cond.code yX5_vanFor cX5_vanFor 5 (some .int) ∈ pm_w := pm_t3 (List.mem_of_getElem? (i := 64) rfl) (gw_code _ _ _ _)
set_option maxRecDepth 20000 in
theorem pw_840 : Cond.methodLink RL 97 yX5_vanFor ∈ pm_w := pm_t3 (List.mem_of_getElem? (i := 61) rfl) (gw_methodLink _ _ _)
set_option maxRecDepth 20000 in
theorem pw_841 : Cond.instanceMethod yX5_vanFor ∈ pm_w := pm_t3 (List.mem_of_getElem? (i := 62) rfl) (gw_instanceMethod _)
set_option maxRecDepth 20000 in
theorem pw_842 : Cond.selects RX5 yX5_vanFor yX5_vanFor ∈ pm_w := pm_t3 (List.mem_of_getElem? (i := 63) rfl) (gw_selects _ _ _)
set_option maxRecDepth 20000 in
theorem pw_843 : Cond.code yX6_vanFor cX6_vanFor 5 (some .int) ∈ pm_w := pm_t5 (List.mem_of_getElem? (i := 95) rfl) (gw_code _ _ _ _)
set_option maxRecDepth 20000 in
theorem pw_844 : Cond.methodLink RL 100 yX6_vanFor ∈ pm_w := pm_t5 (List.mem_of_getElem? (i := 92) rfl) (gw_methodLink _ _ _)
set_option maxRecDepth 20000 in
theorem pw_845 : Cond.instanceMethod yX6_vanFor ∈ pm_w := pm_t5 (List.mem_of_getElem? (i := 93) rfl) (gw_instanceMethod _)
set_option maxRecDepth 20000 in
theorem pw_846 : Cond.selects RX6 yX6_vanFor yX6_vanFor ∈ pm_w := pm_t5 (List.mem_of_getElem? (i := 94) rfl) (gw_selects _ _ _)
set_option maxRecDepth 20000 in
theorem pw_847 : Cond.code yX5_kindFor cX5_kindFor 8 (some .int) ∈ pm_w := pm_t3 (List.mem_of_getElem? (i := 68) rfl) (gw_code _ _ _ _)
set_option maxRecDepth 20000 in
theorem pw_848 : Cond.methodLink RL 101 yX5_kindFor ∈ pm_w := pm_t3 (List.mem_of_getElem? (i := 65) rfl) (gw_methodLink _ _ _)
set_option maxRecDepth 20000 in
theorem pw_849 : Cond.instanceMethod yX5_kindFor ∈ pm_w := pm_t3 (List.mem_of_getElem? (i := 66) rfl) (gw_instanceMethod _)
set_option maxRecDepth 20000 in
theorem pw_850 : Cond.selects RX5 yX5_kindFor yX5_kindFor ∈ pm_w := pm_t3 (List.mem_of_getElem? (i := 67) rfl) (gw_selects _ _ _)
set_option maxRecDepth 20000 in
theorem pw_851 : Cond.code yX6_kindFor cX6_kindFor 7 (some .int) ∈ pm_w := pm_t5 (List.mem_of_getElem? (i := 99) rfl) (gw_code _ _ _ _)
set_option maxRecDepth 20000 in
theorem pw_852 : Cond.methodLink RL 104 yX6_kindFor ∈ pm_w := pm_t5 (List.mem_of_getElem? (i := 96) rfl) (gw_methodLink _ _ _)
set_option maxRecDepth 20000 in
theorem pw_853 : Cond.instanceMethod yX6_kindFor ∈ pm_w := pm_t5 (List.mem_of_getElem? (i := 97) rfl) (gw_instanceMethod _)
set_option maxRecDepth 20000 in
theorem pw_854 : Cond.selects RX6 yX6_kindFor yX6_kindFor ∈ pm_w := pm_t5 (List.mem_of_getElem? (i := 98) rfl) (gw_selects _ _ _)
set_option maxRecDepth 20000 in
theorem pw_855 : Cond.code yX5_thoughtFor cX5_thoughtFor 6 (some .int) ∈ pm_w := pm_t3 (List.mem_of_getElem? (i := 72) rfl) (gw_code _ _ _ _)
set_option maxRecDepth 20000 in
theorem pw_856 : Cond.methodLink RL 105 yX5_thoughtFor ∈ pm_w := pm_t3 (List.mem_of_getElem? (i := 69) rfl) (gw_methodLink _ _ _)
set_option maxRecDepth 20000 in
theorem pw_857 : Cond.instanceMethod yX5_thoughtFor ∈ pm_w := pm_t3 (List.mem_of_getElem? (i := 70) rfl) (gw_instanceMethod _)
set_option maxRecDepth 20000 in
theorem pw_858 : Cond.selects RX5 yX5_thoughtFor yX5_thoughtFor ∈ pm_w := pm_t3 (List.mem_of_getElem? (i := 71) rfl) (gw_selects _ _ _)
set_option maxRecDepth 20000 in
theorem pw_859 : Cond.code yX6_thoughtFor cX6_thoughtFor 6 (some .int) ∈ pm_w := pm_t5 (List.mem_of_getElem? (i := 103) rfl) (gw_code _ _ _ _)
set_option maxRecDepth 20000 in
theorem pw_860 : Cond.methodLink RL 108 yX6_thoughtFor ∈ pm_w := pm_t5 (List.mem_of_getElem? (i := 100) rfl) (gw_methodLink _ _ _)
set_option maxRecDepth 20000 in
theorem pw_861 : Cond.instanceMethod yX6_thoughtFor ∈ pm_w := pm_t5 (List.mem_of_getElem? (i := 101) rfl) (gw_instanceMethod _)
set_option maxRecDepth 20000 in
theorem pw_862 : Cond.selects RX6 yX6_thoughtFor yX6_thoughtFor ∈ pm_w := pm_t5 (List.mem_of_getElem? (i := 102) rfl) (gw_selects _ _ _)
set_option maxRecDepth 20000 in
theorem pw_863 : Cond.code yX5_needed cX5_needed 6 (some .int) ∈ pm_w := pm_t3 (List.mem_of_getElem? (i := 76) rfl) (gw_code _ _ _ _)
set_option maxRecDepth 20000 in
theorem pw_864 : Cond.methodLink RL 109 yX5_needed ∈ pm_w := pm_t3 (List.mem_of_getElem? (i := 73) rfl) (gw_methodLink _ _ _)
set_option maxRecDepth 20000 in
theorem pw_865 : Cond.instanceMethod yX5_needed ∈ pm_w := pm_t3 (List.mem_of_getElem? (i := 74) rfl) (gw_instanceMethod _)
set_option maxRecDepth 20000 in
theorem pw_866 : Cond.selects RX5 yX5_needed yX5_needed ∈ pm_w := pm_t3 (List.mem_of_getElem? (i := 75) rfl) (gw_selects _ _ _)
set_option maxRecDepth 20000 in
theorem pw_867 : Cond.code yX6_needed cX6_needed 6 (some .int) ∈ pm_w := pm_t5 (List.mem_of_getElem? (i := 107) rfl) (gw_code _ _ _ _)
set_option maxRecDepth 20000 in
theorem pw_868 : Cond.methodLink RL 112 yX6_needed ∈ pm_w := pm_t5 (List.mem_of_getElem? (i := 104) rfl) (gw_methodLink _ _ _)
set_option maxRecDepth 20000 in
theorem pw_869 : Cond.instanceMethod yX6_needed ∈ pm_w := pm_t5 (List.mem_of_getElem? (i := 105) rfl) (gw_instanceMethod _)
set_option maxRecDepth 20000 in
theorem pw_870 : Cond.selects RX6 yX6_needed yX6_needed ∈ pm_w := pm_t5 (List.mem_of_getElem? (i := 106) rfl) (gw_selects _ _ _)
set_option maxRecDepth 20000 in
theorem pw_871 : Cond.code yX5_fewest cX5_fewest 6 (some .int) ∈ pm_w := pm_t3 (List.mem_of_getElem? (i := 80) rfl) (gw_code _ _ _ _)
set_option maxRecDepth 20000 in
theorem pw_872 : Cond.methodLink RL 113 yX5_fewest ∈ pm_w := pm_t3 (List.mem_of_getElem? (i := 77) rfl) (gw_methodLink _ _ _)
set_option maxRecDepth 20000 in
theorem pw_873 : Cond.instanceMethod yX5_fewest ∈ pm_w := pm_t3 (List.mem_of_getElem? (i := 78) rfl) (gw_instanceMethod _)
set_option maxRecDepth 20000 in
theorem pw_874 : Cond.selects RX5 yX5_fewest yX5_fewest ∈ pm_w := pm_t3 (List.mem_of_getElem? (i := 79) rfl) (gw_selects _ _ _)
set_option maxRecDepth 20000 in
theorem pw_875 : Cond.code yX6_fewest cX6_fewest 6 (some .int) ∈ pm_w := pm_t5 (List.mem_of_getElem? (i := 111) rfl) (gw_code _ _ _ _)
set_option maxRecDepth 20000 in
theorem pw_876 : Cond.methodLink RL 116 yX6_fewest ∈ pm_w := pm_t5 (List.mem_of_getElem? (i := 108) rfl) (gw_methodLink _ _ _)
set_option maxRecDepth 20000 in
theorem pw_877 : Cond.instanceMethod yX6_fewest ∈ pm_w := pm_t5 (List.mem_of_getElem? (i := 109) rfl) (gw_instanceMethod _)
set_option maxRecDepth 20000 in
theorem pw_878 : Cond.selects RX6 yX6_fewest yX6_fewest ∈ pm_w := pm_t5 (List.mem_of_getElem? (i := 110) rfl) (gw_selects _ _ _)
set_option maxRecDepth 20000 in
theorem pw_879 : Cond.code yX5_packed cX5_packed 4 (some .int) ∈ pm_w := pm_t3 (List.mem_of_getElem? (i := 90) rfl) (gw_code _ _ _ _)
set_option maxRecDepth 20000 in
theorem pw_880 : Cond.methodLink RL 117 yX5_packed ∈ pm_w := pm_t3 (List.mem_of_getElem? (i := 87) rfl) (gw_methodLink _ _ _)
set_option maxRecDepth 20000 in
theorem pw_881 : Cond.instanceMethod yX5_packed ∈ pm_w := pm_t3 (List.mem_of_getElem? (i := 88) rfl) (gw_instanceMethod _)
set_option maxRecDepth 20000 in
theorem pw_882 : Cond.selects RX5 yX5_packed yX5_packed ∈ pm_w := pm_t3 (List.mem_of_getElem? (i := 89) rfl) (gw_selects _ _ _)
set_option maxRecDepth 20000 in
theorem pw_883 : Cond.code yX6_packed cX6_packed 5 (some .int) ∈ pm_w := pm_t5 (List.mem_of_getElem? (i := 118) rfl) (gw_code _ _ _ _)
set_option maxRecDepth 20000 in
theorem pw_884 : Cond.methodLink RL 120 yX6_packed ∈ pm_w := pm_t5 (List.mem_of_getElem? (i := 115) rfl) (gw_methodLink _ _ _)
set_option maxRecDepth 20000 in
theorem pw_885 : Cond.instanceMethod yX6_packed ∈ pm_w := pm_t5 (List.mem_of_getElem? (i := 116) rfl) (gw_instanceMethod _)
set_option maxRecDepth 20000 in
theorem pw_886 : Cond.selects RX6 yX6_packed yX6_packed ∈ pm_w := pm_t5 (List.mem_of_getElem? (i := 117) rfl) (gw_selects _ _ _)
set_option maxRecDepth 20000 in
theorem pw_887 : Cond.code yX5_fits cX5_fits 8 (some .int) ∈ pm_w := pm_t3 (List.mem_of_getElem? (i := 99) rfl) (gw_code _ _ _ _)
set_option maxRecDepth 20000 in
theorem pw_888 : Cond.methodLink RL 121 yX5_fits ∈ pm_w := pm_t3 (List.mem_of_getElem? (i := 96) rfl) (gw_methodLink _ _ _)
set_option maxRecDepth 20000 in
theorem pw_889 : Cond.instanceMethod yX5_fits ∈ pm_w := pm_t3 (List.mem_of_getElem? (i := 97) rfl) (gw_instanceMethod _)
set_option maxRecDepth 20000 in
theorem pw_890 : Cond.selects RX5 yX5_fits yX5_fits ∈ pm_w := pm_t3 (List.mem_of_getElem? (i := 98) rfl) (gw_selects _ _ _)
set_option maxRecDepth 20000 in
theorem pw_891 : Cond.code yX6_fits cX6_fits 8 (some .int) ∈ pm_w := pm_t5 (List.mem_of_getElem? (i := 126) rfl) (gw_code _ _ _ _)
set_option maxRecDepth 20000 in
theorem pw_892 : Cond.methodLink RL 124 yX6_fits ∈ pm_w := pm_t5 (List.mem_of_getElem? (i := 123) rfl) (gw_methodLink _ _ _)
set_option maxRecDepth 20000 in
theorem pw_893 : Cond.instanceMethod yX6_fits ∈ pm_w := pm_t5 (List.mem_of_getElem? (i := 124) rfl) (gw_instanceMethod _)
set_option maxRecDepth 20000 in
theorem pw_894 : Cond.selects RX6 yX6_fits yX6_fits ∈ pm_w := pm_t5 (List.mem_of_getElem? (i := 125) rfl) (gw_selects _ _ _)
set_option maxRecDepth 20000 in
theorem pw_895 : Cond.code yX5_odds cX5_odds 10 (some .long) ∈ pm_w := pm_t3 (List.mem_of_getElem? (i := 111) rfl) (gw_code _ _ _ _)
set_option maxRecDepth 20000 in
theorem pw_896 : Cond.methodLink RL 125 yX5_odds ∈ pm_w := pm_t3 (List.mem_of_getElem? (i := 108) rfl) (gw_methodLink _ _ _)
set_option maxRecDepth 20000 in
theorem pw_897 : Cond.instanceMethod yX5_odds ∈ pm_w := pm_t3 (List.mem_of_getElem? (i := 109) rfl) (gw_instanceMethod _)
set_option maxRecDepth 20000 in
theorem pw_898 : Cond.selects RX5 yX5_odds yX5_odds ∈ pm_w := pm_t3 (List.mem_of_getElem? (i := 110) rfl) (gw_selects _ _ _)
set_option maxRecDepth 20000 in
theorem pw_899 : Cond.code yX6_odds cX6_odds 7 (some .long) ∈ pm_w := pm_t5 (List.mem_of_getElem? (i := 137) rfl) (gw_code _ _ _ _)
set_option maxRecDepth 20000 in
theorem pw_900 : Cond.methodLink RL 129 yX6_odds ∈ pm_w := pm_t5 (List.mem_of_getElem? (i := 134) rfl) (gw_methodLink _ _ _)
set_option maxRecDepth 20000 in
theorem pw_901 : Cond.instanceMethod yX6_odds ∈ pm_w := pm_t5 (List.mem_of_getElem? (i := 135) rfl) (gw_instanceMethod _)
set_option maxRecDepth 20000 in
theorem pw_902 : Cond.selects RX6 yX6_odds yX6_odds ∈ pm_w := pm_t5 (List.mem_of_getElem? (i := 136) rfl) (gw_selects _ _ _)
set_option maxRecDepth 20000 in
theorem pw_903 : Cond.code yX5_hope cX5_hope 3 (some .long) ∈ pm_w := pm_t3 (List.mem_of_getElem? (i := 125) rfl) (gw_code _ _ _ _)
set_option maxRecDepth 20000 in
theorem pw_904 : Cond.methodLink RL 130 yX5_hope ∈ pm_w := pm_t3 (List.mem_of_getElem? (i := 122) rfl) (gw_methodLink _ _ _)
set_option maxRecDepth 20000 in
theorem pw_905 : Cond.instanceMethod yX5_hope ∈ pm_w := pm_t3 (List.mem_of_getElem? (i := 123) rfl) (gw_instanceMethod _)
set_option maxRecDepth 20000 in
theorem pw_906 : Cond.selects RX5 yX5_hope yX5_hope ∈ pm_w := pm_t3 (List.mem_of_getElem? (i := 124) rfl) (gw_selects _ _ _)
set_option maxRecDepth 20000 in
theorem pw_907 : Cond.code yX6_hope cX6_hope 3 (some .long) ∈ pm_w := pm_t5 (List.mem_of_getElem? (i := 147) rfl) (gw_code _ _ _ _)
set_option maxRecDepth 20000 in
theorem pw_908 : Cond.methodLink RL 134 yX6_hope ∈ pm_w := pm_t5 (List.mem_of_getElem? (i := 144) rfl) (gw_methodLink _ _ _)
set_option maxRecDepth 20000 in
theorem pw_909 : Cond.instanceMethod yX6_hope ∈ pm_w := pm_t5 (List.mem_of_getElem? (i := 145) rfl) (gw_instanceMethod _)
set_option maxRecDepth 20000 in
theorem pw_910 : Cond.selects RX6 yX6_hope yX6_hope ∈ pm_w := pm_t5 (List.mem_of_getElem? (i := 146) rfl) (gw_selects _ _ _)
set_option maxRecDepth 20000 in
theorem pw_911 : Cond.code yX5_prove cX5_prove 6 (some .int) ∈ pm_w := pm_t3 (List.mem_of_getElem? (i := 129) rfl) (gw_code _ _ _ _)
set_option maxRecDepth 20000 in
theorem pw_912 : Cond.methodLink RL 135 yX5_prove ∈ pm_w := pm_t3 (List.mem_of_getElem? (i := 126) rfl) (gw_methodLink _ _ _)
set_option maxRecDepth 20000 in
theorem pw_913 : Cond.instanceMethod yX5_prove ∈ pm_w := pm_t3 (List.mem_of_getElem? (i := 127) rfl) (gw_instanceMethod _)
set_option maxRecDepth 20000 in
theorem pw_914 : Cond.selects RX5 yX5_prove yX5_prove ∈ pm_w := pm_t3 (List.mem_of_getElem? (i := 128) rfl) (gw_selects _ _ _)
set_option maxRecDepth 20000 in
theorem pw_915 : Cond.code yX6_prove cX6_prove 4 (some .int) ∈ pm_w := pm_t5 (List.mem_of_getElem? (i := 152) rfl) (gw_code _ _ _ _)
set_option maxRecDepth 20000 in
theorem pw_916 : Cond.methodLink RL 138 yX6_prove ∈ pm_w := pm_t5 (List.mem_of_getElem? (i := 149) rfl) (gw_methodLink _ _ _)
set_option maxRecDepth 20000 in
theorem pw_917 : Cond.instanceMethod yX6_prove ∈ pm_w := pm_t5 (List.mem_of_getElem? (i := 150) rfl) (gw_instanceMethod _)
set_option maxRecDepth 20000 in
theorem pw_918 : Cond.selects RX6 yX6_prove yX6_prove ∈ pm_w := pm_t5 (List.mem_of_getElem? (i := 151) rfl) (gw_selects _ _ _)
set_option maxRecDepth 20000 in
theorem pw_919 : Cond.code yX5_row cX5_row 3 (some .int) ∈ pm_w := pm_t3 (List.mem_of_getElem? (i := 133) rfl) (gw_code _ _ _ _)
set_option maxRecDepth 20000 in
theorem pw_920 : Cond.methodLink RL 139 yX5_row ∈ pm_w := pm_t3 (List.mem_of_getElem? (i := 130) rfl) (gw_methodLink _ _ _)
set_option maxRecDepth 20000 in
theorem pw_921 : Cond.instanceMethod yX5_row ∈ pm_w := pm_t3 (List.mem_of_getElem? (i := 131) rfl) (gw_instanceMethod _)
set_option maxRecDepth 20000 in
theorem pw_922 : Cond.selects RX5 yX5_row yX5_row ∈ pm_w := pm_t3 (List.mem_of_getElem? (i := 132) rfl) (gw_selects _ _ _)
set_option maxRecDepth 20000 in
theorem pw_923 : Cond.code yX6_row cX6_row 3 (some .int) ∈ pm_w := pm_t5 (List.mem_of_getElem? (i := 160) rfl) (gw_code _ _ _ _)
set_option maxRecDepth 20000 in
theorem pw_924 : Cond.methodLink RL 142 yX6_row ∈ pm_w := pm_t5 (List.mem_of_getElem? (i := 157) rfl) (gw_methodLink _ _ _)
set_option maxRecDepth 20000 in
theorem pw_925 : Cond.instanceMethod yX6_row ∈ pm_w := pm_t5 (List.mem_of_getElem? (i := 158) rfl) (gw_instanceMethod _)
set_option maxRecDepth 20000 in
theorem pw_926 : Cond.selects RX6 yX6_row yX6_row ∈ pm_w := pm_t5 (List.mem_of_getElem? (i := 159) rfl) (gw_selects _ _ _)
set_option maxRecDepth 20000 in
theorem pw_927 : Cond.code yX5_alterRow cX5_alterRow 5 (some .int) ∈ pm_w := pm_t3 (List.mem_of_getElem? (i := 141) rfl) (gw_code _ _ _ _)
set_option maxRecDepth 20000 in
theorem pw_928 : Cond.methodLink RL 143 yX5_alterRow ∈ pm_w := pm_t3 (List.mem_of_getElem? (i := 138) rfl) (gw_methodLink _ _ _)
set_option maxRecDepth 20000 in
theorem pw_929 : Cond.instanceMethod yX5_alterRow ∈ pm_w := pm_t3 (List.mem_of_getElem? (i := 139) rfl) (gw_instanceMethod _)
set_option maxRecDepth 20000 in
theorem pw_930 : Cond.selects RX5 yX5_alterRow yX5_alterRow ∈ pm_w := pm_t3 (List.mem_of_getElem? (i := 140) rfl) (gw_selects _ _ _)
set_option maxRecDepth 20000 in
theorem pw_931 : Cond.code yX6_alterRow cX6_alterRow 5 (some .int) ∈ pm_w := pm_t5 (List.mem_of_getElem? (i := 168) rfl) (gw_code _ _ _ _)
set_option maxRecDepth 20000 in
theorem pw_932 : Cond.methodLink RL 146 yX6_alterRow ∈ pm_w := pm_t5 (List.mem_of_getElem? (i := 165) rfl) (gw_methodLink _ _ _)
set_option maxRecDepth 20000 in
theorem pw_933 : Cond.instanceMethod yX6_alterRow ∈ pm_w := pm_t5 (List.mem_of_getElem? (i := 166) rfl) (gw_instanceMethod _)
set_option maxRecDepth 20000 in
theorem pw_934 : Cond.selects RX6 yX6_alterRow yX6_alterRow ∈ pm_w := pm_t5 (List.mem_of_getElem? (i := 167) rfl) (gw_selects _ _ _)
set_option maxRecDepth 20000 in
theorem pw_935 : Cond.code yX5_judge cX5_judge 5 (some .int) ∈ pm_w := pm_t3 (List.mem_of_getElem? (i := 145) rfl) (gw_code _ _ _ _)
set_option maxRecDepth 20000 in
theorem pw_936 : Cond.methodLink RL 147 yX5_judge ∈ pm_w := pm_t3 (List.mem_of_getElem? (i := 142) rfl) (gw_methodLink _ _ _)
set_option maxRecDepth 20000 in
theorem pw_937 : Cond.instanceMethod yX5_judge ∈ pm_w := pm_t3 (List.mem_of_getElem? (i := 143) rfl) (gw_instanceMethod _)
set_option maxRecDepth 20000 in
theorem pw_938 : Cond.selects RX5 yX5_judge yX5_judge ∈ pm_w := pm_t3 (List.mem_of_getElem? (i := 144) rfl) (gw_selects _ _ _)
set_option maxRecDepth 20000 in
theorem pw_939 : Cond.code yX6_judge cX6_judge 3 (some .int) ∈ pm_w := pm_t5 (List.mem_of_getElem? (i := 172) rfl) (gw_code _ _ _ _)
set_option maxRecDepth 20000 in
theorem pw_940 : Cond.methodLink RL 150 yX6_judge ∈ pm_w := pm_t5 (List.mem_of_getElem? (i := 169) rfl) (gw_methodLink _ _ _)
set_option maxRecDepth 20000 in
theorem pw_941 : Cond.instanceMethod yX6_judge ∈ pm_w := pm_t5 (List.mem_of_getElem? (i := 170) rfl) (gw_instanceMethod _)
set_option maxRecDepth 20000 in
theorem pw_942 : Cond.selects RX6 yX6_judge yX6_judge ∈ pm_w := pm_t5 (List.mem_of_getElem? (i := 171) rfl) (gw_selects _ _ _)
set_option maxRecDepth 20000 in
theorem pw_943 : Cond.code yX5_minds cX5_minds 8 (some .int) ∈ pm_w := pm_t3 (List.mem_of_getElem? (i := 149) rfl) (gw_code _ _ _ _)
set_option maxRecDepth 20000 in
theorem pw_944 : Cond.methodLink RL 151 yX5_minds ∈ pm_w := pm_t3 (List.mem_of_getElem? (i := 146) rfl) (gw_methodLink _ _ _)
set_option maxRecDepth 20000 in
theorem pw_945 : Cond.instanceMethod yX5_minds ∈ pm_w := pm_t3 (List.mem_of_getElem? (i := 147) rfl) (gw_instanceMethod _)
set_option maxRecDepth 20000 in
theorem pw_946 : Cond.selects RX5 yX5_minds yX5_minds ∈ pm_w := pm_t3 (List.mem_of_getElem? (i := 148) rfl) (gw_selects _ _ _)
set_option maxRecDepth 20000 in
theorem pw_947 : Cond.code yX6_minds cX6_minds 7 (some .int) ∈ pm_w := pm_t5 (List.mem_of_getElem? (i := 176) rfl) (gw_code _ _ _ _)
set_option maxRecDepth 20000 in
theorem pw_948 : Cond.methodLink RL 154 yX6_minds ∈ pm_w := pm_t5 (List.mem_of_getElem? (i := 173) rfl) (gw_methodLink _ _ _)
set_option maxRecDepth 20000 in
theorem pw_949 : Cond.instanceMethod yX6_minds ∈ pm_w := pm_t5 (List.mem_of_getElem? (i := 174) rfl) (gw_instanceMethod _)
set_option maxRecDepth 20000 in
theorem pw_950 : Cond.selects RX6 yX6_minds yX6_minds ∈ pm_w := pm_t5 (List.mem_of_getElem? (i := 175) rfl) (gw_selects _ _ _)
set_option maxRecDepth 20000 in
theorem pw_951 : Cond.code yX5_sheet cX5_sheet 4 (some .int) ∈ pm_w := pm_t3 (List.mem_of_getElem? (i := 154) rfl) (gw_code _ _ _ _)
set_option maxRecDepth 20000 in
theorem pw_952 : Cond.methodLink RL 155 yX5_sheet ∈ pm_w := pm_t3 (List.mem_of_getElem? (i := 151) rfl) (gw_methodLink _ _ _)
set_option maxRecDepth 20000 in
theorem pw_953 : Cond.instanceMethod yX5_sheet ∈ pm_w := pm_t3 (List.mem_of_getElem? (i := 152) rfl) (gw_instanceMethod _)
set_option maxRecDepth 20000 in
theorem pw_954 : Cond.selects RX5 yX5_sheet yX5_sheet ∈ pm_w := pm_t3 (List.mem_of_getElem? (i := 153) rfl) (gw_selects _ _ _)
set_option maxRecDepth 20000 in
theorem pw_955 : Cond.code yX6_sheet cX6_sheet 5 (some .int) ∈ pm_w := pm_t5 (List.mem_of_getElem? (i := 184) rfl) (gw_code _ _ _ _)
set_option maxRecDepth 20000 in
theorem pw_956 : Cond.methodLink RL 158 yX6_sheet ∈ pm_w := pm_t5 (List.mem_of_getElem? (i := 181) rfl) (gw_methodLink _ _ _)
set_option maxRecDepth 20000 in
theorem pw_957 : Cond.instanceMethod yX6_sheet ∈ pm_w := pm_t5 (List.mem_of_getElem? (i := 182) rfl) (gw_instanceMethod _)
set_option maxRecDepth 20000 in
theorem pw_958 : Cond.selects RX6 yX6_sheet yX6_sheet ∈ pm_w := pm_t5 (List.mem_of_getElem? (i := 183) rfl) (gw_selects _ _ _)
set_option maxRecDepth 20000 in
theorem pw_959 : Cond.code yX5_put cX5_put 5 (some .int) ∈ pm_w := pm_t3 (List.mem_of_getElem? (i := 162) rfl) (gw_code _ _ _ _)
set_option maxRecDepth 20000 in
theorem pw_960 : Cond.methodLink RL 159 yX5_put ∈ pm_w := pm_t3 (List.mem_of_getElem? (i := 159) rfl) (gw_methodLink _ _ _)
set_option maxRecDepth 20000 in
theorem pw_961 : Cond.instanceMethod yX5_put ∈ pm_w := pm_t3 (List.mem_of_getElem? (i := 160) rfl) (gw_instanceMethod _)
set_option maxRecDepth 20000 in
theorem pw_962 : Cond.selects RX5 yX5_put yX5_put ∈ pm_w := pm_t3 (List.mem_of_getElem? (i := 161) rfl) (gw_selects _ _ _)
set_option maxRecDepth 20000 in
theorem pw_963 : Cond.code yX6_put cX6_put 4 (some .int) ∈ pm_w := pm_t5 (List.mem_of_getElem? (i := 188) rfl) (gw_code _ _ _ _)
set_option maxRecDepth 20000 in
theorem pw_964 : Cond.methodLink RL 162 yX6_put ∈ pm_w := pm_t5 (List.mem_of_getElem? (i := 185) rfl) (gw_methodLink _ _ _)
set_option maxRecDepth 20000 in
theorem pw_965 : Cond.instanceMethod yX6_put ∈ pm_w := pm_t5 (List.mem_of_getElem? (i := 186) rfl) (gw_instanceMethod _)
set_option maxRecDepth 20000 in
theorem pw_966 : Cond.selects RX6 yX6_put yX6_put ∈ pm_w := pm_t5 (List.mem_of_getElem? (i := 187) rfl) (gw_selects _ _ _)
set_option maxRecDepth 20000 in
theorem pw_967 : Cond.code yX5_item cX5_item 5 (some .int) ∈ pm_w := pm_t3 (List.mem_of_getElem? (i := 169) rfl) (gw_code _ _ _ _)
set_option maxRecDepth 20000 in
theorem pw_968 : Cond.methodLink RL 163 yX5_item ∈ pm_w := pm_t3 (List.mem_of_getElem? (i := 166) rfl) (gw_methodLink _ _ _)
set_option maxRecDepth 20000 in
theorem pw_969 : Cond.instanceMethod yX5_item ∈ pm_w := pm_t3 (List.mem_of_getElem? (i := 167) rfl) (gw_instanceMethod _)
set_option maxRecDepth 20000 in
theorem pw_970 : Cond.selects RX5 yX5_item yX5_item ∈ pm_w := pm_t3 (List.mem_of_getElem? (i := 168) rfl) (gw_selects _ _ _)
set_option maxRecDepth 20000 in
theorem pw_971 : Cond.code yX6_item cX6_item 5 (some .int) ∈ pm_w := pm_t5 (List.mem_of_getElem? (i := 192) rfl) (gw_code _ _ _ _)
set_option maxRecDepth 20000 in
theorem pw_972 : Cond.methodLink RL 166 yX6_item ∈ pm_w := pm_t5 (List.mem_of_getElem? (i := 189) rfl) (gw_methodLink _ _ _)
set_option maxRecDepth 20000 in
theorem pw_973 : Cond.instanceMethod yX6_item ∈ pm_w := pm_t5 (List.mem_of_getElem? (i := 190) rfl) (gw_instanceMethod _)
set_option maxRecDepth 20000 in
theorem pw_974 : Cond.selects RX6 yX6_item yX6_item ∈ pm_w := pm_t5 (List.mem_of_getElem? (i := 191) rfl) (gw_selects _ _ _)
set_option maxRecDepth 20000 in
theorem pw_975 : Cond.code yX5_shelf cX5_shelf 4 (some .int) ∈ pm_w := pm_t3 (List.mem_of_getElem? (i := 173) rfl) (gw_code _ _ _ _)
set_option maxRecDepth 20000 in
theorem pw_976 : Cond.methodLink RL 167 yX5_shelf ∈ pm_w := pm_t3 (List.mem_of_getElem? (i := 170) rfl) (gw_methodLink _ _ _)
set_option maxRecDepth 20000 in
theorem pw_977 : Cond.instanceMethod yX5_shelf ∈ pm_w := pm_t3 (List.mem_of_getElem? (i := 171) rfl) (gw_instanceMethod _)
set_option maxRecDepth 20000 in
theorem pw_978 : Cond.selects RX5 yX5_shelf yX5_shelf ∈ pm_w := pm_t3 (List.mem_of_getElem? (i := 172) rfl) (gw_selects _ _ _)
set_option maxRecDepth 20000 in
theorem pw_979 : Cond.code yX6_shelf cX6_shelf 4 (some .int) ∈ pm_w := pm_t5 (List.mem_of_getElem? (i := 196) rfl) (gw_code _ _ _ _)
set_option maxRecDepth 20000 in
theorem pw_980 : Cond.methodLink RL 170 yX6_shelf ∈ pm_w := pm_t5 (List.mem_of_getElem? (i := 193) rfl) (gw_methodLink _ _ _)
set_option maxRecDepth 20000 in
theorem pw_981 : Cond.instanceMethod yX6_shelf ∈ pm_w := pm_t5 (List.mem_of_getElem? (i := 194) rfl) (gw_instanceMethod _)
set_option maxRecDepth 20000 in
theorem pw_982 : Cond.selects RX6 yX6_shelf yX6_shelf ∈ pm_w := pm_t5 (List.mem_of_getElem? (i := 195) rfl) (gw_selects _ _ _)
set_option maxRecDepth 20000 in
theorem pw_983 : Cond.code yX5_taken cX5_taken 6 (some .int) ∈ pm_w := pm_t3 (List.mem_of_getElem? (i := 185) rfl) (gw_code _ _ _ _)
set_option maxRecDepth 20000 in
theorem pw_984 : Cond.methodLink RL 171 yX5_taken ∈ pm_w := pm_t3 (List.mem_of_getElem? (i := 182) rfl) (gw_methodLink _ _ _)
set_option maxRecDepth 20000 in
theorem pw_985 : Cond.instanceMethod yX5_taken ∈ pm_w := pm_t3 (List.mem_of_getElem? (i := 183) rfl) (gw_instanceMethod _)
set_option maxRecDepth 20000 in
theorem pw_986 : Cond.selects RX5 yX5_taken yX5_taken ∈ pm_w := pm_t3 (List.mem_of_getElem? (i := 184) rfl) (gw_selects _ _ _)
set_option maxRecDepth 20000 in
theorem pw_987 : Cond.code yX6_taken cX6_taken 4 (some .int) ∈ pm_w := pm_t5 (List.mem_of_getElem? (i := 204) rfl) (gw_code _ _ _ _)
set_option maxRecDepth 20000 in
theorem pw_988 : Cond.methodLink RL 174 yX6_taken ∈ pm_w := pm_t5 (List.mem_of_getElem? (i := 201) rfl) (gw_methodLink _ _ _)
set_option maxRecDepth 20000 in
theorem pw_989 : Cond.instanceMethod yX6_taken ∈ pm_w := pm_t5 (List.mem_of_getElem? (i := 202) rfl) (gw_instanceMethod _)
set_option maxRecDepth 20000 in
theorem pw_990 : Cond.selects RX6 yX6_taken yX6_taken ∈ pm_w := pm_t5 (List.mem_of_getElem? (i := 203) rfl) (gw_selects _ _ _)
set_option maxRecDepth 20000 in
theorem pw_991 : Cond.code yX5_act cX5_act 7 (some .int) ∈ pm_w := pm_t3 (List.mem_of_getElem? (i := 190) rfl) (gw_code _ _ _ _)
set_option maxRecDepth 20000 in
theorem pw_992 : Cond.methodLink RL 175 yX5_act ∈ pm_w := pm_t3 (List.mem_of_getElem? (i := 187) rfl) (gw_methodLink _ _ _)
set_option maxRecDepth 20000 in
theorem pw_993 : Cond.instanceMethod yX5_act ∈ pm_w := pm_t3 (List.mem_of_getElem? (i := 188) rfl) (gw_instanceMethod _)
set_option maxRecDepth 20000 in
theorem pw_994 : Cond.selects RX5 yX5_act yX5_act ∈ pm_w := pm_t3 (List.mem_of_getElem? (i := 189) rfl) (gw_selects _ _ _)
set_option maxRecDepth 20000 in
theorem pw_995 : Cond.code yX6_act cX6_act 6 (some .int) ∈ pm_w := pm_t5 (List.mem_of_getElem? (i := 215) rfl) (gw_code _ _ _ _)
set_option maxRecDepth 20000 in
theorem pw_996 : Cond.methodLink RL 178 yX6_act ∈ pm_w := pm_t5 (List.mem_of_getElem? (i := 212) rfl) (gw_methodLink _ _ _)
set_option maxRecDepth 20000 in
theorem pw_997 : Cond.instanceMethod yX6_act ∈ pm_w := pm_t5 (List.mem_of_getElem? (i := 213) rfl) (gw_instanceMethod _)
set_option maxRecDepth 20000 in
theorem pw_998 : Cond.selects RX6 yX6_act yX6_act ∈ pm_w := pm_t5 (List.mem_of_getElem? (i := 214) rfl) (gw_selects _ _ _)
set_option maxRecDepth 20000 in
theorem pw_999 : Cond.code yX5_trace cX5_trace 2 (some .int) ∈ pm_w := pm_t3 (List.mem_of_getElem? (i := 227) rfl) (gw_code _ _ _ _)
set_option maxRecDepth 20000 in
theorem pw_1000 : Cond.methodLink RL 179 yX5_trace ∈ pm_w := pm_t3 (List.mem_of_getElem? (i := 224) rfl) (gw_methodLink _ _ _)
set_option maxRecDepth 20000 in
theorem pw_1001 : Cond.instanceMethod yX5_trace ∈ pm_w := pm_t3 (List.mem_of_getElem? (i := 225) rfl) (gw_instanceMethod _)
set_option maxRecDepth 20000 in
theorem pw_1002 : Cond.selects RX5 yX5_trace yX5_trace ∈ pm_w := pm_t3 (List.mem_of_getElem? (i := 226) rfl) (gw_selects _ _ _)
set_option maxRecDepth 20000 in
theorem pw_1003 : Cond.code yX6_trace cX6_trace 2 (some .int) ∈ pm_w := pm_t6 (List.mem_of_getElem? (i := 19) rfl) (gw_code _ _ _ _)
set_option maxRecDepth 20000 in
theorem pw_1004 : Cond.methodLink RL 182 yX6_trace ∈ pm_w := pm_t6 (List.mem_of_getElem? (i := 16) rfl) (gw_methodLink _ _ _)
set_option maxRecDepth 20000 in
theorem pw_1005 : Cond.instanceMethod yX6_trace ∈ pm_w := pm_t6 (List.mem_of_getElem? (i := 17) rfl) (gw_instanceMethod _)
set_option maxRecDepth 20000 in
theorem pw_1006 : Cond.selects RX6 yX6_trace yX6_trace ∈ pm_w := pm_t6 (List.mem_of_getElem? (i := 18) rfl) (gw_selects _ _ _)
set_option maxRecDepth 20000 in
theorem pw_1007 : Cond.code yX5_many cX5_many 2 (some .int) ∈ pm_w := pm_t3 (List.mem_of_getElem? (i := 231) rfl) (gw_code _ _ _ _)
set_option maxRecDepth 20000 in
theorem pw_1008 : Cond.methodLink RL 183 yX5_many ∈ pm_w := pm_t3 (List.mem_of_getElem? (i := 228) rfl) (gw_methodLink _ _ _)
set_option maxRecDepth 20000 in
theorem pw_1009 : Cond.instanceMethod yX5_many ∈ pm_w := pm_t3 (List.mem_of_getElem? (i := 229) rfl) (gw_instanceMethod _)
set_option maxRecDepth 20000 in
theorem pw_1010 : Cond.selects RX5 yX5_many yX5_many ∈ pm_w := pm_t3 (List.mem_of_getElem? (i := 230) rfl) (gw_selects _ _ _)
set_option maxRecDepth 20000 in
theorem pw_1011 : Cond.code yX6_many cX6_many 2 (some .int) ∈ pm_w := pm_t6 (List.mem_of_getElem? (i := 23) rfl) (gw_code _ _ _ _)
set_option maxRecDepth 20000 in
theorem pw_1012 : Cond.methodLink RL 186 yX6_many ∈ pm_w := pm_t6 (List.mem_of_getElem? (i := 20) rfl) (gw_methodLink _ _ _)
set_option maxRecDepth 20000 in
theorem pw_1013 : Cond.instanceMethod yX6_many ∈ pm_w := pm_t6 (List.mem_of_getElem? (i := 21) rfl) (gw_instanceMethod _)
set_option maxRecDepth 20000 in
theorem pw_1014 : Cond.selects RX6 yX6_many yX6_many ∈ pm_w := pm_t6 (List.mem_of_getElem? (i := 22) rfl) (gw_selects _ _ _)
set_option maxRecDepth 20000 in
theorem pw_1015 : Cond.code yX5_keep cX5_keep 1 (some .int) ∈ pm_w := pm_t3 (List.mem_of_getElem? (i := 235) rfl) (gw_code _ _ _ _)
set_option maxRecDepth 20000 in
theorem pw_1016 : Cond.methodLink RL 187 yX5_keep ∈ pm_w := pm_t3 (List.mem_of_getElem? (i := 232) rfl) (gw_methodLink _ _ _)
set_option maxRecDepth 20000 in
theorem pw_1017 : Cond.instanceMethod yX5_keep ∈ pm_w := pm_t3 (List.mem_of_getElem? (i := 233) rfl) (gw_instanceMethod _)
set_option maxRecDepth 20000 in
theorem pw_1018 : Cond.selects RX5 yX5_keep yX5_keep ∈ pm_w := pm_t3 (List.mem_of_getElem? (i := 234) rfl) (gw_selects _ _ _)
set_option maxRecDepth 20000 in
theorem pw_1019 : Cond.code yX6_keep cX6_keep 1 (some .int) ∈ pm_w := pm_t6 (List.mem_of_getElem? (i := 31) rfl) (gw_code _ _ _ _)
set_option maxRecDepth 20000 in
theorem pw_1020 : Cond.methodLink RL 190 yX6_keep ∈ pm_w := pm_t6 (List.mem_of_getElem? (i := 28) rfl) (gw_methodLink _ _ _)
set_option maxRecDepth 20000 in
theorem pw_1021 : Cond.instanceMethod yX6_keep ∈ pm_w := pm_t6 (List.mem_of_getElem? (i := 29) rfl) (gw_instanceMethod _)
set_option maxRecDepth 20000 in
theorem pw_1022 : Cond.selects RX6 yX6_keep yX6_keep ∈ pm_w := pm_t6 (List.mem_of_getElem? (i := 30) rfl) (gw_selects _ _ _)
set_option maxRecDepth 20000 in
theorem pw_1023 : Cond.code yX5_again cX5_again 1 (some .int) ∈ pm_w := pm_t3 (List.mem_of_getElem? (i := 239) rfl) (gw_code _ _ _ _)
set_option maxRecDepth 20000 in
theorem pw_1024 : Cond.methodLink RL 191 yX5_again ∈ pm_w := pm_t3 (List.mem_of_getElem? (i := 236) rfl) (gw_methodLink _ _ _)
set_option maxRecDepth 20000 in
theorem pw_1025 : Cond.instanceMethod yX5_again ∈ pm_w := pm_t3 (List.mem_of_getElem? (i := 237) rfl) (gw_instanceMethod _)
set_option maxRecDepth 20000 in
theorem pw_1026 : Cond.selects RX5 yX5_again yX5_again ∈ pm_w := pm_t3 (List.mem_of_getElem? (i := 238) rfl) (gw_selects _ _ _)
set_option maxRecDepth 20000 in
theorem pw_1027 : Cond.code yX6_again cX6_again 1 (some .int) ∈ pm_w := pm_t6 (List.mem_of_getElem? (i := 35) rfl) (gw_code _ _ _ _)
set_option maxRecDepth 20000 in
theorem pw_1028 : Cond.methodLink RL 194 yX6_again ∈ pm_w := pm_t6 (List.mem_of_getElem? (i := 32) rfl) (gw_methodLink _ _ _)
set_option maxRecDepth 20000 in
theorem pw_1029 : Cond.instanceMethod yX6_again ∈ pm_w := pm_t6 (List.mem_of_getElem? (i := 33) rfl) (gw_instanceMethod _)
set_option maxRecDepth 20000 in
theorem pw_1030 : Cond.selects RX6 yX6_again yX6_again ∈ pm_w := pm_t6 (List.mem_of_getElem? (i := 34) rfl) (gw_selects _ _ _)
theorem pnm_0 : (RX5, 24, yX4_init) ∈ pm_nM := List.mem_of_getElem? (i := 0) rfl
theorem pnm_1 : (RX5, 31, yX0_init) ∈ pm_nM := List.mem_of_getElem? (i := 1) rfl
theorem pnm_2 : (RX5, 48, yX2_init) ∈ pm_nM := List.mem_of_getElem? (i := 2) rfl
theorem pnm_3 : (RX5, 49, yX3_init) ∈ pm_nM := List.mem_of_getElem? (i := 3) rfl
theorem pnm_4 : (RX4, 119, yX5_isWithin) ∈ pm_nM := List.mem_of_getElem? (i := 4) rfl
theorem pnm_5 : (RX4, 123, yX5_isKind) ∈ pm_nM := List.mem_of_getElem? (i := 5) rfl
theorem pnm_6 : (RX1, 61, yX5_isWithin) ∈ pm_nM := List.mem_of_getElem? (i := 6) rfl
theorem pnm_7 : (RX1, 69, yX5_isUnder) ∈ pm_nM := List.mem_of_getElem? (i := 7) rfl
theorem pnm_8 : (RX0, 49, yX5_isUnder) ∈ pm_nM := List.mem_of_getElem? (i := 8) rfl
theorem pnf_0 : (RX1, 9, "BlankRations", "LAW_FIRST", "[I") ∈ pm_nF := List.mem_of_getElem? (i := 0) rfl
theorem pnf_1 : (RX4, 138, "BlankRations", "LAW_MOST", "[I") ∈ pm_nF := List.mem_of_getElem? (i := 1) rfl
