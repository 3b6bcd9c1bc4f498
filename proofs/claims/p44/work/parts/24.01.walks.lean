-- the walks: a program laid these rows
theorem K_X1_speak_4 {o : Nat} (ho : isO o) : ∀ (n : Nat) (x1 : Int32) (x2 : Int32) (s : SS) (t : TT) (q : Int32 × SS × TT), l_X1_speak_4 o n (x1, x2, s, t) = some q → Wp pl_Kc 27 4 [some (.ref o), some (.int x1), some (.int x2), none] [] (mk s t) (Qi q)
  | 0, x1, x2, s, t, q, h => by cases (show (none : Option (Int32 × SS × TT)) = some q from h)
  | n + 1, x1, x2, s, t, q, h => B_X1_speak_4 ho (K_X1_speak_4 ho n) x1 x2 s t q h
set_option maxRecDepth 100000 in
theorem T_X1_speak {o : Nat} (ho : isO o) {s : SS} {t : TT} {q : Int32 × SS × TT} (h : f_X1_speak o s t = some q) : Wm 27 [.ref o] (mk s t) (Qi q) := by
  refine Wm.of pT_27 (Nat.le_of_ble_eq_true rfl) (L0 := [some (.ref o), none, none, none]) rfl ?_
  unfold f_X1_speak at h
  refine w_ci rfl ?_
  refine w_si rfl (Nat.le_of_ble_eq_true rfl) rfl ?_
  refine w_ci rfl ?_
  refine w_si rfl (Nat.le_of_ble_eq_true rfl) rfl ?_
  exact Wp_fgt (fg_s (fg_s (fg_s (fg_n fg_e)))) (K_X1_speak_4 ho _ _ _ _ _ _ h)
-- X1_passWeek
set_option maxRecDepth 100000 in
theorem T_X1_passWeek {o : Nat} (ho : isO o) {x1 : Int32} {s : SS} {t : TT} {q : Int32 × SS × TT} (h : f_X1_passWeek o x1 s t = some q) : Wm 21 [.ref o, .int x1] (mk s t) (Qi q) := by
  refine Wm.of pT_21 (Nat.le_of_ble_eq_true rfl) (L0 := [some (.ref o), some (.int x1), none]) rfl ?_
  unfold f_X1_passWeek at h
  refine w_la rfl rfl ?_
  obtain ⟨q1, e1, h⟩ := bnd h
  refine a_vi0v rfl (mgO ho _ _) (Nat.le_of_ble_eq_true rfl) (T_X1_think ho e1) ?_
  refine w_la rfl rfl ?_
  refine w_li rfl rfl ?_
  obtain ⟨q2, e2, h⟩ := bnd h
  refine a_vi1v rfl (mgO ho _ _) (Nat.le_of_ble_eq_true rfl) (T_X1_handOut ho e2) ?_
  refine w_la rfl rfl ?_
  obtain ⟨q3, e3, h⟩ := bnd h
  refine a_vi0i rfl (mgO ho _ _) (Nat.le_of_ble_eq_true rfl) (T_X1_speak ho e3) ?_
  refine w_si rfl (Nat.le_of_ble_eq_true rfl) rfl ?_
  refine w_la rfl rfl ?_
  refine w_dup rfl rfl ?_
  refine w_gf rfl (mgO ho _ _) rfl ?_
  refine w_ci rfl ?_
  refine w_iadd rfl ?_
  refine a_pf rfl rfl (mgO ho _ _) (Nat.le_of_ble_eq_true rfl) (msOf_9 ho _ _) (fun s4 e4 => ?_)
  replace h := wr_of h s4 e4
  refine w_li rfl rfl ?_
  exact a_ri rfl h
-- X1_draw
set_option maxRecDepth 100000 in
theorem T_X1_draw {o : Nat} (ho : isO o) {s : SS} {t : TT} {q : Int32 × SS × TT} (h : f_X1_draw o s t = some q) : Wm 23 [.ref o] (mk s t) (Qi q) := by
  refine Wm.of pT_23 (Nat.le_of_ble_eq_true rfl) (L0 := [some (.ref o)]) rfl ?_
  unfold f_X1_draw at h
  refine w_la rfl rfl ?_
  refine w_la rfl rfl ?_
  refine w_gf rfl (mgO ho _ _) rfl ?_
  refine w_ci rfl ?_
  refine w_imul rfl ?_
  refine w_ci rfl ?_
  refine w_iadd rfl ?_
  refine a_pf rfl rfl (mgO ho _ _) (Nat.le_of_ble_eq_true rfl) (msOf_11 ho _ _) (fun s1 e1 => ?_)
  replace h := wr_of h s1 e1
  refine w_la rfl rfl ?_
  refine w_gf rfl (mgO ho _ _) rfl ?_
  refine w_ci rfl ?_
  refine w_iushr rfl ?_
  exact a_ri rfl h
-- X1_passWeekByDraws
set_option maxRecDepth 100000 in
theorem J_X1_passWeekByDraws_43 {o : Nat} (ho : isO o) : ∀ (s : SS) (t : TT) (q : Int32 × SS × TT), j_X1_passWeekByDraws_43 o s t = some q → Wp pl_Kc 22 43 [some (.ref o), none] [] (mk s t) (Qi q) := by
  intro s t q h
  unfold j_X1_passWeekByDraws_43 at h
  refine w_la rfl rfl ?_
  refine w_ci rfl ?_
  obtain ⟨q1, e1, h⟩ := bnd h
  refine a_vi1i rfl (mgO ho _ _) (Nat.le_of_ble_eq_true rfl) (T_X1_passWeek ho e1) ?_
  exact a_ri rfl h
set_option maxRecDepth 100000 in
theorem T_X1_passWeekByDraws {o : Nat} (ho : isO o) {s : SS} {t : TT} {q : Int32 × SS × TT} (h : f_X1_passWeekByDraws o s t = some q) : Wm 22 [.ref o] (mk s t) (Qi q) := by
  refine Wm.of pT_22 (Nat.le_of_ble_eq_true rfl) (L0 := [some (.ref o), none]) rfl ?_
  unfold f_X1_passWeekByDraws at h
  refine w_la rfl rfl ?_
  refine w_gf rfl (mgO ho _ _) rfl ?_
  refine w_if_le rfl (fun c1 => ?_) (fun c1 => ?_)
  · replace h := ifp h c1
    exact Wp_fgt (fg_s (fg_n fg_e)) (J_X1_passWeekByDraws_43 ho _ _ _ h)
  · replace h := ifn h c1
    refine w_la rfl rfl ?_
    obtain ⟨q2, e2, h⟩ := bnd h
    refine a_vi0i rfl (mgO ho _ _) (Nat.le_of_ble_eq_true rfl) (T_X1_draw ho e2) ?_
    refine w_la rfl rfl ?_
    refine w_gf rfl (mgO ho _ _) rfl ?_
    by_cases c3 : (q2.2.1 o 8) = 0
    · cases (ifp h c3)
    replace h := ifn h c3
    refine w_irem rfl c3 ?_
    refine w_si rfl (Nat.le_of_ble_eq_true rfl) rfl ?_
    refine w_la rfl rfl ?_
    obtain ⟨q4, e4, h⟩ := bnd h
    refine a_vi0i rfl (mgO ho _ _) (Nat.le_of_ble_eq_true rfl) (T_X1_draw ho e4) ?_
    refine w_ci rfl ?_
    refine w_irem rfl (by decide) ?_
    refine w_la rfl rfl ?_
    refine w_gf rfl (mgO ho _ _) rfl ?_
    refine w_ci rfl ?_
    obtain ⟨j5, e5, h⟩ := bnd h
    refine a_ia rfl (mrO_1 ho _ _ _) e5 ?_
    refine w_ic_ge rfl (fun c6 => ?_) (fun c6 => ?_)
    · replace h := ifp h c6
      exact Wp_fgt (fg_s (fg_n fg_e)) (J_X1_passWeekByDraws_43 ho _ _ _ h)
    · replace h := ifn h c6
      refine w_la rfl rfl ?_
      refine w_gf rfl (mgO ho _ _) rfl ?_
      refine w_li rfl rfl ?_
      refine w_dup2 rfl rfl rfl ?_
      obtain ⟨j7, e7, h⟩ := bnd h
      refine a_ia rfl (mrO_3 ho _ _ _) e7 ?_
      refine w_ci rfl ?_
      refine w_idiv rfl (by decide) ?_
      obtain ⟨j8, e8, h⟩ := bnd h
      refine a_is rfl (mgO_3 ho _ _) (msO_3 ho _ _) e8 (fun s8 w8 => ?_)
      replace h := wr_of h s8 w8
      exact Wp_fgt (fg_s (fg_n fg_e)) (J_X1_passWeekByDraws_43 ho _ _ _ h)
-- X2_begin
set_option maxRecDepth 100000 in
theorem B_X2_begin_12 {o : Nat} (ho : isS o) {k12 : Int32 × SS × TT → Option (SS × TT)} (hk12 : ∀ (x3 : Int32) (s : SS) (t : TT) (q : SS × TT), k12 (x3, s, t) = some q → Wp pl_Kc 29 12 [some (.ref o), none, none, some (.int x3)] [] (mk s t) (Qv q)) : ∀ (x3 : Int32) (s : SS) (t : TT) (q : SS × TT), b_X2_begin_12 o k12 x3 s t = some q → Wp pl_Kc 29 12 [some (.ref o), none, none, some (.int x3)] [] (mk s t) (Qv q) := by
  intro x3 s t q h
  unfold b_X2_begin_12 at h
  refine w_li rfl rfl ?_
  refine w_la rfl rfl ?_
  refine w_gf rfl (mgS ho _ _) rfl ?_
  refine w_len rfl (n := 40) (mlenj (mgS_1 ho _ _)) ?_
  refine w_ic_ge rfl (fun c1 => ?_) (fun c1 => ?_)
  · replace h := ifp h c1
    exact a_rv rfl h
  · replace h := ifn h c1
    refine w_la rfl rfl ?_
    refine w_gf rfl (mgS ho _ _) rfl ?_
    refine w_li rfl rfl ?_
    refine w_cl rfl ?_
    obtain ⟨j2, e2, h⟩ := bnd h
    refine a_js rfl (mgS_1 ho _ _) (msS_1 ho _ _) e2 (fun t2 w2 => ?_)
    replace h := wr_of h t2 w2
    refine w_inc rfl rfl rfl ?_
    refine w_go rfl ?_
    exact Wp_fgt (fg_s (fg_n (fg_n (fg_s fg_e)))) (hk12 _ _ _ _ h)
theorem K_X2_begin_12 {o : Nat} (ho : isS o) : ∀ (n : Nat) (x3 : Int32) (s : SS) (t : TT) (q : SS × TT), l_X2_begin_12 o n (x3, s, t) = some q → Wp pl_Kc 29 12 [some (.ref o), none, none, some (.int x3)] [] (mk s t) (Qv q)
  | 0, x3, s, t, q, h => by cases (show (none : Option (SS × TT)) = some q from h)
  | n + 1, x3, s, t, q, h => B_X2_begin_12 ho (K_X2_begin_12 ho n) x3 s t q h
set_option maxRecDepth 100000 in
theorem T_X2_begin {o : Nat} (ho : isS o) {x1 : Int32} {x2 : Int32} {s : SS} {t : TT} {q : SS × TT} (h : f_X2_begin o x1 x2 s t = some q) : Wm 29 [.ref o, .int x1, .int x2] (mk s t) (Qv q) := by
  refine Wm.of pT_29 (Nat.le_of_ble_eq_true rfl) (L0 := [some (.ref o), some (.int x1), some (.int x2), none]) rfl ?_
  unfold f_X2_begin at h
  refine w_la rfl rfl ?_
  refine w_li rfl rfl ?_
  refine a_pf rfl rfl (mgS ho _ _) (Nat.le_of_ble_eq_true rfl) (msSf_1 ho _ _) (fun s1 e1 => ?_)
  replace h := wr_of h s1 e1
  refine w_la rfl rfl ?_
  refine w_li rfl rfl ?_
  refine a_pf rfl rfl (mgS ho _ _) (Nat.le_of_ble_eq_true rfl) (msSf_2 ho _ _) (fun s2 e2 => ?_)
  replace h := wr_of h s2 e2
  refine w_ci rfl ?_
  refine w_si rfl (Nat.le_of_ble_eq_true rfl) rfl ?_
  exact Wp_fgt (fg_s (fg_n (fg_n (fg_s fg_e)))) (K_X2_begin_12 ho _ _ _ _ _ h)
-- X3_holdPerson
set_option maxRecDepth 100000 in
theorem T_X3_holdPerson {o : Nat} (ho : isH o) {x1 : Int32} {s : SS} {t : TT} {q : SS × TT} (h : f_X3_holdPerson o x1 s t = some q) : Wm 31 [.ref o, .int x1] (mk s t) (Qv q) := by
  refine Wm.of pT_31 (Nat.le_of_ble_eq_true rfl) (L0 := [some (.ref o), some (.int x1)]) rfl ?_
  unfold f_X3_holdPerson at h
  refine w_la rfl rfl ?_
  refine w_ci rfl ?_
  refine a_pf rfl rfl (mgH ho _ _) (Nat.le_of_ble_eq_true rfl) (msHf_0 ho _ _) (fun s1 e1 => ?_)
  replace h := wr_of h s1 e1
  refine w_la rfl rfl ?_
  refine w_li rfl rfl ?_
  refine a_pf rfl rfl (mgH ho _ _) (Nat.le_of_ble_eq_true rfl) (msHf_1 ho _ _) (fun s2 e2 => ?_)
  replace h := wr_of h s2 e2
  exact a_rv rfl h
-- X3_holdRow
set_option maxRecDepth 100000 in
theorem J_X3_holdRow_14 {o : Nat} (ho : isH o) {o1 : Nat} (ho1 : isS o1) : ∀ (y0 : Int32) (s : SS) (t : TT) (q : SS × TT), j_X3_holdRow_14 o o1 y0 s t = some q → Wp pl_Kc 32 14 [some (.ref o), some (.ref o1)] [.int y0, .ref o] (mk s t) (Qv q) := by
  intro y0 s t q h
  unfold j_X3_holdRow_14 at h
  refine a_pf rfl rfl (mgH ho _ _) (Nat.le_of_ble_eq_true rfl) (msHf_0 ho _ _) (fun s1 e1 => ?_)
  replace h := wr_of h s1 e1
  refine w_la rfl rfl ?_
  refine w_la rfl rfl ?_
  refine w_gf rfl (mgS ho1 _ _) rfl ?_
  refine a_pf rfl rfl (mgH ho _ _) (Nat.le_of_ble_eq_true rfl) (msHf_2 ho _ _) (fun s2 e2 => ?_)
  replace h := wr_of h s2 e2
  refine w_la rfl rfl ?_
  refine w_la rfl rfl ?_
  refine w_gf rfl (mgS ho1 _ _) rfl ?_
  refine a_pf rfl rfl (mgH ho _ _) (Nat.le_of_ble_eq_true rfl) (msHf_3 ho _ _) (fun s3 e3 => ?_)
  replace h := wr_of h s3 e3
  exact a_rv rfl h
set_option maxRecDepth 100000 in
theorem T_X3_holdRow {o : Nat} (ho : isH o) {o1 : Nat} (ho1 : isS o1) {s : SS} {t : TT} {q : SS × TT} (h : f_X3_holdRow o o1 s t = some q) : Wm 32 [.ref o, .ref o1] (mk s t) (Qv q) := by
  refine Wm.of pT_32 (Nat.le_of_ble_eq_true rfl) (L0 := [some (.ref o), some (.ref o1)]) rfl ?_
  unfold f_X3_holdRow at h
  refine w_la rfl rfl ?_
  refine w_la rfl rfl ?_
  refine w_gf rfl (mgS ho1 _ _) rfl ?_
  refine w_ci rfl ?_
  refine w_ic_ne rfl (fun c1 => ?_) (fun c1 => ?_)
  · replace h := ifn h c1
    refine w_ci rfl ?_
    exact Wp_fgt (fg_s (fg_s fg_e)) (J_X3_holdRow_14 ho ho1 _ _ _ _ h)
  · replace h := ifp h (Classical.not_not.mp c1)
    refine w_ci rfl ?_
    refine w_go rfl ?_
    exact Wp_fgt (fg_s (fg_s fg_e)) (J_X3_holdRow_14 ho ho1 _ _ _ _ h)
-- X4_take
set_option maxRecDepth 100000 in
theorem B_X4_take_17  {k17 : Int64 × Int32 × Int32 × SS × TT → Option (Int32 × SS × TT)} (hk17 : ∀ (x1 : Int64) (x3 : Int32) (x4 : Int32) (s : SS) (t : TT) (q : Int32 × SS × TT), k17 (x1, x3, x4, s, t) = some q → Wp pl_Kc 34 17 [some (.ref 28), some (.long x1), none, some (.int x3), some (.int x4)] [] (mk s t) (Qi q)) : ∀ (x1 : Int64) (x3 : Int32) (x4 : Int32) (s : SS) (t : TT) (q : Int32 × SS × TT), b_X4_take_17 k17 x1 x3 x4 s t = some q → Wp pl_Kc 34 17 [some (.ref 28), some (.long x1), none, some (.int x3), some (.int x4)] [] (mk s t) (Qi q) := by
  intro x1 x3 x4 s t q h
  unfold b_X4_take_17 at h
  refine w_li rfl rfl ?_
  refine w_li rfl rfl ?_
  refine w_ic_ge rfl (fun c1 => ?_) (fun c1 => ?_)
  · replace h := ifp h c1
    refine w_la rfl rfl ?_
    refine w_dup rfl rfl ?_
    refine w_gf rfl (mg_28 _ _) rfl ?_
    refine w_li rfl rfl ?_
    refine w_iadd rfl ?_
    refine a_pf rfl rfl (mg_28 _ _) (Nat.le_of_ble_eq_true rfl) (ms_28_7 _ _) (fun s2 e2 => ?_)
    replace h := wr_of h s2 e2
    refine w_ci rfl ?_
    exact a_rz rfl (by decide) h
  · replace h := ifn h c1
    refine w_la rfl rfl ?_
    refine w_gf rfl (mg_28 _ _) rfl ?_
    refine w_la rfl rfl ?_
    refine w_gf rfl (mg_28 _ _) rfl ?_
    refine w_li rfl rfl ?_
    refine w_iadd rfl ?_
    refine w_ll rfl rfl ?_
    refine w_ci rfl ?_
    refine w_li rfl rfl ?_
    refine w_imul rfl ?_
    refine w_lushr rfl ?_
    refine w_cl rfl ?_
    refine w_land rfl ?_
    refine w_l2i rfl ?_
    obtain ⟨j3, e3, h⟩ := bnd h
    refine a_is rfl (mg_29 _ _) (ms_29 _ _) e3 (fun s3 w3 => ?_)
    replace h := wr_of h s3 w3
    refine w_inc rfl rfl rfl ?_
    refine w_go rfl ?_
    exact Wp_fgt (fg_s (fg_s (fg_n (fg_s (fg_s fg_e))))) (hk17 _ _ _ _ _ _ h)
theorem K_X4_take_17  : ∀ (n : Nat) (x1 : Int64) (x3 : Int32) (x4 : Int32) (s : SS) (t : TT) (q : Int32 × SS × TT), l_X4_take_17 n (x1, x3, x4, s, t) = some q → Wp pl_Kc 34 17 [some (.ref 28), some (.long x1), none, some (.int x3), some (.int x4)] [] (mk s t) (Qi q)
  | 0, x1, x3, x4, s, t, q, h => by cases (show (none : Option (Int32 × SS × TT)) = some q from h)
  | n + 1, x1, x3, x4, s, t, q, h => B_X4_take_17 (K_X4_take_17 n) x1 x3 x4 s t q h
set_option maxRecDepth 100000 in
theorem T_X4_take  {x1 : Int64} {x3 : Int32} {s : SS} {t : TT} {q : Int32 × SS × TT} (h : f_X4_take x1 x3 s t = some q) : Wm 34 [.ref 28, .long x1, .int x3] (mk s t) (Qi q) := by
  refine Wm.of pT_34 (Nat.le_of_ble_eq_true rfl) (L0 := [some (.ref 28), some (.long x1), none, some (.int x3), none]) rfl ?_
  unfold f_X4_take at h
  refine w_li rfl rfl ?_
  refine w_ci rfl ?_
  refine w_la rfl rfl ?_
  refine w_gf rfl (mg_28 _ _) rfl ?_
  refine w_isub rfl ?_
  refine w_ic_le rfl (fun c1 => ?_) (fun c1 => ?_)
  · replace h := ifp h c1
    refine w_ci rfl ?_
    refine w_si rfl (Nat.le_of_ble_eq_true rfl) rfl ?_
    exact Wp_fgt (fg_s (fg_s (fg_n (fg_s (fg_s fg_e))))) (K_X4_take_17 _ _ _ _ _ _ _ h)
  · replace h := ifn h c1
    refine w_ci rfl ?_
    exact a_rz rfl (by decide) h
-- X4_isLetter
set_option maxRecDepth 100000 in
theorem T_X4_isLetter  {x0 : Int32} {s : SS} {t : TT} {q : Int32 × SS × TT} (h : f_X4_isLetter x0 s t = some q) : Wm 43 [.int x0] (mk s t) (Qi q) := by
  refine Wm.of pT_43 (Nat.le_of_ble_eq_true rfl) (L0 := [some (.int x0)]) rfl ?_
  unfold f_X4_isLetter at h
  refine w_li rfl rfl ?_
  refine w_ci rfl ?_
  refine w_ci rfl ?_
  obtain ⟨q1, e1, h⟩ := bnd h
  refine a_st3i rfl (Nat.le_of_ble_eq_true rfl) (T_X5_isWithin e1) ?_
  exact a_rzc rfl h
-- X4_spelling
set_option maxRecDepth 100000 in
theorem T_X4_spelling  {x0 : Int32} {s : SS} {t : TT} {q : Nat × SS × TT} (h : f_X4_spelling x0 s t = some q) : Wm 42 [.int x0] (mk s t) (Qs q) := by
  refine Wm.of pT_42 (Nat.le_of_ble_eq_true rfl) (L0 := [some (.int x0)]) rfl ?_
  unfold f_X4_spelling at h
  refine w_li rfl rfl ?_
  by_cases c1 : x0 = 0
  · replace h := ifp h c1
    refine w_swI rfl (tg := 68) (by rw [c1]; decide +kernel) ?_
    refine w_lds rfl ?_
    exact a_rs rfl h
  replace h := ifn h c1
  by_cases c2 : x0 = 1
  · replace h := ifp h c2
    refine w_swI rfl (tg := 71) (by rw [c2]; decide +kernel) ?_
    refine w_lds rfl ?_
    exact a_rs rfl h
  replace h := ifn h c2
  by_cases c3 : x0 = 2
  · replace h := ifp h c3
    refine w_swI rfl (tg := 74) (by rw [c3]; decide +kernel) ?_
    refine w_lds rfl ?_
    exact a_rs rfl h
  replace h := ifn h c3
  by_cases c4 : x0 = 3
  · replace h := ifp h c4
    refine w_swI rfl (tg := 77) (by rw [c4]; decide +kernel) ?_
    refine w_lds rfl ?_
    exact a_rs rfl h
  replace h := ifn h c4
  by_cases c5 : x0 = 4
  · replace h := ifp h c5
    refine w_swI rfl (tg := 80) (by rw [c5]; decide +kernel) ?_
    refine w_lds rfl ?_
    exact a_rs rfl h
  replace h := ifn h c5
  by_cases c6 : x0 = 5
  · replace h := ifp h c6
    refine w_swI rfl (tg := 83) (by rw [c6]; decide +kernel) ?_
    refine w_lds rfl ?_
    exact a_rs rfl h
  replace h := ifn h c6
  by_cases c7 : x0 = 6
  · replace h := ifp h c7
    refine w_swI rfl (tg := 86) (by rw [c7]; decide +kernel) ?_
    refine w_lds rfl ?_
    exact a_rs rfl h
  replace h := ifn h c7
  by_cases c8 : x0 = 7
  · replace h := ifp h c8
    refine w_swI rfl (tg := 89) (by rw [c8]; decide +kernel) ?_
    refine w_lds rfl ?_
    exact a_rs rfl h
  replace h := ifn h c8
  by_cases c9 : x0 = 8
  · replace h := ifp h c9
    refine w_swI rfl (tg := 92) (by rw [c9]; decide +kernel) ?_
    refine w_lds rfl ?_
    exact a_rs rfl h
  replace h := ifn h c9
  by_cases c10 : x0 = 9
  · replace h := ifp h c10
    refine w_swI rfl (tg := 95) (by rw [c10]; decide +kernel) ?_
    refine w_lds rfl ?_
    exact a_rs rfl h
  replace h := ifn h c10
  by_cases c11 : x0 = 10
  · replace h := ifp h c11
    refine w_swI rfl (tg := 98) (by rw [c11]; decide +kernel) ?_
    refine w_lds rfl ?_
    exact a_rs rfl h
  replace h := ifn h c11
  by_cases c12 : x0 = 11
  · replace h := ifp h c12
    refine w_swI rfl (tg := 101) (by rw [c12]; decide +kernel) ?_
    refine w_lds rfl ?_
    exact a_rs rfl h
  replace h := ifn h c12
  by_cases c13 : x0 = 12
  · replace h := ifp h c13
    refine w_swI rfl (tg := 104) (by rw [c13]; decide +kernel) ?_
    refine w_lds rfl ?_
    exact a_rs rfl h
  replace h := ifn h c13
  refine w_swI rfl (tg := 107) (sw_df (zs := [0, 1, 2, 3, 4, 5, 6, 7, 8, 9, 10, 11, 12]) (swz_c (i32ne c1 rfl) (swz_c (i32ne c2 rfl) (swz_c (i32ne c3 rfl) (swz_c (i32ne c4 rfl) (swz_c (i32ne c5 rfl) (swz_c (i32ne c6 rfl) (swz_c (i32ne c7 rfl) (swz_c (i32ne c8 rfl) (swz_c (i32ne c9 rfl) (swz_c (i32ne c10 rfl) (swz_c (i32ne c11 rfl) (swz_c (i32ne c12 rfl) (swz_c (i32ne c13 rfl) swz_n))))))))))))) (by decide +kernel)) ?_
  refine w_lds rfl ?_
  exact a_rs rfl h
-- X4_isSpelt
set_option maxRecDepth 100000 in
theorem B_X4_isSpelt_23  {k23 : Nat × Int32 × Int32 × Int32 × SS × TT → Option (Int32 × SS × TT)} (hk23 : ∀ (x1 : Nat) (x2 : Int32) (x3 : Int32) (x4 : Int32) (s : SS) (t : TT) (q : Int32 × SS × TT), k23 (x1, x2, x3, x4, s, t) = some q → Wp pl_Kc 41 23 [some (.ref 28), some (.ref (pm_B + 100 + x1)), some (.int x2), some (.int x3), some (.int x4)] [] (mk s t) (Qi q)) : ∀ (x1 : Nat) (x2 : Int32) (x3 : Int32) (x4 : Int32) (s : SS) (t : TT) (q : Int32 × SS × TT), b_X4_isSpelt_23 k23 x1 x2 x3 x4 s t = some q → Wp pl_Kc 41 23 [some (.ref 28), some (.ref (pm_B + 100 + x1)), some (.int x2), some (.int x3), some (.int x4)] [] (mk s t) (Qi q) := by
  intro x1 x2 x3 x4 s t q h
  unfold b_X4_isSpelt_23 at h
  refine w_li rfl rfl ?_
  refine w_li rfl rfl ?_
  refine w_ic_ge rfl (fun c1 => ?_) (fun c1 => ?_)
  · replace h := ifp h c1
    refine w_ci rfl ?_
    exact a_rz rfl (by decide) h
  · replace h := ifn h c1
    refine w_la rfl rfl ?_
    refine w_gf rfl (mg_28 _ _) rfl ?_
    refine w_li rfl rfl ?_
    refine w_li rfl rfl ?_
    refine w_iadd rfl ?_
    obtain ⟨j2, e2, h⟩ := bnd h
    refine a_ia rfl (mr_29 _ _ _) e2 ?_
    refine w_la rfl rfl ?_
    refine w_li rfl rfl ?_
    obtain ⟨i3, e3, h⟩ := bnd h
    obtain ⟨j3, w3, h⟩ := bnd h
    refine a_vsc rfl (Nat.le_of_ble_eq_true rfl) e3 w3 ?_
    refine w_ic_eq rfl (fun c4 => ?_) (fun c4 => ?_)
    · replace h := ifp h c4
      refine w_inc rfl rfl rfl ?_
      refine w_go rfl ?_
      exact Wp_fgt (fg_s (fg_s (fg_s (fg_s (fg_s fg_e))))) (hk23 _ _ _ _ _ _ _ h)
    · replace h := ifn h c4
      refine w_ci rfl ?_
      exact a_rz rfl (by decide) h
theorem K_X4_isSpelt_23  : ∀ (n : Nat) (x1 : Nat) (x2 : Int32) (x3 : Int32) (x4 : Int32) (s : SS) (t : TT) (q : Int32 × SS × TT), l_X4_isSpelt_23 n (x1, x2, x3, x4, s, t) = some q → Wp pl_Kc 41 23 [some (.ref 28), some (.ref (pm_B + 100 + x1)), some (.int x2), some (.int x3), some (.int x4)] [] (mk s t) (Qi q)
  | 0, x1, x2, x3, x4, s, t, q, h => by cases (show (none : Option (Int32 × SS × TT)) = some q from h)
  | n + 1, x1, x2, x3, x4, s, t, q, h => B_X4_isSpelt_23 (K_X4_isSpelt_23 n) x1 x2 x3 x4 s t q h
set_option maxRecDepth 100000 in
theorem T_X4_isSpelt  {x1 : Nat} {x2 : Int32} {x3 : Int32} {s : SS} {t : TT} {q : Int32 × SS × TT} (h : f_X4_isSpelt x1 x2 x3 s t = some q) : Wm 41 [.ref 28, .ref (pm_B + 100 + x1), .int x2, .int x3] (mk s t) (Qi q) := by
  refine Wm.of pT_41 (Nat.le_of_ble_eq_true rfl) (L0 := [some (.ref 28), some (.ref (pm_B + 100 + x1)), some (.int x2), some (.int x3), none]) rfl ?_
  unfold f_X4_isSpelt at h
  refine w_la rfl rfl ?_
  obtain ⟨i1, e1, h⟩ := bnd h
  refine a_vsl rfl (Nat.le_of_ble_eq_true rfl) e1 ?_
  refine w_li rfl rfl ?_
  refine w_ic_ne rfl (fun c2 => ?_) (fun c2 => ?_)
  · replace h := ifn h c2
    refine w_ci rfl ?_
    exact a_rz rfl (by decide) h
  · replace h := ifp h (Classical.not_not.mp c2)
    refine w_li rfl rfl ?_
    refine w_li rfl rfl ?_
    refine w_iadd rfl ?_
    refine w_la rfl rfl ?_
    refine w_gf rfl (mg_28 _ _) rfl ?_
    refine w_ic_le rfl (fun c3 => ?_) (fun c3 => ?_)
    · replace h := ifp h c3
      refine w_ci rfl ?_
      refine w_si rfl (Nat.le_of_ble_eq_true rfl) rfl ?_
      exact Wp_fgt (fg_s (fg_s (fg_s (fg_s (fg_s fg_e))))) (K_X4_isSpelt_23 _ _ _ _ _ _ _ _ h)
    · replace h := ifn h c3
      refine w_ci rfl ?_
      exact a_rz rfl (by decide) h
-- X4_wordAt
set_option maxRecDepth 100000 in
theorem B_X4_wordAt_2  {k2 : Int32 × Int32 × Int32 × SS × TT → Option (Int32 × SS × TT)} (hk2 : ∀ (x1 : Int32) (x2 : Int32) (x3 : Int32) (s : SS) (t : TT) (q : Int32 × SS × TT), k2 (x1, x2, x3, s, t) = some q → Wp pl_Kc 40 2 [some (.ref 28), some (.int x1), some (.int x2), some (.int x3)] [] (mk s t) (Qi q)) : ∀ (x1 : Int32) (x2 : Int32) (x3 : Int32) (s : SS) (t : TT) (q : Int32 × SS × TT), b_X4_wordAt_2 k2 x1 x2 x3 s t = some q → Wp pl_Kc 40 2 [some (.ref 28), some (.int x1), some (.int x2), some (.int x3)] [] (mk s t) (Qi q) := by
  intro x1 x2 x3 s t q h
  unfold b_X4_wordAt_2 at h
  refine w_li rfl rfl ?_
  refine w_ci rfl ?_
  refine w_ic_gt rfl (fun c1 => ?_) (fun c1 => ?_)
  · replace h := ifp h c1
    refine w_ci rfl ?_
    exact a_ri rfl h
  · replace h := ifn h c1
    refine w_la rfl rfl ?_
    refine w_li rfl rfl ?_
    obtain ⟨q2, e2, h⟩ := bnd h
    refine a_st1s rfl (Nat.le_of_ble_eq_true rfl) (T_X4_spelling e2) ?_
    refine w_li rfl rfl ?_
    refine w_li rfl rfl ?_
    obtain ⟨q3, e3, h⟩ := bnd h
    refine a_vi3i rfl (mg_28 _ _) (Nat.le_of_ble_eq_true rfl) (T_X4_isSpelt e3) ?_
    refine w_if_eq rfl (fun c4 => ?_) (fun c4 => ?_)
    · replace h := ifp h c4
      refine w_inc rfl rfl rfl ?_
      refine w_go rfl ?_
      exact Wp_fgt (fg_s (fg_s (fg_s (fg_s fg_e)))) (hk2 _ _ _ _ _ _ h)
    · replace h := ifn h c4
      refine w_li rfl rfl ?_
      exact a_ri rfl h
theorem K_X4_wordAt_2  : ∀ (n : Nat) (x1 : Int32) (x2 : Int32) (x3 : Int32) (s : SS) (t : TT) (q : Int32 × SS × TT), l_X4_wordAt_2 n (x1, x2, x3, s, t) = some q → Wp pl_Kc 40 2 [some (.ref 28), some (.int x1), some (.int x2), some (.int x3)] [] (mk s t) (Qi q)
  | 0, x1, x2, x3, s, t, q, h => by cases (show (none : Option (Int32 × SS × TT)) = some q from h)
  | n + 1, x1, x2, x3, s, t, q, h => B_X4_wordAt_2 (K_X4_wordAt_2 n) x1 x2 x3 s t q h
set_option maxRecDepth 100000 in
theorem T_X4_wordAt  {x1 : Int32} {x2 : Int32} {s : SS} {t : TT} {q : Int32 × SS × TT} (h : f_X4_wordAt x1 x2 s t = some q) : Wm 40 [.ref 28, .int x1, .int x2] (mk s t) (Qi q) := by
  refine Wm.of pT_40 (Nat.le_of_ble_eq_true rfl) (L0 := [some (.ref 28), some (.int x1), some (.int x2), none]) rfl ?_
  unfold f_X4_wordAt at h
  refine w_ci rfl ?_
  refine w_si rfl (Nat.le_of_ble_eq_true rfl) rfl ?_
  exact Wp_fgt (fg_s (fg_s (fg_s (fg_s fg_e)))) (K_X4_wordAt_2 _ _ _ _ _ _ _ h)
-- X4_addToken
set_option maxRecDepth 100000 in
theorem T_X4_addToken  {x1 : Int32} {x2 : Int32} {x3 : Int32} {s : SS} {t : TT} {q : SS × TT} (h : f_X4_addToken x1 x2 x3 s t = some q) : Wm 39 [.ref 28, .int x1, .int x2, .int x3] (mk s t) (Qv q) := by
  refine Wm.of pT_39 (Nat.le_of_ble_eq_true rfl) (L0 := [some (.ref 28), some (.int x1), some (.int x2), some (.int x3)]) rfl ?_
  unfold f_X4_addToken at h
  refine w_la rfl rfl ?_
  refine w_gf rfl (mg_28 _ _) rfl ?_
  refine w_la rfl rfl ?_
  refine w_gf rfl (mg_28 _ _) rfl ?_
  refine w_len rfl (n := 201) rfl ?_
  refine w_ic_ge rfl (fun c1 => ?_) (fun c1 => ?_)
  · replace h := ifp h c1
    exact a_rv rfl h
  · replace h := ifn h c1
    refine w_la rfl rfl ?_
    refine w_gf rfl (mg_28 _ _) rfl ?_
    refine w_la rfl rfl ?_
    refine w_gf rfl (mg_28 _ _) rfl ?_
    refine w_li rfl rfl ?_
    obtain ⟨j2, e2, h⟩ := bnd h
    refine a_is rfl (mg_30 _ _) (ms_30 _ _) e2 (fun s2 w2 => ?_)
    replace h := wr_of h s2 w2
    refine w_la rfl rfl ?_
    refine w_gf rfl (mg_28 _ _) rfl ?_
    refine w_la rfl rfl ?_
    refine w_gf rfl (mg_28 _ _) rfl ?_
    refine w_li rfl rfl ?_
    obtain ⟨j3, e3, h⟩ := bnd h
    refine a_is rfl (mg_31 _ _) (ms_31 _ _) e3 (fun s3 w3 => ?_)
    replace h := wr_of h s3 w3
    refine w_la rfl rfl ?_
    refine w_gf rfl (mg_28 _ _) rfl ?_
    refine w_la rfl rfl ?_
    refine w_gf rfl (mg_28 _ _) rfl ?_
    refine w_li rfl rfl ?_
    obtain ⟨j4, e4, h⟩ := bnd h
    refine a_is rfl (mg_32 _ _) (ms_32 _ _) e4 (fun s4 w4 => ?_)
    replace h := wr_of h s4 w4
    refine w_la rfl rfl ?_
    refine w_dup rfl rfl ?_
    refine w_gf rfl (mg_28 _ _) rfl ?_
    refine w_ci rfl ?_
    refine w_iadd rfl ?_
    refine a_pf rfl rfl (mg_28 _ _) (Nat.le_of_ble_eq_true rfl) (ms_28_4 _ _) (fun s5 e5 => ?_)
    replace h := wr_of h s5 e5
    exact a_rv rfl h
-- X4_cutName
set_option maxRecDepth 100000 in
theorem J_X4_cutName_30  : ∀ (x1 : Int32) (x2 : Int32) (s : SS) (t : TT) (q : Int32 × SS × TT), j_X4_cutName_30 x1 x2 s t = some q → Wp pl_Kc 37 30 [some (.ref 28), some (.int x1), some (.int x2)] [] (mk s t) (Qi q) := by
  intro x1 x2 s t q h
  unfold j_X4_cutName_30 at h
  refine w_la rfl rfl ?_
  refine w_ci rfl ?_
  refine w_la rfl rfl ?_
  refine w_li rfl rfl ?_
  refine w_li rfl rfl ?_
  refine w_li rfl rfl ?_
  refine w_isub rfl ?_
  obtain ⟨q1, e1, h⟩ := bnd h
  refine a_vi2i rfl (mg_28 _ _) (Nat.le_of_ble_eq_true rfl) (T_X4_wordAt e1) ?_
  refine w_li rfl rfl ?_
  obtain ⟨q2, e2, h⟩ := bnd h
  refine a_vi3v rfl (mg_28 _ _) (Nat.le_of_ble_eq_true rfl) (T_X4_addToken e2) ?_
  refine w_li rfl rfl ?_
  exact a_ri rfl h
set_option maxRecDepth 100000 in
theorem B_X4_cutName_4  {k4 : Int32 × Int32 × SS × TT → Option (Int32 × SS × TT)} (hk4 : ∀ (x1 : Int32) (x2 : Int32) (s : SS) (t : TT) (q : Int32 × SS × TT), k4 (x1, x2, s, t) = some q → Wp pl_Kc 37 4 [some (.ref 28), some (.int x1), some (.int x2)] [] (mk s t) (Qi q)) : ∀ (x1 : Int32) (x2 : Int32) (s : SS) (t : TT) (q : Int32 × SS × TT), b_X4_cutName_4 k4 x1 x2 s t = some q → Wp pl_Kc 37 4 [some (.ref 28), some (.int x1), some (.int x2)] [] (mk s t) (Qi q) := by
  intro x1 x2 s t q h
  unfold b_X4_cutName_4 at h
  refine w_li rfl rfl ?_
  refine w_la rfl rfl ?_
  refine w_gf rfl (mg_28 _ _) rfl ?_
  refine w_ic_ge rfl (fun c1 => ?_) (fun c1 => ?_)
  · replace h := ifp h c1
    exact Wp_fgt (fg_s (fg_s (fg_s fg_e))) (J_X4_cutName_30 _ _ _ _ _ h)
  · replace h := ifn h c1
    refine w_la rfl rfl ?_
    refine w_gf rfl (mg_28 _ _) rfl ?_
    refine w_li rfl rfl ?_
    obtain ⟨j2, e2, h⟩ := bnd h
    refine a_ia rfl (mr_29 _ _ _) e2 ?_
    obtain ⟨q3, e3, h⟩ := bnd h
    refine a_st1i rfl (Nat.le_of_ble_eq_true rfl) (T_X4_isLetter e3) ?_
    refine w_if_eq rfl (fun c4 => ?_) (fun c4 => ?_)
    · replace h := ifp h c4
      exact Wp_fgt (fg_s (fg_s (fg_s fg_e))) (J_X4_cutName_30 _ _ _ _ _ h)
    · replace h := ifn h c4
      refine w_inc rfl rfl rfl ?_
      refine w_go rfl ?_
      exact Wp_fgt (fg_s (fg_s (fg_s fg_e))) (hk4 _ _ _ _ _ h)
theorem K_X4_cutName_4  : ∀ (n : Nat) (x1 : Int32) (x2 : Int32) (s : SS) (t : TT) (q : Int32 × SS × TT), l_X4_cutName_4 n (x1, x2, s, t) = some q → Wp pl_Kc 37 4 [some (.ref 28), some (.int x1), some (.int x2)] [] (mk s t) (Qi q)
  | 0, x1, x2, s, t, q, h => by cases (show (none : Option (Int32 × SS × TT)) = some q from h)
  | n + 1, x1, x2, s, t, q, h => B_X4_cutName_4 (K_X4_cutName_4 n) x1 x2 s t q h
set_option maxRecDepth 100000 in
theorem T_X4_cutName  {x1 : Int32} {s : SS} {t : TT} {q : Int32 × SS × TT} (h : f_X4_cutName x1 s t = some q) : Wm 37 [.ref 28, .int x1] (mk s t) (Qi q) := by
  refine Wm.of pT_37 (Nat.le_of_ble_eq_true rfl) (L0 := [some (.ref 28), some (.int x1), none]) rfl ?_
  unfold f_X4_cutName at h
  refine w_li rfl rfl ?_
  refine w_ci rfl ?_
  refine w_iadd rfl ?_
  refine w_si rfl (Nat.le_of_ble_eq_true rfl) rfl ?_
  exact Wp_fgt (fg_s (fg_s (fg_s fg_e))) (K_X4_cutName_4 _ _ _ _ _ _ h)
-- X4_isDigit
set_option maxRecDepth 100000 in
theorem T_X4_isDigit  {x0 : Int32} {s : SS} {t : TT} {q : Int32 × SS × TT} (h : f_X4_isDigit x0 s t = some q) : Wm 44 [.int x0] (mk s t) (Qi q) := by
  refine Wm.of pT_44 (Nat.le_of_ble_eq_true rfl) (L0 := [some (.int x0)]) rfl ?_
  unfold f_X4_isDigit at h
  refine w_li rfl rfl ?_
  refine w_ci rfl ?_
  refine w_ci rfl ?_
  obtain ⟨q1, e1, h⟩ := bnd h
  refine a_st3i rfl (Nat.le_of_ble_eq_true rfl) (T_X5_isWithin e1) ?_
  exact a_rzc rfl h
-- X4_cutNumber
set_option maxRecDepth 100000 in
theorem J_X4_cutNumber_67  : ∀ (x1 : Int32) (x3 : Int32) (y0 : Int32) (y1 : Int32) (s : SS) (t : TT) (q : Int32 × SS × TT), j_X4_cutNumber_67 x1 x3 y0 y1 s t = some q → Wp pl_Kc 38 67 [none, some (.int x1), none, some (.int x3)] [.int y0, .int y1, .ref 28] (mk s t) (Qi q) := by
  intro x1 x3 y0 y1 s t q h
  unfold j_X4_cutNumber_67 at h
  refine w_li rfl rfl ?_
  obtain ⟨q1, e1, h⟩ := bnd h
  refine a_vi3v rfl (mg_28 _ _) (Nat.le_of_ble_eq_true rfl) (T_X4_addToken e1) ?_
  refine w_li rfl rfl ?_
  exact a_ri rfl h
set_option maxRecDepth 100000 in
theorem J_X4_cutNumber_51  : ∀ (x1 : Int32) (x2 : Int32) (x3 : Int32) (s : SS) (t : TT) (q : Int32 × SS × TT), j_X4_cutNumber_51 x1 x2 x3 s t = some q → Wp pl_Kc 38 51 [some (.ref 28), some (.int x1), some (.int x2), some (.int x3)] [] (mk s t) (Qi q) := by
  intro x1 x2 x3 s t q h
  unfold j_X4_cutNumber_51 at h
  refine w_la rfl rfl ?_
  refine w_ci rfl ?_
  refine w_li rfl rfl ?_
  refine w_li rfl rfl ?_
  refine w_isub rfl ?_
  refine w_ci rfl ?_
  refine w_ic_le rfl (fun c1 => ?_) (fun c1 => ?_)
  · replace h := ifp h c1
    refine w_li rfl rfl ?_
    exact Wp_fgt (fg_n (fg_s (fg_n (fg_s fg_e)))) (J_X4_cutNumber_67 _ _ _ _ _ _ _ h)
  · replace h := ifn h c1
    refine w_ci rfl ?_
    refine w_go rfl ?_
    exact Wp_fgt (fg_n (fg_s (fg_n (fg_s fg_e)))) (J_X4_cutNumber_67 _ _ _ _ _ _ _ h)
set_option maxRecDepth 100000 in
theorem B_X4_cutNumber_4  {k4 : Int32 × Int32 × Int32 × SS × TT → Option (Int32 × SS × TT)} (hk4 : ∀ (x1 : Int32) (x2 : Int32) (x3 : Int32) (s : SS) (t : TT) (q : Int32 × SS × TT), k4 (x1, x2, x3, s, t) = some q → Wp pl_Kc 38 4 [some (.ref 28), some (.int x1), some (.int x2), some (.int x3)] [] (mk s t) (Qi q)) : ∀ (x1 : Int32) (x2 : Int32) (x3 : Int32) (s : SS) (t : TT) (q : Int32 × SS × TT), b_X4_cutNumber_4 k4 x1 x2 x3 s t = some q → Wp pl_Kc 38 4 [some (.ref 28), some (.int x1), some (.int x2), some (.int x3)] [] (mk s t) (Qi q) := by
  intro x1 x2 x3 s t q h
  unfold b_X4_cutNumber_4 at h
  refine w_li rfl rfl ?_
  refine w_la rfl rfl ?_
  refine w_gf rfl (mg_28 _ _) rfl ?_
  refine w_ic_ge rfl (fun c1 => ?_) (fun c1 => ?_)
  · replace h := ifp h c1
    exact Wp_fgt (fg_s (fg_s (fg_s (fg_s fg_e)))) (J_X4_cutNumber_51 _ _ _ _ _ _ h)
  · replace h := ifn h c1
    refine w_la rfl rfl ?_
    refine w_gf rfl (mg_28 _ _) rfl ?_
    refine w_li rfl rfl ?_
    obtain ⟨j2, e2, h⟩ := bnd h
    refine a_ia rfl (mr_29 _ _ _) e2 ?_
    obtain ⟨q3, e3, h⟩ := bnd h
    refine a_st1i rfl (Nat.le_of_ble_eq_true rfl) (T_X4_isDigit e3) ?_
    refine w_if_eq rfl (fun c4 => ?_) (fun c4 => ?_)
    · replace h := ifp h c4
      exact Wp_fgt (fg_s (fg_s (fg_s (fg_s fg_e)))) (J_X4_cutNumber_51 _ _ _ _ _ _ h)
    · replace h := ifn h c4
      refine w_ci rfl ?_
      refine w_li rfl rfl ?_
      refine w_ci rfl ?_
      refine w_imul rfl ?_
      refine w_la rfl rfl ?_
      refine w_gf rfl (mg_28 _ _) rfl ?_
      refine w_li rfl rfl ?_
      obtain ⟨j5, e5, h⟩ := bnd h
      refine a_ia rfl (mr_29 _ _ _) e5 ?_
      refine w_iadd rfl ?_
      refine w_ci rfl ?_
      refine w_isub rfl ?_
      refine w_mm rfl (Nat.le_of_ble_eq_true rfl) ?_
      refine w_si rfl (Nat.le_of_ble_eq_true rfl) rfl ?_
      refine w_inc rfl rfl rfl ?_
      refine w_go rfl ?_
      exact Wp_fgt (fg_s (fg_s (fg_s (fg_s fg_e)))) (hk4 _ _ _ _ _ _ h)
theorem K_X4_cutNumber_4  : ∀ (n : Nat) (x1 : Int32) (x2 : Int32) (x3 : Int32) (s : SS) (t : TT) (q : Int32 × SS × TT), l_X4_cutNumber_4 n (x1, x2, x3, s, t) = some q → Wp pl_Kc 38 4 [some (.ref 28), some (.int x1), some (.int x2), some (.int x3)] [] (mk s t) (Qi q)
  | 0, x1, x2, x3, s, t, q, h => by cases (show (none : Option (Int32 × SS × TT)) = some q from h)
  | n + 1, x1, x2, x3, s, t, q, h => B_X4_cutNumber_4 (K_X4_cutNumber_4 n) x1 x2 x3 s t q h
set_option maxRecDepth 100000 in
theorem T_X4_cutNumber  {x1 : Int32} {s : SS} {t : TT} {q : Int32 × SS × TT} (h : f_X4_cutNumber x1 s t = some q) : Wm 38 [.ref 28, .int x1] (mk s t) (Qi q) := by
  refine Wm.of pT_38 (Nat.le_of_ble_eq_true rfl) (L0 := [some (.ref 28), some (.int x1), none, none]) rfl ?_
  unfold f_X4_cutNumber at h
  refine w_ci rfl ?_
  refine w_si rfl (Nat.le_of_ble_eq_true rfl) rfl ?_
  refine w_li rfl rfl ?_
  refine w_si rfl (Nat.le_of_ble_eq_true rfl) rfl ?_
  exact Wp_fgt (fg_s (fg_s (fg_s (fg_s fg_e)))) (K_X4_cutNumber_4 _ _ _ _ _ _ _ h)
-- X4_cut
set_option maxRecDepth 100000 in
theorem J_X4_cut_91  : ∀ (s : SS) (t : TT) (q : SS × TT), j_X4_cut_91 s t = some q → Wp pl_Kc 36 91 [some (.ref 28), none, none, none] [] (mk s t) (Qv q) := by
  intro s t q h
  unfold j_X4_cut_91 at h
  refine w_la rfl rfl ?_
  refine w_ci rfl ?_
  refine w_ci rfl ?_
  refine w_la rfl rfl ?_
  refine w_gf rfl (mg_28 _ _) rfl ?_
  obtain ⟨q1, e1, h⟩ := bnd h
  refine a_vi3v rfl (mg_28 _ _) (Nat.le_of_ble_eq_true rfl) (T_X4_addToken e1) ?_
  exact a_rv rfl h
set_option maxRecDepth 100000 in
theorem B_X4_cut_9  {k9 : Int32 × Int32 × SS × TT → Option (SS × TT)} (hk9 : ∀ (x1 : Int32) (x2 : Int32) (s : SS) (t : TT) (q : SS × TT), k9 (x1, x2, s, t) = some q → Wp pl_Kc 36 9 [some (.ref 28), some (.int x1), some (.int x2), none] [] (mk s t) (Qv q)) : ∀ (x1 : Int32) (x2 : Int32) (s : SS) (t : TT) (q : SS × TT), b_X4_cut_9 k9 x1 x2 s t = some q → Wp pl_Kc 36 9 [some (.ref 28), some (.int x1), some (.int x2), none] [] (mk s t) (Qv q) := by
  intro x1 x2 s t q h
  unfold b_X4_cut_9 at h
  refine w_li rfl rfl ?_
  refine w_ci rfl ?_
  refine w_ic_ge rfl (fun c1 => ?_) (fun c1 => ?_)
  · replace h := ifp h c1
    exact Wp_fgt (fg_s (fg_n (fg_n (fg_n fg_e)))) (J_X4_cut_91 _ _ _ h)
  · replace h := ifn h c1
    refine w_li rfl rfl ?_
    refine w_la rfl rfl ?_
    refine w_gf rfl (mg_28 _ _) rfl ?_
    refine w_ic_ge rfl (fun c2 => ?_) (fun c2 => ?_)
    · replace h := ifp h c2
      exact Wp_fgt (fg_s (fg_n (fg_n (fg_n fg_e)))) (J_X4_cut_91 _ _ _ h)
    · replace h := ifn h c2
      refine w_la rfl rfl ?_
      refine w_gf rfl (mg_28 _ _) rfl ?_
      refine w_li rfl rfl ?_
      obtain ⟨j3, e3, h⟩ := bnd h
      refine a_ia rfl (mr_29 _ _ _) e3 ?_
      refine w_si rfl (Nat.le_of_ble_eq_true rfl) rfl ?_
      refine w_li rfl rfl ?_
      refine w_ci rfl ?_
      refine w_ic_ne rfl (fun c4 => ?_) (fun c4 => ?_)
      · replace h := ifn h c4
        refine w_li rfl rfl ?_
        obtain ⟨q5, e5, h⟩ := bnd h
        refine a_st1i rfl (Nat.le_of_ble_eq_true rfl) (T_X4_isLetter e5) ?_
        refine w_if_eq rfl (fun c6 => ?_) (fun c6 => ?_)
        · replace h := ifp h c6
          refine w_li rfl rfl ?_
          obtain ⟨q7, e7, h⟩ := bnd h
          refine a_st1i rfl (Nat.le_of_ble_eq_true rfl) (T_X4_isDigit e7) ?_
          refine w_if_eq rfl (fun c8 => ?_) (fun c8 => ?_)
          · replace h := ifp h c8
            refine w_la rfl rfl ?_
            refine w_ci rfl ?_
            refine w_li rfl rfl ?_
            refine w_li rfl rfl ?_
            obtain ⟨q9, e9, h⟩ := bnd h
            refine a_vi3v rfl (mg_28 _ _) (Nat.le_of_ble_eq_true rfl) (T_X4_addToken e9) ?_
            refine w_inc rfl rfl rfl ?_
            refine w_inc rfl rfl rfl ?_
            refine w_go rfl ?_
            exact Wp_fgt (fg_s (fg_s (fg_s (fg_n fg_e)))) (hk9 _ _ _ _ _ h)
          · replace h := ifn h c8
            refine w_la rfl rfl ?_
            refine w_li rfl rfl ?_
            obtain ⟨q10, e10, h⟩ := bnd h
            refine a_vi1i rfl (mg_28 _ _) (Nat.le_of_ble_eq_true rfl) (T_X4_cutNumber e10) ?_
            refine w_si rfl (Nat.le_of_ble_eq_true rfl) rfl ?_
            refine w_go rfl ?_
            refine w_inc rfl rfl rfl ?_
            refine w_go rfl ?_
            exact Wp_fgt (fg_s (fg_s (fg_s (fg_n fg_e)))) (hk9 _ _ _ _ _ h)
        · replace h := ifn h c6
          refine w_la rfl rfl ?_
          refine w_li rfl rfl ?_
          obtain ⟨q11, e11, h⟩ := bnd h
          refine a_vi1i rfl (mg_28 _ _) (Nat.le_of_ble_eq_true rfl) (T_X4_cutName e11) ?_
          refine w_si rfl (Nat.le_of_ble_eq_true rfl) rfl ?_
          refine w_go rfl ?_
          refine w_inc rfl rfl rfl ?_
          refine w_go rfl ?_
          exact Wp_fgt (fg_s (fg_s (fg_s (fg_n fg_e)))) (hk9 _ _ _ _ _ h)
      · replace h := ifp h (Classical.not_not.mp c4)
        refine w_inc rfl rfl rfl ?_
        refine w_go rfl ?_
        refine w_inc rfl rfl rfl ?_
        refine w_go rfl ?_
        exact Wp_fgt (fg_s (fg_s (fg_s (fg_n fg_e)))) (hk9 _ _ _ _ _ h)
theorem K_X4_cut_9  : ∀ (n : Nat) (x1 : Int32) (x2 : Int32) (s : SS) (t : TT) (q : SS × TT), l_X4_cut_9 n (x1, x2, s, t) = some q → Wp pl_Kc 36 9 [some (.ref 28), some (.int x1), some (.int x2), none] [] (mk s t) (Qv q)
  | 0, x1, x2, s, t, q, h => by cases (show (none : Option (SS × TT)) = some q from h)
  | n + 1, x1, x2, s, t, q, h => B_X4_cut_9 (K_X4_cut_9 n) x1 x2 s t q h
set_option maxRecDepth 100000 in
theorem T_X4_cut  {s : SS} {t : TT} {q : SS × TT} (h : f_X4_cut s t = some q) : Wm 36 [.ref 28] (mk s t) (Qv q) := by
  refine Wm.of pT_36 (Nat.le_of_ble_eq_true rfl) (L0 := [some (.ref 28), none, none, none]) rfl ?_
  unfold f_X4_cut at h
  refine w_la rfl rfl ?_
  refine w_ci rfl ?_
  refine a_pf rfl rfl (mg_28 _ _) (Nat.le_of_ble_eq_true rfl) (ms_28_4 _ _) (fun s1 e1 => ?_)
  replace h := wr_of h s1 e1
  refine w_ci rfl ?_
  refine w_si rfl (Nat.le_of_ble_eq_true rfl) rfl ?_
  refine w_ci rfl ?_
  refine w_si rfl (Nat.le_of_ble_eq_true rfl) rfl ?_
  exact Wp_fgt (fg_s (fg_s (fg_s (fg_n fg_e)))) (K_X4_cut_9 _ _ _ _ _ _ h)
-- X5_isKind
set_option maxRecDepth 100000 in
theorem T_X5_isKind  {x0 : Int32} {s : SS} {t : TT} {q : Int32 × SS × TT} (h : f_X5_isKind x0 s t = some q) : Wm 96 [.int x0] (mk s t) (Qi q) := by
  refine Wm.of pT_96 (Nat.le_of_ble_eq_true rfl) (L0 := [some (.int x0)]) rfl ?_
  unfold f_X5_isKind at h
  refine w_li rfl rfl ?_
  refine w_ci rfl ?_
  refine w_ci rfl ?_
  obtain ⟨q1, e1, h⟩ := bnd h
  refine a_st3i rfl (Nat.le_of_ble_eq_true rfl) (T_X5_isWithin e1) ?_
  exact a_rzc rfl h
-- X4_fail
set_option maxRecDepth 100000 in
theorem T_X4_fail  {s : SS} {t : TT} {q : SS × TT} (h : f_X4_fail s t = some q) : Wm 50 [.ref 28] (mk s t) (Qv q) := by
  refine Wm.of pT_50 (Nat.le_of_ble_eq_true rfl) (L0 := [some (.ref 28)]) rfl ?_
  unfold f_X4_fail at h
  refine w_la rfl rfl ?_
  refine w_gf rfl (mg_28 _ _) rfl ?_
  refine w_if_ge rfl (fun c1 => ?_) (fun c1 => ?_)
  · replace h := ifp h c1
    exact a_rv rfl h
  · replace h := ifn h c1
    refine w_la rfl rfl ?_
    refine w_la rfl rfl ?_
    refine w_gf rfl (mg_28 _ _) rfl ?_
    refine w_la rfl rfl ?_
    refine w_gf rfl (mg_28 _ _) rfl ?_
    obtain ⟨j2, e2, h⟩ := bnd h
    refine a_ia rfl (mr_32 _ _ _) e2 ?_
    refine a_pf rfl rfl (mg_28 _ _) (Nat.le_of_ble_eq_true rfl) (ms_28_6 _ _) (fun s3 e3 => ?_)
    replace h := wr_of h s3 e3
    exact a_rv rfl h
-- X4_numberUpTo
set_option maxRecDepth 100000 in
theorem J_X4_numberUpTo_26  : ∀ (s : SS) (t : TT) (q : Int32 × SS × TT), j_X4_numberUpTo_26 s t = some q → Wp pl_Kc 48 26 [some (.ref 28), none, none] [] (mk s t) (Qi q) := by
  intro s t q h
  unfold j_X4_numberUpTo_26 at h
  refine w_la rfl rfl ?_
  obtain ⟨q1, e1, h⟩ := bnd h
  refine a_vi0v rfl (mg_28 _ _) (Nat.le_of_ble_eq_true rfl) (T_X4_fail e1) ?_
  refine w_ci rfl ?_
  exact a_ri rfl h
set_option maxRecDepth 100000 in
theorem T_X4_numberUpTo  {x1 : Int32} {s : SS} {t : TT} {q : Int32 × SS × TT} (h : f_X4_numberUpTo x1 s t = some q) : Wm 48 [.ref 28, .int x1] (mk s t) (Qi q) := by
  refine Wm.of pT_48 (Nat.le_of_ble_eq_true rfl) (L0 := [some (.ref 28), some (.int x1), none]) rfl ?_
  unfold f_X4_numberUpTo at h
  refine w_la rfl rfl ?_
  refine w_gf rfl (mg_28 _ _) rfl ?_
  refine w_la rfl rfl ?_
  refine w_gf rfl (mg_28 _ _) rfl ?_
  obtain ⟨j1, e1, h⟩ := bnd h
  refine a_ia rfl (mr_30 _ _ _) e1 ?_
  refine w_ci rfl ?_
  refine w_ic_ne rfl (fun c2 => ?_) (fun c2 => ?_)
  · replace h := ifn h c2
    exact Wp_fgt (fg_s (fg_n (fg_n fg_e))) (J_X4_numberUpTo_26 _ _ _ h)
  · replace h := ifp h (Classical.not_not.mp c2)
    refine w_la rfl rfl ?_
    refine w_gf rfl (mg_28 _ _) rfl ?_
    refine w_la rfl rfl ?_
    refine w_gf rfl (mg_28 _ _) rfl ?_
    obtain ⟨j3, e3, h⟩ := bnd h
    refine a_ia rfl (mr_31 _ _ _) e3 ?_
    refine w_li rfl rfl ?_
    refine w_ic_le rfl (fun c4 => ?_) (fun c4 => ?_)
    · replace h := ifp h c4
      refine w_la rfl rfl ?_
      refine w_gf rfl (mg_28 _ _) rfl ?_
      refine w_la rfl rfl ?_
      refine w_gf rfl (mg_28 _ _) rfl ?_
      obtain ⟨j5, e5, h⟩ := bnd h
      refine a_ia rfl (mr_31 _ _ _) e5 ?_
      refine w_si rfl (Nat.le_of_ble_eq_true rfl) rfl ?_
      refine w_la rfl rfl ?_
      refine w_dup rfl rfl ?_
      refine w_gf rfl (mg_28 _ _) rfl ?_
      refine w_ci rfl ?_
      refine w_iadd rfl ?_
      refine a_pf rfl rfl (mg_28 _ _) (Nat.le_of_ble_eq_true rfl) (ms_28_5 _ _) (fun s6 e6 => ?_)
      replace h := wr_of h s6 e6
      refine w_li rfl rfl ?_
      exact a_ri rfl h
    · replace h := ifn h c4
      exact Wp_fgt (fg_s (fg_n (fg_n fg_e))) (J_X4_numberUpTo_26 _ _ _ h)
-- X4_numberBehind
set_option maxRecDepth 100000 in
theorem T_X4_numberBehind  {x1 : Int32} {x2 : Int32} {s : SS} {t : TT} {q : Int32 × SS × TT} (h : f_X4_numberBehind x1 x2 s t = some q) : Wm 47 [.ref 28, .int x1, .int x2] (mk s t) (Qi q) := by
  refine Wm.of pT_47 (Nat.le_of_ble_eq_true rfl) (L0 := [some (.ref 28), some (.int x1), some (.int x2)]) rfl ?_
  unfold f_X4_numberBehind at h
  refine w_la rfl rfl ?_
  refine w_gf rfl (mg_28 _ _) rfl ?_
  refine w_la rfl rfl ?_
  refine w_gf rfl (mg_28 _ _) rfl ?_
  obtain ⟨j1, e1, h⟩ := bnd h
  refine a_ia rfl (mr_30 _ _ _) e1 ?_
  refine w_ci rfl ?_
  refine w_ic_ne rfl (fun c2 => ?_) (fun c2 => ?_)
  · replace h := ifn h c2
    refine w_ci rfl ?_
    exact a_ri rfl h
  · replace h := ifp h (Classical.not_not.mp c2)
    refine w_la rfl rfl ?_
    refine w_gf rfl (mg_28 _ _) rfl ?_
    refine w_la rfl rfl ?_
    refine w_gf rfl (mg_28 _ _) rfl ?_
    obtain ⟨j3, e3, h⟩ := bnd h
    refine a_ia rfl (mr_31 _ _ _) e3 ?_
    refine w_li rfl rfl ?_
    refine w_ic_eq rfl (fun c4 => ?_) (fun c4 => ?_)
    · replace h := ifp h c4
      refine w_la rfl rfl ?_
      refine w_dup rfl rfl ?_
      refine w_gf rfl (mg_28 _ _) rfl ?_
      refine w_ci rfl ?_
      refine w_iadd rfl ?_
      refine a_pf rfl rfl (mg_28 _ _) (Nat.le_of_ble_eq_true rfl) (ms_28_5 _ _) (fun s5 e5 => ?_)
      replace h := wr_of h s5 e5
      refine w_la rfl rfl ?_
      refine w_li rfl rfl ?_
      obtain ⟨q6, e6, h⟩ := bnd h
      refine a_vi1i rfl (mg_28 _ _) (Nat.le_of_ble_eq_true rfl) (T_X4_numberUpTo e6) ?_
      exact a_ri rfl h
    · replace h := ifn h c4
      refine w_ci rfl ?_
      exact a_ri rfl h
-- X4_tellPerson
set_option maxRecDepth 100000 in
theorem T_X4_tellPerson {o1 : Nat} (ho1 : isO o1) {x2 : Int32} {s : SS} {t : TT} {q : SS × TT} (h : f_X4_tellPerson o1 x2 s t = some q) : Wm 46 [.ref 28, .ref o1, .int x2] (mk s t) (Qv q) := by
  refine Wm.of pT_46 (Nat.le_of_ble_eq_true rfl) (L0 := [some (.ref 28), some (.ref o1), some (.int x2), none, none, none]) rfl ?_
  unfold f_X4_tellPerson at h
  refine w_la rfl rfl ?_
  refine w_dup rfl rfl ?_
  refine w_gf rfl (mg_28 _ _) rfl ?_
  refine w_ci rfl ?_
  refine w_iadd rfl ?_
  refine a_pf rfl rfl (mg_28 _ _) (Nat.le_of_ble_eq_true rfl) (ms_28_5 _ _) (fun s1 e1 => ?_)
  replace h := wr_of h s1 e1
  refine w_la rfl rfl ?_
  refine w_ci rfl ?_
  refine w_ci rfl ?_
  obtain ⟨q2, e2, h⟩ := bnd h
  refine a_vi2i rfl (mg_28 _ _) (Nat.le_of_ble_eq_true rfl) (T_X4_numberBehind e2) ?_
  refine w_si rfl (Nat.le_of_ble_eq_true rfl) rfl ?_
  refine w_la rfl rfl ?_
  refine w_ci rfl ?_
  refine w_ci rfl ?_
  obtain ⟨q3, e3, h⟩ := bnd h
  refine a_vi2i rfl (mg_28 _ _) (Nat.le_of_ble_eq_true rfl) (T_X4_numberBehind e3) ?_
  refine w_si rfl (Nat.le_of_ble_eq_true rfl) rfl ?_
  refine w_la rfl rfl ?_
  refine w_ci rfl ?_
  refine w_ci rfl ?_
  obtain ⟨q4, e4, h⟩ := bnd h
  refine a_vi2i rfl (mg_28 _ _) (Nat.le_of_ble_eq_true rfl) (T_X4_numberBehind e4) ?_
  refine w_si rfl (Nat.le_of_ble_eq_true rfl) rfl ?_
  refine w_la rfl rfl ?_
  refine w_li rfl rfl ?_
  refine w_li rfl rfl ?_
  refine w_li rfl rfl ?_
  refine w_li rfl rfl ?_
  obtain ⟨q5, e5, h⟩ := bnd h
  refine a_vi4v rfl (mgO ho1 _ _) (Nat.le_of_ble_eq_true rfl) (T_X1_add ho1 e5) ?_
  exact a_rv rfl h
-- X4_passSemicolon
set_option maxRecDepth 100000 in
theorem J_X4_passSemicolon_40  : ∀ (s : SS) (t : TT) (q : SS × TT), j_X4_passSemicolon_40 s t = some q → Wp pl_Kc 49 40 [some (.ref 28)] [] (mk s t) (Qv q) := by
  intro s t q h
  unfold j_X4_passSemicolon_40 at h
  refine w_la rfl rfl ?_
  obtain ⟨q1, e1, h⟩ := bnd h
  refine a_vi0v rfl (mg_28 _ _) (Nat.le_of_ble_eq_true rfl) (T_X4_fail e1) ?_
  exact a_rv rfl h
set_option maxRecDepth 100000 in
theorem T_X4_passSemicolon  {s : SS} {t : TT} {q : SS × TT} (h : f_X4_passSemicolon s t = some q) : Wm 49 [.ref 28] (mk s t) (Qv q) := by
  refine Wm.of pT_49 (Nat.le_of_ble_eq_true rfl) (L0 := [some (.ref 28)]) rfl ?_
  unfold f_X4_passSemicolon at h
  refine w_la rfl rfl ?_
  refine w_gf rfl (mg_28 _ _) rfl ?_
  refine w_la rfl rfl ?_
  refine w_gf rfl (mg_28 _ _) rfl ?_
  obtain ⟨j1, e1, h⟩ := bnd h
  refine a_ia rfl (mr_30 _ _ _) e1 ?_
  refine w_ci rfl ?_
  refine w_ic_ne rfl (fun c2 => ?_) (fun c2 => ?_)
  · replace h := ifn h c2
    exact Wp_fgt (fg_s fg_e) (J_X4_passSemicolon_40 _ _ _ h)
  · replace h := ifp h (Classical.not_not.mp c2)
    refine w_la rfl rfl ?_
    refine w_gf rfl (mg_28 _ _) rfl ?_
    refine w_la rfl rfl ?_
    refine w_gf rfl (mg_28 _ _) rfl ?_
    obtain ⟨j3, e3, h⟩ := bnd h
    refine a_ia rfl (mr_31 _ _ _) e3 ?_
    refine w_ci rfl ?_
    refine w_ic_ne rfl (fun c4 => ?_) (fun c4 => ?_)
    · replace h := ifn h c4
      exact Wp_fgt (fg_s fg_e) (J_X4_passSemicolon_40 _ _ _ h)
    · replace h := ifp h (Classical.not_not.mp c4)
      refine w_la rfl rfl ?_
      refine w_dup rfl rfl ?_
      refine w_gf rfl (mg_28 _ _) rfl ?_
      refine w_ci rfl ?_
      refine w_iadd rfl ?_
      refine a_pf rfl rfl (mg_28 _ _) (Nat.le_of_ble_eq_true rfl) (ms_28_5 _ _) (fun s5 e5 => ?_)
      replace h := wr_of h s5 e5
      refine w_go rfl ?_
      exact a_rv rfl h
-- X4_tellOne
set_option maxRecDepth 100000 in
theorem J_X4_tellOne_100 {o1 : Nat} (ho1 : isO o1) : ∀ (s : SS) (t : TT) (q : SS × TT), j_X4_tellOne_100 o1 s t = some q → Wp pl_Kc 45 100 [some (.ref 28), none, none, none] [] (mk s t) (Qv q) := by
  intro s t q h
  unfold j_X4_tellOne_100 at h
  refine w_la rfl rfl ?_
  obtain ⟨q1, e1, h⟩ := bnd h
  refine a_vi0v rfl (mg_28 _ _) (Nat.le_of_ble_eq_true rfl) (T_X4_passSemicolon e1) ?_
  exact a_rv rfl h
set_option maxRecDepth 100000 in
theorem J_X4_tellOne_52 {o1 : Nat} (ho1 : isO o1) : ∀ (x2 : Int32) (s : SS) (t : TT) (q : SS × TT), j_X4_tellOne_52 o1 x2 s t = some q → Wp pl_Kc 45 52 [some (.ref 28), some (.ref o1), some (.int x2), none] [] (mk s t) (Qv q) := by
  intro x2 s t q h
  unfold j_X4_tellOne_52 at h
  refine w_li rfl rfl ?_
  refine w_ci rfl ?_
  refine w_ci rfl ?_
  obtain ⟨q1, e1, h⟩ := bnd h
  refine a_st3i rfl (Nat.le_of_ble_eq_true rfl) (T_X5_isWithin e1) ?_
  refine w_if_eq rfl (fun c2 => ?_) (fun c2 => ?_)
  · replace h := ifp h c2
    refine w_la rfl rfl ?_
    obtain ⟨q3, e3, h⟩ := bnd h
    refine a_vi0v rfl (mg_28 _ _) (Nat.le_of_ble_eq_true rfl) (T_X4_fail e3) ?_
    exact Wp_fgt (fg_s (fg_n (fg_n (fg_n fg_e)))) (J_X4_tellOne_100 ho1 _ _ _ h)
  · replace h := ifn h c2
    refine w_la rfl rfl ?_
    refine w_dup rfl rfl ?_
    refine w_gf rfl (mg_28 _ _) rfl ?_
    refine w_ci rfl ?_
    refine w_iadd rfl ?_
    refine a_pf rfl rfl (mg_28 _ _) (Nat.le_of_ble_eq_true rfl) (ms_28_5 _ _) (fun s4 e4 => ?_)
    replace h := wr_of h s4 e4
    refine w_li rfl rfl ?_
    refine w_ci rfl ?_
    refine w_isub rfl ?_
    refine w_si rfl (Nat.le_of_ble_eq_true rfl) rfl ?_
    refine w_la rfl rfl ?_
    refine w_gf rfl (mgO ho1 _ _) rfl ?_
    refine w_li rfl rfl ?_
    refine w_la rfl rfl ?_
    refine w_gs rfl ?_
    refine w_li rfl rfl ?_
    obtain ⟨j5, e5, h⟩ := bnd h
    refine a_ic rfl (mrB_1 _ _) e5 ?_
    obtain ⟨q6, e6, h⟩ := bnd h
    refine a_vi1i rfl (mg_28 _ _) (Nat.le_of_ble_eq_true rfl) (T_X4_numberUpTo e6) ?_
    obtain ⟨j7, e7, h⟩ := bnd h
    refine a_is rfl (mgO_1 ho1 _ _) (msO_1 ho1 _ _) e7 (fun s7 w7 => ?_)
    replace h := wr_of h s7 w7
    refine w_go rfl ?_
    exact Wp_fgt (fg_s (fg_n (fg_n (fg_n fg_e)))) (J_X4_tellOne_100 ho1 _ _ _ h)
set_option maxRecDepth 100000 in
theorem J_X4_tellOne_26 {o1 : Nat} (ho1 : isO o1) : ∀ (y0 : Int32) (s : SS) (t : TT) (q : SS × TT), j_X4_tellOne_26 o1 y0 s t = some q → Wp pl_Kc 45 26 [some (.ref 28), some (.ref o1), none, none] [.int y0] (mk s t) (Qv q) := by
  intro y0 s t q h
  unfold j_X4_tellOne_26 at h
  refine w_si rfl (Nat.le_of_ble_eq_true rfl) rfl ?_
  refine w_li rfl rfl ?_
  obtain ⟨q1, e1, h⟩ := bnd h
  refine a_st1i rfl (Nat.le_of_ble_eq_true rfl) (T_X5_isKind e1) ?_
  refine w_if_eq rfl (fun c2 => ?_) (fun c2 => ?_)
  · replace h := ifp h c2
    exact Wp_fgt (fg_s (fg_s (fg_s (fg_n fg_e)))) (J_X4_tellOne_52 ho1 _ _ _ _ h)
  · replace h := ifn h c2
    refine w_la rfl rfl ?_
    refine w_gf rfl (mgO ho1 _ _) rfl ?_
    refine w_ci rfl ?_
    refine w_ic_ge rfl (fun c3 => ?_) (fun c3 => ?_)
    · replace h := ifp h c3
      exact Wp_fgt (fg_s (fg_s (fg_s (fg_n fg_e)))) (J_X4_tellOne_52 ho1 _ _ _ _ h)
    · replace h := ifn h c3
      refine w_la rfl rfl ?_
      refine w_la rfl rfl ?_
      refine w_li rfl rfl ?_
      obtain ⟨q4, e4, h⟩ := bnd h
      refine a_vi2v rfl (mg_28 _ _) (Nat.le_of_ble_eq_true rfl) (T_X4_tellPerson ho1 e4) ?_
      refine w_go rfl ?_
      exact Wp_fgt (fg_s (fg_n (fg_n (fg_n fg_e)))) (J_X4_tellOne_100 ho1 _ _ _ h)
set_option maxRecDepth 100000 in
theorem T_X4_tellOne {o1 : Nat} (ho1 : isO o1) {s : SS} {t : TT} {q : SS × TT} (h : f_X4_tellOne o1 s t = some q) : Wm 45 [.ref 28, .ref o1] (mk s t) (Qv q) := by
  refine Wm.of pT_45 (Nat.le_of_ble_eq_true rfl) (L0 := [some (.ref 28), some (.ref o1), none, none]) rfl ?_
  unfold f_X4_tellOne at h
  refine w_la rfl rfl ?_
  refine w_gf rfl (mg_28 _ _) rfl ?_
  refine w_la rfl rfl ?_
  refine w_gf rfl (mg_28 _ _) rfl ?_
  obtain ⟨j1, e1, h⟩ := bnd h
  refine a_ia rfl (mr_30 _ _ _) e1 ?_
  refine w_ci rfl ?_
  refine w_ic_ne rfl (fun c2 => ?_) (fun c2 => ?_)
  · replace h := ifn h c2
    refine w_ci rfl ?_
    exact Wp_fgt (fg_s (fg_s (fg_n (fg_n fg_e)))) (J_X4_tellOne_26 ho1 _ _ _ _ h)
  · replace h := ifp h (Classical.not_not.mp c2)
    refine w_la rfl rfl ?_
    refine w_gf rfl (mg_28 _ _) rfl ?_
    refine w_la rfl rfl ?_
    refine w_gf rfl (mg_28 _ _) rfl ?_
    obtain ⟨j3, e3, h⟩ := bnd h
    refine a_ia rfl (mr_31 _ _ _) e3 ?_
    refine w_go rfl ?_
    exact Wp_fgt (fg_s (fg_s (fg_n (fg_n fg_e)))) (J_X4_tellOne_26 ho1 _ _ _ _ h)
-- X4_tell
set_option maxRecDepth 100000 in
theorem B_X4_tell_17 {o1 : Nat} (ho1 : isO o1) {k17 : Int32 × SS × TT → Option (Int32 × SS × TT)} (hk17 : ∀ (x2 : Int32) (s : SS) (t : TT) (q : Int32 × SS × TT), k17 (x2, s, t) = some q → Wp pl_Kc 35 17 [some (.ref 28), some (.ref o1), some (.int x2)] [] (mk s t) (Qi q)) : ∀ (x2 : Int32) (s : SS) (t : TT) (q : Int32 × SS × TT), b_X4_tell_17 o1 k17 x2 s t = some q → Wp pl_Kc 35 17 [some (.ref 28), some (.ref o1), some (.int x2)] [] (mk s t) (Qi q) := by
  intro x2 s t q h
  unfold b_X4_tell_17 at h
  refine w_li rfl rfl ?_
  refine w_la rfl rfl ?_
  refine w_gf rfl (mg_28 _ _) rfl ?_
  refine w_ic_ge rfl (fun c1 => ?_) (fun c1 => ?_)
  · replace h := ifp h c1
    refine w_la rfl rfl ?_
    refine w_gf rfl (mg_28 _ _) rfl ?_
    exact a_ri rfl h
  · replace h := ifn h c1
    refine w_la rfl rfl ?_
    refine w_gf rfl (mg_28 _ _) rfl ?_
    refine w_if_ge rfl (fun c2 => ?_) (fun c2 => ?_)
    · replace h := ifp h c2
      refine w_la rfl rfl ?_
      refine w_gf rfl (mg_28 _ _) rfl ?_
      exact a_ri rfl h
    · replace h := ifn h c2
      refine w_la rfl rfl ?_
      refine w_gf rfl (mg_28 _ _) rfl ?_
      refine w_la rfl rfl ?_
      refine w_gf rfl (mg_28 _ _) rfl ?_
      obtain ⟨j3, e3, h⟩ := bnd h
      refine a_ia rfl (mr_30 _ _ _) e3 ?_
      refine w_if_eq rfl (fun c4 => ?_) (fun c4 => ?_)
      · replace h := ifp h c4
        refine w_la rfl rfl ?_
        refine w_gf rfl (mg_28 _ _) rfl ?_
        exact a_ri rfl h
      · replace h := ifn h c4
        refine w_la rfl rfl ?_
        refine w_la rfl rfl ?_
        obtain ⟨q5, e5, h⟩ := bnd h
        refine a_vi1v rfl (mg_28 _ _) (Nat.le_of_ble_eq_true rfl) (T_X4_tellOne ho1 e5) ?_
        refine w_inc rfl rfl rfl ?_
        refine w_go rfl ?_
        exact Wp_fgt (fg_s (fg_s (fg_s fg_e))) (hk17 _ _ _ _ h)
theorem K_X4_tell_17 {o1 : Nat} (ho1 : isO o1) : ∀ (n : Nat) (x2 : Int32) (s : SS) (t : TT) (q : Int32 × SS × TT), l_X4_tell_17 o1 n (x2, s, t) = some q → Wp pl_Kc 35 17 [some (.ref 28), some (.ref o1), some (.int x2)] [] (mk s t) (Qi q)
  | 0, x2, s, t, q, h => by cases (show (none : Option (Int32 × SS × TT)) = some q from h)
  | n + 1, x2, s, t, q, h => B_X4_tell_17 ho1 (K_X4_tell_17 ho1 n) x2 s t q h
set_option maxRecDepth 100000 in
theorem T_X4_tell {o1 : Nat} (ho1 : isO o1) {s : SS} {t : TT} {q : Int32 × SS × TT} (h : f_X4_tell o1 s t = some q) : Wm 35 [.ref 28, .ref o1] (mk s t) (Qi q) := by
  refine Wm.of pT_35 (Nat.le_of_ble_eq_true rfl) (L0 := [some (.ref 28), some (.ref o1), none]) rfl ?_
  unfold f_X4_tell at h
  refine w_la rfl rfl ?_
  obtain ⟨q1, e1, h⟩ := bnd h
  refine a_vi0v rfl (mg_28 _ _) (Nat.le_of_ble_eq_true rfl) (T_X4_cut e1) ?_
  refine w_la rfl rfl ?_
  refine w_ci rfl ?_
  refine a_pf rfl rfl (mg_28 _ _) (Nat.le_of_ble_eq_true rfl) (ms_28_5 _ _) (fun s2 e2 => ?_)
  replace h := wr_of h s2 e2
  refine w_la rfl rfl ?_
  refine w_ci rfl ?_
  refine a_pf rfl rfl (mg_28 _ _) (Nat.le_of_ble_eq_true rfl) (ms_28_6 _ _) (fun s3 e3 => ?_)
  replace h := wr_of h s3 e3
  refine w_ci rfl ?_
  refine w_si rfl (Nat.le_of_ble_eq_true rfl) rfl ?_
  exact Wp_fgt (fg_s (fg_s (fg_s fg_e))) (K_X4_tell_17 ho1 _ _ _ _ _ h)
-- X5_feed
set_option maxRecDepth 100000 in
theorem T_X5_feed  {x1 : Int64} {x3 : Int32} {s : SS} {t : TT} {q : Int32 × SS × TT} (h : f_X5_feed x1 x3 s t = some q) : Wm 52 [.ref 0, .long x1, .int x3] (mk s t) (Qi q) := by
  refine Wm.of pT_52 (Nat.le_of_ble_eq_true rfl) (L0 := [some (.ref 0), some (.long x1), none, some (.int x3)]) rfl ?_
  unfold f_X5_feed at h
  refine w_li rfl rfl ?_
  refine w_ci rfl ?_
  refine w_ci rfl ?_
  obtain ⟨q1, e1, h⟩ := bnd h
  refine a_st3i rfl (Nat.le_of_ble_eq_true rfl) (T_X5_isWithin e1) ?_
  refine w_if_ne rfl (fun c2 => ?_) (fun c2 => ?_)
  · replace h := ifn h c2
    refine w_la rfl rfl ?_
    refine w_gf rfl (mg_0 _ _) rfl ?_
    refine w_ll rfl rfl ?_
    refine w_li rfl rfl ?_
    obtain ⟨q3, e3, h⟩ := bnd h
    refine a_vi2i rfl (mg_28 _ _) (Nat.le_of_ble_eq_true rfl) (T_X4_take e3) ?_
    refine w_if_eq rfl (fun c4 => ?_) (fun c4 => ?_)
    · replace h := ifp h c4
      refine w_ci rfl ?_
      exact a_ri rfl h
    · replace h := ifn h c4
      refine w_la rfl rfl ?_
      refine w_gf rfl (mg_0 _ _) rfl ?_
      refine w_gf rfl (mg_28 _ _) rfl ?_
      refine w_go rfl ?_
      exact a_ri rfl h
  · replace h := ifp h (Classical.not_not.mp c2)
    refine w_ci rfl ?_
    exact a_ri rfl h
-- X5_post
set_option maxRecDepth 100000 in
theorem T_X5_post  {s : SS} {t : TT} {q : Int32 × SS × TT} (h : f_X5_post s t = some q) : Wm 53 [.ref 0] (mk s t) (Qi q) := by
  refine Wm.of pT_53 (Nat.le_of_ble_eq_true rfl) (L0 := [some (.ref 0), none]) rfl ?_
  unfold f_X5_post at h
  refine w_la rfl rfl ?_
  refine w_gf rfl (mg_0 _ _) rfl ?_
  obtain ⟨q1, e1, h⟩ := bnd h
  refine a_vi0v rfl (mg_19 _ _) (Nat.le_of_ble_eq_true rfl) (T_X1_begin (Or.inr (Or.inr rfl)) e1) ?_
  refine w_la rfl rfl ?_
  refine w_gf rfl (mg_0 _ _) rfl ?_
  refine w_la rfl rfl ?_
  refine w_gf rfl (mg_0 _ _) rfl ?_
  refine w_gf rfl (mg_1 _ _) rfl ?_
  refine a_pf rfl rfl (mg_19 _ _) (Nat.le_of_ble_eq_true rfl) (ms_19_11 _ _) (fun s2 e2 => ?_)
  replace h := wr_of h s2 e2
  refine w_la rfl rfl ?_
  refine w_gf rfl (mg_0 _ _) rfl ?_
  refine w_la rfl rfl ?_
  refine w_gf rfl (mg_0 _ _) rfl ?_
  obtain ⟨q3, e3, h⟩ := bnd h
  refine a_vi1i rfl (mg_28 _ _) (Nat.le_of_ble_eq_true rfl) (T_X4_tell (Or.inr (Or.inr rfl)) e3) ?_
  refine w_si rfl (Nat.le_of_ble_eq_true rfl) rfl ?_
  refine w_la rfl rfl ?_
  refine w_gf rfl (mg_0 _ _) rfl ?_
  refine w_ci rfl ?_
  refine a_pf rfl rfl (mg_28 _ _) (Nat.le_of_ble_eq_true rfl) (ms_28_7 _ _) (fun s4 e4 => ?_)
  replace h := wr_of h s4 e4
  refine w_li rfl rfl ?_
  refine w_if_lt rfl (fun c5 => ?_) (fun c5 => ?_)
  · replace h := ifp h c5
    refine w_la rfl rfl ?_
    refine w_gf rfl (mg_0 _ _) rfl ?_
    refine w_la rfl rfl ?_
    refine w_gf rfl (mg_0 _ _) rfl ?_
    obtain ⟨q6, e6, h⟩ := bnd h
    refine a_vi1v rfl (mg_1 _ _) (Nat.le_of_ble_eq_true rfl) (T_X1_become (Or.inl rfl) (Or.inr (Or.inr rfl)) e6) ?_
    refine w_la rfl rfl ?_
    refine w_ci rfl ?_
    refine a_pf rfl rfl (mg_0 _ _) (Nat.le_of_ble_eq_true rfl) (ms_0_9 _ _) (fun s7 e7 => ?_)
    replace h := wr_of h s7 e7
    refine w_la rfl rfl ?_
    refine w_gf rfl (mg_0 _ _) rfl ?_
    refine w_gf rfl (mg_1 _ _) rfl ?_
    exact a_ri rfl h
  · replace h := ifn h c5
    refine w_ci rfl ?_
    refine w_li rfl rfl ?_
    refine w_isub rfl ?_
    exact a_ri rfl h
-- X5_set
set_option maxRecDepth 100000 in
theorem T_X5_set  {x1 : Int32} {x2 : Int32} {s : SS} {t : TT} {q : Int32 × SS × TT} (h : f_X5_set x1 x2 s t = some q) : Wm 54 [.ref 0, .int x1, .int x2] (mk s t) (Qi q) := by
  refine Wm.of pT_54 (Nat.le_of_ble_eq_true rfl) (L0 := [some (.ref 0), some (.int x1), some (.int x2), none]) rfl ?_
  unfold f_X5_set at h
  refine w_li rfl rfl ?_
  refine w_ci rfl ?_
  refine w_ci rfl ?_
  obtain ⟨q1, e1, h⟩ := bnd h
  refine a_st3i rfl (Nat.le_of_ble_eq_true rfl) (T_X5_isWithin e1) ?_
  refine w_if_eq rfl (fun c2 => ?_) (fun c2 => ?_)
  · replace h := ifp h c2
    refine w_ci rfl ?_
    exact a_ri rfl h
  · replace h := ifn h c2
    refine w_li rfl rfl ?_
    refine w_ci rfl ?_
    refine w_gs rfl ?_
    refine w_li rfl rfl ?_
    obtain ⟨j3, e3, h⟩ := bnd h
    refine a_ic rfl (mrB_1 _ _) e3 ?_
    obtain ⟨q4, e4, h⟩ := bnd h
    refine a_st3i rfl (Nat.le_of_ble_eq_true rfl) (T_X5_isWithin e4) ?_
    refine w_if_ne rfl (fun c5 => ?_) (fun c5 => ?_)
    · replace h := ifn h c5
      refine w_la rfl rfl ?_
      refine w_gf rfl (mg_0 _ _) rfl ?_
      refine w_gf rfl (mg_1 _ _) rfl ?_
      refine w_li rfl rfl ?_
      obtain ⟨j6, e6, h⟩ := bnd h
      refine a_ia rfl (mr_2 _ _ _) e6 ?_
      refine w_si rfl (Nat.le_of_ble_eq_true rfl) rfl ?_
      refine w_la rfl rfl ?_
      refine w_gf rfl (mg_0 _ _) rfl ?_
      refine w_gf rfl (mg_1 _ _) rfl ?_
      refine w_li rfl rfl ?_
      refine w_li rfl rfl ?_
      obtain ⟨j7, e7, h⟩ := bnd h
      refine a_is rfl (mg_2 _ _) (ms_2 _ _) e7 (fun s7 w7 => ?_)
      replace h := wr_of h s7 w7
      refine w_li rfl rfl ?_
      exact a_ri rfl h
    · replace h := ifp h (Classical.not_not.mp c5)
      refine w_ci rfl ?_
      exact a_ri rfl h
-- X5_lawOf
set_option maxRecDepth 100000 in
theorem T_X5_lawOf  {x1 : Int32} {s : SS} {t : TT} {q : Int32 × SS × TT} (h : f_X5_lawOf x1 s t = some q) : Wm 55 [.ref 0, .int x1] (mk s t) (Qi q) := by
  refine Wm.of pT_55 (Nat.le_of_ble_eq_true rfl) (L0 := [some (.ref 0), some (.int x1)]) rfl ?_
  unfold f_X5_lawOf at h
  refine w_li rfl rfl ?_
  refine w_ci rfl ?_
  refine w_ci rfl ?_
  obtain ⟨q1, e1, h⟩ := bnd h
  refine a_st3i rfl (Nat.le_of_ble_eq_true rfl) (T_X5_isWithin e1) ?_
  refine w_if_eq rfl (fun c2 => ?_) (fun c2 => ?_)
  · replace h := ifp h c2
    refine w_ci rfl ?_
    exact a_ri rfl h
  · replace h := ifn h c2
    refine w_la rfl rfl ?_
    refine w_gf rfl (mg_0 _ _) rfl ?_
    refine w_gf rfl (mg_1 _ _) rfl ?_
    refine w_li rfl rfl ?_
    obtain ⟨j3, e3, h⟩ := bnd h
    refine a_ia rfl (mr_2 _ _ _) e3 ?_
    refine w_go rfl ?_
    exact a_ri rfl h
-- X5_person
set_option maxRecDepth 100000 in
theorem T_X5_person  {x1 : Int32} {x2 : Int32} {x3 : Int32} {x4 : Int32} {s : SS} {t : TT} {q : Int32 × SS × TT} (h : f_X5_person x1 x2 x3 x4 s t = some q) : Wm 56 [.ref 0, .int x1, .int x2, .int x3, .int x4] (mk s t) (Qi q) := by
  refine Wm.of pT_56 (Nat.le_of_ble_eq_true rfl) (L0 := [some (.ref 0), some (.int x1), some (.int x2), some (.int x3), some (.int x4)]) rfl ?_
  unfold f_X5_person at h
  refine w_li rfl rfl ?_
  obtain ⟨q1, e1, h⟩ := bnd h
  refine a_st1i rfl (Nat.le_of_ble_eq_true rfl) (T_X5_isKind e1) ?_
  refine w_if_eq rfl (fun c2 => ?_) (fun c2 => ?_)
  · replace h := ifp h c2
    refine w_ci rfl ?_
    exact a_ri rfl h
  · replace h := ifn h c2
    refine w_li rfl rfl ?_
    refine w_ci rfl ?_
    refine w_ci rfl ?_
    obtain ⟨q3, e3, h⟩ := bnd h
    refine a_st3i rfl (Nat.le_of_ble_eq_true rfl) (T_X5_isWithin e3) ?_
    refine w_if_eq rfl (fun c4 => ?_) (fun c4 => ?_)
    · replace h := ifp h c4
      refine w_ci rfl ?_
      exact a_ri rfl h
    · replace h := ifn h c4
      refine w_li rfl rfl ?_
      refine w_ci rfl ?_
      refine w_ci rfl ?_
      obtain ⟨q5, e5, h⟩ := bnd h
      refine a_st3i rfl (Nat.le_of_ble_eq_true rfl) (T_X5_isWithin e5) ?_
      refine w_if_eq rfl (fun c6 => ?_) (fun c6 => ?_)
      · replace h := ifp h c6
        refine w_ci rfl ?_
        exact a_ri rfl h
      · replace h := ifn h c6
        refine w_li rfl rfl ?_
        refine w_ci rfl ?_
        refine w_ci rfl ?_
        obtain ⟨q7, e7, h⟩ := bnd h
        refine a_st3i rfl (Nat.le_of_ble_eq_true rfl) (T_X5_isWithin e7) ?_
        refine w_if_ne rfl (fun c8 => ?_) (fun c8 => ?_)
        · replace h := ifn h c8
          refine w_la rfl rfl ?_
          refine w_gf rfl (mg_0 _ _) rfl ?_
          refine w_gf rfl (mg_1 _ _) rfl ?_
          refine w_ci rfl ?_
          refine w_ic_lt rfl (fun c9 => ?_) (fun c9 => ?_)
          · replace h := ifp h c9
            refine w_la rfl rfl ?_
            refine w_gf rfl (mg_0 _ _) rfl ?_
            refine w_li rfl rfl ?_
            refine w_li rfl rfl ?_
            refine w_li rfl rfl ?_
            refine w_li rfl rfl ?_
            obtain ⟨q10, e10, h⟩ := bnd h
            refine a_vi4v rfl (mg_1 _ _) (Nat.le_of_ble_eq_true rfl) (T_X1_add (Or.inl rfl) e10) ?_
            refine w_la rfl rfl ?_
            refine w_gf rfl (mg_0 _ _) rfl ?_
            refine w_gf rfl (mg_1 _ _) rfl ?_
            refine w_ci rfl ?_
            refine w_isub rfl ?_
            exact a_ri rfl h
          · replace h := ifn h c9
            refine w_ci rfl ?_
            exact a_ri rfl h
        · replace h := ifp h (Classical.not_not.mp c8)
          refine w_ci rfl ?_
          exact a_ri rfl h
-- X5_of
set_option maxRecDepth 100000 in
theorem T_X5_of  {x1 : Int32} {x2 : Int32} {s : SS} {t : TT} {q : Int32 × SS × TT} (h : f_X5_of x1 x2 s t = some q) : Wm 57 [.ref 0, .int x1, .int x2] (mk s t) (Qi q) := by
  refine Wm.of pT_57 (Nat.le_of_ble_eq_true rfl) (L0 := [some (.ref 0), some (.int x1), some (.int x2)]) rfl ?_
  unfold f_X5_of at h
  refine w_la rfl rfl ?_
  refine w_gf rfl (mg_0 _ _) rfl ?_
  refine w_li rfl rfl ?_
  obtain ⟨q1, e1, h⟩ := bnd h
  refine a_vi1i rfl (mg_1 _ _) (Nat.le_of_ble_eq_true rfl) (T_X1_has (Or.inl rfl) e1) ?_
  refine w_if_ne rfl (fun c2 => ?_) (fun c2 => ?_)
  · replace h := ifn h c2
    refine w_li rfl rfl ?_
    by_cases c3 : x2 = 0
    · replace h := ifp h c3
      refine w_swI rfl (tg := 52) (by rw [c3]; decide +kernel) ?_
      refine w_la rfl rfl ?_
      refine w_gf rfl (mg_0 _ _) rfl ?_
      refine w_gf rfl (mg_1 _ _) rfl ?_
      refine w_li rfl rfl ?_
      obtain ⟨j4, e4, h⟩ := bnd h
      refine a_ia rfl (mr_3 _ _ _) e4 ?_
      exact a_ri rfl h
    replace h := ifn h c3
    by_cases c5 : x2 = 1
    · replace h := ifp h c5
      refine w_swI rfl (tg := 62) (by rw [c5]; decide +kernel) ?_
      refine w_la rfl rfl ?_
      refine w_gf rfl (mg_0 _ _) rfl ?_
      refine w_gf rfl (mg_1 _ _) rfl ?_
      refine w_li rfl rfl ?_
      obtain ⟨j6, e6, h⟩ := bnd h
      refine a_ia rfl (mr_4 _ _ _) e6 ?_
      exact a_ri rfl h
    replace h := ifn h c5
    by_cases c7 : x2 = 2
    · replace h := ifp h c7
      refine w_swI rfl (tg := 72) (by rw [c7]; decide +kernel) ?_
      refine w_la rfl rfl ?_
      refine w_gf rfl (mg_0 _ _) rfl ?_
      refine w_gf rfl (mg_1 _ _) rfl ?_
      refine w_li rfl rfl ?_
      obtain ⟨j8, e8, h⟩ := bnd h
      refine a_ia rfl (mr_5 _ _ _) e8 ?_
      exact a_ri rfl h
    replace h := ifn h c7
    by_cases c9 : x2 = 3
    · replace h := ifp h c9
      refine w_swI rfl (tg := 82) (by rw [c9]; decide +kernel) ?_
      refine w_la rfl rfl ?_
      refine w_gf rfl (mg_0 _ _) rfl ?_
      refine w_gf rfl (mg_1 _ _) rfl ?_
      refine w_li rfl rfl ?_
      obtain ⟨j10, e10, h⟩ := bnd h
      refine a_ia rfl (mr_6 _ _ _) e10 ?_
      exact a_ri rfl h
    replace h := ifn h c9
    by_cases c11 : x2 = 4
    · replace h := ifp h c11
      refine w_swI rfl (tg := 92) (by rw [c11]; decide +kernel) ?_
      refine w_la rfl rfl ?_
      refine w_gf rfl (mg_0 _ _) rfl ?_
      refine w_gf rfl (mg_1 _ _) rfl ?_
      refine w_li rfl rfl ?_
      obtain ⟨j12, e12, h⟩ := bnd h
      refine a_ia rfl (mr_7 _ _ _) e12 ?_
      exact a_ri rfl h
    replace h := ifn h c11
    by_cases c13 : x2 = 5
    · replace h := ifp h c13
      refine w_swI rfl (tg := 102) (by rw [c13]; decide +kernel) ?_
      refine w_la rfl rfl ?_
      refine w_gf rfl (mg_0 _ _) rfl ?_
      refine w_gf rfl (mg_1 _ _) rfl ?_
      refine w_li rfl rfl ?_
      obtain ⟨j14, e14, h⟩ := bnd h
      refine a_ia rfl (mr_8 _ _ _) e14 ?_
      exact a_ri rfl h
    replace h := ifn h c13
    refine w_swI rfl (tg := 112) (sw_df (zs := [0, 1, 2, 3, 4, 5]) (swz_c (i32ne c3 rfl) (swz_c (i32ne c5 rfl) (swz_c (i32ne c7 rfl) (swz_c (i32ne c9 rfl) (swz_c (i32ne c11 rfl) (swz_c (i32ne c13 rfl) swz_n)))))) (by decide +kernel)) ?_
    refine w_ci rfl ?_
    exact a_ri rfl h
  · replace h := ifp h (Classical.not_not.mp c2)
    refine w_ci rfl ?_
    exact a_ri rfl h
-- X5_does
set_option maxRecDepth 100000 in
theorem T_X5_does  {x1 : Int32} {x2 : Int32} {s : SS} {t : TT} {q : Int32 × SS × TT} (h : f_X5_does x1 x2 s t = some q) : Wm 58 [.ref 0, .int x1, .int x2] (mk s t) (Qi q) := by
  refine Wm.of pT_58 (Nat.le_of_ble_eq_true rfl) (L0 := [some (.ref 0), some (.int x1), some (.int x2)]) rfl ?_
  unfold f_X5_does at h
  refine w_la rfl rfl ?_
  refine w_gf rfl (mg_0 _ _) rfl ?_
  refine w_li rfl rfl ?_
  obtain ⟨q1, e1, h⟩ := bnd h
  refine a_vi1i rfl (mg_1 _ _) (Nat.le_of_ble_eq_true rfl) (T_X1_has (Or.inl rfl) e1) ?_
  refine w_if_ne rfl (fun c2 => ?_) (fun c2 => ?_)
  · replace h := ifn h c2
    refine w_li rfl rfl ?_
    by_cases c3 : x2 = 0
    · replace h := ifp h c3
      refine w_swI rfl (tg := 44) (by rw [c3]; decide +kernel) ?_
      refine w_ci rfl ?_
      refine w_la rfl rfl ?_
      refine w_gf rfl (mg_0 _ _) rfl ?_
      refine w_li rfl rfl ?_
      obtain ⟨q4, e4, h⟩ := bnd h
      refine a_vi1i rfl (mg_1 _ _) (Nat.le_of_ble_eq_true rfl) (T_X1_thinking (Or.inl rfl) e4) ?_
      refine w_iadd rfl ?_
      exact a_ri rfl h
    replace h := ifn h c3
    by_cases c5 : x2 = 1
    · replace h := ifp h c5
      refine w_swI rfl (tg := 57) (by rw [c5]; decide +kernel) ?_
      refine w_ci rfl ?_
      refine w_la rfl rfl ?_
      refine w_gf rfl (mg_0 _ _) rfl ?_
      refine w_li rfl rfl ?_
      obtain ⟨q6, e6, h⟩ := bnd h
      refine a_vi1i rfl (mg_1 _ _) (Nat.le_of_ble_eq_true rfl) (T_X1_needing (Or.inl rfl) e6) ?_
      refine w_iadd rfl ?_
      exact a_ri rfl h
    replace h := ifn h c5
    by_cases c7 : x2 = 2
    · replace h := ifp h c7
      refine w_swI rfl (tg := 70) (by rw [c7]; decide +kernel) ?_
      refine w_ci rfl ?_
      refine w_la rfl rfl ?_
      refine w_gf rfl (mg_0 _ _) rfl ?_
      refine w_li rfl rfl ?_
      obtain ⟨q8, e8, h⟩ := bnd h
      refine a_vi1i rfl (mg_1 _ _) (Nat.le_of_ble_eq_true rfl) (T_X1_saying (Or.inl rfl) e8) ?_
      refine w_iadd rfl ?_
      exact a_ri rfl h
    replace h := ifn h c7
    by_cases c9 : x2 = 3
    · replace h := ifp h c9
      refine w_swI rfl (tg := 83) (by rw [c9]; decide +kernel) ?_
      refine w_la rfl rfl ?_
      refine w_gf rfl (mg_0 _ _) rfl ?_
      refine w_li rfl rfl ?_
      obtain ⟨q10, e10, h⟩ := bnd h
      refine a_vi1i rfl (mg_1 _ _) (Nat.le_of_ble_eq_true rfl) (T_X1_isUsing (Or.inl rfl) e10) ?_
      refine w_if_eq rfl (fun c11 => ?_) (fun c11 => ?_)
      · replace h := ifp h c11
        refine w_ci rfl ?_
        exact a_ri rfl h
      · replace h := ifn h c11
        refine w_ci rfl ?_
        refine w_go rfl ?_
        exact a_ri rfl h
    replace h := ifn h c9
    refine w_swI rfl (tg := 104) (sw_df (zs := [0, 1, 2, 3]) (swz_c (i32ne c3 rfl) (swz_c (i32ne c5 rfl) (swz_c (i32ne c7 rfl) (swz_c (i32ne c9 rfl) swz_n)))) (by decide +kernel)) ?_
    refine w_ci rfl ?_
    exact a_ri rfl h
  · replace h := ifp h (Classical.not_not.mp c2)
    refine w_ci rfl ?_
    exact a_ri rfl h
