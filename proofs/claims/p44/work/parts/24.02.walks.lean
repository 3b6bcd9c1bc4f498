-- the walks: a program laid these rows
-- X5_mind
set_option maxRecDepth 100000 in
theorem T_X5_mind  {x1 : Int32} {x2 : Int32} {x3 : Int32} {s : SS} {t : TT} {q : Int32 × SS × TT} (h : f_X5_mind x1 x2 x3 s t = some q) : Wm 59 [.ref 0, .int x1, .int x2, .int x3] (mk s t) (Qi q) := by
  refine Wm.of pT_59 (Nat.le_of_ble_eq_true rfl) (L0 := [some (.ref 0), some (.int x1), some (.int x2), some (.int x3), none]) rfl ?_
  unfold f_X5_mind at h
  refine w_la rfl rfl ?_
  refine w_gf rfl (mg_0 _ _) rfl ?_
  refine w_li rfl rfl ?_
  obtain ⟨q1, e1, h⟩ := bnd h
  refine a_vi1i rfl (mg_1 _ _) (Nat.le_of_ble_eq_true rfl) (T_X1_has (Or.inl rfl) e1) ?_
  refine w_if_eq rfl (fun c2 => ?_) (fun c2 => ?_)
  · replace h := ifp h c2
    refine w_ci rfl ?_
    exact a_ri rfl h
  · replace h := ifn h c2
    refine w_li rfl rfl ?_
    obtain ⟨q3, e3, h⟩ := bnd h
    refine a_st1i rfl (Nat.le_of_ble_eq_true rfl) (T_X5_isKind e3) ?_
    refine w_if_eq rfl (fun c4 => ?_) (fun c4 => ?_)
    · replace h := ifp h c4
      refine w_ci rfl ?_
      exact a_ri rfl h
    · replace h := ifn h c4
      refine w_li rfl rfl ?_
      refine w_ci rfl ?_
      refine w_ci rfl ?_
      obtain ⟨q5, e5, h⟩ := bnd h
      refine a_st3i rfl (Nat.le_of_ble_eq_true rfl) (T_X5_isWithin e5) ?_
      refine w_if_ne rfl (fun c6 => ?_) (fun c6 => ?_)
      · replace h := ifn h c6
        refine w_la rfl rfl ?_
        refine w_gf rfl (mg_0 _ _) rfl ?_
        refine w_gf rfl (mg_1 _ _) rfl ?_
        refine w_li rfl rfl ?_
        obtain ⟨j7, e7, h⟩ := bnd h
        refine a_ia rfl (mr_3 _ _ _) e7 ?_
        refine w_si rfl (Nat.le_of_ble_eq_true rfl) rfl ?_
        refine w_la rfl rfl ?_
        refine w_gf rfl (mg_0 _ _) rfl ?_
        refine w_gf rfl (mg_1 _ _) rfl ?_
        refine w_li rfl rfl ?_
        refine w_li rfl rfl ?_
        obtain ⟨j8, e8, h⟩ := bnd h
        refine a_is rfl (mg_3 _ _) (ms_3 _ _) e8 (fun s8 w8 => ?_)
        replace h := wr_of h s8 w8
        refine w_la rfl rfl ?_
        refine w_gf rfl (mg_0 _ _) rfl ?_
        refine w_gf rfl (mg_1 _ _) rfl ?_
        refine w_li rfl rfl ?_
        refine w_li rfl rfl ?_
        obtain ⟨j9, e9, h⟩ := bnd h
        refine a_is rfl (mg_5 _ _) (ms_5 _ _) e9 (fun s9 w9 => ?_)
        replace h := wr_of h s9 w9
        refine w_li rfl rfl ?_
        exact a_ri rfl h
      · replace h := ifp h (Classical.not_not.mp c6)
        refine w_ci rfl ?_
        exact a_ri rfl h
-- X5_thought
set_option maxRecDepth 100000 in
theorem T_X5_thought  {x1 : Int32} {x2 : Int32} {s : SS} {t : TT} {q : Int32 × SS × TT} (h : f_X5_thought x1 x2 s t = some q) : Wm 60 [.ref 0, .int x1, .int x2] (mk s t) (Qi q) := by
  refine Wm.of pT_60 (Nat.le_of_ble_eq_true rfl) (L0 := [some (.ref 0), some (.int x1), some (.int x2), none]) rfl ?_
  unfold f_X5_thought at h
  refine w_la rfl rfl ?_
  refine w_gf rfl (mg_0 _ _) rfl ?_
  refine w_li rfl rfl ?_
  obtain ⟨q1, e1, h⟩ := bnd h
  refine a_vi1i rfl (mg_1 _ _) (Nat.le_of_ble_eq_true rfl) (T_X1_has (Or.inl rfl) e1) ?_
  refine w_if_eq rfl (fun c2 => ?_) (fun c2 => ?_)
  · replace h := ifp h c2
    refine w_ci rfl ?_
    exact a_ri rfl h
  · replace h := ifn h c2
    refine w_li rfl rfl ?_
    refine w_ci rfl ?_
    refine w_ci rfl ?_
    obtain ⟨q3, e3, h⟩ := bnd h
    refine a_st3i rfl (Nat.le_of_ble_eq_true rfl) (T_X5_isWithin e3) ?_
    refine w_if_ne rfl (fun c4 => ?_) (fun c4 => ?_)
    · replace h := ifn h c4
      refine w_la rfl rfl ?_
      refine w_gf rfl (mg_0 _ _) rfl ?_
      refine w_gf rfl (mg_1 _ _) rfl ?_
      refine w_li rfl rfl ?_
      obtain ⟨j5, e5, h⟩ := bnd h
      refine a_ia rfl (mr_4 _ _ _) e5 ?_
      refine w_si rfl (Nat.le_of_ble_eq_true rfl) rfl ?_
      refine w_la rfl rfl ?_
      refine w_gf rfl (mg_0 _ _) rfl ?_
      refine w_gf rfl (mg_1 _ _) rfl ?_
      refine w_li rfl rfl ?_
      refine w_li rfl rfl ?_
      obtain ⟨j6, e6, h⟩ := bnd h
      refine a_is rfl (mg_4 _ _) (ms_4 _ _) e6 (fun s6 w6 => ?_)
      replace h := wr_of h s6 w6
      refine w_li rfl rfl ?_
      exact a_ri rfl h
    · replace h := ifp h (Classical.not_not.mp c4)
      refine w_ci rfl ?_
      exact a_ri rfl h
-- X5_own
set_option maxRecDepth 100000 in
theorem T_X5_own  {x1 : Int32} {x2 : Int32} {s : SS} {t : TT} {q : Int32 × SS × TT} (h : f_X5_own x1 x2 s t = some q) : Wm 61 [.ref 0, .int x1, .int x2] (mk s t) (Qi q) := by
  refine Wm.of pT_61 (Nat.le_of_ble_eq_true rfl) (L0 := [some (.ref 0), some (.int x1), some (.int x2), none]) rfl ?_
  unfold f_X5_own at h
  refine w_la rfl rfl ?_
  refine w_gf rfl (mg_0 _ _) rfl ?_
  refine w_li rfl rfl ?_
  obtain ⟨q1, e1, h⟩ := bnd h
  refine a_vi1i rfl (mg_1 _ _) (Nat.le_of_ble_eq_true rfl) (T_X1_has (Or.inl rfl) e1) ?_
  refine w_if_eq rfl (fun c2 => ?_) (fun c2 => ?_)
  · replace h := ifp h c2
    refine w_ci rfl ?_
    exact a_ri rfl h
  · replace h := ifn h c2
    refine w_li rfl rfl ?_
    refine w_ci rfl ?_
    refine w_ci rfl ?_
    obtain ⟨q3, e3, h⟩ := bnd h
    refine a_st3i rfl (Nat.le_of_ble_eq_true rfl) (T_X5_isWithin e3) ?_
    refine w_if_ne rfl (fun c4 => ?_) (fun c4 => ?_)
    · replace h := ifn h c4
      refine w_la rfl rfl ?_
      refine w_gf rfl (mg_0 _ _) rfl ?_
      refine w_gf rfl (mg_1 _ _) rfl ?_
      refine w_li rfl rfl ?_
      obtain ⟨j5, e5, h⟩ := bnd h
      refine a_ia rfl (mr_6 _ _ _) e5 ?_
      refine w_si rfl (Nat.le_of_ble_eq_true rfl) rfl ?_
      refine w_la rfl rfl ?_
      refine w_gf rfl (mg_0 _ _) rfl ?_
      refine w_gf rfl (mg_1 _ _) rfl ?_
      refine w_li rfl rfl ?_
      refine w_li rfl rfl ?_
      obtain ⟨j6, e6, h⟩ := bnd h
      refine a_is rfl (mg_6 _ _) (ms_6 _ _) e6 (fun s6 w6 => ?_)
      replace h := wr_of h s6 w6
      refine w_li rfl rfl ?_
      exact a_ri rfl h
    · replace h := ifp h (Classical.not_not.mp c4)
      refine w_ci rfl ?_
      exact a_ri rfl h
-- X5_give
set_option maxRecDepth 100000 in
theorem T_X5_give  {x1 : Int32} {x2 : Int32} {s : SS} {t : TT} {q : Int32 × SS × TT} (h : f_X5_give x1 x2 s t = some q) : Wm 62 [.ref 0, .int x1, .int x2] (mk s t) (Qi q) := by
  refine Wm.of pT_62 (Nat.le_of_ble_eq_true rfl) (L0 := [some (.ref 0), some (.int x1), some (.int x2)]) rfl ?_
  unfold f_X5_give at h
  refine w_la rfl rfl ?_
  refine w_gf rfl (mg_0 _ _) rfl ?_
  refine w_li rfl rfl ?_
  obtain ⟨q1, e1, h⟩ := bnd h
  refine a_vi1i rfl (mg_1 _ _) (Nat.le_of_ble_eq_true rfl) (T_X1_has (Or.inl rfl) e1) ?_
  refine w_if_eq rfl (fun c2 => ?_) (fun c2 => ?_)
  · replace h := ifp h c2
    refine w_ci rfl ?_
    exact a_ri rfl h
  · replace h := ifn h c2
    refine w_la rfl rfl ?_
    refine w_gf rfl (mg_0 _ _) rfl ?_
    refine w_li rfl rfl ?_
    obtain ⟨q3, e3, h⟩ := bnd h
    refine a_vi1i rfl (mg_1 _ _) (Nat.le_of_ble_eq_true rfl) (T_X1_has (Or.inl rfl) e3) ?_
    refine w_if_eq rfl (fun c4 => ?_) (fun c4 => ?_)
    · replace h := ifp h c4
      refine w_ci rfl ?_
      exact a_ri rfl h
    · replace h := ifn h c4
      refine w_li rfl rfl ?_
      refine w_li rfl rfl ?_
      refine w_ic_ne rfl (fun c5 => ?_) (fun c5 => ?_)
      · replace h := ifn h c5
        refine w_la rfl rfl ?_
        refine w_gf rfl (mg_0 _ _) rfl ?_
        refine w_gf rfl (mg_1 _ _) rfl ?_
        refine w_li rfl rfl ?_
        obtain ⟨j6, e6, h⟩ := bnd h
        refine a_ia rfl (mr_6 _ _ _) e6 ?_
        refine w_if_eq rfl (fun c7 => ?_) (fun c7 => ?_)
        · replace h := ifp h c7
          refine w_ci rfl ?_
          exact a_ri rfl h
        · replace h := ifn h c7
          refine w_la rfl rfl ?_
          refine w_gf rfl (mg_0 _ _) rfl ?_
          refine w_gf rfl (mg_1 _ _) rfl ?_
          refine w_li rfl rfl ?_
          obtain ⟨j8, e8, h⟩ := bnd h
          refine a_ia rfl (mr_6 _ _ _) e8 ?_
          refine w_ci rfl ?_
          refine w_ic_lt rfl (fun c9 => ?_) (fun c9 => ?_)
          · replace h := ifp h c9
            refine w_la rfl rfl ?_
            refine w_gf rfl (mg_0 _ _) rfl ?_
            refine w_gf rfl (mg_1 _ _) rfl ?_
            refine w_li rfl rfl ?_
            refine w_dup2 rfl rfl rfl ?_
            obtain ⟨j10, e10, h⟩ := bnd h
            refine a_ia rfl (mr_6 _ _ _) e10 ?_
            refine w_ci rfl ?_
            refine w_isub rfl ?_
            obtain ⟨j11, e11, h⟩ := bnd h
            refine a_is rfl (mg_6 _ _) (ms_6 _ _) e11 (fun s11 w11 => ?_)
            replace h := wr_of h s11 w11
            refine w_la rfl rfl ?_
            refine w_gf rfl (mg_0 _ _) rfl ?_
            refine w_gf rfl (mg_1 _ _) rfl ?_
            refine w_li rfl rfl ?_
            refine w_dup2 rfl rfl rfl ?_
            obtain ⟨j12, e12, h⟩ := bnd h
            refine a_ia rfl (mr_6 _ _ _) e12 ?_
            refine w_ci rfl ?_
            refine w_iadd rfl ?_
            obtain ⟨j13, e13, h⟩ := bnd h
            refine a_is rfl (mg_6 _ _) (ms_6 _ _) e13 (fun s13 w13 => ?_)
            replace h := wr_of h s13 w13
            refine w_la rfl rfl ?_
            refine w_gf rfl (mg_0 _ _) rfl ?_
            refine w_gf rfl (mg_1 _ _) rfl ?_
            refine w_li rfl rfl ?_
            obtain ⟨j14, e14, h⟩ := bnd h
            refine a_ia rfl (mr_6 _ _ _) e14 ?_
            exact a_ri rfl h
          · replace h := ifn h c9
            refine w_ci rfl ?_
            exact a_ri rfl h
      · replace h := ifp h (Classical.not_not.mp c5)
        refine w_ci rfl ?_
        exact a_ri rfl h
-- X5_weeks
set_option maxRecDepth 100000 in
theorem B_X5_weeks_14  {k14 : Int32 × Int32 × SS × TT → Option (Int32 × SS × TT)} (hk14 : ∀ (x1 : Int32) (x2 : Int32) (s : SS) (t : TT) (q : Int32 × SS × TT), k14 (x1, x2, s, t) = some q → Wp pl_Kc 63 14 [some (.ref 0), some (.int x1), some (.int x2)] [] (mk s t) (Qi q)) : ∀ (x1 : Int32) (x2 : Int32) (s : SS) (t : TT) (q : Int32 × SS × TT), b_X5_weeks_14 k14 x1 x2 s t = some q → Wp pl_Kc 63 14 [some (.ref 0), some (.int x1), some (.int x2)] [] (mk s t) (Qi q) := by
  intro x1 x2 s t q h
  unfold b_X5_weeks_14 at h
  refine w_li rfl rfl ?_
  refine w_li rfl rfl ?_
  refine w_ic_ge rfl (fun c1 => ?_) (fun c1 => ?_)
  · replace h := ifp h c1
    refine w_la rfl rfl ?_
    refine w_gf rfl (mg_0 _ _) rfl ?_
    refine w_la rfl rfl ?_
    refine w_gf rfl (mg_0 _ _) rfl ?_
    refine w_gf rfl (mg_1 _ _) rfl ?_
    obtain ⟨q2, e2, h⟩ := bnd h
    refine a_vi1i rfl (mg_1 _ _) (Nat.le_of_ble_eq_true rfl) (T_X1_sumOf (Or.inl rfl) (fun _ _ => rfl) e2) ?_
    exact a_ri rfl h
  · replace h := ifn h c1
    refine w_la rfl rfl ?_
    refine w_gf rfl (mg_0 _ _) rfl ?_
    refine w_ci rfl ?_
    obtain ⟨q3, e3, h⟩ := bnd h
    refine a_vi1i rfl (mg_1 _ _) (Nat.le_of_ble_eq_true rfl) (T_X1_passWeek (Or.inl rfl) e3) ?_
    refine w_pop rfl rfl ?_
    refine w_inc rfl rfl rfl ?_
    refine w_go rfl ?_
    exact Wp_fgt (fg_s (fg_s (fg_s fg_e))) (hk14 _ _ _ _ _ h)
theorem K_X5_weeks_14  : ∀ (n : Nat) (x1 : Int32) (x2 : Int32) (s : SS) (t : TT) (q : Int32 × SS × TT), l_X5_weeks_14 n (x1, x2, s, t) = some q → Wp pl_Kc 63 14 [some (.ref 0), some (.int x1), some (.int x2)] [] (mk s t) (Qi q)
  | 0, x1, x2, s, t, q, h => by cases (show (none : Option (Int32 × SS × TT)) = some q from h)
  | n + 1, x1, x2, s, t, q, h => B_X5_weeks_14 (K_X5_weeks_14 n) x1 x2 s t q h
set_option maxRecDepth 100000 in
theorem T_X5_weeks  {x1 : Int32} {s : SS} {t : TT} {q : Int32 × SS × TT} (h : f_X5_weeks x1 s t = some q) : Wm 63 [.ref 0, .int x1] (mk s t) (Qi q) := by
  refine Wm.of pT_63 (Nat.le_of_ble_eq_true rfl) (L0 := [some (.ref 0), some (.int x1), none]) rfl ?_
  unfold f_X5_weeks at h
  refine w_li rfl rfl ?_
  refine w_ci rfl ?_
  refine w_ci rfl ?_
  obtain ⟨q1, e1, h⟩ := bnd h
  refine a_st3i rfl (Nat.le_of_ble_eq_true rfl) (T_X5_isWithin e1) ?_
  refine w_if_ne rfl (fun c2 => ?_) (fun c2 => ?_)
  · replace h := ifn h c2
    refine w_ci rfl ?_
    refine w_si rfl (Nat.le_of_ble_eq_true rfl) rfl ?_
    exact Wp_fgt (fg_s (fg_s (fg_s fg_e))) (K_X5_weeks_14 _ _ _ _ _ _ h)
  · replace h := ifp h (Classical.not_not.mp c2)
    refine w_ci rfl ?_
    exact a_ri rfl h
-- X5_seed
set_option maxRecDepth 100000 in
theorem T_X5_seed  {x1 : Int32} {s : SS} {t : TT} {q : Int32 × SS × TT} (h : f_X5_seed x1 s t = some q) : Wm 64 [.ref 0, .int x1] (mk s t) (Qi q) := by
  refine Wm.of pT_64 (Nat.le_of_ble_eq_true rfl) (L0 := [some (.ref 0), some (.int x1), none]) rfl ?_
  unfold f_X5_seed at h
  refine w_la rfl rfl ?_
  refine w_gf rfl (mg_0 _ _) rfl ?_
  refine w_gf rfl (mg_1 _ _) rfl ?_
  refine w_si rfl (Nat.le_of_ble_eq_true rfl) rfl ?_
  refine w_la rfl rfl ?_
  refine w_gf rfl (mg_0 _ _) rfl ?_
  refine w_li rfl rfl ?_
  refine a_pf rfl rfl (mg_1 _ _) (Nat.le_of_ble_eq_true rfl) (ms_1_11 _ _) (fun s1 e1 => ?_)
  replace h := wr_of h s1 e1
  refine w_li rfl rfl ?_
  exact a_ri rfl h
-- X5_week
set_option maxRecDepth 100000 in
theorem T_X5_week  {s : SS} {t : TT} {q : Int32 × SS × TT} (h : f_X5_week s t = some q) : Wm 65 [.ref 0] (mk s t) (Qi q) := by
  refine Wm.of pT_65 (Nat.le_of_ble_eq_true rfl) (L0 := [some (.ref 0)]) rfl ?_
  unfold f_X5_week at h
  refine w_la rfl rfl ?_
  refine w_gf rfl (mg_0 _ _) rfl ?_
  obtain ⟨q1, e1, h⟩ := bnd h
  refine a_vi0i rfl (mg_1 _ _) (Nat.le_of_ble_eq_true rfl) (T_X1_passWeekByDraws (Or.inl rfl) e1) ?_
  exact a_ri rfl h
-- X5_trial
set_option maxRecDepth 100000 in
theorem T_X5_trial  {s : SS} {t : TT} {q : SS × TT} (h : f_X5_trial s t = some q) : Wm 100 [.ref 0] (mk s t) (Qt q) := by
  refine Wm.of pT_100 (Nat.le_of_ble_eq_true rfl) (L0 := [some (.ref 0)]) rfl ?_
  unfold f_X5_trial at h
  refine w_la rfl rfl ?_
  refine w_gf rfl (mg_0 _ _) rfl ?_
  refine w_la rfl rfl ?_
  refine w_gf rfl (mg_0 _ _) rfl ?_
  obtain ⟨q1, e1, h⟩ := bnd h
  refine a_vi1v rfl (mg_19 _ _) (Nat.le_of_ble_eq_true rfl) (T_X1_become (Or.inr (Or.inr rfl)) (Or.inl rfl) e1) ?_
  refine w_la rfl rfl ?_
  refine w_gf rfl (mg_0 _ _) rfl ?_
  exact a_rt rfl h
-- X5_wordsBy
set_option maxRecDepth 100000 in
theorem B_X5_wordsBy_5 {o0 : Nat} (ho0 : isO o0) {k5 : Int32 × Int32 × Int32 × Int32 × SS × TT → Option (Int32 × SS × TT)} (hk5 : ∀ (x1 : Int32) (x2 : Int32) (x3 : Int32) (x4 : Int32) (s : SS) (t : TT) (q : Int32 × SS × TT), k5 (x1, x2, x3, x4, s, t) = some q → Wp pl_Kc 101 5 [some (.ref o0), some (.int x1), some (.int x2), some (.int x3), some (.int x4)] [] (mk s t) (Qi q)) : ∀ (x1 : Int32) (x2 : Int32) (x3 : Int32) (x4 : Int32) (s : SS) (t : TT) (q : Int32 × SS × TT), b_X5_wordsBy_5 o0 k5 x1 x2 x3 x4 s t = some q → Wp pl_Kc 101 5 [some (.ref o0), some (.int x1), some (.int x2), some (.int x3), some (.int x4)] [] (mk s t) (Qi q) := by
  intro x1 x2 x3 x4 s t q h
  unfold b_X5_wordsBy_5 at h
  refine w_li rfl rfl ?_
  refine w_li rfl rfl ?_
  refine w_ic_ge rfl (fun c1 => ?_) (fun c1 => ?_)
  · replace h := ifp h c1
    refine w_li rfl rfl ?_
    exact a_ri rfl h
  · replace h := ifn h c1
    refine w_li rfl rfl ?_
    refine w_la rfl rfl ?_
    refine w_li rfl rfl ?_
    obtain ⟨q2, e2, h⟩ := bnd h
    refine a_vi1i rfl (mgO ho0 _ _) (Nat.le_of_ble_eq_true rfl) (T_X1_passWeek ho0 e2) ?_
    refine w_iadd rfl ?_
    refine w_si rfl (Nat.le_of_ble_eq_true rfl) rfl ?_
    refine w_inc rfl rfl rfl ?_
    refine w_go rfl ?_
    exact Wp_fgt (fg_s (fg_s (fg_s (fg_s (fg_s fg_e))))) (hk5 _ _ _ _ _ _ _ h)
theorem K_X5_wordsBy_5 {o0 : Nat} (ho0 : isO o0) : ∀ (n : Nat) (x1 : Int32) (x2 : Int32) (x3 : Int32) (x4 : Int32) (s : SS) (t : TT) (q : Int32 × SS × TT), l_X5_wordsBy_5 o0 n (x1, x2, x3, x4, s, t) = some q → Wp pl_Kc 101 5 [some (.ref o0), some (.int x1), some (.int x2), some (.int x3), some (.int x4)] [] (mk s t) (Qi q)
  | 0, x1, x2, x3, x4, s, t, q, h => by cases (show (none : Option (Int32 × SS × TT)) = some q from h)
  | n + 1, x1, x2, x3, x4, s, t, q, h => B_X5_wordsBy_5 ho0 (K_X5_wordsBy_5 ho0 n) x1 x2 x3 x4 s t q h
set_option maxRecDepth 100000 in
theorem T_X5_wordsBy {o0 : Nat} (ho0 : isO o0) {x1 : Int32} {x2 : Int32} {s : SS} {t : TT} {q : Int32 × SS × TT} (h : f_X5_wordsBy o0 x1 x2 s t = some q) : Wm 101 [.ref o0, .int x1, .int x2] (mk s t) (Qi q) := by
  refine Wm.of pT_101 (Nat.le_of_ble_eq_true rfl) (L0 := [some (.ref o0), some (.int x1), some (.int x2), none, none]) rfl ?_
  unfold f_X5_wordsBy at h
  refine w_ci rfl ?_
  refine w_si rfl (Nat.le_of_ble_eq_true rfl) rfl ?_
  refine w_ci rfl ?_
  refine w_si rfl (Nat.le_of_ble_eq_true rfl) rfl ?_
  exact Wp_fgt (fg_s (fg_s (fg_s (fg_s (fg_s fg_e))))) (K_X5_wordsBy_5 ho0 _ _ _ _ _ _ _ _ h)
-- X5_poor
set_option maxRecDepth 100000 in
theorem J_X5_poor_68  {k38 : Int32 × Int32 × Int32 × Int32 × Int32 × SS × TT → Option (Int32 × SS × TT)} (hk38 : ∀ (x1 : Int32) (x2 : Int32) (x3 : Int32) (x4 : Int32) (x5 : Int32) (s : SS) (t : TT) (q : Int32 × SS × TT), k38 (x1, x2, x3, x4, x5, s, t) = some q → Wp pl_Kc 66 38 [some (.ref 0), some (.int x1), some (.int x2), some (.int x3), some (.int x4), some (.int x5), none] [] (mk s t) (Qi q)) : ∀ (x1 : Int32) (x2 : Int32) (x4 : Int32) (x5 : Int32) (s : SS) (t : TT) (q : Int32 × SS × TT), j_X5_poor_68 k38 x1 x2 x4 x5 s t = some q → Wp pl_Kc 66 68 [some (.ref 0), some (.int x1), some (.int x2), none, some (.int x4), some (.int x5), some (.ref 19)] [] (mk s t) (Qi q) := by
  intro x1 x2 x4 x5 s t q h
  unfold j_X5_poor_68 at h
  refine w_la rfl rfl ?_
  refine w_gf rfl (mg_19 _ _) rfl ?_
  refine w_si rfl (Nat.le_of_ble_eq_true rfl) rfl ?_
  refine w_inc rfl rfl rfl ?_
  refine w_go rfl ?_
  exact Wp_fgt (fg_s (fg_s (fg_s (fg_s (fg_s (fg_s (fg_n fg_e))))))) (hk38 _ _ _ _ _ _ _ _ h)
set_option maxRecDepth 100000 in
theorem B_X5_poor_38  {k38 : Int32 × Int32 × Int32 × Int32 × Int32 × SS × TT → Option (Int32 × SS × TT)} (hk38 : ∀ (x1 : Int32) (x2 : Int32) (x3 : Int32) (x4 : Int32) (x5 : Int32) (s : SS) (t : TT) (q : Int32 × SS × TT), k38 (x1, x2, x3, x4, x5, s, t) = some q → Wp pl_Kc 66 38 [some (.ref 0), some (.int x1), some (.int x2), some (.int x3), some (.int x4), some (.int x5), none] [] (mk s t) (Qi q)) : ∀ (x1 : Int32) (x2 : Int32) (x3 : Int32) (x4 : Int32) (x5 : Int32) (s : SS) (t : TT) (q : Int32 × SS × TT), b_X5_poor_38 k38 x1 x2 x3 x4 x5 s t = some q → Wp pl_Kc 66 38 [some (.ref 0), some (.int x1), some (.int x2), some (.int x3), some (.int x4), some (.int x5), none] [] (mk s t) (Qi q) := by
  intro x1 x2 x3 x4 x5 s t q h
  unfold b_X5_poor_38 at h
  refine w_li rfl rfl ?_
  refine w_li rfl rfl ?_
  refine w_ic_ge rfl (fun c1 => ?_) (fun c1 => ?_)
  · replace h := ifp h c1
    refine w_li rfl rfl ?_
    exact a_ri rfl h
  · replace h := ifn h c1
    refine w_la rfl rfl ?_
    obtain ⟨q2, e2, h⟩ := bnd h
    refine a_vi0t rfl (mg_0 _ _) (Nat.le_of_ble_eq_true rfl) (T_X5_trial e2) ?_
    refine w_sa rfl (Nat.le_of_ble_eq_true rfl) rfl ?_
    refine w_la rfl rfl ?_
    refine w_li rfl rfl ?_
    refine a_pf rfl rfl (mg_19 _ _) (Nat.le_of_ble_eq_true rfl) (ms_19_11 _ _) (fun s3 e3 => ?_)
    replace h := wr_of h s3 e3
    refine w_la rfl rfl ?_
    obtain ⟨q4, e4, h⟩ := bnd h
    refine a_vi0i rfl (mg_19 _ _) (Nat.le_of_ble_eq_true rfl) (T_X1_passWeekByDraws (Or.inr (Or.inr rfl)) e4) ?_
    refine w_li rfl rfl ?_
    refine w_ic_ge rfl (fun c5 => ?_) (fun c5 => ?_)
    · replace h := ifp h c5
      exact Wp_fgt (fg_s (fg_s (fg_s (fg_n (fg_s (fg_s (fg_s fg_e))))))) (J_X5_poor_68 hk38 _ _ _ _ _ _ _ h)
    · replace h := ifn h c5
      refine w_inc rfl rfl rfl ?_
      exact Wp_fgt (fg_s (fg_s (fg_s (fg_n (fg_s (fg_s (fg_s fg_e))))))) (J_X5_poor_68 hk38 _ _ _ _ _ _ _ h)
theorem K_X5_poor_38  : ∀ (n : Nat) (x1 : Int32) (x2 : Int32) (x3 : Int32) (x4 : Int32) (x5 : Int32) (s : SS) (t : TT) (q : Int32 × SS × TT), l_X5_poor_38 n (x1, x2, x3, x4, x5, s, t) = some q → Wp pl_Kc 66 38 [some (.ref 0), some (.int x1), some (.int x2), some (.int x3), some (.int x4), some (.int x5), none] [] (mk s t) (Qi q)
  | 0, x1, x2, x3, x4, x5, s, t, q, h => by cases (show (none : Option (Int32 × SS × TT)) = some q from h)
  | n + 1, x1, x2, x3, x4, x5, s, t, q, h => B_X5_poor_38 (K_X5_poor_38 n) x1 x2 x3 x4 x5 s t q h
set_option maxRecDepth 100000 in
theorem T_X5_poor  {x1 : Int32} {s : SS} {t : TT} {q : Int32 × SS × TT} (h : f_X5_poor x1 s t = some q) : Wm 66 [.ref 0, .int x1] (mk s t) (Qi q) := by
  refine Wm.of pT_66 (Nat.le_of_ble_eq_true rfl) (L0 := [some (.ref 0), some (.int x1), none, none, none, none, none]) rfl ?_
  unfold f_X5_poor at h
  refine w_li rfl rfl ?_
  refine w_ci rfl ?_
  refine w_ci rfl ?_
  obtain ⟨q1, e1, h⟩ := bnd h
  refine a_st3i rfl (Nat.le_of_ble_eq_true rfl) (T_X5_isWithin e1) ?_
  refine w_if_ne rfl (fun c2 => ?_) (fun c2 => ?_)
  · replace h := ifn h c2
    refine w_la rfl rfl ?_
    obtain ⟨q3, e3, h⟩ := bnd h
    refine a_vi0t rfl (mg_0 _ _) (Nat.le_of_ble_eq_true rfl) (T_X5_trial e3) ?_
    refine w_ci rfl ?_
    refine w_ci rfl ?_
    obtain ⟨q4, e4, h⟩ := bnd h
    refine a_st3i rfl (Nat.le_of_ble_eq_true rfl) (T_X5_wordsBy (Or.inr (Or.inr rfl)) e4) ?_
    refine w_si rfl (Nat.le_of_ble_eq_true rfl) rfl ?_
    refine w_la rfl rfl ?_
    refine w_gf rfl (mg_0 _ _) rfl ?_
    refine w_gf rfl (mg_1 _ _) rfl ?_
    refine w_si rfl (Nat.le_of_ble_eq_true rfl) rfl ?_
    refine w_ci rfl ?_
    refine w_si rfl (Nat.le_of_ble_eq_true rfl) rfl ?_
    refine w_ci rfl ?_
    refine w_si rfl (Nat.le_of_ble_eq_true rfl) rfl ?_
    exact Wp_fgt (fg_s (fg_s (fg_s (fg_s (fg_s (fg_s (fg_n fg_e))))))) (K_X5_poor_38 _ _ _ _ _ _ _ _ _ h)
  · replace h := ifp h (Classical.not_not.mp c2)
    refine w_ci rfl ?_
    exact a_ri rfl h
-- X5_state
set_option maxRecDepth 100000 in
theorem T_X5_state  {x1 : Int32} {s : SS} {t : TT} {q : Int32 × SS × TT} (h : f_X5_state x1 s t = some q) : Wm 67 [.ref 0, .int x1] (mk s t) (Qi q) := by
  refine Wm.of pT_67 (Nat.le_of_ble_eq_true rfl) (L0 := [some (.ref 0), some (.int x1)]) rfl ?_
  unfold f_X5_state at h
  refine w_li rfl rfl ?_
  by_cases c1 : x1 = 0
  · replace h := ifp h c1
    refine w_swI rfl (tg := 40) (by rw [c1]; decide +kernel) ?_
    refine w_la rfl rfl ?_
    refine w_gf rfl (mg_0 _ _) rfl ?_
    refine w_gf rfl (mg_1 _ _) rfl ?_
    exact a_ri rfl h
  replace h := ifn h c1
  by_cases c2 : x1 = 1
  · replace h := ifp h c2
    refine w_swI rfl (tg := 48) (by rw [c2]; decide +kernel) ?_
    refine w_la rfl rfl ?_
    refine w_gf rfl (mg_0 _ _) rfl ?_
    refine w_gf rfl (mg_1 _ _) rfl ?_
    exact a_ri rfl h
  replace h := ifn h c2
  by_cases c3 : x1 = 2
  · replace h := ifp h c3
    refine w_swI rfl (tg := 56) (by rw [c3]; decide +kernel) ?_
    refine w_la rfl rfl ?_
    refine w_gf rfl (mg_0 _ _) rfl ?_
    refine w_la rfl rfl ?_
    refine w_gf rfl (mg_0 _ _) rfl ?_
    refine w_gf rfl (mg_1 _ _) rfl ?_
    obtain ⟨q4, e4, h⟩ := bnd h
    refine a_vi1i rfl (mg_1 _ _) (Nat.le_of_ble_eq_true rfl) (T_X1_sumOf (Or.inl rfl) (fun _ _ => rfl) e4) ?_
    exact a_ri rfl h
  replace h := ifn h c3
  by_cases c5 : x1 = 3
  · replace h := ifp h c5
    refine w_swI rfl (tg := 71) (by rw [c5]; decide +kernel) ?_
    refine w_la rfl rfl ?_
    refine w_gf rfl (mg_0 _ _) rfl ?_
    refine w_la rfl rfl ?_
    refine w_gf rfl (mg_0 _ _) rfl ?_
    refine w_gf rfl (mg_1 _ _) rfl ?_
    obtain ⟨q6, e6, h⟩ := bnd h
    refine a_vi1i rfl (mg_1 _ _) (Nat.le_of_ble_eq_true rfl) (T_X1_sumOf (Or.inl rfl) (fun _ _ => rfl) e6) ?_
    exact a_ri rfl h
  replace h := ifn h c5
  by_cases c7 : x1 = 4
  · replace h := ifp h c7
    refine w_swI rfl (tg := 86) (by rw [c7]; decide +kernel) ?_
    refine w_la rfl rfl ?_
    refine w_gf rfl (mg_0 _ _) rfl ?_
    refine w_la rfl rfl ?_
    refine w_gf rfl (mg_0 _ _) rfl ?_
    refine w_gf rfl (mg_1 _ _) rfl ?_
    obtain ⟨q8, e8, h⟩ := bnd h
    refine a_vi1i rfl (mg_1 _ _) (Nat.le_of_ble_eq_true rfl) (T_X1_sumOf (Or.inl rfl) (fun _ _ => rfl) e8) ?_
    exact a_ri rfl h
  replace h := ifn h c7
  by_cases c9 : x1 = 5
  · replace h := ifp h c9
    refine w_swI rfl (tg := 101) (by rw [c9]; decide +kernel) ?_
    refine w_la rfl rfl ?_
    refine w_gf rfl (mg_0 _ _) rfl ?_
    obtain ⟨q10, e10, h⟩ := bnd h
    refine a_vi0i rfl (mg_1 _ _) (Nat.le_of_ble_eq_true rfl) (T_X1_readySet (Or.inl rfl) e10) ?_
    exact a_ri rfl h
  replace h := ifn h c9
  refine w_swI rfl (tg := 109) (sw_df (zs := [0, 1, 2, 3, 4, 5]) (swz_c (i32ne c1 rfl) (swz_c (i32ne c2 rfl) (swz_c (i32ne c3 rfl) (swz_c (i32ne c5 rfl) (swz_c (i32ne c7 rfl) (swz_c (i32ne c9 rfl) swz_n)))))) (by decide +kernel)) ?_
  refine w_ci rfl ?_
  exact a_ri rfl h
-- X5_words
set_option maxRecDepth 100000 in
theorem T_X5_words  {x1 : Int32} {s : SS} {t : TT} {q : Int32 × SS × TT} (h : f_X5_words x1 s t = some q) : Wm 68 [.ref 0, .int x1] (mk s t) (Qi q) := by
  refine Wm.of pT_68 (Nat.le_of_ble_eq_true rfl) (L0 := [some (.ref 0), some (.int x1)]) rfl ?_
  unfold f_X5_words at h
  refine w_li rfl rfl ?_
  refine w_ci rfl ?_
  refine w_ci rfl ?_
  obtain ⟨q1, e1, h⟩ := bnd h
  refine a_st3i rfl (Nat.le_of_ble_eq_true rfl) (T_X5_isWithin e1) ?_
  refine w_if_eq rfl (fun c2 => ?_) (fun c2 => ?_)
  · replace h := ifp h c2
    refine w_ci rfl ?_
    exact a_ri rfl h
  · replace h := ifn h c2
    refine w_la rfl rfl ?_
    obtain ⟨q3, e3, h⟩ := bnd h
    refine a_vi0t rfl (mg_0 _ _) (Nat.le_of_ble_eq_true rfl) (T_X5_trial e3) ?_
    refine w_li rfl rfl ?_
    refine w_ci rfl ?_
    obtain ⟨q4, e4, h⟩ := bnd h
    refine a_st3i rfl (Nat.le_of_ble_eq_true rfl) (T_X5_wordsBy (Or.inr (Or.inr rfl)) e4) ?_
    refine w_go rfl ?_
    exact a_ri rfl h
-- X5_gets
set_option maxRecDepth 100000 in
theorem B_X5_gets_20  {k20 : Int32 × Int32 × SS × TT → Option (Int32 × SS × TT)} (hk20 : ∀ (x1 : Int32) (x3 : Int32) (s : SS) (t : TT) (q : Int32 × SS × TT), k20 (x1, x3, s, t) = some q → Wp pl_Kc 69 20 [some (.ref 0), some (.int x1), some (.ref 19), some (.int x3)] [] (mk s t) (Qi q)) : ∀ (x1 : Int32) (x3 : Int32) (s : SS) (t : TT) (q : Int32 × SS × TT), b_X5_gets_20 k20 x1 x3 s t = some q → Wp pl_Kc 69 20 [some (.ref 0), some (.int x1), some (.ref 19), some (.int x3)] [] (mk s t) (Qi q) := by
  intro x1 x3 s t q h
  unfold b_X5_gets_20 at h
  refine w_li rfl rfl ?_
  refine w_ci rfl ?_
  refine w_ic_gt rfl (fun c1 => ?_) (fun c1 => ?_)
  · replace h := ifp h c1
    refine w_ci rfl ?_
    exact a_ri rfl h
  · replace h := ifn h c1
    refine w_la rfl rfl ?_
    refine w_ci rfl ?_
    obtain ⟨q2, e2, h⟩ := bnd h
    refine a_vi1i rfl (mg_19 _ _) (Nat.le_of_ble_eq_true rfl) (T_X1_passWeek (Or.inr (Or.inr rfl)) e2) ?_
    refine w_pop rfl rfl ?_
    refine w_la rfl rfl ?_
    refine w_gf rfl (mg_19 _ _) rfl ?_
    refine w_li rfl rfl ?_
    obtain ⟨j3, e3, h⟩ := bnd h
    refine a_ia rfl (mr_25 _ _ _) e3 ?_
    refine w_la rfl rfl ?_
    refine w_gf rfl (mg_0 _ _) rfl ?_
    refine w_gf rfl (mg_1 _ _) rfl ?_
    refine w_li rfl rfl ?_
    obtain ⟨j4, e4, h⟩ := bnd h
    refine a_ia rfl (mr_7 _ _ _) e4 ?_
    refine w_ic_le rfl (fun c5 => ?_) (fun c5 => ?_)
    · replace h := ifp h c5
      refine w_inc rfl rfl rfl ?_
      refine w_go rfl ?_
      exact Wp_fgt (fg_s (fg_s (fg_s (fg_s fg_e)))) (hk20 _ _ _ _ _ h)
    · replace h := ifn h c5
      refine w_li rfl rfl ?_
      exact a_ri rfl h
theorem K_X5_gets_20  : ∀ (n : Nat) (x1 : Int32) (x3 : Int32) (s : SS) (t : TT) (q : Int32 × SS × TT), l_X5_gets_20 n (x1, x3, s, t) = some q → Wp pl_Kc 69 20 [some (.ref 0), some (.int x1), some (.ref 19), some (.int x3)] [] (mk s t) (Qi q)
  | 0, x1, x3, s, t, q, h => by cases (show (none : Option (Int32 × SS × TT)) = some q from h)
  | n + 1, x1, x3, s, t, q, h => B_X5_gets_20 (K_X5_gets_20 n) x1 x3 s t q h
set_option maxRecDepth 100000 in
theorem T_X5_gets  {x1 : Int32} {s : SS} {t : TT} {q : Int32 × SS × TT} (h : f_X5_gets x1 s t = some q) : Wm 69 [.ref 0, .int x1] (mk s t) (Qi q) := by
  refine Wm.of pT_69 (Nat.le_of_ble_eq_true rfl) (L0 := [some (.ref 0), some (.int x1), none, none]) rfl ?_
  unfold f_X5_gets at h
  refine w_la rfl rfl ?_
  refine w_gf rfl (mg_0 _ _) rfl ?_
  refine w_li rfl rfl ?_
  obtain ⟨q1, e1, h⟩ := bnd h
  refine a_vi1i rfl (mg_1 _ _) (Nat.le_of_ble_eq_true rfl) (T_X1_has (Or.inl rfl) e1) ?_
  refine w_if_ne rfl (fun c2 => ?_) (fun c2 => ?_)
  · replace h := ifn h c2
    refine w_la rfl rfl ?_
    obtain ⟨q3, e3, h⟩ := bnd h
    refine a_vi0t rfl (mg_0 _ _) (Nat.le_of_ble_eq_true rfl) (T_X5_trial e3) ?_
    refine w_sa rfl (Nat.le_of_ble_eq_true rfl) rfl ?_
    refine w_ci rfl ?_
    refine w_si rfl (Nat.le_of_ble_eq_true rfl) rfl ?_
    exact Wp_fgt (fg_s (fg_s (fg_s (fg_s fg_e)))) (K_X5_gets_20 _ _ _ _ _ _ h)
  · replace h := ifp h (Classical.not_not.mp c2)
    refine w_ci rfl ?_
    exact a_ri rfl h
-- X5_idle
set_option maxRecDepth 100000 in
theorem B_X5_idle_7  {k7 : Int32 × SS × TT → Option (Int32 × SS × TT)} (hk7 : ∀ (x2 : Int32) (s : SS) (t : TT) (q : Int32 × SS × TT), k7 (x2, s, t) = some q → Wp pl_Kc 70 7 [none, some (.ref 19), some (.int x2)] [] (mk s t) (Qi q)) : ∀ (x2 : Int32) (s : SS) (t : TT) (q : Int32 × SS × TT), b_X5_idle_7 k7 x2 s t = some q → Wp pl_Kc 70 7 [none, some (.ref 19), some (.int x2)] [] (mk s t) (Qi q) := by
  intro x2 s t q h
  unfold b_X5_idle_7 at h
  refine w_li rfl rfl ?_
  refine w_ci rfl ?_
  refine w_ic_gt rfl (fun c1 => ?_) (fun c1 => ?_)
  · replace h := ifp h c1
    refine w_ci rfl ?_
    exact a_ri rfl h
  · replace h := ifn h c1
    refine w_la rfl rfl ?_
    refine w_la rfl rfl ?_
    refine w_gf rfl (mg_19 _ _) rfl ?_
    obtain ⟨q2, e2, h⟩ := bnd h
    refine a_vi1i rfl (mg_19 _ _) (Nat.le_of_ble_eq_true rfl) (T_X1_countOf (Or.inr (Or.inr rfl)) (fun _ _ => rfl) e2) ?_
    refine w_if_ne rfl (fun c3 => ?_) (fun c3 => ?_)
    · replace h := ifn h c3
      refine w_la rfl rfl ?_
      refine w_ci rfl ?_
      obtain ⟨q4, e4, h⟩ := bnd h
      refine a_vi1i rfl (mg_19 _ _) (Nat.le_of_ble_eq_true rfl) (T_X1_passWeek (Or.inr (Or.inr rfl)) e4) ?_
      refine w_pop rfl rfl ?_
      refine w_inc rfl rfl rfl ?_
      refine w_go rfl ?_
      exact Wp_fgt (fg_n (fg_s (fg_s fg_e))) (hk7 _ _ _ _ h)
    · replace h := ifp h (Classical.not_not.mp c3)
      refine w_li rfl rfl ?_
      exact a_ri rfl h
theorem K_X5_idle_7  : ∀ (n : Nat) (x2 : Int32) (s : SS) (t : TT) (q : Int32 × SS × TT), l_X5_idle_7 n (x2, s, t) = some q → Wp pl_Kc 70 7 [none, some (.ref 19), some (.int x2)] [] (mk s t) (Qi q)
  | 0, x2, s, t, q, h => by cases (show (none : Option (Int32 × SS × TT)) = some q from h)
  | n + 1, x2, s, t, q, h => B_X5_idle_7 (K_X5_idle_7 n) x2 s t q h
set_option maxRecDepth 100000 in
theorem T_X5_idle  {s : SS} {t : TT} {q : Int32 × SS × TT} (h : f_X5_idle s t = some q) : Wm 70 [.ref 0] (mk s t) (Qi q) := by
  refine Wm.of pT_70 (Nat.le_of_ble_eq_true rfl) (L0 := [some (.ref 0), none, none]) rfl ?_
  unfold f_X5_idle at h
  refine w_la rfl rfl ?_
  obtain ⟨q1, e1, h⟩ := bnd h
  refine a_vi0t rfl (mg_0 _ _) (Nat.le_of_ble_eq_true rfl) (T_X5_trial e1) ?_
  refine w_sa rfl (Nat.le_of_ble_eq_true rfl) rfl ?_
  refine w_ci rfl ?_
  refine w_si rfl (Nat.le_of_ble_eq_true rfl) rfl ?_
  exact Wp_fgt (fg_n (fg_s (fg_s fg_e))) (K_X5_idle_7 _ _ _ _ _ h)
-- X5_vanFor
set_option maxRecDepth 100000 in
theorem B_X5_vanFor_25  {k25 : Int32 × Int32 × Int32 × SS × TT → Option (Int32 × SS × TT)} (hk25 : ∀ (x1 : Int32) (x2 : Int32) (x3 : Int32) (s : SS) (t : TT) (q : Int32 × SS × TT), k25 (x1, x2, x3, s, t) = some q → Wp pl_Kc 71 25 [some (.ref 0), some (.int x1), some (.int x2), some (.int x3), none] [] (mk s t) (Qi q)) : ∀ (x1 : Int32) (x2 : Int32) (x3 : Int32) (s : SS) (t : TT) (q : Int32 × SS × TT), b_X5_vanFor_25 k25 x1 x2 x3 s t = some q → Wp pl_Kc 71 25 [some (.ref 0), some (.int x1), some (.int x2), some (.int x3), none] [] (mk s t) (Qi q) := by
  intro x1 x2 x3 s t q h
  unfold b_X5_vanFor_25 at h
  refine w_li rfl rfl ?_
  refine w_gs rfl ?_
  refine w_ci rfl ?_
  obtain ⟨j1, e1, h⟩ := bnd h
  refine a_ic rfl (mrB_1 _ _) e1 ?_
  refine w_ic_gt rfl (fun c2 => ?_) (fun c2 => ?_)
  · replace h := ifp h c2
    refine w_ci rfl ?_
    exact a_ri rfl h
  · replace h := ifn h c2
    refine w_la rfl rfl ?_
    obtain ⟨q3, e3, h⟩ := bnd h
    refine a_vi0t rfl (mg_0 _ _) (Nat.le_of_ble_eq_true rfl) (T_X5_trial e3) ?_
    refine w_sa rfl (Nat.le_of_ble_eq_true rfl) rfl ?_
    refine w_la rfl rfl ?_
    refine w_gf rfl (mg_19 _ _) rfl ?_
    refine w_ci rfl ?_
    refine w_li rfl rfl ?_
    obtain ⟨j4, e4, h⟩ := bnd h
    refine a_is rfl (mg_20 _ _) (ms_20 _ _) e4 (fun s4 w4 => ?_)
    replace h := wr_of h s4 w4
    refine w_la rfl rfl ?_
    refine w_li rfl rfl ?_
    refine w_ci rfl ?_
    obtain ⟨q5, e5, h⟩ := bnd h
    refine a_st3i rfl (Nat.le_of_ble_eq_true rfl) (T_X5_wordsBy (Or.inr (Or.inr rfl)) e5) ?_
    refine w_li rfl rfl ?_
    refine w_ic_lt rfl (fun c6 => ?_) (fun c6 => ?_)
    · replace h := ifp h c6
      refine w_inc rfl rfl rfl ?_
      refine w_go rfl ?_
      exact Wp_fgt (fg_s (fg_s (fg_s (fg_s (fg_n fg_e))))) (hk25 _ _ _ _ _ _ h)
    · replace h := ifn h c6
      refine w_li rfl rfl ?_
      exact a_ri rfl h
theorem K_X5_vanFor_25  : ∀ (n : Nat) (x1 : Int32) (x2 : Int32) (x3 : Int32) (s : SS) (t : TT) (q : Int32 × SS × TT), l_X5_vanFor_25 n (x1, x2, x3, s, t) = some q → Wp pl_Kc 71 25 [some (.ref 0), some (.int x1), some (.int x2), some (.int x3), none] [] (mk s t) (Qi q)
  | 0, x1, x2, x3, s, t, q, h => by cases (show (none : Option (Int32 × SS × TT)) = some q from h)
  | n + 1, x1, x2, x3, s, t, q, h => B_X5_vanFor_25 (K_X5_vanFor_25 n) x1 x2 x3 s t q h
set_option maxRecDepth 100000 in
theorem T_X5_vanFor  {x1 : Int32} {x2 : Int32} {s : SS} {t : TT} {q : Int32 × SS × TT} (h : f_X5_vanFor x1 x2 s t = some q) : Wm 71 [.ref 0, .int x1, .int x2] (mk s t) (Qi q) := by
  refine Wm.of pT_71 (Nat.le_of_ble_eq_true rfl) (L0 := [some (.ref 0), some (.int x1), some (.int x2), none, none]) rfl ?_
  unfold f_X5_vanFor at h
  refine w_li rfl rfl ?_
  refine w_ci rfl ?_
  refine w_ci rfl ?_
  obtain ⟨q1, e1, h⟩ := bnd h
  refine a_st3i rfl (Nat.le_of_ble_eq_true rfl) (T_X5_isWithin e1) ?_
  refine w_if_eq rfl (fun c2 => ?_) (fun c2 => ?_)
  · replace h := ifp h c2
    refine w_ci rfl ?_
    exact a_ri rfl h
  · replace h := ifn h c2
    refine w_li rfl rfl ?_
    refine w_ci rfl ?_
    refine w_ci rfl ?_
    obtain ⟨q3, e3, h⟩ := bnd h
    refine a_st3i rfl (Nat.le_of_ble_eq_true rfl) (T_X5_isWithin e3) ?_
    refine w_if_ne rfl (fun c4 => ?_) (fun c4 => ?_)
    · replace h := ifn h c4
      refine w_ci rfl ?_
      refine w_si rfl (Nat.le_of_ble_eq_true rfl) rfl ?_
      exact Wp_fgt (fg_s (fg_s (fg_s (fg_s (fg_n fg_e))))) (K_X5_vanFor_25 _ _ _ _ _ _ _ h)
    · replace h := ifp h (Classical.not_not.mp c4)
      refine w_ci rfl ?_
      exact a_ri rfl h
-- X5_kindFor
set_option maxRecDepth 100000 in
theorem B_X5_kindFor_31  {k31 : Int32 × Int32 × Int32 × Int32 × Int32 × SS × TT → Option (Int32 × SS × TT)} (hk31 : ∀ (x1 : Int32) (x2 : Int32) (x3 : Int32) (x4 : Int32) (x5 : Int32) (s : SS) (t : TT) (q : Int32 × SS × TT), k31 (x1, x2, x3, x4, x5, s, t) = some q → Wp pl_Kc 72 31 [some (.ref 0), some (.int x1), some (.int x2), some (.int x3), some (.int x4), some (.int x5), none, none] [] (mk s t) (Qi q)) : ∀ (x1 : Int32) (x2 : Int32) (x3 : Int32) (x4 : Int32) (x5 : Int32) (s : SS) (t : TT) (q : Int32 × SS × TT), b_X5_kindFor_31 k31 x1 x2 x3 x4 x5 s t = some q → Wp pl_Kc 72 31 [some (.ref 0), some (.int x1), some (.int x2), some (.int x3), some (.int x4), some (.int x5), none, none] [] (mk s t) (Qi q) := by
  intro x1 x2 x3 x4 x5 s t q h
  unfold b_X5_kindFor_31 at h
  refine w_li rfl rfl ?_
  refine w_ci rfl ?_
  refine w_ic_gt rfl (fun c1 => ?_) (fun c1 => ?_)
  · replace h := ifp h c1
    refine w_li rfl rfl ?_
    exact a_ri rfl h
  · replace h := ifn h c1
    refine w_la rfl rfl ?_
    obtain ⟨q2, e2, h⟩ := bnd h
    refine a_vi0t rfl (mg_0 _ _) (Nat.le_of_ble_eq_true rfl) (T_X5_trial e2) ?_
    refine w_sa rfl (Nat.le_of_ble_eq_true rfl) rfl ?_
    refine w_la rfl rfl ?_
    refine w_gf rfl (mg_19 _ _) rfl ?_
    refine w_li rfl rfl ?_
    refine w_li rfl rfl ?_
    obtain ⟨j3, e3, h⟩ := bnd h
    refine a_is rfl (mg_21 _ _) (ms_21 _ _) e3 (fun s3 w3 => ?_)
    replace h := wr_of h s3 w3
    refine w_la rfl rfl ?_
    refine w_li rfl rfl ?_
    refine w_ci rfl ?_
    obtain ⟨q4, e4, h⟩ := bnd h
    refine a_st3i rfl (Nat.le_of_ble_eq_true rfl) (T_X5_wordsBy (Or.inr (Or.inr rfl)) e4) ?_
    refine w_si rfl (Nat.le_of_ble_eq_true rfl) rfl ?_
    refine w_li rfl rfl ?_
    refine w_li rfl rfl ?_
    refine w_ic_le rfl (fun c5 => ?_) (fun c5 => ?_)
    · replace h := ifp h c5
      refine w_inc rfl rfl rfl ?_
      refine w_go rfl ?_
      exact Wp_fgt (fg_s (fg_s (fg_s (fg_s (fg_s (fg_s (fg_n (fg_n fg_e)))))))) (hk31 _ _ _ _ _ _ _ _ h)
    · replace h := ifn h c5
      refine w_li rfl rfl ?_
      refine w_si rfl (Nat.le_of_ble_eq_true rfl) rfl ?_
      refine w_li rfl rfl ?_
      refine w_si rfl (Nat.le_of_ble_eq_true rfl) rfl ?_
      refine w_inc rfl rfl rfl ?_
      refine w_go rfl ?_
      exact Wp_fgt (fg_s (fg_s (fg_s (fg_s (fg_s (fg_s (fg_n (fg_n fg_e)))))))) (hk31 _ _ _ _ _ _ _ _ h)
theorem K_X5_kindFor_31  : ∀ (n : Nat) (x1 : Int32) (x2 : Int32) (x3 : Int32) (x4 : Int32) (x5 : Int32) (s : SS) (t : TT) (q : Int32 × SS × TT), l_X5_kindFor_31 n (x1, x2, x3, x4, x5, s, t) = some q → Wp pl_Kc 72 31 [some (.ref 0), some (.int x1), some (.int x2), some (.int x3), some (.int x4), some (.int x5), none, none] [] (mk s t) (Qi q)
  | 0, x1, x2, x3, x4, x5, s, t, q, h => by cases (show (none : Option (Int32 × SS × TT)) = some q from h)
  | n + 1, x1, x2, x3, x4, x5, s, t, q, h => B_X5_kindFor_31 (K_X5_kindFor_31 n) x1 x2 x3 x4 x5 s t q h
set_option maxRecDepth 100000 in
theorem T_X5_kindFor  {x1 : Int32} {x2 : Int32} {s : SS} {t : TT} {q : Int32 × SS × TT} (h : f_X5_kindFor x1 x2 s t = some q) : Wm 72 [.ref 0, .int x1, .int x2] (mk s t) (Qi q) := by
  refine Wm.of pT_72 (Nat.le_of_ble_eq_true rfl) (L0 := [some (.ref 0), some (.int x1), some (.int x2), none, none, none, none, none]) rfl ?_
  unfold f_X5_kindFor at h
  refine w_la rfl rfl ?_
  refine w_gf rfl (mg_0 _ _) rfl ?_
  refine w_li rfl rfl ?_
  obtain ⟨q1, e1, h⟩ := bnd h
  refine a_vi1i rfl (mg_1 _ _) (Nat.le_of_ble_eq_true rfl) (T_X1_has (Or.inl rfl) e1) ?_
  refine w_if_eq rfl (fun c2 => ?_) (fun c2 => ?_)
  · replace h := ifp h c2
    refine w_ci rfl ?_
    exact a_ri rfl h
  · replace h := ifn h c2
    refine w_li rfl rfl ?_
    refine w_ci rfl ?_
    refine w_ci rfl ?_
    obtain ⟨q3, e3, h⟩ := bnd h
    refine a_st3i rfl (Nat.le_of_ble_eq_true rfl) (T_X5_isWithin e3) ?_
    refine w_if_ne rfl (fun c4 => ?_) (fun c4 => ?_)
    · replace h := ifn h c4
      refine w_ci rfl ?_
      refine w_si rfl (Nat.le_of_ble_eq_true rfl) rfl ?_
      refine w_ci rfl ?_
      refine w_si rfl (Nat.le_of_ble_eq_true rfl) rfl ?_
      refine w_ci rfl ?_
      refine w_si rfl (Nat.le_of_ble_eq_true rfl) rfl ?_
      exact Wp_fgt (fg_s (fg_s (fg_s (fg_s (fg_s (fg_s (fg_n (fg_n fg_e)))))))) (K_X5_kindFor_31 _ _ _ _ _ _ _ _ _ h)
    · replace h := ifp h (Classical.not_not.mp c4)
      refine w_ci rfl ?_
      exact a_ri rfl h
-- X5_thoughtFor
set_option maxRecDepth 100000 in
theorem J_X5_thoughtFor_87  {k25 : Int32 × Int32 × Int32 × SS × TT → Option (Int32 × SS × TT)} (hk25 : ∀ (x1 : Int32) (x2 : Int32) (x3 : Int32) (s : SS) (t : TT) (q : Int32 × SS × TT), k25 (x1, x2, x3, s, t) = some q → Wp pl_Kc 73 25 [some (.ref 0), some (.int x1), some (.int x2), some (.int x3), none, none] [] (mk s t) (Qi q)) : ∀ (x1 : Int32) (x2 : Int32) (x3 : Int32) (s : SS) (t : TT) (q : Int32 × SS × TT), j_X5_thoughtFor_87 k25 x1 x2 x3 s t = some q → Wp pl_Kc 73 87 [some (.ref 0), some (.int x1), some (.int x2), some (.int x3), some (.ref 19), none] [] (mk s t) (Qi q) := by
  intro x1 x2 x3 s t q h
  unfold j_X5_thoughtFor_87 at h
  refine w_la rfl rfl ?_
  refine w_gf rfl (mg_19 _ _) rfl ?_
  refine w_li rfl rfl ?_
  obtain ⟨j1, e1, h⟩ := bnd h
  refine a_ia rfl (mr_25 _ _ _) e1 ?_
  refine w_if_le rfl (fun c2 => ?_) (fun c2 => ?_)
  · replace h := ifp h c2
    refine w_inc rfl rfl rfl ?_
    refine w_go rfl ?_
    exact Wp_fgt (fg_s (fg_s (fg_s (fg_s (fg_n (fg_n fg_e)))))) (hk25 _ _ _ _ _ _ h)
  · replace h := ifn h c2
    refine w_li rfl rfl ?_
    exact a_ri rfl h
set_option maxRecDepth 100000 in
theorem B_X5_thoughtFor_56  {k25 : Int32 × Int32 × Int32 × SS × TT → Option (Int32 × SS × TT)} (hk25 : ∀ (x1 : Int32) (x2 : Int32) (x3 : Int32) (s : SS) (t : TT) (q : Int32 × SS × TT), k25 (x1, x2, x3, s, t) = some q → Wp pl_Kc 73 25 [some (.ref 0), some (.int x1), some (.int x2), some (.int x3), none, none] [] (mk s t) (Qi q)) {k56 : Int32 × Int32 × Int32 × Int32 × SS × TT → Option (Int32 × SS × TT)} (hk56 : ∀ (x1 : Int32) (x2 : Int32) (x3 : Int32) (x5 : Int32) (s : SS) (t : TT) (q : Int32 × SS × TT), k56 (x1, x2, x3, x5, s, t) = some q → Wp pl_Kc 73 56 [some (.ref 0), some (.int x1), some (.int x2), some (.int x3), some (.ref 19), some (.int x5)] [] (mk s t) (Qi q)) : ∀ (x1 : Int32) (x2 : Int32) (x3 : Int32) (x5 : Int32) (s : SS) (t : TT) (q : Int32 × SS × TT), b_X5_thoughtFor_56 k25 k56 x1 x2 x3 x5 s t = some q → Wp pl_Kc 73 56 [some (.ref 0), some (.int x1), some (.int x2), some (.int x3), some (.ref 19), some (.int x5)] [] (mk s t) (Qi q) := by
  intro x1 x2 x3 x5 s t q h
  unfold b_X5_thoughtFor_56 at h
  refine w_li rfl rfl ?_
  refine w_li rfl rfl ?_
  refine w_ic_ge rfl (fun c1 => ?_) (fun c1 => ?_)
  · replace h := ifp h c1
    exact Wp_fgt (fg_s (fg_s (fg_s (fg_s (fg_s (fg_n fg_e)))))) (J_X5_thoughtFor_87 hk25 _ _ _ _ _ _ h)
  · replace h := ifn h c1
    refine w_la rfl rfl ?_
    refine w_gf rfl (mg_19 _ _) rfl ?_
    refine w_li rfl rfl ?_
    obtain ⟨j2, e2, h⟩ := bnd h
    refine a_ia rfl (mr_25 _ _ _) e2 ?_
    refine w_if_ne rfl (fun c3 => ?_) (fun c3 => ?_)
    · replace h := ifn h c3
      exact Wp_fgt (fg_s (fg_s (fg_s (fg_s (fg_s (fg_n fg_e)))))) (J_X5_thoughtFor_87 hk25 _ _ _ _ _ _ h)
    · replace h := ifp h (Classical.not_not.mp c3)
      refine w_la rfl rfl ?_
      refine w_ci rfl ?_
      obtain ⟨q4, e4, h⟩ := bnd h
      refine a_vi1i rfl (mg_19 _ _) (Nat.le_of_ble_eq_true rfl) (T_X1_passWeek (Or.inr (Or.inr rfl)) e4) ?_
      refine w_pop rfl rfl ?_
      refine w_inc rfl rfl rfl ?_
      refine w_go rfl ?_
      exact Wp_fgt (fg_s (fg_s (fg_s (fg_s (fg_s (fg_s fg_e)))))) (hk56 _ _ _ _ _ _ _ h)
theorem K_X5_thoughtFor_56  {k25 : Int32 × Int32 × Int32 × SS × TT → Option (Int32 × SS × TT)} (hk25 : ∀ (x1 : Int32) (x2 : Int32) (x3 : Int32) (s : SS) (t : TT) (q : Int32 × SS × TT), k25 (x1, x2, x3, s, t) = some q → Wp pl_Kc 73 25 [some (.ref 0), some (.int x1), some (.int x2), some (.int x3), none, none] [] (mk s t) (Qi q)) : ∀ (n : Nat) (x1 : Int32) (x2 : Int32) (x3 : Int32) (x5 : Int32) (s : SS) (t : TT) (q : Int32 × SS × TT), l_X5_thoughtFor_56 k25 n (x1, x2, x3, x5, s, t) = some q → Wp pl_Kc 73 56 [some (.ref 0), some (.int x1), some (.int x2), some (.int x3), some (.ref 19), some (.int x5)] [] (mk s t) (Qi q)
  | 0, x1, x2, x3, x5, s, t, q, h => by cases (show (none : Option (Int32 × SS × TT)) = some q from h)
  | n + 1, x1, x2, x3, x5, s, t, q, h => B_X5_thoughtFor_56 hk25 (K_X5_thoughtFor_56 hk25 n) x1 x2 x3 x5 s t q h
set_option maxRecDepth 100000 in
theorem B_X5_thoughtFor_25  {k25 : Int32 × Int32 × Int32 × SS × TT → Option (Int32 × SS × TT)} (hk25 : ∀ (x1 : Int32) (x2 : Int32) (x3 : Int32) (s : SS) (t : TT) (q : Int32 × SS × TT), k25 (x1, x2, x3, s, t) = some q → Wp pl_Kc 73 25 [some (.ref 0), some (.int x1), some (.int x2), some (.int x3), none, none] [] (mk s t) (Qi q)) : ∀ (x1 : Int32) (x2 : Int32) (x3 : Int32) (s : SS) (t : TT) (q : Int32 × SS × TT), b_X5_thoughtFor_25 k25 x1 x2 x3 s t = some q → Wp pl_Kc 73 25 [some (.ref 0), some (.int x1), some (.int x2), some (.int x3), none, none] [] (mk s t) (Qi q) := by
  intro x1 x2 x3 s t q h
  unfold b_X5_thoughtFor_25 at h
  refine w_li rfl rfl ?_
  refine w_ci rfl ?_
  refine w_ic_gt rfl (fun c1 => ?_) (fun c1 => ?_)
  · replace h := ifp h c1
    refine w_ci rfl ?_
    exact a_ri rfl h
  · replace h := ifn h c1
    refine w_la rfl rfl ?_
    obtain ⟨q2, e2, h⟩ := bnd h
    refine a_vi0t rfl (mg_0 _ _) (Nat.le_of_ble_eq_true rfl) (T_X5_trial e2) ?_
    refine w_sa rfl (Nat.le_of_ble_eq_true rfl) rfl ?_
    refine w_la rfl rfl ?_
    refine w_gf rfl (mg_19 _ _) rfl ?_
    refine w_li rfl rfl ?_
    refine w_li rfl rfl ?_
    obtain ⟨j3, e3, h⟩ := bnd h
    refine a_is rfl (mg_22 _ _) (ms_22 _ _) e3 (fun s3 w3 => ?_)
    replace h := wr_of h s3 w3
    refine w_la rfl rfl ?_
    refine w_gf rfl (mg_19 _ _) rfl ?_
    refine w_li rfl rfl ?_
    refine w_ci rfl ?_
    obtain ⟨j4, e4, h⟩ := bnd h
    refine a_is rfl (mg_25 _ _) (ms_25 _ _) e4 (fun s4 w4 => ?_)
    replace h := wr_of h s4 w4
    refine w_ci rfl ?_
    refine w_si rfl (Nat.le_of_ble_eq_true rfl) rfl ?_
    exact Wp_fgt (fg_s (fg_s (fg_s (fg_s (fg_s (fg_s fg_e)))))) (K_X5_thoughtFor_56 hk25 _ _ _ _ _ _ _ _ h)
theorem K_X5_thoughtFor_25  : ∀ (n : Nat) (x1 : Int32) (x2 : Int32) (x3 : Int32) (s : SS) (t : TT) (q : Int32 × SS × TT), l_X5_thoughtFor_25 n (x1, x2, x3, s, t) = some q → Wp pl_Kc 73 25 [some (.ref 0), some (.int x1), some (.int x2), some (.int x3), none, none] [] (mk s t) (Qi q)
  | 0, x1, x2, x3, s, t, q, h => by cases (show (none : Option (Int32 × SS × TT)) = some q from h)
  | n + 1, x1, x2, x3, s, t, q, h => B_X5_thoughtFor_25 (K_X5_thoughtFor_25 n) x1 x2 x3 s t q h
set_option maxRecDepth 100000 in
theorem T_X5_thoughtFor  {x1 : Int32} {x2 : Int32} {s : SS} {t : TT} {q : Int32 × SS × TT} (h : f_X5_thoughtFor x1 x2 s t = some q) : Wm 73 [.ref 0, .int x1, .int x2] (mk s t) (Qi q) := by
  refine Wm.of pT_73 (Nat.le_of_ble_eq_true rfl) (L0 := [some (.ref 0), some (.int x1), some (.int x2), none, none, none]) rfl ?_
  unfold f_X5_thoughtFor at h
  refine w_la rfl rfl ?_
  refine w_gf rfl (mg_0 _ _) rfl ?_
  refine w_li rfl rfl ?_
  obtain ⟨q1, e1, h⟩ := bnd h
  refine a_vi1i rfl (mg_1 _ _) (Nat.le_of_ble_eq_true rfl) (T_X1_has (Or.inl rfl) e1) ?_
  refine w_if_eq rfl (fun c2 => ?_) (fun c2 => ?_)
  · replace h := ifp h c2
    refine w_ci rfl ?_
    exact a_ri rfl h
  · replace h := ifn h c2
    refine w_li rfl rfl ?_
    refine w_ci rfl ?_
    refine w_ci rfl ?_
    obtain ⟨q3, e3, h⟩ := bnd h
    refine a_st3i rfl (Nat.le_of_ble_eq_true rfl) (T_X5_isWithin e3) ?_
    refine w_if_ne rfl (fun c4 => ?_) (fun c4 => ?_)
    · replace h := ifn h c4
      refine w_ci rfl ?_
      refine w_si rfl (Nat.le_of_ble_eq_true rfl) rfl ?_
      exact Wp_fgt (fg_s (fg_s (fg_s (fg_s (fg_n (fg_n fg_e)))))) (K_X5_thoughtFor_25 _ _ _ _ _ _ _ h)
    · replace h := ifp h (Classical.not_not.mp c4)
      refine w_ci rfl ?_
      exact a_ri rfl h
-- X5_needed
set_option maxRecDepth 100000 in
theorem B_X5_needed_30  {k30 : Int32 × Int32 × Int32 × Int32 × SS × TT → Option (Int32 × SS × TT)} (hk30 : ∀ (x1 : Int32) (x2 : Int32) (x3 : Int32) (x4 : Int32) (s : SS) (t : TT) (q : Int32 × SS × TT), k30 (x1, x2, x3, x4, s, t) = some q → Wp pl_Kc 74 30 [some (.ref 0), some (.int x1), some (.int x2), some (.int x3), some (.int x4), none] [] (mk s t) (Qi q)) : ∀ (x1 : Int32) (x2 : Int32) (x3 : Int32) (x4 : Int32) (s : SS) (t : TT) (q : Int32 × SS × TT), b_X5_needed_30 k30 x1 x2 x3 x4 s t = some q → Wp pl_Kc 74 30 [some (.ref 0), some (.int x1), some (.int x2), some (.int x3), some (.int x4), none] [] (mk s t) (Qi q) := by
  intro x1 x2 x3 x4 s t q h
  unfold b_X5_needed_30 at h
  refine w_li rfl rfl ?_
  refine w_la rfl rfl ?_
  refine w_gf rfl (mg_0 _ _) rfl ?_
  refine w_gf rfl (mg_1 _ _) rfl ?_
  refine w_ic_ge rfl (fun c1 => ?_) (fun c1 => ?_)
  · replace h := ifp h c1
    refine w_li rfl rfl ?_
    exact a_ri rfl h
  · replace h := ifn h c1
    refine w_la rfl rfl ?_
    obtain ⟨q2, e2, h⟩ := bnd h
    refine a_vi0t rfl (mg_0 _ _) (Nat.le_of_ble_eq_true rfl) (T_X5_trial e2) ?_
    refine w_li rfl rfl ?_
    refine w_ci rfl ?_
    refine w_ci rfl ?_
    refine w_li rfl rfl ?_
    refine w_ishl rfl ?_
    refine w_ci rfl ?_
    refine w_ixor rfl ?_
    refine w_iand rfl ?_
    obtain ⟨q3, e3, h⟩ := bnd h
    refine a_st3i rfl (Nat.le_of_ble_eq_true rfl) (T_X5_wordsBy (Or.inr (Or.inr rfl)) e3) ?_
    refine w_si rfl (Nat.le_of_ble_eq_true rfl) rfl ?_
    refine w_li rfl rfl ?_
    refine w_li rfl rfl ?_
    refine w_ic_ge rfl (fun c4 => ?_) (fun c4 => ?_)
    · replace h := ifp h c4
      refine w_inc rfl rfl rfl ?_
      refine w_go rfl ?_
      exact Wp_fgt (fg_s (fg_s (fg_s (fg_s (fg_s (fg_n fg_e)))))) (hk30 _ _ _ _ _ _ _ h)
    · replace h := ifn h c4
      refine w_li rfl rfl ?_
      refine w_si rfl (Nat.le_of_ble_eq_true rfl) rfl ?_
      refine w_li rfl rfl ?_
      refine w_si rfl (Nat.le_of_ble_eq_true rfl) rfl ?_
      refine w_inc rfl rfl rfl ?_
      refine w_go rfl ?_
      exact Wp_fgt (fg_s (fg_s (fg_s (fg_s (fg_s (fg_n fg_e)))))) (hk30 _ _ _ _ _ _ _ h)
theorem K_X5_needed_30  : ∀ (n : Nat) (x1 : Int32) (x2 : Int32) (x3 : Int32) (x4 : Int32) (s : SS) (t : TT) (q : Int32 × SS × TT), l_X5_needed_30 n (x1, x2, x3, x4, s, t) = some q → Wp pl_Kc 74 30 [some (.ref 0), some (.int x1), some (.int x2), some (.int x3), some (.int x4), none] [] (mk s t) (Qi q)
  | 0, x1, x2, x3, x4, s, t, q, h => by cases (show (none : Option (Int32 × SS × TT)) = some q from h)
  | n + 1, x1, x2, x3, x4, s, t, q, h => B_X5_needed_30 (K_X5_needed_30 n) x1 x2 x3 x4 s t q h
set_option maxRecDepth 100000 in
theorem T_X5_needed  {x1 : Int32} {s : SS} {t : TT} {q : Int32 × SS × TT} (h : f_X5_needed x1 s t = some q) : Wm 74 [.ref 0, .int x1] (mk s t) (Qi q) := by
  refine Wm.of pT_74 (Nat.le_of_ble_eq_true rfl) (L0 := [some (.ref 0), some (.int x1), none, none, none, none]) rfl ?_
  unfold f_X5_needed at h
  refine w_li rfl rfl ?_
  refine w_ci rfl ?_
  refine w_ci rfl ?_
  obtain ⟨q1, e1, h⟩ := bnd h
  refine a_st3i rfl (Nat.le_of_ble_eq_true rfl) (T_X5_isWithin e1) ?_
  refine w_if_ne rfl (fun c2 => ?_) (fun c2 => ?_)
  · replace h := ifn h c2
    refine w_ci rfl ?_
    refine w_si rfl (Nat.le_of_ble_eq_true rfl) rfl ?_
    refine w_la rfl rfl ?_
    obtain ⟨q3, e3, h⟩ := bnd h
    refine a_vi0t rfl (mg_0 _ _) (Nat.le_of_ble_eq_true rfl) (T_X5_trial e3) ?_
    refine w_li rfl rfl ?_
    refine w_ci rfl ?_
    obtain ⟨q4, e4, h⟩ := bnd h
    refine a_st3i rfl (Nat.le_of_ble_eq_true rfl) (T_X5_wordsBy (Or.inr (Or.inr rfl)) e4) ?_
    refine w_si rfl (Nat.le_of_ble_eq_true rfl) rfl ?_
    refine w_ci rfl ?_
    refine w_si rfl (Nat.le_of_ble_eq_true rfl) rfl ?_
    exact Wp_fgt (fg_s (fg_s (fg_s (fg_s (fg_s (fg_n fg_e)))))) (K_X5_needed_30 _ _ _ _ _ _ _ _ h)
  · replace h := ifp h (Classical.not_not.mp c2)
    refine w_ci rfl ?_
    exact a_ri rfl h
-- J6_bitCount_0f7a4
set_option maxRecDepth 100000 in
theorem T_bitCount  {x0 : Int32} {s : SS} {t : TT} {q : Int32 × SS × TT} (h : f_bitCount x0 s t = some q) : Wm 212 [.int x0] (mk s t) (Qi q) := by
  refine Wm.of pT_212 (Nat.le_of_ble_eq_true rfl) (L0 := [some (.int x0)]) rfl ?_
  unfold f_bitCount at h
  refine w_li rfl rfl ?_
  refine w_li rfl rfl ?_
  refine w_ci rfl ?_
  refine w_iushr rfl ?_
  refine w_ci rfl ?_
  refine w_iand rfl ?_
  refine w_isub rfl ?_
  refine w_si rfl (Nat.le_of_ble_eq_true rfl) rfl ?_
  refine w_li rfl rfl ?_
  refine w_ci rfl ?_
  refine w_iand rfl ?_
  refine w_li rfl rfl ?_
  refine w_ci rfl ?_
  refine w_iushr rfl ?_
  refine w_ci rfl ?_
  refine w_iand rfl ?_
  refine w_iadd rfl ?_
  refine w_si rfl (Nat.le_of_ble_eq_true rfl) rfl ?_
  refine w_li rfl rfl ?_
  refine w_li rfl rfl ?_
  refine w_ci rfl ?_
  refine w_iushr rfl ?_
  refine w_iadd rfl ?_
  refine w_ci rfl ?_
  refine w_iand rfl ?_
  refine w_si rfl (Nat.le_of_ble_eq_true rfl) rfl ?_
  refine w_li rfl rfl ?_
  refine w_li rfl rfl ?_
  refine w_ci rfl ?_
  refine w_iushr rfl ?_
  refine w_iadd rfl ?_
  refine w_si rfl (Nat.le_of_ble_eq_true rfl) rfl ?_
  refine w_li rfl rfl ?_
  refine w_li rfl rfl ?_
  refine w_ci rfl ?_
  refine w_iushr rfl ?_
  refine w_iadd rfl ?_
  refine w_si rfl (Nat.le_of_ble_eq_true rfl) rfl ?_
  refine w_li rfl rfl ?_
  refine w_ci rfl ?_
  refine w_iand rfl ?_
  exact a_ri rfl h
-- X5_fewest
set_option maxRecDepth 100000 in
theorem B_X5_fewest_51  {k36 : Int32 × Int32 × Int32 × Int32 × SS × TT → Option (Int32 × SS × TT)} (hk36 : ∀ (x1 : Int32) (x2 : Int32) (x3 : Int32) (x4 : Int32) (s : SS) (t : TT) (q : Int32 × SS × TT), k36 (x1, x2, x3, x4, s, t) = some q → Wp pl_Kc 75 36 [some (.ref 0), some (.int x1), some (.int x2), some (.int x3), some (.int x4), none] [] (mk s t) (Qi q)) {k51 : Int32 × Int32 × Int32 × Int32 × Int32 × SS × TT → Option (Int32 × SS × TT)} (hk51 : ∀ (x1 : Int32) (x2 : Int32) (x3 : Int32) (x4 : Int32) (x5 : Int32) (s : SS) (t : TT) (q : Int32 × SS × TT), k51 (x1, x2, x3, x4, x5, s, t) = some q → Wp pl_Kc 75 51 [some (.ref 0), some (.int x1), some (.int x2), some (.int x3), some (.int x4), some (.int x5)] [] (mk s t) (Qi q)) : ∀ (x1 : Int32) (x2 : Int32) (x3 : Int32) (x4 : Int32) (x5 : Int32) (s : SS) (t : TT) (q : Int32 × SS × TT), b_X5_fewest_51 k36 k51 x1 x2 x3 x4 x5 s t = some q → Wp pl_Kc 75 51 [some (.ref 0), some (.int x1), some (.int x2), some (.int x3), some (.int x4), some (.int x5)] [] (mk s t) (Qi q) := by
  intro x1 x2 x3 x4 x5 s t q h
  unfold b_X5_fewest_51 at h
  refine w_li rfl rfl ?_
  refine w_li rfl rfl ?_
  refine w_ic_ge rfl (fun c1 => ?_) (fun c1 => ?_)
  · replace h := ifp h c1
    refine w_inc rfl rfl rfl ?_
    refine w_go rfl ?_
    exact Wp_fgt (fg_s (fg_s (fg_s (fg_s (fg_s (fg_n fg_e)))))) (hk36 _ _ _ _ _ _ _ h)
  · replace h := ifn h c1
    refine w_li rfl rfl ?_
    obtain ⟨q2, e2, h⟩ := bnd h
    refine a_st1i rfl (Nat.le_of_ble_eq_true rfl) (T_bitCount e2) ?_
    refine w_li rfl rfl ?_
    refine w_ic_ne rfl (fun c3 => ?_) (fun c3 => ?_)
    · replace h := ifn h c3
      refine w_inc rfl rfl rfl ?_
      refine w_go rfl ?_
      exact Wp_fgt (fg_s (fg_s (fg_s (fg_s (fg_s (fg_s fg_e)))))) (hk51 _ _ _ _ _ _ _ _ h)
    · replace h := ifp h (Classical.not_not.mp c3)
      refine w_la rfl rfl ?_
      obtain ⟨q4, e4, h⟩ := bnd h
      refine a_vi0t rfl (mg_0 _ _) (Nat.le_of_ble_eq_true rfl) (T_X5_trial e4) ?_
      refine w_li rfl rfl ?_
      refine w_li rfl rfl ?_
      obtain ⟨q5, e5, h⟩ := bnd h
      refine a_st3i rfl (Nat.le_of_ble_eq_true rfl) (T_X5_wordsBy (Or.inr (Or.inr rfl)) e5) ?_
      refine w_li rfl rfl ?_
      refine w_ic_lt rfl (fun c6 => ?_) (fun c6 => ?_)
      · replace h := ifp h c6
        refine w_inc rfl rfl rfl ?_
        refine w_go rfl ?_
        exact Wp_fgt (fg_s (fg_s (fg_s (fg_s (fg_s (fg_s fg_e)))))) (hk51 _ _ _ _ _ _ _ _ h)
      · replace h := ifn h c6
        refine w_li rfl rfl ?_
        exact a_ri rfl h
theorem K_X5_fewest_51  {k36 : Int32 × Int32 × Int32 × Int32 × SS × TT → Option (Int32 × SS × TT)} (hk36 : ∀ (x1 : Int32) (x2 : Int32) (x3 : Int32) (x4 : Int32) (s : SS) (t : TT) (q : Int32 × SS × TT), k36 (x1, x2, x3, x4, s, t) = some q → Wp pl_Kc 75 36 [some (.ref 0), some (.int x1), some (.int x2), some (.int x3), some (.int x4), none] [] (mk s t) (Qi q)) : ∀ (n : Nat) (x1 : Int32) (x2 : Int32) (x3 : Int32) (x4 : Int32) (x5 : Int32) (s : SS) (t : TT) (q : Int32 × SS × TT), l_X5_fewest_51 k36 n (x1, x2, x3, x4, x5, s, t) = some q → Wp pl_Kc 75 51 [some (.ref 0), some (.int x1), some (.int x2), some (.int x3), some (.int x4), some (.int x5)] [] (mk s t) (Qi q)
  | 0, x1, x2, x3, x4, x5, s, t, q, h => by cases (show (none : Option (Int32 × SS × TT)) = some q from h)
  | n + 1, x1, x2, x3, x4, x5, s, t, q, h => B_X5_fewest_51 hk36 (K_X5_fewest_51 hk36 n) x1 x2 x3 x4 x5 s t q h
set_option maxRecDepth 100000 in
theorem B_X5_fewest_36  {k36 : Int32 × Int32 × Int32 × Int32 × SS × TT → Option (Int32 × SS × TT)} (hk36 : ∀ (x1 : Int32) (x2 : Int32) (x3 : Int32) (x4 : Int32) (s : SS) (t : TT) (q : Int32 × SS × TT), k36 (x1, x2, x3, x4, s, t) = some q → Wp pl_Kc 75 36 [some (.ref 0), some (.int x1), some (.int x2), some (.int x3), some (.int x4), none] [] (mk s t) (Qi q)) : ∀ (x1 : Int32) (x2 : Int32) (x3 : Int32) (x4 : Int32) (s : SS) (t : TT) (q : Int32 × SS × TT), b_X5_fewest_36 k36 x1 x2 x3 x4 s t = some q → Wp pl_Kc 75 36 [some (.ref 0), some (.int x1), some (.int x2), some (.int x3), some (.int x4), none] [] (mk s t) (Qi q) := by
  intro x1 x2 x3 x4 s t q h
  unfold b_X5_fewest_36 at h
  refine w_li rfl rfl ?_
  refine w_la rfl rfl ?_
  refine w_gf rfl (mg_0 _ _) rfl ?_
  refine w_gf rfl (mg_1 _ _) rfl ?_
  refine w_ic_gt rfl (fun c1 => ?_) (fun c1 => ?_)
  · replace h := ifp h c1
    refine w_ci rfl ?_
    exact a_ri rfl h
  · replace h := ifn h c1
    refine w_ci rfl ?_
    refine w_si rfl (Nat.le_of_ble_eq_true rfl) rfl ?_
    exact Wp_fgt (fg_s (fg_s (fg_s (fg_s (fg_s (fg_s fg_e)))))) (K_X5_fewest_51 hk36 _ _ _ _ _ _ _ _ _ h)
theorem K_X5_fewest_36  : ∀ (n : Nat) (x1 : Int32) (x2 : Int32) (x3 : Int32) (x4 : Int32) (s : SS) (t : TT) (q : Int32 × SS × TT), l_X5_fewest_36 n (x1, x2, x3, x4, s, t) = some q → Wp pl_Kc 75 36 [some (.ref 0), some (.int x1), some (.int x2), some (.int x3), some (.int x4), none] [] (mk s t) (Qi q)
  | 0, x1, x2, x3, x4, s, t, q, h => by cases (show (none : Option (Int32 × SS × TT)) = some q from h)
  | n + 1, x1, x2, x3, x4, s, t, q, h => B_X5_fewest_36 (K_X5_fewest_36 n) x1 x2 x3 x4 s t q h
set_option maxRecDepth 100000 in
theorem T_X5_fewest  {x1 : Int32} {x2 : Int32} {s : SS} {t : TT} {q : Int32 × SS × TT} (h : f_X5_fewest x1 x2 s t = some q) : Wm 75 [.ref 0, .int x1, .int x2] (mk s t) (Qi q) := by
  refine Wm.of pT_75 (Nat.le_of_ble_eq_true rfl) (L0 := [some (.ref 0), some (.int x1), some (.int x2), none, none, none]) rfl ?_
  unfold f_X5_fewest at h
  refine w_li rfl rfl ?_
  refine w_ci rfl ?_
  refine w_ci rfl ?_
  obtain ⟨q1, e1, h⟩ := bnd h
  refine a_st3i rfl (Nat.le_of_ble_eq_true rfl) (T_X5_isWithin e1) ?_
  refine w_if_eq rfl (fun c2 => ?_) (fun c2 => ?_)
  · replace h := ifp h c2
    refine w_ci rfl ?_
    exact a_ri rfl h
  · replace h := ifn h c2
    refine w_li rfl rfl ?_
    refine w_ci rfl ?_
    refine w_ci rfl ?_
    obtain ⟨q3, e3, h⟩ := bnd h
    refine a_st3i rfl (Nat.le_of_ble_eq_true rfl) (T_X5_isWithin e3) ?_
    refine w_if_ne rfl (fun c4 => ?_) (fun c4 => ?_)
    · replace h := ifn h c4
      refine w_ci rfl ?_
      refine w_la rfl rfl ?_
      refine w_gf rfl (mg_0 _ _) rfl ?_
      refine w_gf rfl (mg_1 _ _) rfl ?_
      refine w_ishl rfl ?_
      refine w_si rfl (Nat.le_of_ble_eq_true rfl) rfl ?_
      refine w_ci rfl ?_
      refine w_si rfl (Nat.le_of_ble_eq_true rfl) rfl ?_
      exact Wp_fgt (fg_s (fg_s (fg_s (fg_s (fg_s (fg_n fg_e)))))) (K_X5_fewest_36 _ _ _ _ _ _ _ _ h)
    · replace h := ifp h (Classical.not_not.mp c4)
      refine w_ci rfl ?_
      exact a_ri rfl h
-- X5_leastPacking
set_option maxRecDepth 100000 in
theorem J_X5_leastPacking_100  {k7 : Int32 × Int32 × Int32 × Int32 × SS × TT → Option (Int32 × SS × TT)} (hk7 : ∀ (x1 : Int32) (x2 : Int32) (x3 : Int32) (x4 : Int32) (s : SS) (t : TT) (q : Int32 × SS × TT), k7 (x1, x2, x3, x4, s, t) = some q → Wp pl_Kc 103 7 [some (.ref 0), some (.int x1), some (.int x2), some (.int x3), some (.int x4), none, none, none, none] [] (mk s t) (Qi q)) : ∀ (x1 : Int32) (x2 : Int32) (x4 : Int32) (y0 : Int32) (y1 : Int32) (s : SS) (t : TT) (q : Int32 × SS × TT), j_X5_leastPacking_100 k7 x1 x2 x4 y0 y1 s t = some q → Wp pl_Kc 103 100 [some (.ref 0), some (.int x1), some (.int x2), none, some (.int x4), none, none, none, none] [.int y0, .int y1] (mk s t) (Qi q) := by
  intro x1 x2 x4 y0 y1 s t q h
  unfold j_X5_leastPacking_100 at h
  refine w_mm rfl (Nat.le_of_ble_eq_true rfl) ?_
  refine w_si rfl (Nat.le_of_ble_eq_true rfl) rfl ?_
  refine w_inc rfl rfl rfl ?_
  refine w_go rfl ?_
  exact Wp_fgt (fg_s (fg_s (fg_s (fg_s (fg_s (fg_n (fg_n (fg_n (fg_n fg_e))))))))) (hk7 _ _ _ _ _ _ _ h)
set_option maxRecDepth 100000 in
theorem B_X5_leastPacking_7  {k7 : Int32 × Int32 × Int32 × Int32 × SS × TT → Option (Int32 × SS × TT)} (hk7 : ∀ (x1 : Int32) (x2 : Int32) (x3 : Int32) (x4 : Int32) (s : SS) (t : TT) (q : Int32 × SS × TT), k7 (x1, x2, x3, x4, s, t) = some q → Wp pl_Kc 103 7 [some (.ref 0), some (.int x1), some (.int x2), some (.int x3), some (.int x4), none, none, none, none] [] (mk s t) (Qi q)) : ∀ (x1 : Int32) (x2 : Int32) (x3 : Int32) (x4 : Int32) (s : SS) (t : TT) (q : Int32 × SS × TT), b_X5_leastPacking_7 k7 x1 x2 x3 x4 s t = some q → Wp pl_Kc 103 7 [some (.ref 0), some (.int x1), some (.int x2), some (.int x3), some (.int x4), none, none, none, none] [] (mk s t) (Qi q) := by
  intro x1 x2 x3 x4 s t q h
  unfold b_X5_leastPacking_7 at h
  refine w_li rfl rfl ?_
  refine w_la rfl rfl ?_
  refine w_gf rfl (mg_0 _ _) rfl ?_
  refine w_gf rfl (mg_1 _ _) rfl ?_
  refine w_ic_ge rfl (fun c1 => ?_) (fun c1 => ?_)
  · replace h := ifp h c1
    refine w_li rfl rfl ?_
    exact a_ri rfl h
  · replace h := ifn h c1
    refine w_li rfl rfl ?_
    refine w_li rfl rfl ?_
    refine w_ishr rfl ?_
    refine w_ci rfl ?_
    refine w_iand rfl ?_
    refine w_if_ne rfl (fun c2 => ?_) (fun c2 => ?_)
    · replace h := ifn h c2
      refine w_la rfl rfl ?_
      refine w_gf rfl (mg_0 _ _) rfl ?_
      refine w_li rfl rfl ?_
      refine w_ci rfl ?_
      refine w_li rfl rfl ?_
      refine w_ishl rfl ?_
      refine w_ci rfl ?_
      refine w_ixor rfl ?_
      refine w_iand rfl ?_
      obtain ⟨j3, e3, h⟩ := bnd h
      refine a_ia rfl (mr_50 _ _ _) e3 ?_
      refine w_si rfl (Nat.le_of_ble_eq_true rfl) rfl ?_
      refine w_la rfl rfl ?_
      refine w_gf rfl (mg_0 _ _) rfl ?_
      refine w_gf rfl (mg_1 _ _) rfl ?_
      refine w_li rfl rfl ?_
      obtain ⟨j4, e4, h⟩ := bnd h
      refine a_ia rfl (mr_4 _ _ _) e4 ?_
      refine w_si rfl (Nat.le_of_ble_eq_true rfl) rfl ?_
      refine w_li rfl rfl ?_
      refine w_li rfl rfl ?_
      refine w_iadd rfl ?_
      refine w_si rfl (Nat.le_of_ble_eq_true rfl) rfl ?_
      refine w_li rfl rfl ?_
      refine w_ci rfl ?_
      refine w_idiv rfl (by decide) ?_
      refine w_ci rfl ?_
      refine w_iadd rfl ?_
      refine w_ci rfl ?_
      refine w_imul rfl ?_
      refine w_li rfl rfl ?_
      refine w_iadd rfl ?_
      refine w_si rfl (Nat.le_of_ble_eq_true rfl) rfl ?_
      refine w_li rfl rfl ?_
      refine w_li rfl rfl ?_
      refine w_ci rfl ?_
      refine w_irem rfl (by decide) ?_
      refine w_li rfl rfl ?_
      refine w_iadd rfl ?_
      refine w_li rfl rfl ?_
      refine w_ic_gt rfl (fun c5 => ?_) (fun c5 => ?_)
      · replace h := ifp h c5
        refine w_li rfl rfl ?_
        exact Wp_fgt (fg_s (fg_s (fg_s (fg_n (fg_s (fg_n (fg_n (fg_n (fg_n fg_e))))))))) (J_X5_leastPacking_100 hk7 _ _ _ _ _ _ _ _ h)
      · replace h := ifn h c5
        refine w_li rfl rfl ?_
        refine w_go rfl ?_
        exact Wp_fgt (fg_s (fg_s (fg_s (fg_n (fg_s (fg_n (fg_n (fg_n (fg_n fg_e))))))))) (J_X5_leastPacking_100 hk7 _ _ _ _ _ _ _ _ h)
    · replace h := ifp h (Classical.not_not.mp c2)
      refine w_go rfl ?_
      refine w_inc rfl rfl rfl ?_
      refine w_go rfl ?_
      exact Wp_fgt (fg_s (fg_s (fg_s (fg_s (fg_s (fg_n (fg_n (fg_n (fg_n fg_e))))))))) (hk7 _ _ _ _ _ _ _ h)
theorem K_X5_leastPacking_7  : ∀ (n : Nat) (x1 : Int32) (x2 : Int32) (x3 : Int32) (x4 : Int32) (s : SS) (t : TT) (q : Int32 × SS × TT), l_X5_leastPacking_7 n (x1, x2, x3, x4, s, t) = some q → Wp pl_Kc 103 7 [some (.ref 0), some (.int x1), some (.int x2), some (.int x3), some (.int x4), none, none, none, none] [] (mk s t) (Qi q)
  | 0, x1, x2, x3, x4, s, t, q, h => by cases (show (none : Option (Int32 × SS × TT)) = some q from h)
  | n + 1, x1, x2, x3, x4, s, t, q, h => B_X5_leastPacking_7 (K_X5_leastPacking_7 n) x1 x2 x3 x4 s t q h
set_option maxRecDepth 100000 in
theorem T_X5_leastPacking  {x1 : Int32} {x2 : Int32} {s : SS} {t : TT} {q : Int32 × SS × TT} (h : f_X5_leastPacking x1 x2 s t = some q) : Wm 103 [.ref 0, .int x1, .int x2] (mk s t) (Qi q) := by
  refine Wm.of pT_103 (Nat.le_of_ble_eq_true rfl) (L0 := [some (.ref 0), some (.int x1), some (.int x2), none, none, none, none, none, none]) rfl ?_
  unfold f_X5_leastPacking at h
  refine w_ci rfl ?_
  refine w_si rfl (Nat.le_of_ble_eq_true rfl) rfl ?_
  refine w_ci rfl ?_
  refine w_si rfl (Nat.le_of_ble_eq_true rfl) rfl ?_
  exact Wp_fgt (fg_s (fg_s (fg_s (fg_s (fg_s (fg_n (fg_n (fg_n (fg_n fg_e))))))))) (K_X5_leastPacking_7 _ _ _ _ _ _ _ _ h)
-- X5_packed
set_option maxRecDepth 100000 in
theorem B_X5_packed_66  {k66 : Int32 × Int32 × Int32 × SS × TT → Option (Int32 × SS × TT)} (hk66 : ∀ (x1 : Int32) (x2 : Int32) (x3 : Int32) (s : SS) (t : TT) (q : Int32 × SS × TT), k66 (x1, x2, x3, s, t) = some q → Wp pl_Kc 76 66 [some (.ref 0), some (.int x1), some (.int x2), some (.int x3)] [] (mk s t) (Qi q)) : ∀ (x1 : Int32) (x2 : Int32) (x3 : Int32) (s : SS) (t : TT) (q : Int32 × SS × TT), b_X5_packed_66 k66 x1 x2 x3 s t = some q → Wp pl_Kc 76 66 [some (.ref 0), some (.int x1), some (.int x2), some (.int x3)] [] (mk s t) (Qi q) := by
  intro x1 x2 x3 s t q h
  unfold b_X5_packed_66 at h
  refine w_li rfl rfl ?_
  refine w_li rfl rfl ?_
  refine w_ic_ge rfl (fun c1 => ?_) (fun c1 => ?_)
  · replace h := ifp h c1
    refine w_la rfl rfl ?_
    refine w_gf rfl (mg_0 _ _) rfl ?_
    refine w_li rfl rfl ?_
    refine w_ci rfl ?_
    refine w_isub rfl ?_
    obtain ⟨j2, e2, h⟩ := bnd h
    refine a_ia rfl (mr_50 _ _ _) e2 ?_
    refine w_ci rfl ?_
    refine w_idiv rfl (by decide) ?_
    exact a_ri rfl h
  · replace h := ifn h c1
    refine w_la rfl rfl ?_
    refine w_gf rfl (mg_0 _ _) rfl ?_
    refine w_li rfl rfl ?_
    refine w_la rfl rfl ?_
    refine w_li rfl rfl ?_
    refine w_li rfl rfl ?_
    obtain ⟨q3, e3, h⟩ := bnd h
    refine a_vi2i rfl (mg_0 _ _) (Nat.le_of_ble_eq_true rfl) (T_X5_leastPacking e3) ?_
    obtain ⟨j4, e4, h⟩ := bnd h
    refine a_is rfl (mg_50 _ _) (ms_50 _ _) e4 (fun s4 w4 => ?_)
    replace h := wr_of h s4 w4
    refine w_inc rfl rfl rfl ?_
    refine w_go rfl ?_
    exact Wp_fgt (fg_s (fg_s (fg_s (fg_s fg_e)))) (hk66 _ _ _ _ _ _ h)
theorem K_X5_packed_66  : ∀ (n : Nat) (x1 : Int32) (x2 : Int32) (x3 : Int32) (s : SS) (t : TT) (q : Int32 × SS × TT), l_X5_packed_66 n (x1, x2, x3, s, t) = some q → Wp pl_Kc 76 66 [some (.ref 0), some (.int x1), some (.int x2), some (.int x3)] [] (mk s t) (Qi q)
  | 0, x1, x2, x3, s, t, q, h => by cases (show (none : Option (Int32 × SS × TT)) = some q from h)
  | n + 1, x1, x2, x3, s, t, q, h => B_X5_packed_66 (K_X5_packed_66 n) x1 x2 x3 s t q h
set_option maxRecDepth 100000 in
theorem B_X5_packed_14  {k14 : Int32 × Int32 × SS × TT → Option (Int32 × SS × TT)} (hk14 : ∀ (x1 : Int32) (x2 : Int32) (s : SS) (t : TT) (q : Int32 × SS × TT), k14 (x1, x2, s, t) = some q → Wp pl_Kc 76 14 [some (.ref 0), some (.int x1), some (.int x2), none] [] (mk s t) (Qi q)) : ∀ (x1 : Int32) (x2 : Int32) (s : SS) (t : TT) (q : Int32 × SS × TT), b_X5_packed_14 k14 x1 x2 s t = some q → Wp pl_Kc 76 14 [some (.ref 0), some (.int x1), some (.int x2), none] [] (mk s t) (Qi q) := by
  intro x1 x2 s t q h
  unfold b_X5_packed_14 at h
  refine w_li rfl rfl ?_
  refine w_la rfl rfl ?_
  refine w_gf rfl (mg_0 _ _) rfl ?_
  refine w_gf rfl (mg_1 _ _) rfl ?_
  refine w_ic_ge rfl (fun c1 => ?_) (fun c1 => ?_)
  · replace h := ifp h c1
    refine w_la rfl rfl ?_
    refine w_gf rfl (mg_0 _ _) rfl ?_
    refine w_ci rfl ?_
    refine w_li rfl rfl ?_
    obtain ⟨j2, e2, h⟩ := bnd h
    refine a_is rfl (mg_50 _ _) (ms_50 _ _) e2 (fun s2 w2 => ?_)
    replace h := wr_of h s2 w2
    refine w_ci rfl ?_
    refine w_la rfl rfl ?_
    refine w_gf rfl (mg_0 _ _) rfl ?_
    refine w_gf rfl (mg_1 _ _) rfl ?_
    refine w_ishl rfl ?_
    refine w_si rfl (Nat.le_of_ble_eq_true rfl) rfl ?_
    refine w_ci rfl ?_
    refine w_si rfl (Nat.le_of_ble_eq_true rfl) rfl ?_
    exact Wp_fgt (fg_s (fg_s (fg_s (fg_s fg_e)))) (K_X5_packed_66 _ _ _ _ _ _ _ h)
  · replace h := ifn h c1
    refine w_la rfl rfl ?_
    refine w_gf rfl (mg_0 _ _) rfl ?_
    refine w_gf rfl (mg_1 _ _) rfl ?_
    refine w_li rfl rfl ?_
    obtain ⟨j3, e3, h⟩ := bnd h
    refine a_ia rfl (mr_4 _ _ _) e3 ?_
    refine w_li rfl rfl ?_
    refine w_ic_le rfl (fun c4 => ?_) (fun c4 => ?_)
    · replace h := ifp h c4
      refine w_inc rfl rfl rfl ?_
      refine w_go rfl ?_
      exact Wp_fgt (fg_s (fg_s (fg_s (fg_n fg_e)))) (hk14 _ _ _ _ _ h)
    · replace h := ifn h c4
      refine w_ci rfl ?_
      exact a_ri rfl h
theorem K_X5_packed_14  : ∀ (n : Nat) (x1 : Int32) (x2 : Int32) (s : SS) (t : TT) (q : Int32 × SS × TT), l_X5_packed_14 n (x1, x2, s, t) = some q → Wp pl_Kc 76 14 [some (.ref 0), some (.int x1), some (.int x2), none] [] (mk s t) (Qi q)
  | 0, x1, x2, s, t, q, h => by cases (show (none : Option (Int32 × SS × TT)) = some q from h)
  | n + 1, x1, x2, s, t, q, h => B_X5_packed_14 (K_X5_packed_14 n) x1 x2 s t q h
set_option maxRecDepth 100000 in
theorem T_X5_packed  {x1 : Int32} {s : SS} {t : TT} {q : Int32 × SS × TT} (h : f_X5_packed x1 s t = some q) : Wm 76 [.ref 0, .int x1] (mk s t) (Qi q) := by
  refine Wm.of pT_76 (Nat.le_of_ble_eq_true rfl) (L0 := [some (.ref 0), some (.int x1), none, none]) rfl ?_
  unfold f_X5_packed at h
  refine w_li rfl rfl ?_
  refine w_ci rfl ?_
  refine w_ci rfl ?_
  obtain ⟨q1, e1, h⟩ := bnd h
  refine a_st3i rfl (Nat.le_of_ble_eq_true rfl) (T_X5_isWithin e1) ?_
  refine w_if_ne rfl (fun c2 => ?_) (fun c2 => ?_)
  · replace h := ifn h c2
    refine w_ci rfl ?_
    refine w_si rfl (Nat.le_of_ble_eq_true rfl) rfl ?_
    exact Wp_fgt (fg_s (fg_s (fg_s (fg_n fg_e)))) (K_X5_packed_14 _ _ _ _ _ _ h)
  · replace h := ifp h (Classical.not_not.mp c2)
    refine w_ci rfl ?_
    exact a_ri rfl h
-- X5_isPlace
set_option maxRecDepth 100000 in
theorem T_X5_isPlace  {x0 : Int32} {s : SS} {t : TT} {q : Int32 × SS × TT} (h : f_X5_isPlace x0 s t = some q) : Wm 97 [.int x0] (mk s t) (Qi q) := by
  refine Wm.of pT_97 (Nat.le_of_ble_eq_true rfl) (L0 := [some (.int x0)]) rfl ?_
  unfold f_X5_isPlace at h
  refine w_li rfl rfl ?_
  refine w_ci rfl ?_
  refine w_ci rfl ?_
  obtain ⟨q1, e1, h⟩ := bnd h
  refine a_st3i rfl (Nat.le_of_ble_eq_true rfl) (T_X5_isWithin e1) ?_
  exact a_rzc rfl h
-- X5_isTold
set_option maxRecDepth 100000 in
theorem B_X5_isTold_20 {o1 : Nat} (ho1 : isS o1) {k20 : Int32 × Int32 × SS × TT → Option (Int32 × SS × TT)} (hk20 : ∀ (x5 : Int32) (x6 : Int32) (s : SS) (t : TT) (q : Int32 × SS × TT), k20 (x5, x6, s, t) = some q → Wp pl_Kc 102 20 [none, some (.ref o1), none, none, some (.ref 19), some (.int x5), some (.int x6)] [] (mk s t) (Qi q)) : ∀ (x5 : Int32) (x6 : Int32) (s : SS) (t : TT) (q : Int32 × SS × TT), b_X5_isTold_20 o1 k20 x5 x6 s t = some q → Wp pl_Kc 102 20 [none, some (.ref o1), none, none, some (.ref 19), some (.int x5), some (.int x6)] [] (mk s t) (Qi q) := by
  intro x5 x6 s t q h
  unfold b_X5_isTold_20 at h
  refine w_li rfl rfl ?_
  refine w_la rfl rfl ?_
  refine w_gf rfl (mgS ho1 _ _) rfl ?_
  refine w_ic_ge rfl (fun c1 => ?_) (fun c1 => ?_)
  · replace h := ifp h c1
    refine w_ci rfl ?_
    exact a_rz rfl (by decide) h
  · replace h := ifn h c1
    refine w_li rfl rfl ?_
    refine w_la rfl rfl ?_
    refine w_ci rfl ?_
    obtain ⟨q2, e2, h⟩ := bnd h
    refine a_vi1i rfl (mg_19 _ _) (Nat.le_of_ble_eq_true rfl) (T_X1_passWeek (Or.inr (Or.inr rfl)) e2) ?_
    refine w_iadd rfl ?_
    refine w_si rfl (Nat.le_of_ble_eq_true rfl) rfl ?_
    refine w_la rfl rfl ?_
    refine w_gf rfl (mgS ho1 _ _) rfl ?_
    refine w_li rfl rfl ?_
    obtain ⟨j3, e3, h⟩ := bnd h
    refine a_ja rfl (mgS_1 ho1 _ _) e3 ?_
    refine w_cl rfl ?_
    refine w_cmp rfl ?_
    refine w_if_eq rfl (fun c4 => ?_) (fun c4 => ?_)
    · replace h := ifp h c4
      refine w_inc rfl rfl rfl ?_
      refine w_go rfl ?_
      exact Wp_fgt (fg_n (fg_s (fg_n (fg_n (fg_s (fg_s (fg_s fg_e))))))) (hk20 _ _ _ _ _ h)
    · replace h := ifn h c4
      refine w_la rfl rfl ?_
      refine w_gf rfl (mgS ho1 _ _) rfl ?_
      refine w_li rfl rfl ?_
      obtain ⟨j5, e5, h⟩ := bnd h
      refine a_ja rfl (mgS_1 ho1 _ _) e5 ?_
      refine w_li rfl rfl ?_
      refine w_i2l rfl ?_
      refine w_cmp rfl ?_
      refine w_if_eq rfl (fun c6 => ?_) (fun c6 => ?_)
      · replace h := ifp h c6
        refine w_inc rfl rfl rfl ?_
        refine w_go rfl ?_
        exact Wp_fgt (fg_n (fg_s (fg_n (fg_n (fg_s (fg_s (fg_s fg_e))))))) (hk20 _ _ _ _ _ h)
      · replace h := ifn h c6
        refine w_ci rfl ?_
        exact a_rz rfl (by decide) h
theorem K_X5_isTold_20 {o1 : Nat} (ho1 : isS o1) : ∀ (n : Nat) (x5 : Int32) (x6 : Int32) (s : SS) (t : TT) (q : Int32 × SS × TT), l_X5_isTold_20 o1 n (x5, x6, s, t) = some q → Wp pl_Kc 102 20 [none, some (.ref o1), none, none, some (.ref 19), some (.int x5), some (.int x6)] [] (mk s t) (Qi q)
  | 0, x5, x6, s, t, q, h => by cases (show (none : Option (Int32 × SS × TT)) = some q from h)
  | n + 1, x5, x6, s, t, q, h => B_X5_isTold_20 ho1 (K_X5_isTold_20 ho1 n) x5 x6 s t q h
set_option maxRecDepth 100000 in
theorem T_X5_isTold {o1 : Nat} (ho1 : isS o1) {x2 : Int32} {x3 : Int32} {s : SS} {t : TT} {q : Int32 × SS × TT} (h : f_X5_isTold o1 x2 x3 s t = some q) : Wm 102 [.ref 0, .ref o1, .int x2, .int x3] (mk s t) (Qi q) := by
  refine Wm.of pT_102 (Nat.le_of_ble_eq_true rfl) (L0 := [some (.ref 0), some (.ref o1), some (.int x2), some (.int x3), none, none, none]) rfl ?_
  unfold f_X5_isTold at h
  refine w_la rfl rfl ?_
  obtain ⟨q1, e1, h⟩ := bnd h
  refine a_vi0t rfl (mg_0 _ _) (Nat.le_of_ble_eq_true rfl) (T_X5_trial e1) ?_
  refine w_sa rfl (Nat.le_of_ble_eq_true rfl) rfl ?_
  refine w_la rfl rfl ?_
  refine w_gf rfl (mg_19 _ _) rfl ?_
  refine w_li rfl rfl ?_
  refine w_li rfl rfl ?_
  obtain ⟨j2, e2, h⟩ := bnd h
  refine a_is rfl (mg_22 _ _) (ms_22 _ _) e2 (fun s2 w2 => ?_)
  replace h := wr_of h s2 w2
  refine w_ci rfl ?_
  refine w_si rfl (Nat.le_of_ble_eq_true rfl) rfl ?_
  refine w_ci rfl ?_
  refine w_si rfl (Nat.le_of_ble_eq_true rfl) rfl ?_
  exact Wp_fgt (fg_n (fg_s (fg_n (fg_n (fg_s (fg_s (fg_s fg_e))))))) (K_X5_isTold_20 ho1 _ _ _ _ _ _ h)
-- X5_fits
set_option maxRecDepth 100000 in
theorem J_X5_fits_90  {k59 : Int32 × Int32 × Nat × Int32 × Int32 × Int32 × SS × TT → Option (Int32 × SS × TT)} (hk59 : ∀ (x2 : Int32) (x3 : Int32) (x4 : Nat) (hx4 : isS x4) (x5 : Int32) (x6 : Int32) (x7 : Int32) (s : SS) (t : TT) (q : Int32 × SS × TT), k59 (x2, x3, x4, x5, x6, x7, s, t) = some q → Wp pl_Kc 77 59 [some (.ref 0), none, some (.int x2), some (.int x3), some (.ref x4), some (.int x5), some (.int x6), some (.int x7)] [] (mk s t) (Qi q)) : ∀ (x2 : Int32) (x3 : Int32) (x4 : Nat) (hx4 : isS x4) (x5 : Int32) (x7 : Int32) (y0 : Int32) (s : SS) (t : TT) (q : Int32 × SS × TT), j_X5_fits_90 k59 x2 x3 x4 x5 x7 y0 s t = some q → Wp pl_Kc 77 90 [some (.ref 0), none, some (.int x2), some (.int x3), some (.ref x4), some (.int x5), none, some (.int x7)] [.int y0] (mk s t) (Qi q) := by
  intro x2 x3 x4 hx4 x5 x7 y0 s t q h
  unfold j_X5_fits_90 at h
  refine w_si rfl (Nat.le_of_ble_eq_true rfl) rfl ?_
  refine w_inc rfl rfl rfl ?_
  refine w_inc rfl rfl rfl ?_
  refine w_go rfl ?_
  exact Wp_fgt (fg_s (fg_n (fg_s (fg_s (fg_s (fg_s (fg_s (fg_s fg_e)))))))) (hk59 _ _ _ hx4 _ _ _ _ _ _ h)
set_option maxRecDepth 100000 in
theorem B_X5_fits_59  {k59 : Int32 × Int32 × Nat × Int32 × Int32 × Int32 × SS × TT → Option (Int32 × SS × TT)} (hk59 : ∀ (x2 : Int32) (x3 : Int32) (x4 : Nat) (hx4 : isS x4) (x5 : Int32) (x6 : Int32) (x7 : Int32) (s : SS) (t : TT) (q : Int32 × SS × TT), k59 (x2, x3, x4, x5, x6, x7, s, t) = some q → Wp pl_Kc 77 59 [some (.ref 0), none, some (.int x2), some (.int x3), some (.ref x4), some (.int x5), some (.int x6), some (.int x7)] [] (mk s t) (Qi q)) : ∀ (x2 : Int32) (x3 : Int32) (x4 : Nat) (hx4 : isS x4) (x5 : Int32) (x6 : Int32) (x7 : Int32) (s : SS) (t : TT) (q : Int32 × SS × TT), b_X5_fits_59 k59 x2 x3 x4 x5 x6 x7 s t = some q → Wp pl_Kc 77 59 [some (.ref 0), none, some (.int x2), some (.int x3), some (.ref x4), some (.int x5), some (.int x6), some (.int x7)] [] (mk s t) (Qi q) := by
  intro x2 x3 x4 hx4 x5 x6 x7 s t q h
  unfold b_X5_fits_59 at h
  refine w_li rfl rfl ?_
  refine w_ci rfl ?_
  refine w_ic_gt rfl (fun c1 => ?_) (fun c1 => ?_)
  · replace h := ifp h c1
    refine w_li rfl rfl ?_
    refine w_if_ne rfl (fun c2 => ?_) (fun c2 => ?_)
    · replace h := ifn h c2
      refine w_li rfl rfl ?_
      exact a_ri rfl h
    · replace h := ifp h (Classical.not_not.mp c2)
      refine w_li rfl rfl ?_
      refine w_go rfl ?_
      exact a_ri rfl h
  · replace h := ifn h c1
    refine w_la rfl rfl ?_
    refine w_la rfl rfl ?_
    refine w_li rfl rfl ?_
    refine w_li rfl rfl ?_
    obtain ⟨q3, e3, h⟩ := bnd h
    refine a_vi3i rfl (mg_0 _ _) (Nat.le_of_ble_eq_true rfl) (T_X5_isTold hx4 e3) ?_
    refine w_if_eq rfl (fun c4 => ?_) (fun c4 => ?_)
    · replace h := ifp h c4
      refine w_inc rfl rfl rfl ?_
      refine w_go rfl ?_
      exact Wp_fgt (fg_s (fg_n (fg_s (fg_s (fg_s (fg_s (fg_s (fg_s fg_e)))))))) (hk59 _ _ _ hx4 _ _ _ _ _ _ h)
    · replace h := ifn h c4
      refine w_li rfl rfl ?_
      refine w_if_ne rfl (fun c5 => ?_) (fun c5 => ?_)
      · replace h := ifn h c5
        refine w_li rfl rfl ?_
        exact Wp_fgt (fg_s (fg_n (fg_s (fg_s (fg_s (fg_s (fg_n (fg_s fg_e)))))))) (J_X5_fits_90 hk59 _ _ _ hx4 _ _ _ _ _ _ h)
      · replace h := ifp h (Classical.not_not.mp c5)
        refine w_li rfl rfl ?_
        refine w_go rfl ?_
        exact Wp_fgt (fg_s (fg_n (fg_s (fg_s (fg_s (fg_s (fg_n (fg_s fg_e)))))))) (J_X5_fits_90 hk59 _ _ _ hx4 _ _ _ _ _ _ h)
theorem K_X5_fits_59  : ∀ (n : Nat) (x2 : Int32) (x3 : Int32) (x4 : Nat) (hx4 : isS x4) (x5 : Int32) (x6 : Int32) (x7 : Int32) (s : SS) (t : TT) (q : Int32 × SS × TT), l_X5_fits_59 n (x2, x3, x4, x5, x6, x7, s, t) = some q → Wp pl_Kc 77 59 [some (.ref 0), none, some (.int x2), some (.int x3), some (.ref x4), some (.int x5), some (.int x6), some (.int x7)] [] (mk s t) (Qi q)
  | 0, x2, x3, x4, hx4, x5, x6, x7, s, t, q, h => by cases (show (none : Option (Int32 × SS × TT)) = some q from h)
  | n + 1, x2, x3, x4, hx4, x5, x6, x7, s, t, q, h => B_X5_fits_59 (K_X5_fits_59 n) x2 x3 x4 hx4 x5 x6 x7 s t q h
set_option maxRecDepth 100000 in
theorem T_X5_fits  {x1 : Int32} {x2 : Int32} {x3 : Int32} {s : SS} {t : TT} {q : Int32 × SS × TT} (h : f_X5_fits x1 x2 x3 s t = some q) : Wm 77 [.ref 0, .int x1, .int x2, .int x3] (mk s t) (Qi q) := by
  refine Wm.of pT_77 (Nat.le_of_ble_eq_true rfl) (L0 := [some (.ref 0), some (.int x1), some (.int x2), some (.int x3), none, none, none, none]) rfl ?_
  unfold f_X5_fits at h
  refine w_li rfl rfl ?_
  obtain ⟨q1, e1, h⟩ := bnd h
  refine a_st1i rfl (Nat.le_of_ble_eq_true rfl) (T_X5_isPlace e1) ?_
  refine w_if_eq rfl (fun c2 => ?_) (fun c2 => ?_)
  · replace h := ifp h c2
    refine w_ci rfl ?_
    exact a_ri rfl h
  · replace h := ifn h c2
    refine w_la rfl rfl ?_
    refine w_gf rfl (mg_0 _ _) rfl ?_
    refine w_li rfl rfl ?_
    obtain ⟨q3, e3, h⟩ := bnd h
    refine a_vi1i rfl (mg_1 _ _) (Nat.le_of_ble_eq_true rfl) (T_X1_has (Or.inl rfl) e3) ?_
    refine w_if_eq rfl (fun c4 => ?_) (fun c4 => ?_)
    · replace h := ifp h c4
      refine w_ci rfl ?_
      exact a_ri rfl h
    · replace h := ifn h c4
      refine w_li rfl rfl ?_
      refine w_ci rfl ?_
      refine w_ci rfl ?_
      obtain ⟨q5, e5, h⟩ := bnd h
      refine a_st3i rfl (Nat.le_of_ble_eq_true rfl) (T_X5_isWithin e5) ?_
      refine w_if_ne rfl (fun c6 => ?_) (fun c6 => ?_)
      · replace h := ifn h c6
        refine w_la rfl rfl ?_
        refine w_gf rfl (mg_0 _ _) rfl ?_
        refine w_li rfl rfl ?_
        obtain ⟨j7, e7, h⟩ := bnd h
        refine a_aaS rfl e7 (fun r7 w7 hr7 => ?_)
        replace h := wr_of h r7 w7
        refine w_sa rfl (Nat.le_of_ble_eq_true rfl) rfl ?_
        refine w_la rfl rfl ?_
        refine w_gf rfl (mgS hr7 _ _) rfl ?_
        refine w_ci rfl ?_
        refine w_ic_ne rfl (fun c8 => ?_) (fun c8 => ?_)
        · replace h := ifn h c8
          refine w_ci rfl ?_
          refine w_si rfl (Nat.le_of_ble_eq_true rfl) rfl ?_
          refine w_ci rfl ?_
          refine w_si rfl (Nat.le_of_ble_eq_true rfl) rfl ?_
          refine w_ci rfl ?_
          refine w_si rfl (Nat.le_of_ble_eq_true rfl) rfl ?_
          exact Wp_fgt (fg_s (fg_n (fg_s (fg_s (fg_s (fg_s (fg_s (fg_s fg_e)))))))) (K_X5_fits_59 _ _ _ _ hr7 _ _ _ _ _ _ h)
        · replace h := ifp h (Classical.not_not.mp c8)
          refine w_ci rfl ?_
          exact a_ri rfl h
      · replace h := ifp h (Classical.not_not.mp c6)
        refine w_ci rfl ?_
        exact a_ri rfl h
-- X5_choices
set_option maxRecDepth 100000 in
theorem B_X5_choices_5  {k5 : Int32 × Int32 × Int64 × Int32 × SS × TT → Option (Int64 × SS × TT)} (hk5 : ∀ (x0 : Int32) (x1 : Int32) (x2 : Int64) (x4 : Int32) (s : SS) (t : TT) (q : Int64 × SS × TT), k5 (x0, x1, x2, x4, s, t) = some q → Wp pl_Kc 104 5 [some (.int x0), some (.int x1), some (.long x2), none, some (.int x4)] [] (mk s t) (Ql q)) : ∀ (x0 : Int32) (x1 : Int32) (x2 : Int64) (x4 : Int32) (s : SS) (t : TT) (q : Int64 × SS × TT), b_X5_choices_5 k5 x0 x1 x2 x4 s t = some q → Wp pl_Kc 104 5 [some (.int x0), some (.int x1), some (.long x2), none, some (.int x4)] [] (mk s t) (Ql q) := by
  intro x0 x1 x2 x4 s t q h
  unfold b_X5_choices_5 at h
  refine w_li rfl rfl ?_
  refine w_li rfl rfl ?_
  refine w_ic_gt rfl (fun c1 => ?_) (fun c1 => ?_)
  · replace h := ifp h c1
    refine w_ll rfl rfl ?_
    exact a_rl rfl h
  · replace h := ifn h c1
    refine w_ll rfl rfl ?_
    refine w_li rfl rfl ?_
    refine w_li rfl rfl ?_
    refine w_isub rfl ?_
    refine w_li rfl rfl ?_
    refine w_iadd rfl ?_
    refine w_i2l rfl ?_
    refine w_lmul rfl ?_
    refine w_li rfl rfl ?_
    refine w_i2l rfl ?_
    by_cases c2 : (Int32.toInt64 x4) = 0
    · cases (ifp h c2)
    replace h := ifn h c2
    refine w_ldiv rfl c2 ?_
    refine w_sl rfl (Nat.le_of_ble_eq_true rfl) rfl ?_
    refine w_inc rfl rfl rfl ?_
    refine w_go rfl ?_
    exact Wp_fgt (fg_s (fg_s (fg_s (fg_n (fg_s fg_e))))) (hk5 _ _ _ _ _ _ _ h)
