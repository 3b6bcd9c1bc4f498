-- the walks: a program laid these rows
theorem K_X5_choices_5  : ∀ (n : Nat) (x0 : Int32) (x1 : Int32) (x2 : Int64) (x4 : Int32) (s : SS) (t : TT) (q : Int64 × SS × TT), l_X5_choices_5 n (x0, x1, x2, x4, s, t) = some q → Wp pl_Kc 104 5 [some (.int x0), some (.int x1), some (.long x2), none, some (.int x4)] [] (mk s t) (Ql q)
  | 0, x0, x1, x2, x4, s, t, q, h => by cases (show (none : Option (Int64 × SS × TT)) = some q from h)
  | n + 1, x0, x1, x2, x4, s, t, q, h => B_X5_choices_5 (K_X5_choices_5 n) x0 x1 x2 x4 s t q h
set_option maxRecDepth 100000 in
theorem T_X5_choices  {x0 : Int32} {x1 : Int32} {s : SS} {t : TT} {q : Int64 × SS × TT} (h : f_X5_choices x0 x1 s t = some q) : Wm 104 [.int x0, .int x1] (mk s t) (Ql q) := by
  refine Wm.of pT_104 (Nat.le_of_ble_eq_true rfl) (L0 := [some (.int x0), some (.int x1), none, none, none]) rfl ?_
  unfold f_X5_choices at h
  refine w_cl rfl ?_
  refine w_sl rfl (Nat.le_of_ble_eq_true rfl) rfl ?_
  refine w_ci rfl ?_
  refine w_si rfl (Nat.le_of_ble_eq_true rfl) rfl ?_
  exact Wp_fgt (fg_s (fg_s (fg_s (fg_n (fg_s fg_e))))) (K_X5_choices_5 _ _ _ _ _ _ _ _ h)
-- X5_commonDivisor
set_option maxRecDepth 100000 in
theorem B_X5_commonDivisor_9  {k9 : Int64 × Int64 × Int32 × SS × TT → Option (Int64 × SS × TT)} (hk9 : ∀ (x4 : Int64) (x6 : Int64) (x8 : Int32) (s : SS) (t : TT) (q : Int64 × SS × TT), k9 (x4, x6, x8, s, t) = some q → Wp pl_Kc 106 9 [none, none, none, none, some (.long x4), none, some (.long x6), none, some (.int x8), none, none] [] (mk s t) (Ql q)) : ∀ (x4 : Int64) (x6 : Int64) (x8 : Int32) (s : SS) (t : TT) (q : Int64 × SS × TT), b_X5_commonDivisor_9 k9 x4 x6 x8 s t = some q → Wp pl_Kc 106 9 [none, none, none, none, some (.long x4), none, some (.long x6), none, some (.int x8), none, none] [] (mk s t) (Ql q) := by
  intro x4 x6 x8 s t q h
  unfold b_X5_commonDivisor_9 at h
  refine w_li rfl rfl ?_
  refine w_ci rfl ?_
  refine w_ic_ge rfl (fun c1 => ?_) (fun c1 => ?_)
  · replace h := ifp h c1
    refine w_ll rfl rfl ?_
    exact a_rl rfl h
  · replace h := ifn h c1
    refine w_ll rfl rfl ?_
    refine w_cl rfl ?_
    refine w_cmp rfl ?_
    refine w_if_eq rfl (fun c2 => ?_) (fun c2 => ?_)
    · replace h := ifp h c2
      refine w_ll rfl rfl ?_
      exact a_rl rfl h
    · replace h := ifn h c2
      refine w_ll rfl rfl ?_
      refine w_ll rfl rfl ?_
      by_cases c3 : x6 = 0
      · cases (ifp h c3)
      replace h := ifn h c3
      refine w_lrem rfl c3 ?_
      refine w_sl rfl (Nat.le_of_ble_eq_true rfl) rfl ?_
      refine w_ll rfl rfl ?_
      refine w_sl rfl (Nat.le_of_ble_eq_true rfl) rfl ?_
      refine w_ll rfl rfl ?_
      refine w_sl rfl (Nat.le_of_ble_eq_true rfl) rfl ?_
      refine w_inc rfl rfl rfl ?_
      refine w_go rfl ?_
      exact Wp_fgt (fg_n (fg_n (fg_n (fg_n (fg_s (fg_n (fg_s (fg_n (fg_s (fg_n (fg_n fg_e))))))))))) (hk9 _ _ _ _ _ _ h)
theorem K_X5_commonDivisor_9  : ∀ (n : Nat) (x4 : Int64) (x6 : Int64) (x8 : Int32) (s : SS) (t : TT) (q : Int64 × SS × TT), l_X5_commonDivisor_9 n (x4, x6, x8, s, t) = some q → Wp pl_Kc 106 9 [none, none, none, none, some (.long x4), none, some (.long x6), none, some (.int x8), none, none] [] (mk s t) (Ql q)
  | 0, x4, x6, x8, s, t, q, h => by cases (show (none : Option (Int64 × SS × TT)) = some q from h)
  | n + 1, x4, x6, x8, s, t, q, h => B_X5_commonDivisor_9 (K_X5_commonDivisor_9 n) x4 x6 x8 s t q h
set_option maxRecDepth 100000 in
theorem T_X5_commonDivisor  {x0 : Int64} {x2 : Int64} {s : SS} {t : TT} {q : Int64 × SS × TT} (h : f_X5_commonDivisor x0 x2 s t = some q) : Wm 106 [.long x0, .long x2] (mk s t) (Ql q) := by
  refine Wm.of pT_106 (Nat.le_of_ble_eq_true rfl) (L0 := [some (.long x0), none, some (.long x2), none, none, none, none, none, none, none, none]) rfl ?_
  unfold f_X5_commonDivisor at h
  refine w_ll rfl rfl ?_
  refine w_sl rfl (Nat.le_of_ble_eq_true rfl) rfl ?_
  refine w_ll rfl rfl ?_
  refine w_sl rfl (Nat.le_of_ble_eq_true rfl) rfl ?_
  refine w_ci rfl ?_
  refine w_si rfl (Nat.le_of_ble_eq_true rfl) rfl ?_
  exact Wp_fgt (fg_n (fg_n (fg_n (fg_n (fg_s (fg_n (fg_s (fg_n (fg_s (fg_n (fg_n fg_e))))))))))) (K_X5_commonDivisor_9 _ _ _ _ _ _ _ h)
-- X5_partOf
set_option maxRecDepth 100000 in
theorem J_X5_partOf_17  : ∀ (x5 : Int64) (y0 : Int64) (s : SS) (t : TT) (q : Int64 × SS × TT), j_X5_partOf_17 x5 y0 s t = some q → Wp pl_Kc 105 17 [none, none, none, none, none, some (.long x5), none, none, none] [.long y0] (mk s t) (Ql q) := by
  intro x5 y0 s t q h
  unfold j_X5_partOf_17 at h
  refine w_sl rfl (Nat.le_of_ble_eq_true rfl) rfl ?_
  refine w_ll rfl rfl ?_
  refine w_cl rfl ?_
  refine w_cmp rfl ?_
  refine w_if_le rfl (fun c1 => ?_) (fun c1 => ?_)
  · replace h := ifp h c1
    refine w_ll rfl rfl ?_
    exact a_rl rfl h
  · replace h := ifn h c1
    refine w_ll rfl rfl ?_
    refine w_ll rfl rfl ?_
    by_cases c2 : x5 = 0
    · cases (ifp h c2)
    replace h := ifn h c2
    refine w_ldiv rfl c2 ?_
    refine w_go rfl ?_
    exact a_rl rfl h
set_option maxRecDepth 100000 in
theorem T_X5_partOf  {x0 : Int64} {x2 : Int64} {x4 : Int32} {s : SS} {t : TT} {q : Int64 × SS × TT} (h : f_X5_partOf x0 x2 x4 s t = some q) : Wm 105 [.long x0, .long x2, .int x4] (mk s t) (Ql q) := by
  refine Wm.of pT_105 (Nat.le_of_ble_eq_true rfl) (L0 := [some (.long x0), none, some (.long x2), none, some (.int x4), none, none, none, none]) rfl ?_
  unfold f_X5_partOf at h
  refine w_ll rfl rfl ?_
  refine w_ll rfl rfl ?_
  obtain ⟨q1, e1, h⟩ := bnd h
  refine a_st2l rfl (Nat.le_of_ble_eq_true rfl) (T_X5_commonDivisor e1) ?_
  refine w_sl rfl (Nat.le_of_ble_eq_true rfl) rfl ?_
  refine w_li rfl rfl ?_
  refine w_if_ne rfl (fun c2 => ?_) (fun c2 => ?_)
  · replace h := ifn h c2
    refine w_ll rfl rfl ?_
    exact Wp_fgt (fg_n (fg_n (fg_n (fg_n (fg_n (fg_s (fg_n (fg_n (fg_n fg_e))))))))) (J_X5_partOf_17 _ _ _ _ _ h)
  · replace h := ifp h (Classical.not_not.mp c2)
    refine w_ll rfl rfl ?_
    refine w_go rfl ?_
    exact Wp_fgt (fg_n (fg_n (fg_n (fg_n (fg_n (fg_s (fg_n (fg_n (fg_n fg_e))))))))) (J_X5_partOf_17 _ _ _ _ _ h)
-- X5_odds
set_option maxRecDepth 100000 in
theorem J_X5_odds_78  {k52 : Int32 × Int32 × Int32 × Int32 × Int64 × Int64 × Int32 × SS × TT → Option (Int64 × SS × TT)} (hk52 : ∀ (x1 : Int32) (x2 : Int32) (x3 : Int32) (x4 : Int32) (x5 : Int64) (x7 : Int64) (x9 : Int32) (s : SS) (t : TT) (q : Int64 × SS × TT), k52 (x1, x2, x3, x4, x5, x7, x9, s, t) = some q → Wp pl_Kc 78 52 [none, some (.int x1), some (.int x2), some (.int x3), some (.int x4), some (.long x5), none, some (.long x7), none, some (.int x9)] [] (mk s t) (Ql q)) : ∀ (x1 : Int32) (x2 : Int32) (x3 : Int32) (x4 : Int32) (x7 : Int64) (x9 : Int32) (y0 : Int64) (y1 : Int64) (s : SS) (t : TT) (q : Int64 × SS × TT), j_X5_odds_78 k52 x1 x2 x3 x4 x7 x9 y0 y1 s t = some q → Wp pl_Kc 78 78 [none, some (.int x1), some (.int x2), some (.int x3), some (.int x4), none, none, some (.long x7), none, some (.int x9)] [.long y0, .long y1] (mk s t) (Ql q) := by
  intro x1 x2 x3 x4 x7 x9 y0 y1 s t q h
  unfold j_X5_odds_78 at h
  refine w_lmul rfl ?_
  refine w_sl rfl (Nat.le_of_ble_eq_true rfl) rfl ?_
  refine w_ll rfl rfl ?_
  refine w_cl rfl ?_
  refine w_lmul rfl ?_
  refine w_sl rfl (Nat.le_of_ble_eq_true rfl) rfl ?_
  refine w_inc rfl rfl rfl ?_
  refine w_go rfl ?_
  exact Wp_fgt (fg_n (fg_s (fg_s (fg_s (fg_s (fg_s (fg_n (fg_s (fg_n (fg_s fg_e)))))))))) (hk52 _ _ _ _ _ _ _ _ _ _ h)
set_option maxRecDepth 100000 in
theorem B_X5_odds_52  {k52 : Int32 × Int32 × Int32 × Int32 × Int64 × Int64 × Int32 × SS × TT → Option (Int64 × SS × TT)} (hk52 : ∀ (x1 : Int32) (x2 : Int32) (x3 : Int32) (x4 : Int32) (x5 : Int64) (x7 : Int64) (x9 : Int32) (s : SS) (t : TT) (q : Int64 × SS × TT), k52 (x1, x2, x3, x4, x5, x7, x9, s, t) = some q → Wp pl_Kc 78 52 [none, some (.int x1), some (.int x2), some (.int x3), some (.int x4), some (.long x5), none, some (.long x7), none, some (.int x9)] [] (mk s t) (Ql q)) : ∀ (x1 : Int32) (x2 : Int32) (x3 : Int32) (x4 : Int32) (x5 : Int64) (x7 : Int64) (x9 : Int32) (s : SS) (t : TT) (q : Int64 × SS × TT), b_X5_odds_52 k52 x1 x2 x3 x4 x5 x7 x9 s t = some q → Wp pl_Kc 78 52 [none, some (.int x1), some (.int x2), some (.int x3), some (.int x4), some (.long x5), none, some (.long x7), none, some (.int x9)] [] (mk s t) (Ql q) := by
  intro x1 x2 x3 x4 x5 x7 x9 s t q h
  unfold b_X5_odds_52 at h
  refine w_li rfl rfl ?_
  refine w_li rfl rfl ?_
  refine w_ic_ge rfl (fun c1 => ?_) (fun c1 => ?_)
  · replace h := ifp h c1
    refine w_ll rfl rfl ?_
    refine w_li rfl rfl ?_
    refine w_li rfl rfl ?_
    obtain ⟨q2, e2, h⟩ := bnd h
    refine a_st2l rfl (Nat.le_of_ble_eq_true rfl) (T_X5_choices e2) ?_
    refine w_lmul rfl ?_
    refine w_ll rfl rfl ?_
    refine w_li rfl rfl ?_
    obtain ⟨q3, e3, h⟩ := bnd h
    refine a_st3l rfl (Nat.le_of_ble_eq_true rfl) (T_X5_partOf e3) ?_
    exact a_rl rfl h
  · replace h := ifn h c1
    refine w_ll rfl rfl ?_
    refine w_li rfl rfl ?_
    refine w_li rfl rfl ?_
    refine w_ic_ge rfl (fun c4 => ?_) (fun c4 => ?_)
    · replace h := ifp h c4
      refine w_ci rfl ?_
      refine w_li rfl rfl ?_
      refine w_isub rfl ?_
      refine w_i2l rfl ?_
      exact Wp_fgt (fg_n (fg_s (fg_s (fg_s (fg_s (fg_n (fg_n (fg_s (fg_n (fg_s fg_e)))))))))) (J_X5_odds_78 hk52 _ _ _ _ _ _ _ _ _ _ _ h)
    · replace h := ifn h c4
      refine w_li rfl rfl ?_
      refine w_i2l rfl ?_
      refine w_go rfl ?_
      exact Wp_fgt (fg_n (fg_s (fg_s (fg_s (fg_s (fg_n (fg_n (fg_s (fg_n (fg_s fg_e)))))))))) (J_X5_odds_78 hk52 _ _ _ _ _ _ _ _ _ _ _ h)
theorem K_X5_odds_52  : ∀ (n : Nat) (x1 : Int32) (x2 : Int32) (x3 : Int32) (x4 : Int32) (x5 : Int64) (x7 : Int64) (x9 : Int32) (s : SS) (t : TT) (q : Int64 × SS × TT), l_X5_odds_52 n (x1, x2, x3, x4, x5, x7, x9, s, t) = some q → Wp pl_Kc 78 52 [none, some (.int x1), some (.int x2), some (.int x3), some (.int x4), some (.long x5), none, some (.long x7), none, some (.int x9)] [] (mk s t) (Ql q)
  | 0, x1, x2, x3, x4, x5, x7, x9, s, t, q, h => by cases (show (none : Option (Int64 × SS × TT)) = some q from h)
  | n + 1, x1, x2, x3, x4, x5, x7, x9, s, t, q, h => B_X5_odds_52 (K_X5_odds_52 n) x1 x2 x3 x4 x5 x7 x9 s t q h
set_option maxRecDepth 100000 in
theorem T_X5_odds  {x1 : Int32} {x2 : Int32} {x3 : Int32} {s : SS} {t : TT} {q : Int64 × SS × TT} (h : f_X5_odds x1 x2 x3 s t = some q) : Wm 78 [.ref 0, .int x1, .int x2, .int x3] (mk s t) (Ql q) := by
  refine Wm.of pT_78 (Nat.le_of_ble_eq_true rfl) (L0 := [some (.ref 0), some (.int x1), some (.int x2), some (.int x3), none, none, none, none, none, none]) rfl ?_
  unfold f_X5_odds at h
  refine w_li rfl rfl ?_
  refine w_ci rfl ?_
  refine w_ci rfl ?_
  obtain ⟨q1, e1, h⟩ := bnd h
  refine a_st3i rfl (Nat.le_of_ble_eq_true rfl) (T_X5_isWithin e1) ?_
  refine w_if_eq rfl (fun c2 => ?_) (fun c2 => ?_)
  · replace h := ifp h c2
    refine w_cl rfl ?_
    exact a_rl rfl h
  · replace h := ifn h c2
    refine w_li rfl rfl ?_
    refine w_ci rfl ?_
    refine w_li rfl rfl ?_
    obtain ⟨q3, e3, h⟩ := bnd h
    refine a_st3i rfl (Nat.le_of_ble_eq_true rfl) (T_X5_isWithin e3) ?_
    refine w_if_eq rfl (fun c4 => ?_) (fun c4 => ?_)
    · replace h := ifp h c4
      refine w_cl rfl ?_
      exact a_rl rfl h
    · replace h := ifn h c4
      refine w_li rfl rfl ?_
      refine w_ci rfl ?_
      refine w_ci rfl ?_
      obtain ⟨q5, e5, h⟩ := bnd h
      refine a_st3i rfl (Nat.le_of_ble_eq_true rfl) (T_X5_isWithin e5) ?_
      refine w_if_ne rfl (fun c6 => ?_) (fun c6 => ?_)
      · replace h := ifn h c6
        refine w_la rfl rfl ?_
        refine w_gf rfl (mg_0 _ _) rfl ?_
        refine w_gf rfl (mg_1 _ _) rfl ?_
        refine w_ci rfl ?_
        obtain ⟨j7, e7, h⟩ := bnd h
        refine a_ia rfl (mr_2 _ _ _) e7 ?_
        refine w_si rfl (Nat.le_of_ble_eq_true rfl) rfl ?_
        refine w_cl rfl ?_
        refine w_sl rfl (Nat.le_of_ble_eq_true rfl) rfl ?_
        refine w_cl rfl ?_
        refine w_sl rfl (Nat.le_of_ble_eq_true rfl) rfl ?_
        refine w_ci rfl ?_
        refine w_si rfl (Nat.le_of_ble_eq_true rfl) rfl ?_
        exact Wp_fgt (fg_n (fg_s (fg_s (fg_s (fg_s (fg_s (fg_n (fg_s (fg_n (fg_s fg_e)))))))))) (K_X5_odds_52 _ _ _ _ _ _ _ _ _ _ _ h)
      · replace h := ifp h (Classical.not_not.mp c6)
        refine w_cl rfl ?_
        exact a_rl rfl h
-- X5_hope
set_option maxRecDepth 100000 in
theorem T_X5_hope  {x1 : Int32} {x2 : Int32} {s : SS} {t : TT} {q : Int64 × SS × TT} (h : f_X5_hope x1 x2 s t = some q) : Wm 79 [.ref 0, .int x1, .int x2] (mk s t) (Ql q) := by
  refine Wm.of pT_79 (Nat.le_of_ble_eq_true rfl) (L0 := [some (.ref 0), some (.int x1), some (.int x2)]) rfl ?_
  unfold f_X5_hope at h
  refine w_li rfl rfl ?_
  refine w_ci rfl ?_
  refine w_ci rfl ?_
  obtain ⟨q1, e1, h⟩ := bnd h
  refine a_st3i rfl (Nat.le_of_ble_eq_true rfl) (T_X5_isWithin e1) ?_
  refine w_if_eq rfl (fun c2 => ?_) (fun c2 => ?_)
  · replace h := ifp h c2
    refine w_cl rfl ?_
    exact a_rl rfl h
  · replace h := ifn h c2
    refine w_li rfl rfl ?_
    refine w_ci rfl ?_
    refine w_ci rfl ?_
    obtain ⟨q3, e3, h⟩ := bnd h
    refine a_st3i rfl (Nat.le_of_ble_eq_true rfl) (T_X5_isWithin e3) ?_
    refine w_if_ne rfl (fun c4 => ?_) (fun c4 => ?_)
    · replace h := ifn h c4
      refine w_li rfl rfl ?_
      refine w_i2l rfl ?_
      refine w_la rfl rfl ?_
      refine w_gf rfl (mg_0 _ _) rfl ?_
      refine w_gf rfl (mg_1 _ _) rfl ?_
      refine w_ci rfl ?_
      obtain ⟨j5, e5, h⟩ := bnd h
      refine a_ia rfl (mr_2 _ _ _) e5 ?_
      refine w_i2l rfl ?_
      refine w_lmul rfl ?_
      refine w_cl rfl ?_
      refine w_li rfl rfl ?_
      obtain ⟨q6, e6, h⟩ := bnd h
      refine a_st3l rfl (Nat.le_of_ble_eq_true rfl) (T_X5_partOf e6) ?_
      exact a_rl rfl h
    · replace h := ifp h (Classical.not_not.mp c4)
      refine w_cl rfl ?_
      exact a_rl rfl h
-- X5_prove
set_option maxRecDepth 100000 in
theorem B_X5_prove_31  {k31 : Int32 × Int32 × Int32 × SS × TT → Option (Int32 × SS × TT)} (hk31 : ∀ (x1 : Int32) (x2 : Int32) (x4 : Int32) (s : SS) (t : TT) (q : Int32 × SS × TT), k31 (x1, x2, x4, s, t) = some q → Wp pl_Kc 80 31 [some (.ref 0), some (.int x1), some (.int x2), some (.ref 19), some (.int x4), none] [] (mk s t) (Qi q)) : ∀ (x1 : Int32) (x2 : Int32) (x4 : Int32) (s : SS) (t : TT) (q : Int32 × SS × TT), b_X5_prove_31 k31 x1 x2 x4 s t = some q → Wp pl_Kc 80 31 [some (.ref 0), some (.int x1), some (.int x2), some (.ref 19), some (.int x4), none] [] (mk s t) (Qi q) := by
  intro x1 x2 x4 s t q h
  unfold b_X5_prove_31 at h
  refine w_li rfl rfl ?_
  refine w_li rfl rfl ?_
  refine w_ic_ge rfl (fun c1 => ?_) (fun c1 => ?_)
  · replace h := ifp h c1
    refine w_la rfl rfl ?_
    refine w_li rfl rfl ?_
    refine a_pf rfl rfl (mg_0 _ _) (Nat.le_of_ble_eq_true rfl) (ms_0_9 _ _) (fun s2 e2 => ?_)
    replace h := wr_of h s2 e2
    refine w_li rfl rfl ?_
    exact a_ri rfl h
  · replace h := ifn h c1
    refine w_la rfl rfl ?_
    refine w_ci rfl ?_
    obtain ⟨q3, e3, h⟩ := bnd h
    refine a_vi1i rfl (mg_19 _ _) (Nat.le_of_ble_eq_true rfl) (T_X1_passWeek (Or.inr (Or.inr rfl)) e3) ?_
    refine w_si rfl (Nat.le_of_ble_eq_true rfl) rfl ?_
    refine w_la rfl rfl ?_
    refine w_gf rfl (mg_0 _ _) rfl ?_
    refine w_li rfl rfl ?_
    refine w_ci rfl ?_
    refine w_imul rfl ?_
    refine w_la rfl rfl ?_
    refine w_gf rfl (mg_19 _ _) rfl ?_
    refine w_li rfl rfl ?_
    obtain ⟨j4, e4, h⟩ := bnd h
    refine a_ia rfl (mr_22 _ _ _) e4 ?_
    obtain ⟨j5, e5, h⟩ := bnd h
    refine a_is rfl (mg_49 _ _) (ms_49 _ _) e5 (fun s5 w5 => ?_)
    replace h := wr_of h s5 w5
    refine w_la rfl rfl ?_
    refine w_gf rfl (mg_0 _ _) rfl ?_
    refine w_li rfl rfl ?_
    refine w_ci rfl ?_
    refine w_imul rfl ?_
    refine w_ci rfl ?_
    refine w_iadd rfl ?_
    refine w_la rfl rfl ?_
    refine w_gf rfl (mg_19 _ _) rfl ?_
    refine w_li rfl rfl ?_
    obtain ⟨j6, e6, h⟩ := bnd h
    refine a_ia rfl (mr_24 _ _ _) e6 ?_
    obtain ⟨j7, e7, h⟩ := bnd h
    refine a_is rfl (mg_49 _ _) (ms_49 _ _) e7 (fun s7 w7 => ?_)
    replace h := wr_of h s7 w7
    refine w_la rfl rfl ?_
    refine w_gf rfl (mg_0 _ _) rfl ?_
    refine w_li rfl rfl ?_
    refine w_ci rfl ?_
    refine w_imul rfl ?_
    refine w_ci rfl ?_
    refine w_iadd rfl ?_
    refine w_li rfl rfl ?_
    obtain ⟨j8, e8, h⟩ := bnd h
    refine a_is rfl (mg_49 _ _) (ms_49 _ _) e8 (fun s8 w8 => ?_)
    replace h := wr_of h s8 w8
    refine w_inc rfl rfl rfl ?_
    refine w_go rfl ?_
    exact Wp_fgt (fg_s (fg_s (fg_s (fg_s (fg_s (fg_n fg_e)))))) (hk31 _ _ _ _ _ _ h)
theorem K_X5_prove_31  : ∀ (n : Nat) (x1 : Int32) (x2 : Int32) (x4 : Int32) (s : SS) (t : TT) (q : Int32 × SS × TT), l_X5_prove_31 n (x1, x2, x4, s, t) = some q → Wp pl_Kc 80 31 [some (.ref 0), some (.int x1), some (.int x2), some (.ref 19), some (.int x4), none] [] (mk s t) (Qi q)
  | 0, x1, x2, x4, s, t, q, h => by cases (show (none : Option (Int32 × SS × TT)) = some q from h)
  | n + 1, x1, x2, x4, s, t, q, h => B_X5_prove_31 (K_X5_prove_31 n) x1 x2 x4 s t q h
set_option maxRecDepth 100000 in
theorem T_X5_prove  {x1 : Int32} {x2 : Int32} {s : SS} {t : TT} {q : Int32 × SS × TT} (h : f_X5_prove x1 x2 s t = some q) : Wm 80 [.ref 0, .int x1, .int x2] (mk s t) (Qi q) := by
  refine Wm.of pT_80 (Nat.le_of_ble_eq_true rfl) (L0 := [some (.ref 0), some (.int x1), some (.int x2), none, none, none]) rfl ?_
  unfold f_X5_prove at h
  refine w_la rfl rfl ?_
  refine w_gf rfl (mg_0 _ _) rfl ?_
  refine w_li rfl rfl ?_
  obtain ⟨q1, e1, h⟩ := bnd h
  refine a_vi1i rfl (mg_1 _ _) (Nat.le_of_ble_eq_true rfl) (T_X1_has (Or.inl rfl) e1) ?_
  refine w_if_eq rfl (fun c2 => ?_) (fun c2 => ?_)
  · replace h := ifp h c2
    refine w_ci rfl ?_
    exact a_ri rfl h
  · replace h := ifn h c2
    refine w_li rfl rfl ?_
    refine w_ci rfl ?_
    refine w_ci rfl ?_
    obtain ⟨q3, e3, h⟩ := bnd h
    refine a_st3i rfl (Nat.le_of_ble_eq_true rfl) (T_X5_isWithin e3) ?_
    refine w_if_ne rfl (fun c4 => ?_) (fun c4 => ?_)
    · replace h := ifn h c4
      refine w_la rfl rfl ?_
      obtain ⟨q5, e5, h⟩ := bnd h
      refine a_vi0t rfl (mg_0 _ _) (Nat.le_of_ble_eq_true rfl) (T_X5_trial e5) ?_
      refine w_sa rfl (Nat.le_of_ble_eq_true rfl) rfl ?_
      refine w_ci rfl ?_
      refine w_si rfl (Nat.le_of_ble_eq_true rfl) rfl ?_
      exact Wp_fgt (fg_s (fg_s (fg_s (fg_s (fg_s (fg_n fg_e)))))) (K_X5_prove_31 _ _ _ _ _ _ _ h)
    · replace h := ifp h (Classical.not_not.mp c4)
      refine w_ci rfl ?_
      exact a_ri rfl h
-- X5_isInRow
set_option maxRecDepth 100000 in
theorem T_X5_isInRow  {x1 : Int32} {x2 : Int32} {s : SS} {t : TT} {q : Int32 × SS × TT} (h : f_X5_isInRow x1 x2 s t = some q) : Wm 99 [.ref 0, .int x1, .int x2] (mk s t) (Qi q) := by
  refine Wm.of pT_99 (Nat.le_of_ble_eq_true rfl) (L0 := [some (.ref 0), some (.int x1), some (.int x2)]) rfl ?_
  unfold f_X5_isInRow at h
  refine w_li rfl rfl ?_
  refine w_ci rfl ?_
  refine w_la rfl rfl ?_
  refine w_gf rfl (mg_0 _ _) rfl ?_
  refine w_ci rfl ?_
  refine w_isub rfl ?_
  obtain ⟨q1, e1, h⟩ := bnd h
  refine a_st3i rfl (Nat.le_of_ble_eq_true rfl) (T_X5_isWithin e1) ?_
  refine w_if_eq rfl (fun c2 => ?_) (fun c2 => ?_)
  · replace h := ifp h c2
    refine w_ci rfl ?_
    exact a_rz rfl (by decide) h
  · replace h := ifn h c2
    refine w_li rfl rfl ?_
    refine w_ci rfl ?_
    refine w_ci rfl ?_
    obtain ⟨q3, e3, h⟩ := bnd h
    refine a_st3i rfl (Nat.le_of_ble_eq_true rfl) (T_X5_isWithin e3) ?_
    refine w_if_eq rfl (fun c4 => ?_) (fun c4 => ?_)
    · replace h := ifp h c4
      refine w_ci rfl ?_
      exact a_rz rfl (by decide) h
    · replace h := ifn h c4
      refine w_ci rfl ?_
      refine w_go rfl ?_
      exact a_rz rfl (by decide) h
-- X5_row
set_option maxRecDepth 100000 in
theorem T_X5_row  {x1 : Int32} {x2 : Int32} {s : SS} {t : TT} {q : Int32 × SS × TT} (h : f_X5_row x1 x2 s t = some q) : Wm 81 [.ref 0, .int x1, .int x2] (mk s t) (Qi q) := by
  refine Wm.of pT_81 (Nat.le_of_ble_eq_true rfl) (L0 := [some (.ref 0), some (.int x1), some (.int x2)]) rfl ?_
  unfold f_X5_row at h
  refine w_la rfl rfl ?_
  refine w_li rfl rfl ?_
  refine w_li rfl rfl ?_
  obtain ⟨q1, e1, h⟩ := bnd h
  refine a_vi2i rfl (mg_0 _ _) (Nat.le_of_ble_eq_true rfl) (T_X5_isInRow e1) ?_
  refine w_if_eq rfl (fun c2 => ?_) (fun c2 => ?_)
  · replace h := ifp h c2
    refine w_ci rfl ?_
    exact a_ri rfl h
  · replace h := ifn h c2
    refine w_la rfl rfl ?_
    refine w_gf rfl (mg_0 _ _) rfl ?_
    refine w_li rfl rfl ?_
    refine w_ci rfl ?_
    refine w_imul rfl ?_
    refine w_li rfl rfl ?_
    refine w_iadd rfl ?_
    obtain ⟨j3, e3, h⟩ := bnd h
    refine a_ia rfl (mr_49 _ _ _) e3 ?_
    refine w_go rfl ?_
    exact a_ri rfl h
-- X5_alterRow
set_option maxRecDepth 100000 in
theorem T_X5_alterRow  {x1 : Int32} {x2 : Int32} {x3 : Int32} {s : SS} {t : TT} {q : Int32 × SS × TT} (h : f_X5_alterRow x1 x2 x3 s t = some q) : Wm 82 [.ref 0, .int x1, .int x2, .int x3] (mk s t) (Qi q) := by
  refine Wm.of pT_82 (Nat.le_of_ble_eq_true rfl) (L0 := [some (.ref 0), some (.int x1), some (.int x2), some (.int x3), none]) rfl ?_
  unfold f_X5_alterRow at h
  refine w_la rfl rfl ?_
  refine w_li rfl rfl ?_
  refine w_li rfl rfl ?_
  obtain ⟨q1, e1, h⟩ := bnd h
  refine a_vi2i rfl (mg_0 _ _) (Nat.le_of_ble_eq_true rfl) (T_X5_isInRow e1) ?_
  refine w_if_ne rfl (fun c2 => ?_) (fun c2 => ?_)
  · replace h := ifn h c2
    refine w_la rfl rfl ?_
    refine w_gf rfl (mg_0 _ _) rfl ?_
    refine w_li rfl rfl ?_
    refine w_ci rfl ?_
    refine w_imul rfl ?_
    refine w_li rfl rfl ?_
    refine w_iadd rfl ?_
    obtain ⟨j3, e3, h⟩ := bnd h
    refine a_ia rfl (mr_49 _ _ _) e3 ?_
    refine w_si rfl (Nat.le_of_ble_eq_true rfl) rfl ?_
    refine w_la rfl rfl ?_
    refine w_gf rfl (mg_0 _ _) rfl ?_
    refine w_li rfl rfl ?_
    refine w_ci rfl ?_
    refine w_imul rfl ?_
    refine w_li rfl rfl ?_
    refine w_iadd rfl ?_
    refine w_li rfl rfl ?_
    obtain ⟨j4, e4, h⟩ := bnd h
    refine a_is rfl (mg_49 _ _) (ms_49 _ _) e4 (fun s4 w4 => ?_)
    replace h := wr_of h s4 w4
    refine w_li rfl rfl ?_
    exact a_ri rfl h
  · replace h := ifp h (Classical.not_not.mp c2)
    refine w_ci rfl ?_
    exact a_ri rfl h
-- X5_judge
set_option maxRecDepth 100000 in
theorem B_X5_judge_20  {k20 : Int32 × Int32 × SS × TT → Option (Int32 × SS × TT)} (hk20 : ∀ (x1 : Int32) (x3 : Int32) (s : SS) (t : TT) (q : Int32 × SS × TT), k20 (x1, x3, s, t) = some q → Wp pl_Kc 83 20 [some (.ref 0), some (.int x1), some (.ref 19), some (.int x3), none] [] (mk s t) (Qi q)) : ∀ (x1 : Int32) (x3 : Int32) (s : SS) (t : TT) (q : Int32 × SS × TT), b_X5_judge_20 k20 x1 x3 s t = some q → Wp pl_Kc 83 20 [some (.ref 0), some (.int x1), some (.ref 19), some (.int x3), none] [] (mk s t) (Qi q) := by
  intro x1 x3 s t q h
  unfold b_X5_judge_20 at h
  refine w_li rfl rfl ?_
  refine w_la rfl rfl ?_
  refine w_gf rfl (mg_0 _ _) rfl ?_
  refine w_ic_ge rfl (fun c1 => ?_) (fun c1 => ?_)
  · replace h := ifp h c1
    refine w_ci rfl ?_
    exact a_ri rfl h
  · replace h := ifn h c1
    refine w_la rfl rfl ?_
    refine w_ci rfl ?_
    obtain ⟨q2, e2, h⟩ := bnd h
    refine a_vi1i rfl (mg_19 _ _) (Nat.le_of_ble_eq_true rfl) (T_X1_passWeek (Or.inr (Or.inr rfl)) e2) ?_
    refine w_si rfl (Nat.le_of_ble_eq_true rfl) rfl ?_
    refine w_la rfl rfl ?_
    refine w_gf rfl (mg_0 _ _) rfl ?_
    refine w_li rfl rfl ?_
    refine w_ci rfl ?_
    refine w_imul rfl ?_
    obtain ⟨j3, e3, h⟩ := bnd h
    refine a_ia rfl (mr_49 _ _ _) e3 ?_
    refine w_la rfl rfl ?_
    refine w_gf rfl (mg_19 _ _) rfl ?_
    refine w_li rfl rfl ?_
    obtain ⟨j4, e4, h⟩ := bnd h
    refine a_ia rfl (mr_22 _ _ _) e4 ?_
    refine w_ic_ne rfl (fun c5 => ?_) (fun c5 => ?_)
    · replace h := ifn h c5
      refine w_li rfl rfl ?_
      refine w_ci rfl ?_
      refine w_iadd rfl ?_
      exact a_ri rfl h
    · replace h := ifp h (Classical.not_not.mp c5)
      refine w_la rfl rfl ?_
      refine w_gf rfl (mg_0 _ _) rfl ?_
      refine w_li rfl rfl ?_
      refine w_ci rfl ?_
      refine w_imul rfl ?_
      refine w_ci rfl ?_
      refine w_iadd rfl ?_
      obtain ⟨j6, e6, h⟩ := bnd h
      refine a_ia rfl (mr_49 _ _ _) e6 ?_
      refine w_la rfl rfl ?_
      refine w_gf rfl (mg_19 _ _) rfl ?_
      refine w_li rfl rfl ?_
      obtain ⟨j7, e7, h⟩ := bnd h
      refine a_ia rfl (mr_24 _ _ _) e7 ?_
      refine w_ic_ne rfl (fun c8 => ?_) (fun c8 => ?_)
      · replace h := ifn h c8
        refine w_li rfl rfl ?_
        refine w_ci rfl ?_
        refine w_iadd rfl ?_
        exact a_ri rfl h
      · replace h := ifp h (Classical.not_not.mp c8)
        refine w_la rfl rfl ?_
        refine w_gf rfl (mg_0 _ _) rfl ?_
        refine w_li rfl rfl ?_
        refine w_ci rfl ?_
        refine w_imul rfl ?_
        refine w_ci rfl ?_
        refine w_iadd rfl ?_
        obtain ⟨j9, e9, h⟩ := bnd h
        refine a_ia rfl (mr_49 _ _ _) e9 ?_
        refine w_li rfl rfl ?_
        refine w_ic_eq rfl (fun c10 => ?_) (fun c10 => ?_)
        · replace h := ifp h c10
          refine w_inc rfl rfl rfl ?_
          refine w_go rfl ?_
          exact Wp_fgt (fg_s (fg_s (fg_s (fg_s (fg_n fg_e))))) (hk20 _ _ _ _ _ h)
        · replace h := ifn h c10
          refine w_li rfl rfl ?_
          refine w_ci rfl ?_
          refine w_iadd rfl ?_
          exact a_ri rfl h
theorem K_X5_judge_20  : ∀ (n : Nat) (x1 : Int32) (x3 : Int32) (s : SS) (t : TT) (q : Int32 × SS × TT), l_X5_judge_20 n (x1, x3, s, t) = some q → Wp pl_Kc 83 20 [some (.ref 0), some (.int x1), some (.ref 19), some (.int x3), none] [] (mk s t) (Qi q)
  | 0, x1, x3, s, t, q, h => by cases (show (none : Option (Int32 × SS × TT)) = some q from h)
  | n + 1, x1, x3, s, t, q, h => B_X5_judge_20 (K_X5_judge_20 n) x1 x3 s t q h
set_option maxRecDepth 100000 in
theorem T_X5_judge  {x1 : Int32} {s : SS} {t : TT} {q : Int32 × SS × TT} (h : f_X5_judge x1 s t = some q) : Wm 83 [.ref 0, .int x1] (mk s t) (Qi q) := by
  refine Wm.of pT_83 (Nat.le_of_ble_eq_true rfl) (L0 := [some (.ref 0), some (.int x1), none, none, none]) rfl ?_
  unfold f_X5_judge at h
  refine w_la rfl rfl ?_
  refine w_gf rfl (mg_0 _ _) rfl ?_
  refine w_li rfl rfl ?_
  obtain ⟨q1, e1, h⟩ := bnd h
  refine a_vi1i rfl (mg_1 _ _) (Nat.le_of_ble_eq_true rfl) (T_X1_has (Or.inl rfl) e1) ?_
  refine w_if_ne rfl (fun c2 => ?_) (fun c2 => ?_)
  · replace h := ifn h c2
    refine w_la rfl rfl ?_
    obtain ⟨q3, e3, h⟩ := bnd h
    refine a_vi0t rfl (mg_0 _ _) (Nat.le_of_ble_eq_true rfl) (T_X5_trial e3) ?_
    refine w_sa rfl (Nat.le_of_ble_eq_true rfl) rfl ?_
    refine w_ci rfl ?_
    refine w_si rfl (Nat.le_of_ble_eq_true rfl) rfl ?_
    exact Wp_fgt (fg_s (fg_s (fg_s (fg_s (fg_n fg_e))))) (K_X5_judge_20 _ _ _ _ _ _ h)
  · replace h := ifp h (Classical.not_not.mp c2)
    refine w_ci rfl ?_
    exact a_ri rfl h
-- X5_minds
set_option maxRecDepth 100000 in
theorem B_X5_minds_107  {k107 : Int32 × Int32 × Int32 × Nat × Int32 × SS × TT → Option (Int32 × SS × TT)} (hk107 : ∀ (x2 : Int32) (x3 : Int32) (x4 : Int32) (x5 : Nat) (hx5 : isS x5) (x6 : Int32) (s : SS) (t : TT) (q : Int32 × SS × TT), k107 (x2, x3, x4, x5, x6, s, t) = some q → Wp pl_Kc 84 107 [some (.ref 0), none, some (.int x2), some (.int x3), some (.int x4), some (.ref x5), some (.int x6), none] [] (mk s t) (Qi q)) : ∀ (x2 : Int32) (x3 : Int32) (x4 : Int32) (x5 : Nat) (hx5 : isS x5) (x6 : Int32) (s : SS) (t : TT) (q : Int32 × SS × TT), b_X5_minds_107 k107 x2 x3 x4 x5 x6 s t = some q → Wp pl_Kc 84 107 [some (.ref 0), none, some (.int x2), some (.int x3), some (.int x4), some (.ref x5), some (.int x6), none] [] (mk s t) (Qi q) := by
  intro x2 x3 x4 x5 hx5 x6 s t q h
  unfold b_X5_minds_107 at h
  refine w_li rfl rfl ?_
  refine w_li rfl rfl ?_
  refine w_ic_ge rfl (fun c1 => ?_) (fun c1 => ?_)
  · replace h := ifp h c1
    refine w_li rfl rfl ?_
    exact a_ri rfl h
  · replace h := ifn h c1
    refine w_la rfl rfl ?_
    refine w_gf rfl (mgS hx5 _ _) rfl ?_
    refine w_li rfl rfl ?_
    refine w_li rfl rfl ?_
    refine w_iadd rfl ?_
    obtain ⟨j2, e2, h⟩ := bnd h
    refine a_ja rfl (mgS_1 hx5 _ _) e2 ?_
    refine w_l2i rfl ?_
    refine w_si rfl (Nat.le_of_ble_eq_true rfl) rfl ?_
    refine w_la rfl rfl ?_
    refine w_gf rfl (mg_0 _ _) rfl ?_
    refine w_gf rfl (mg_1 _ _) rfl ?_
    refine w_li rfl rfl ?_
    refine w_li rfl rfl ?_
    refine w_iadd rfl ?_
    refine w_ci rfl ?_
    refine w_ci rfl ?_
    refine w_li rfl rfl ?_
    refine w_mm rfl (Nat.le_of_ble_eq_true rfl) ?_
    refine w_mm rfl (Nat.le_of_ble_eq_true rfl) ?_
    obtain ⟨j3, e3, h⟩ := bnd h
    refine a_is rfl (mg_4 _ _) (ms_4 _ _) e3 (fun s3 w3 => ?_)
    replace h := wr_of h s3 w3
    refine w_inc rfl rfl rfl ?_
    refine w_go rfl ?_
    exact Wp_fgt (fg_s (fg_n (fg_s (fg_s (fg_s (fg_s (fg_s (fg_n fg_e)))))))) (hk107 _ _ _ _ hx5 _ _ _ _ h)
theorem K_X5_minds_107  : ∀ (n : Nat) (x2 : Int32) (x3 : Int32) (x4 : Int32) (x5 : Nat) (hx5 : isS x5) (x6 : Int32) (s : SS) (t : TT) (q : Int32 × SS × TT), l_X5_minds_107 n (x2, x3, x4, x5, x6, s, t) = some q → Wp pl_Kc 84 107 [some (.ref 0), none, some (.int x2), some (.int x3), some (.int x4), some (.ref x5), some (.int x6), none] [] (mk s t) (Qi q)
  | 0, x2, x3, x4, x5, hx5, x6, s, t, q, h => by cases (show (none : Option (Int32 × SS × TT)) = some q from h)
  | n + 1, x2, x3, x4, x5, hx5, x6, s, t, q, h => B_X5_minds_107 (K_X5_minds_107 n) x2 x3 x4 x5 hx5 x6 s t q h
set_option maxRecDepth 100000 in
theorem T_X5_minds  {x1 : Int32} {x2 : Int32} {x3 : Int32} {x4 : Int32} {s : SS} {t : TT} {q : Int32 × SS × TT} (h : f_X5_minds x1 x2 x3 x4 s t = some q) : Wm 84 [.ref 0, .int x1, .int x2, .int x3, .int x4] (mk s t) (Qi q) := by
  refine Wm.of pT_84 (Nat.le_of_ble_eq_true rfl) (L0 := [some (.ref 0), some (.int x1), some (.int x2), some (.int x3), some (.int x4), none, none, none]) rfl ?_
  unfold f_X5_minds at h
  refine w_li rfl rfl ?_
  obtain ⟨q1, e1, h⟩ := bnd h
  refine a_st1i rfl (Nat.le_of_ble_eq_true rfl) (T_X5_isPlace e1) ?_
  refine w_if_eq rfl (fun c2 => ?_) (fun c2 => ?_)
  · replace h := ifp h c2
    refine w_ci rfl ?_
    exact a_ri rfl h
  · replace h := ifn h c2
    refine w_la rfl rfl ?_
    refine w_gf rfl (mg_0 _ _) rfl ?_
    refine w_li rfl rfl ?_
    obtain ⟨q3, e3, h⟩ := bnd h
    refine a_vi1i rfl (mg_1 _ _) (Nat.le_of_ble_eq_true rfl) (T_X1_has (Or.inl rfl) e3) ?_
    refine w_if_eq rfl (fun c4 => ?_) (fun c4 => ?_)
    · replace h := ifp h c4
      refine w_ci rfl ?_
      exact a_ri rfl h
    · replace h := ifn h c4
      refine w_li rfl rfl ?_
      refine w_ci rfl ?_
      refine w_ci rfl ?_
      obtain ⟨q5, e5, h⟩ := bnd h
      refine a_st3i rfl (Nat.le_of_ble_eq_true rfl) (T_X5_isWithin e5) ?_
      refine w_if_eq rfl (fun c6 => ?_) (fun c6 => ?_)
      · replace h := ifp h c6
        refine w_ci rfl ?_
        exact a_ri rfl h
      · replace h := ifn h c6
        refine w_li rfl rfl ?_
        refine w_la rfl rfl ?_
        refine w_gf rfl (mg_0 _ _) rfl ?_
        refine w_gf rfl (mg_1 _ _) rfl ?_
        refine w_li rfl rfl ?_
        refine w_isub rfl ?_
        refine w_ic_le rfl (fun c7 => ?_) (fun c7 => ?_)
        · replace h := ifp h c7
          refine w_la rfl rfl ?_
          refine w_gf rfl (mg_0 _ _) rfl ?_
          refine w_li rfl rfl ?_
          obtain ⟨j8, e8, h⟩ := bnd h
          refine a_aaS rfl e8 (fun r8 w8 hr8 => ?_)
          replace h := wr_of h r8 w8
          refine w_sa rfl (Nat.le_of_ble_eq_true rfl) rfl ?_
          refine w_la rfl rfl ?_
          refine w_gf rfl (mgS hr8 _ _) rfl ?_
          refine w_ci rfl ?_
          refine w_ic_ne rfl (fun c9 => ?_) (fun c9 => ?_)
          · replace h := ifn h c9
            refine w_la rfl rfl ?_
            refine w_gf rfl (mgS hr8 _ _) rfl ?_
            refine w_if_eq rfl (fun c10 => ?_) (fun c10 => ?_)
            · replace h := ifp h c10
              refine w_li rfl rfl ?_
              refine w_ci rfl ?_
              refine w_la rfl rfl ?_
              refine w_gf rfl (mgS hr8 _ _) rfl ?_
              obtain ⟨q11, e11, h⟩ := bnd h
              refine a_st3i rfl (Nat.le_of_ble_eq_true rfl) (T_X5_isWithin e11) ?_
              refine w_if_eq rfl (fun c12 => ?_) (fun c12 => ?_)
              · replace h := ifp h c12
                refine w_ci rfl ?_
                exact a_ri rfl h
              · replace h := ifn h c12
                refine w_li rfl rfl ?_
                refine w_la rfl rfl ?_
                refine w_gf rfl (mgS hr8 _ _) rfl ?_
                refine w_li rfl rfl ?_
                refine w_isub rfl ?_
                refine w_ic_le rfl (fun c13 => ?_) (fun c13 => ?_)
                · replace h := ifp h c13
                  refine w_ci rfl ?_
                  refine w_si rfl (Nat.le_of_ble_eq_true rfl) rfl ?_
                  exact Wp_fgt (fg_s (fg_n (fg_s (fg_s (fg_s (fg_s (fg_s (fg_n fg_e)))))))) (K_X5_minds_107 _ _ _ _ _ hr8 _ _ _ _ h)
                · replace h := ifn h c13
                  refine w_ci rfl ?_
                  exact a_ri rfl h
            · replace h := ifn h c10
              refine w_ci rfl ?_
              exact a_ri rfl h
          · replace h := ifp h (Classical.not_not.mp c9)
            refine w_ci rfl ?_
            exact a_ri rfl h
        · replace h := ifn h c7
          refine w_ci rfl ?_
          exact a_ri rfl h
-- X5_sheet
set_option maxRecDepth 100000 in
theorem T_X5_sheet  {x1 : Int32} {x2 : Int32} {x3 : Int32} {s : SS} {t : TT} {q : Int32 × SS × TT} (h : f_X5_sheet x1 x2 x3 s t = some q) : Wm 85 [.ref 0, .int x1, .int x2, .int x3] (mk s t) (Qi q) := by
  refine Wm.of pT_85 (Nat.le_of_ble_eq_true rfl) (L0 := [some (.ref 0), some (.int x1), some (.int x2), some (.int x3)]) rfl ?_
  unfold f_X5_sheet at h
  refine w_li rfl rfl ?_
  obtain ⟨q1, e1, h⟩ := bnd h
  refine a_st1i rfl (Nat.le_of_ble_eq_true rfl) (T_X5_isPlace e1) ?_
  refine w_if_eq rfl (fun c2 => ?_) (fun c2 => ?_)
  · replace h := ifp h c2
    refine w_ci rfl ?_
    exact a_ri rfl h
  · replace h := ifn h c2
    refine w_li rfl rfl ?_
    refine w_ci rfl ?_
    refine w_ci rfl ?_
    obtain ⟨q3, e3, h⟩ := bnd h
    refine a_st3i rfl (Nat.le_of_ble_eq_true rfl) (T_X5_isWithin e3) ?_
    refine w_if_ne rfl (fun c4 => ?_) (fun c4 => ?_)
    · replace h := ifn h c4
      refine w_li rfl rfl ?_
      refine w_ci rfl ?_
      refine w_ic_ne rfl (fun c5 => ?_) (fun c5 => ?_)
      · replace h := ifn h c5
        refine w_li rfl rfl ?_
        refine w_ci rfl ?_
        refine w_ic_le rfl (fun c6 => ?_) (fun c6 => ?_)
        · replace h := ifp h c6
          refine w_li rfl rfl ?_
          refine w_if_ge rfl (fun c7 => ?_) (fun c7 => ?_)
          · replace h := ifp h c7
            refine w_la rfl rfl ?_
            refine w_gf rfl (mg_0 _ _) rfl ?_
            refine w_li rfl rfl ?_
            obtain ⟨j8, e8, h⟩ := bnd h
            refine a_aaS rfl e8 (fun r8 w8 hr8 => ?_)
            replace h := wr_of h r8 w8
            refine w_li rfl rfl ?_
            refine w_li rfl rfl ?_
            obtain ⟨q9, e9, h⟩ := bnd h
            refine a_vi2v rfl (mgS hr8 _ _) (Nat.le_of_ble_eq_true rfl) (T_X2_begin hr8 e9) ?_
            refine w_ci rfl ?_
            exact a_ri rfl h
          · replace h := ifn h c7
            refine w_ci rfl ?_
            exact a_ri rfl h
        · replace h := ifn h c6
          refine w_ci rfl ?_
          exact a_ri rfl h
      · replace h := ifp h (Classical.not_not.mp c5)
        refine w_la rfl rfl ?_
        refine w_gf rfl (mg_0 _ _) rfl ?_
        refine w_li rfl rfl ?_
        obtain ⟨j10, e10, h⟩ := bnd h
        refine a_aaS rfl e10 (fun r10 w10 hr10 => ?_)
        replace h := wr_of h r10 w10
        refine w_ci rfl ?_
        refine a_pf rfl rfl (mgS hr10 _ _) (Nat.le_of_ble_eq_true rfl) (msSf_1 hr10 _ _) (fun s11 e11 => ?_)
        replace h := wr_of h s11 e11
        refine w_ci rfl ?_
        exact a_ri rfl h
    · replace h := ifp h (Classical.not_not.mp c4)
      refine w_ci rfl ?_
      exact a_ri rfl h
-- X5_narrowed
set_option maxRecDepth 100000 in
theorem T_X5_narrowed  {x0 : Int32} {x1 : Int32} {s : SS} {t : TT} {q : Int64 × SS × TT} (h : f_X5_narrowed x0 x1 s t = some q) : Wm 107 [.int x0, .int x1] (mk s t) (Ql q) := by
  refine Wm.of pT_107 (Nat.le_of_ble_eq_true rfl) (L0 := [some (.int x0), some (.int x1)]) rfl ?_
  unfold f_X5_narrowed at h
  refine w_li rfl rfl ?_
  refine w_if_ne rfl (fun c1 => ?_) (fun c1 => ?_)
  · replace h := ifn h c1
    refine w_li rfl rfl ?_
    refine w_ci rfl ?_
    refine w_ic_ne rfl (fun c2 => ?_) (fun c2 => ?_)
    · replace h := ifn h c2
      refine w_li rfl rfl ?_
      refine w_i2l rfl ?_
      exact a_rl rfl h
    · replace h := ifp h (Classical.not_not.mp c2)
      refine w_li rfl rfl ?_
      refine w_i2s rfl ?_
      refine w_i2l rfl ?_
      refine w_go rfl ?_
      exact a_rl rfl h
  · replace h := ifp h (Classical.not_not.mp c1)
    refine w_li rfl rfl ?_
    refine w_i2b rfl ?_
    refine w_i2l rfl ?_
    exact a_rl rfl h
-- X5_put
set_option maxRecDepth 100000 in
theorem T_X5_put  {x1 : Int32} {x2 : Int32} {x3 : Int32} {s : SS} {t : TT} {q : Int32 × SS × TT} (h : f_X5_put x1 x2 x3 s t = some q) : Wm 86 [.ref 0, .int x1, .int x2, .int x3] (mk s t) (Qi q) := by
  refine Wm.of pT_86 (Nat.le_of_ble_eq_true rfl) (L0 := [some (.ref 0), some (.int x1), some (.int x2), some (.int x3), none]) rfl ?_
  unfold f_X5_put at h
  refine w_li rfl rfl ?_
  obtain ⟨q1, e1, h⟩ := bnd h
  refine a_st1i rfl (Nat.le_of_ble_eq_true rfl) (T_X5_isPlace e1) ?_
  refine w_if_ne rfl (fun c2 => ?_) (fun c2 => ?_)
  · replace h := ifn h c2
    refine w_la rfl rfl ?_
    refine w_gf rfl (mg_0 _ _) rfl ?_
    refine w_li rfl rfl ?_
    obtain ⟨j3, e3, h⟩ := bnd h
    refine a_aaS rfl e3 (fun r3 w3 hr3 => ?_)
    replace h := wr_of h r3 w3
    refine w_sa rfl (Nat.le_of_ble_eq_true rfl) rfl ?_
    refine w_la rfl rfl ?_
    refine w_gf rfl (mgS hr3 _ _) rfl ?_
    refine w_ci rfl ?_
    refine w_ic_ne rfl (fun c4 => ?_) (fun c4 => ?_)
    · replace h := ifn h c4
      refine w_li rfl rfl ?_
      refine w_ci rfl ?_
      refine w_la rfl rfl ?_
      refine w_gf rfl (mgS hr3 _ _) rfl ?_
      refine w_ci rfl ?_
      refine w_isub rfl ?_
      obtain ⟨q5, e5, h⟩ := bnd h
      refine a_st3i rfl (Nat.le_of_ble_eq_true rfl) (T_X5_isWithin e5) ?_
      refine w_if_ne rfl (fun c6 => ?_) (fun c6 => ?_)
      · replace h := ifn h c6
        refine w_la rfl rfl ?_
        refine w_gf rfl (mgS hr3 _ _) rfl ?_
        refine w_li rfl rfl ?_
        refine w_la rfl rfl ?_
        refine w_gf rfl (mgS hr3 _ _) rfl ?_
        refine w_li rfl rfl ?_
        obtain ⟨q7, e7, h⟩ := bnd h
        refine a_st2l rfl (Nat.le_of_ble_eq_true rfl) (T_X5_narrowed e7) ?_
        obtain ⟨j8, e8, h⟩ := bnd h
        refine a_js rfl (mgS_1 hr3 _ _) (msS_1 hr3 _ _) e8 (fun t8 w8 => ?_)
        replace h := wr_of h t8 w8
        refine w_ci rfl ?_
        exact a_ri rfl h
      · replace h := ifp h (Classical.not_not.mp c6)
        refine w_ci rfl ?_
        exact a_ri rfl h
    · replace h := ifp h (Classical.not_not.mp c4)
      refine w_ci rfl ?_
      exact a_ri rfl h
  · replace h := ifp h (Classical.not_not.mp c2)
    refine w_ci rfl ?_
    exact a_ri rfl h
-- X5_item
set_option maxRecDepth 100000 in
theorem T_X5_item  {x1 : Int32} {x2 : Int32} {x3 : Int32} {s : SS} {t : TT} {q : Int32 × SS × TT} (h : f_X5_item x1 x2 x3 s t = some q) : Wm 87 [.ref 0, .int x1, .int x2, .int x3] (mk s t) (Qi q) := by
  refine Wm.of pT_87 (Nat.le_of_ble_eq_true rfl) (L0 := [some (.ref 0), some (.int x1), some (.int x2), some (.int x3), none]) rfl ?_
  unfold f_X5_item at h
  refine w_li rfl rfl ?_
  obtain ⟨q1, e1, h⟩ := bnd h
  refine a_st1i rfl (Nat.le_of_ble_eq_true rfl) (T_X5_isPlace e1) ?_
  refine w_if_eq rfl (fun c2 => ?_) (fun c2 => ?_)
  · replace h := ifp h c2
    refine w_ci rfl ?_
    exact a_ri rfl h
  · replace h := ifn h c2
    refine w_li rfl rfl ?_
    refine w_ci rfl ?_
    refine w_ci rfl ?_
    obtain ⟨q3, e3, h⟩ := bnd h
    refine a_st3i rfl (Nat.le_of_ble_eq_true rfl) (T_X5_isWithin e3) ?_
    refine w_if_ne rfl (fun c4 => ?_) (fun c4 => ?_)
    · replace h := ifn h c4
      refine w_la rfl rfl ?_
      refine w_gf rfl (mg_0 _ _) rfl ?_
      refine w_li rfl rfl ?_
      obtain ⟨j5, e5, h⟩ := bnd h
      refine a_aaS rfl e5 (fun r5 w5 hr5 => ?_)
      replace h := wr_of h r5 w5
      refine w_sa rfl (Nat.le_of_ble_eq_true rfl) rfl ?_
      refine w_la rfl rfl ?_
      refine w_gf rfl (mgS hr5 _ _) rfl ?_
      refine w_ci rfl ?_
      refine w_ic_ne rfl (fun c6 => ?_) (fun c6 => ?_)
      · replace h := ifn h c6
        refine w_la rfl rfl ?_
        refine w_gf rfl (mgS hr5 _ _) rfl ?_
        refine w_li rfl rfl ?_
        refine w_ic_eq rfl (fun c7 => ?_) (fun c7 => ?_)
        · replace h := ifp h c7
          refine w_li rfl rfl ?_
          refine w_ci rfl ?_
          refine w_la rfl rfl ?_
          refine w_gf rfl (mgS hr5 _ _) rfl ?_
          refine w_ci rfl ?_
          refine w_isub rfl ?_
          obtain ⟨q8, e8, h⟩ := bnd h
          refine a_st3i rfl (Nat.le_of_ble_eq_true rfl) (T_X5_isWithin e8) ?_
          refine w_if_eq rfl (fun c9 => ?_) (fun c9 => ?_)
          · replace h := ifp h c9
            refine w_ci rfl ?_
            exact a_ri rfl h
          · replace h := ifn h c9
            refine w_la rfl rfl ?_
            refine w_gf rfl (mgS hr5 _ _) rfl ?_
            refine w_li rfl rfl ?_
            obtain ⟨j10, e10, h⟩ := bnd h
            refine a_ja rfl (mgS_1 hr5 _ _) e10 ?_
            refine w_l2i rfl ?_
            refine w_go rfl ?_
            exact a_ri rfl h
        · replace h := ifn h c7
          refine w_ci rfl ?_
          exact a_ri rfl h
      · replace h := ifp h (Classical.not_not.mp c6)
        refine w_ci rfl ?_
        exact a_ri rfl h
    · replace h := ifp h (Classical.not_not.mp c4)
      refine w_ci rfl ?_
      exact a_ri rfl h
-- X5_shelf
set_option maxRecDepth 100000 in
theorem J_X5_shelf_65  : ∀ (x1 : Int32) (x2 : Int32) (s : SS) (t : TT) (q : Int32 × SS × TT), j_X5_shelf_65 x1 x2 s t = some q → Wp pl_Kc 88 65 [some (.ref 0), some (.int x1), some (.int x2), none] [] (mk s t) (Qi q) := by
  intro x1 x2 s t q h
  unfold j_X5_shelf_65 at h
  refine w_li rfl rfl ?_
  refine w_ci rfl ?_
  refine w_ic_ne rfl (fun c1 => ?_) (fun c1 => ?_)
  · replace h := ifn h c1
    refine w_ci rfl ?_
    exact a_ri rfl h
  · replace h := ifp h (Classical.not_not.mp c1)
    refine w_la rfl rfl ?_
    refine w_gf rfl (mg_0 _ _) rfl ?_
    refine w_li rfl rfl ?_
    obtain ⟨j2, e2, h⟩ := bnd h
    refine a_aaH rfl e2 (fun r2 w2 hr2 => ?_)
    replace h := wr_of h r2 w2
    refine w_ci rfl ?_
    refine a_pf rfl rfl (mgH hr2 _ _) (Nat.le_of_ble_eq_true rfl) (msHf_0 hr2 _ _) (fun s3 e3 => ?_)
    replace h := wr_of h s3 e3
    refine w_ci rfl ?_
    exact a_ri rfl h
set_option maxRecDepth 100000 in
theorem J_X5_shelf_36  : ∀ (x1 : Int32) (x2 : Int32) (x3 : Int32) (s : SS) (t : TT) (q : Int32 × SS × TT), j_X5_shelf_36 x1 x2 x3 s t = some q → Wp pl_Kc 88 36 [some (.ref 0), some (.int x1), some (.int x2), some (.int x3)] [] (mk s t) (Qi q) := by
  intro x1 x2 x3 s t q h
  unfold j_X5_shelf_36 at h
  refine w_li rfl rfl ?_
  refine w_ci rfl ?_
  refine w_ic_ne rfl (fun c1 => ?_) (fun c1 => ?_)
  · replace h := ifn h c1
    exact Wp_fgt (fg_s (fg_s (fg_s (fg_n fg_e)))) (J_X5_shelf_65 _ _ _ _ _ h)
  · replace h := ifp h (Classical.not_not.mp c1)
    refine w_li rfl rfl ?_
    obtain ⟨q2, e2, h⟩ := bnd h
    refine a_st1i rfl (Nat.le_of_ble_eq_true rfl) (T_X5_isPlace e2) ?_
    refine w_if_eq rfl (fun c3 => ?_) (fun c3 => ?_)
    · replace h := ifp h c3
      exact Wp_fgt (fg_s (fg_s (fg_s (fg_n fg_e)))) (J_X5_shelf_65 _ _ _ _ _ h)
    · replace h := ifn h c3
      refine w_la rfl rfl ?_
      refine w_gf rfl (mg_0 _ _) rfl ?_
      refine w_li rfl rfl ?_
      obtain ⟨j4, e4, h⟩ := bnd h
      refine a_aaH rfl e4 (fun r4 w4 hr4 => ?_)
      replace h := wr_of h r4 w4
      refine w_la rfl rfl ?_
      refine w_gf rfl (mg_0 _ _) rfl ?_
      refine w_li rfl rfl ?_
      obtain ⟨j5, e5, h⟩ := bnd h
      refine a_aaS rfl e5 (fun r5 w5 hr5 => ?_)
      replace h := wr_of h r5 w5
      obtain ⟨q6, e6, h⟩ := bnd h
      refine a_vi1v rfl (mgH hr4 _ _) (Nat.le_of_ble_eq_true rfl) (T_X3_holdRow hr4 hr5 e6) ?_
      refine w_ci rfl ?_
      exact a_ri rfl h
set_option maxRecDepth 100000 in
theorem T_X5_shelf  {x1 : Int32} {x2 : Int32} {x3 : Int32} {s : SS} {t : TT} {q : Int32 × SS × TT} (h : f_X5_shelf x1 x2 x3 s t = some q) : Wm 88 [.ref 0, .int x1, .int x2, .int x3] (mk s t) (Qi q) := by
  refine Wm.of pT_88 (Nat.le_of_ble_eq_true rfl) (L0 := [some (.ref 0), some (.int x1), some (.int x2), some (.int x3)]) rfl ?_
  unfold f_X5_shelf at h
  refine w_li rfl rfl ?_
  obtain ⟨q1, e1, h⟩ := bnd h
  refine a_st1i rfl (Nat.le_of_ble_eq_true rfl) (T_X5_isPlace e1) ?_
  refine w_if_ne rfl (fun c2 => ?_) (fun c2 => ?_)
  · replace h := ifn h c2
    refine w_li rfl rfl ?_
    refine w_if_ne rfl (fun c3 => ?_) (fun c3 => ?_)
    · replace h := ifn h c3
      exact Wp_fgt (fg_s (fg_s (fg_s (fg_s fg_e)))) (J_X5_shelf_36 _ _ _ _ _ _ h)
    · replace h := ifp h (Classical.not_not.mp c3)
      refine w_la rfl rfl ?_
      refine w_gf rfl (mg_0 _ _) rfl ?_
      refine w_li rfl rfl ?_
      obtain ⟨q4, e4, h⟩ := bnd h
      refine a_vi1i rfl (mg_1 _ _) (Nat.le_of_ble_eq_true rfl) (T_X1_has (Or.inl rfl) e4) ?_
      refine w_if_eq rfl (fun c5 => ?_) (fun c5 => ?_)
      · replace h := ifp h c5
        exact Wp_fgt (fg_s (fg_s (fg_s (fg_s fg_e)))) (J_X5_shelf_36 _ _ _ _ _ _ h)
      · replace h := ifn h c5
        refine w_la rfl rfl ?_
        refine w_gf rfl (mg_0 _ _) rfl ?_
        refine w_li rfl rfl ?_
        obtain ⟨j6, e6, h⟩ := bnd h
        refine a_aaH rfl e6 (fun r6 w6 hr6 => ?_)
        replace h := wr_of h r6 w6
        refine w_li rfl rfl ?_
        obtain ⟨q7, e7, h⟩ := bnd h
        refine a_vi1v rfl (mgH hr6 _ _) (Nat.le_of_ble_eq_true rfl) (T_X3_holdPerson hr6 e7) ?_
        refine w_ci rfl ?_
        exact a_ri rfl h
  · replace h := ifp h (Classical.not_not.mp c2)
    refine w_ci rfl ?_
    exact a_ri rfl h
-- X5_taken
set_option maxRecDepth 100000 in
theorem J_X5_taken_125  : ∀ (x4 : Nat) (hx4 : isH x4) (y0 : Int32) (s : SS) (t : TT) (q : Int32 × SS × TT), j_X5_taken_125 x4 y0 s t = some q → Wp pl_Kc 89 125 [none, none, none, none, some (.ref x4), none] [.int y0] (mk s t) (Qi q) := by
  intro x4 hx4 y0 s t q h
  unfold j_X5_taken_125 at h
  refine w_si rfl (Nat.le_of_ble_eq_true rfl) rfl ?_
  refine w_li rfl rfl ?_
  refine w_if_eq rfl (fun c1 => ?_) (fun c1 => ?_)
  · replace h := ifp h c1
    refine w_ci rfl ?_
    exact a_ri rfl h
  · replace h := ifn h c1
    refine w_la rfl rfl ?_
    refine w_gf rfl (mgH hx4 _ _) rfl ?_
    refine w_go rfl ?_
    exact a_ri rfl h
set_option maxRecDepth 100000 in
theorem J_X5_taken_124  : ∀ (x4 : Nat) (hx4 : isH x4) (s : SS) (t : TT) (q : Int32 × SS × TT), j_X5_taken_124 x4 s t = some q → Wp pl_Kc 89 124 [none, none, none, none, some (.ref x4), none] [] (mk s t) (Qi q) := by
  intro x4 hx4 s t q h
  unfold j_X5_taken_124 at h
  refine w_ci rfl ?_
  exact Wp_fgt (fg_n (fg_n (fg_n (fg_n (fg_s (fg_n fg_e)))))) (J_X5_taken_125 _ hx4 _ _ _ _ h)
set_option maxRecDepth 100000 in
theorem J_X5_taken_29  : ∀ (x1 : Int32) (x2 : Int32) (x3 : Int32) (s : SS) (t : TT) (q : Int32 × SS × TT), j_X5_taken_29 x1 x2 x3 s t = some q → Wp pl_Kc 89 29 [some (.ref 0), some (.int x1), some (.int x2), some (.int x3), none, none] [] (mk s t) (Qi q) := by
  intro x1 x2 x3 s t q h
  unfold j_X5_taken_29 at h
  refine w_la rfl rfl ?_
  refine w_gf rfl (mg_0 _ _) rfl ?_
  refine w_li rfl rfl ?_
  obtain ⟨j1, e1, h⟩ := bnd h
  refine a_aaH rfl e1 (fun r1 w1 hr1 => ?_)
  replace h := wr_of h r1 w1
  refine w_sa rfl (Nat.le_of_ble_eq_true rfl) rfl ?_
  refine w_la rfl rfl ?_
  refine w_gf rfl (mgH hr1 _ _) rfl ?_
  refine w_ci rfl ?_
  refine w_ic_ne rfl (fun c2 => ?_) (fun c2 => ?_)
  · replace h := ifn h c2
    refine w_la rfl rfl ?_
    refine w_gf rfl (mgH hr1 _ _) rfl ?_
    refine w_ci rfl ?_
    refine w_ic_eq rfl (fun c3 => ?_) (fun c3 => ?_)
    · replace h := ifp h c3
      refine w_ci rfl ?_
      exact a_ri rfl h
    · replace h := ifn h c3
      refine w_la rfl rfl ?_
      refine w_gf rfl (mg_0 _ _) rfl ?_
      refine w_la rfl rfl ?_
      refine w_gf rfl (mgH hr1 _ _) rfl ?_
      obtain ⟨q4, e4, h⟩ := bnd h
      refine a_vi1i rfl (mg_1 _ _) (Nat.le_of_ble_eq_true rfl) (T_X1_has (Or.inl rfl) e4) ?_
      refine w_if_ne rfl (fun c5 => ?_) (fun c5 => ?_)
      · replace h := ifn h c5
        refine w_li rfl rfl ?_
        refine w_if_ne rfl (fun c6 => ?_) (fun c6 => ?_)
        · replace h := ifn h c6
          exact Wp_fgt (fg_n (fg_n (fg_n (fg_n (fg_s (fg_n fg_e)))))) (J_X5_taken_124 _ hr1 _ _ _ h)
        · replace h := ifp h (Classical.not_not.mp c6)
          refine w_la rfl rfl ?_
          refine w_gf rfl (mg_0 _ _) rfl ?_
          refine w_gf rfl (mg_1 _ _) rfl ?_
          refine w_la rfl rfl ?_
          refine w_gf rfl (mgH hr1 _ _) rfl ?_
          obtain ⟨j7, e7, h⟩ := bnd h
          refine a_ia rfl (mr_3 _ _ _) e7 ?_
          refine w_li rfl rfl ?_
          obtain ⟨q8, e8, h⟩ := bnd h
          refine a_st2i rfl (Nat.le_of_ble_eq_true rfl) (T_X5_isUnder e8) ?_
          refine w_if_eq rfl (fun c9 => ?_) (fun c9 => ?_)
          · replace h := ifp h c9
            exact Wp_fgt (fg_n (fg_n (fg_n (fg_n (fg_s (fg_n fg_e)))))) (J_X5_taken_124 _ hr1 _ _ _ h)
          · replace h := ifn h c9
            refine w_ci rfl ?_
            refine w_go rfl ?_
            exact Wp_fgt (fg_n (fg_n (fg_n (fg_n (fg_s (fg_n fg_e)))))) (J_X5_taken_125 _ hr1 _ _ _ _ h)
      · replace h := ifp h (Classical.not_not.mp c5)
        refine w_ci rfl ?_
        exact a_ri rfl h
  · replace h := ifp h (Classical.not_not.mp c2)
    refine w_la rfl rfl ?_
    refine w_gf rfl (mgH hr1 _ _) rfl ?_
    refine w_li rfl rfl ?_
    refine w_ci rfl ?_
    refine w_isub rfl ?_
    refine w_ic_ne rfl (fun c10 => ?_) (fun c10 => ?_)
    · replace h := ifn h c10
      refine w_ci rfl ?_
      exact a_ri rfl h
    · replace h := ifp h (Classical.not_not.mp c10)
      refine w_la rfl rfl ?_
      refine w_gf rfl (mgH hr1 _ _) rfl ?_
      refine w_go rfl ?_
      exact a_ri rfl h
set_option maxRecDepth 100000 in
theorem T_X5_taken  {x1 : Int32} {x2 : Int32} {s : SS} {t : TT} {q : Int32 × SS × TT} (h : f_X5_taken x1 x2 s t = some q) : Wm 89 [.ref 0, .int x1, .int x2] (mk s t) (Qi q) := by
  refine Wm.of pT_89 (Nat.le_of_ble_eq_true rfl) (L0 := [some (.ref 0), some (.int x1), some (.int x2), none, none, none]) rfl ?_
  unfold f_X5_taken at h
  refine w_li rfl rfl ?_
  refine w_ci rfl ?_
  refine w_ci rfl ?_
  obtain ⟨q1, e1, h⟩ := bnd h
  refine a_st3i rfl (Nat.le_of_ble_eq_true rfl) (T_X5_isWithin e1) ?_
  refine w_si rfl (Nat.le_of_ble_eq_true rfl) rfl ?_
  refine w_li rfl rfl ?_
  obtain ⟨q2, e2, h⟩ := bnd h
  refine a_st1i rfl (Nat.le_of_ble_eq_true rfl) (T_X5_isPlace e2) ?_
  refine w_if_eq rfl (fun c3 => ?_) (fun c3 => ?_)
  · replace h := ifp h c3
    refine w_ci rfl ?_
    exact a_ri rfl h
  · replace h := ifn h c3
    refine w_li rfl rfl ?_
    obtain ⟨q4, e4, h⟩ := bnd h
    refine a_st1i rfl (Nat.le_of_ble_eq_true rfl) (T_X5_isKind e4) ?_
    refine w_if_ne rfl (fun c5 => ?_) (fun c5 => ?_)
    · replace h := ifn h c5
      exact Wp_fgt (fg_s (fg_s (fg_s (fg_s (fg_n (fg_n fg_e)))))) (J_X5_taken_29 _ _ _ _ _ _ h)
    · replace h := ifp h (Classical.not_not.mp c5)
      refine w_li rfl rfl ?_
      refine w_if_ne rfl (fun c6 => ?_) (fun c6 => ?_)
      · replace h := ifn h c6
        exact Wp_fgt (fg_s (fg_s (fg_s (fg_s (fg_n (fg_n fg_e)))))) (J_X5_taken_29 _ _ _ _ _ _ h)
      · replace h := ifp h (Classical.not_not.mp c6)
        refine w_ci rfl ?_
        exact a_ri rfl h
-- X5_act
set_option maxRecDepth 100000 in
theorem T_X5_act  {x1 : Int32} {x2 : Int32} {x3 : Int32} {s : SS} {t : TT} {q : Int32 × SS × TT} (h : f_X5_act x1 x2 x3 s t = some q) : Wm 90 [.ref 0, .int x1, .int x2, .int x3] (mk s t) (Qi q) := by
  refine Wm.of pT_90 (Nat.le_of_ble_eq_true rfl) (L0 := [some (.ref 0), some (.int x1), some (.int x2), some (.int x3), none, none, none]) rfl ?_
  unfold f_X5_act at h
  refine w_la rfl rfl ?_
  refine w_gf rfl (mg_0 _ _) rfl ?_
  obtain ⟨q1, e1, h⟩ := bnd h
  refine a_vi0v rfl (mg_33 _ _) (Nat.le_of_ble_eq_true rfl) (T_X0_forget e1) ?_
  refine w_li rfl rfl ?_
  obtain ⟨q2, e2, h⟩ := bnd h
  refine a_st1i rfl (Nat.le_of_ble_eq_true rfl) (T_X5_isPlace e2) ?_
  refine w_if_eq rfl (fun c3 => ?_) (fun c3 => ?_)
  · replace h := ifp h c3
    refine w_ci rfl ?_
    exact a_ri rfl h
  · replace h := ifn h c3
    refine w_li rfl rfl ?_
    refine w_ci rfl ?_
    refine w_ci rfl ?_
    obtain ⟨q4, e4, h⟩ := bnd h
    refine a_st3i rfl (Nat.le_of_ble_eq_true rfl) (T_X5_isWithin e4) ?_
    refine w_if_ne rfl (fun c5 => ?_) (fun c5 => ?_)
    · replace h := ifn h c5
      refine w_la rfl rfl ?_
      refine w_gf rfl (mg_0 _ _) rfl ?_
      refine w_li rfl rfl ?_
      obtain ⟨j6, e6, h⟩ := bnd h
      refine a_aaH rfl e6 (fun r6 w6 hr6 => ?_)
      replace h := wr_of h r6 w6
      refine w_sa rfl (Nat.le_of_ble_eq_true rfl) rfl ?_
      refine w_la rfl rfl ?_
      refine w_gf rfl (mgH hr6 _ _) rfl ?_
      refine w_if_ne rfl (fun c7 => ?_) (fun c7 => ?_)
      · replace h := ifn h c7
        refine w_ci rfl ?_
        exact a_ri rfl h
      · replace h := ifp h (Classical.not_not.mp c7)
        refine w_la rfl rfl ?_
        refine w_gf rfl (mg_0 _ _) rfl ?_
        refine w_la rfl rfl ?_
        refine w_gf rfl (mgH hr6 _ _) rfl ?_
        obtain ⟨q8, e8, h⟩ := bnd h
        refine a_vi1i rfl (mg_1 _ _) (Nat.le_of_ble_eq_true rfl) (T_X1_has (Or.inl rfl) e8) ?_
        refine w_if_ne rfl (fun c9 => ?_) (fun c9 => ?_)
        · replace h := ifn h c9
          refine w_la rfl rfl ?_
          refine w_gf rfl (mgH hr6 _ _) rfl ?_
          refine w_si rfl (Nat.le_of_ble_eq_true rfl) rfl ?_
          refine w_la rfl rfl ?_
          refine w_gf rfl (mg_0 _ _) rfl ?_
          refine w_la rfl rfl ?_
          refine w_gf rfl (mg_0 _ _) rfl ?_
          refine w_gf rfl (mg_1 _ _) rfl ?_
          refine w_li rfl rfl ?_
          obtain ⟨j10, e10, h⟩ := bnd h
          refine a_ia rfl (mr_3 _ _ _) e10 ?_
          refine w_li rfl rfl ?_
          refine w_la rfl rfl ?_
          refine w_gf rfl (mg_0 _ _) rfl ?_
          refine w_gf rfl (mg_1 _ _) rfl ?_
          refine w_li rfl rfl ?_
          obtain ⟨j11, e11, h⟩ := bnd h
          refine a_ia rfl (mr_5 _ _ _) e11 ?_
          obtain ⟨q12, e12, h⟩ := bnd h
          refine a_vi3v rfl (mg_33 _ _) (Nat.le_of_ble_eq_true rfl) (T_X0_play e12) ?_
          refine w_la rfl rfl ?_
          refine w_gf rfl (mg_0 _ _) rfl ?_
          refine w_li rfl rfl ?_
          refine w_li rfl rfl ?_
          obtain ⟨q13, e13, h⟩ := bnd h
          refine a_vi2i rfl (mg_33 _ _) (Nat.le_of_ble_eq_true rfl) (T_X0_perform e13) ?_
          refine w_si rfl (Nat.le_of_ble_eq_true rfl) rfl ?_
          refine w_la rfl rfl ?_
          refine w_gf rfl (mg_0 _ _) rfl ?_
          refine w_gf rfl (mg_33 _ _) rfl ?_
          refine w_if_eq rfl (fun c14 => ?_) (fun c14 => ?_)
          · replace h := ifp h c14
            refine w_li rfl rfl ?_
            exact a_ri rfl h
          · replace h := ifn h c14
            refine w_ci rfl ?_
            refine w_go rfl ?_
            exact a_ri rfl h
        · replace h := ifp h (Classical.not_not.mp c9)
          refine w_ci rfl ?_
          exact a_ri rfl h
    · replace h := ifp h (Classical.not_not.mp c5)
      refine w_ci rfl ?_
      exact a_ri rfl h
-- X5_trace
set_option maxRecDepth 100000 in
theorem T_X5_trace  {x1 : Int32} {s : SS} {t : TT} {q : Int32 × SS × TT} (h : f_X5_trace x1 s t = some q) : Wm 91 [.ref 0, .int x1] (mk s t) (Qi q) := by
  refine Wm.of pT_91 (Nat.le_of_ble_eq_true rfl) (L0 := [some (.ref 0), some (.int x1)]) rfl ?_
  unfold f_X5_trace at h
  refine w_li rfl rfl ?_
  refine w_ci rfl ?_
  refine w_la rfl rfl ?_
  refine w_gf rfl (mg_0 _ _) rfl ?_
  refine w_gf rfl (mg_33 _ _) rfl ?_
  refine w_ci rfl ?_
  refine w_isub rfl ?_
  obtain ⟨q1, e1, h⟩ := bnd h
  refine a_st3i rfl (Nat.le_of_ble_eq_true rfl) (T_X5_isWithin e1) ?_
  refine w_if_eq rfl (fun c2 => ?_) (fun c2 => ?_)
  · replace h := ifp h c2
    refine w_ci rfl ?_
    exact a_ri rfl h
  · replace h := ifn h c2
    refine w_la rfl rfl ?_
    refine w_gf rfl (mg_0 _ _) rfl ?_
    refine w_gf rfl (mg_33 _ _) rfl ?_
    refine w_li rfl rfl ?_
    obtain ⟨j3, e3, h⟩ := bnd h
    refine a_ia rfl (mr_34 _ _ _) e3 ?_
    refine w_go rfl ?_
    exact a_ri rfl h
-- X5_many
set_option maxRecDepth 100000 in
theorem T_X5_many  {x1 : Int32} {s : SS} {t : TT} {q : Int32 × SS × TT} (h : f_X5_many x1 s t = some q) : Wm 92 [.ref 0, .int x1] (mk s t) (Qi q) := by
  refine Wm.of pT_92 (Nat.le_of_ble_eq_true rfl) (L0 := [some (.ref 0), some (.int x1)]) rfl ?_
  unfold f_X5_many at h
  refine w_li rfl rfl ?_
  by_cases c1 : x1 = 0
  · replace h := ifp h c1
    refine w_swI rfl (tg := 44) (by rw [c1]; decide +kernel) ?_
    refine w_la rfl rfl ?_
    refine w_gf rfl (mg_0 _ _) rfl ?_
    refine w_gf rfl (mg_1 _ _) rfl ?_
    exact a_ri rfl h
  replace h := ifn h c1
  by_cases c2 : x1 = 1
  · replace h := ifp h c2
    refine w_swI rfl (tg := 52) (by rw [c2]; decide +kernel) ?_
    refine w_la rfl rfl ?_
    refine w_gf rfl (mg_0 _ _) rfl ?_
    refine w_la rfl rfl ?_
    refine w_gf rfl (mg_0 _ _) rfl ?_
    refine w_gf rfl (mg_1 _ _) rfl ?_
    obtain ⟨q3, e3, h⟩ := bnd h
    refine a_vi1i rfl (mg_1 _ _) (Nat.le_of_ble_eq_true rfl) (T_X1_countOf (Or.inl rfl) (fun _ _ => rfl) e3) ?_
    exact a_ri rfl h
  replace h := ifn h c2
  by_cases c4 : x1 = 2
  · replace h := ifp h c4
    refine w_swI rfl (tg := 67) (by rw [c4]; decide +kernel) ?_
    refine w_la rfl rfl ?_
    refine w_gf rfl (mg_0 _ _) rfl ?_
    refine w_la rfl rfl ?_
    refine w_gf rfl (mg_0 _ _) rfl ?_
    refine w_gf rfl (mg_1 _ _) rfl ?_
    obtain ⟨q5, e5, h⟩ := bnd h
    refine a_vi1i rfl (mg_1 _ _) (Nat.le_of_ble_eq_true rfl) (T_X1_countOf (Or.inl rfl) (fun _ _ => rfl) e5) ?_
    exact a_ri rfl h
  replace h := ifn h c4
  by_cases c6 : x1 = 3
  · replace h := ifp h c6
    refine w_swI rfl (tg := 82) (by rw [c6]; decide +kernel) ?_
    refine w_la rfl rfl ?_
    refine w_gf rfl (mg_0 _ _) rfl ?_
    obtain ⟨q7, e7, h⟩ := bnd h
    refine a_vi0i rfl (mg_1 _ _) (Nat.le_of_ble_eq_true rfl) (T_X1_readySet (Or.inl rfl) e7) ?_
    obtain ⟨q8, e8, h⟩ := bnd h
    refine a_st1i rfl (Nat.le_of_ble_eq_true rfl) (T_bitCount e8) ?_
    exact a_ri rfl h
  replace h := ifn h c6
  by_cases c9 : x1 = 4
  · replace h := ifp h c9
    refine w_swI rfl (tg := 93) (by rw [c9]; decide +kernel) ?_
    refine w_la rfl rfl ?_
    refine w_gf rfl (mg_0 _ _) rfl ?_
    exact a_ri rfl h
  replace h := ifn h c9
  by_cases c10 : x1 = 5
  · replace h := ifp h c10
    refine w_swI rfl (tg := 98) (by rw [c10]; decide +kernel) ?_
    refine w_la rfl rfl ?_
    refine w_gf rfl (mg_0 _ _) rfl ?_
    refine w_gf rfl (mg_28 _ _) rfl ?_
    exact a_ri rfl h
  replace h := ifn h c10
  by_cases c11 : x1 = 6
  · replace h := ifp h c11
    refine w_swI rfl (tg := 106) (by rw [c11]; decide +kernel) ?_
    refine w_la rfl rfl ?_
    refine w_gf rfl (mg_0 _ _) rfl ?_
    refine w_gf rfl (mg_33 _ _) rfl ?_
    exact a_ri rfl h
  replace h := ifn h c11
  refine w_swI rfl (tg := 114) (sw_df (zs := [0, 1, 2, 3, 4, 5, 6]) (swz_c (i32ne c1 rfl) (swz_c (i32ne c2 rfl) (swz_c (i32ne c4 rfl) (swz_c (i32ne c6 rfl) (swz_c (i32ne c9 rfl) (swz_c (i32ne c10 rfl) (swz_c (i32ne c11 rfl) swz_n))))))) (by decide +kernel)) ?_
  refine w_ci rfl ?_
  exact a_ri rfl h
-- X5_keep
set_option maxRecDepth 100000 in
theorem T_X5_keep  {s : SS} {t : TT} {q : Int32 × SS × TT} (h : f_X5_keep s t = some q) : Wm 93 [.ref 0] (mk s t) (Qi q) := by
  refine Wm.of pT_93 (Nat.le_of_ble_eq_true rfl) (L0 := [some (.ref 0)]) rfl ?_
  unfold f_X5_keep at h
  refine w_la rfl rfl ?_
  refine w_gf rfl (mg_0 _ _) rfl ?_
  refine w_la rfl rfl ?_
  refine w_gf rfl (mg_0 _ _) rfl ?_
  obtain ⟨q1, e1, h⟩ := bnd h
  refine a_vi1v rfl (mg_10 _ _) (Nat.le_of_ble_eq_true rfl) (T_X1_become (Or.inr (Or.inl rfl)) (Or.inl rfl) e1) ?_
  refine w_la rfl rfl ?_
  refine w_ci rfl ?_
  refine a_pf rfl rfl (mg_0 _ _) (Nat.le_of_ble_eq_true rfl) (ms_0_10 _ _) (fun s2 e2 => ?_)
  replace h := wr_of h s2 e2
  refine w_ci rfl ?_
  exact a_ri rfl h
-- X5_again
set_option maxRecDepth 100000 in
theorem T_X5_again  {s : SS} {t : TT} {q : Int32 × SS × TT} (h : f_X5_again s t = some q) : Wm 94 [.ref 0] (mk s t) (Qi q) := by
  refine Wm.of pT_94 (Nat.le_of_ble_eq_true rfl) (L0 := [some (.ref 0)]) rfl ?_
  unfold f_X5_again at h
  refine w_la rfl rfl ?_
  refine w_gf rfl (mg_0 _ _) rfl ?_
  refine w_if_ne rfl (fun c1 => ?_) (fun c1 => ?_)
  · replace h := ifn h c1
    refine w_la rfl rfl ?_
    refine w_gf rfl (mg_0 _ _) rfl ?_
    refine w_la rfl rfl ?_
    refine w_gf rfl (mg_0 _ _) rfl ?_
    obtain ⟨q2, e2, h⟩ := bnd h
    refine a_vi1v rfl (mg_1 _ _) (Nat.le_of_ble_eq_true rfl) (T_X1_become (Or.inl rfl) (Or.inr (Or.inl rfl)) e2) ?_
    refine w_la rfl rfl ?_
    refine w_gf rfl (mg_0 _ _) rfl ?_
    refine w_gf rfl (mg_1 _ _) rfl ?_
    exact a_ri rfl h
  · replace h := ifp h (Classical.not_not.mp c1)
    refine w_ci rfl ?_
    exact a_ri rfl h
-- X6_begins
set_option maxRecDepth 100000 in
theorem B_X6_begins_2 {o0 : Nat} (ho0 : isR56 o0) {k2 : Int32 × SS × TT → Option (SS × TT)} (hk2 : ∀ (x1 : Int32) (s : SS) (t : TT) (q : SS × TT), k2 (x1, s, t) = some q → Wp pl_Kc 109 2 [some (.ref o0), some (.int x1)] [] (mk s t) (Qv q)) : ∀ (x1 : Int32) (s : SS) (t : TT) (q : SS × TT), b_X6_begins_2 o0 k2 x1 s t = some q → Wp pl_Kc 109 2 [some (.ref o0), some (.int x1)] [] (mk s t) (Qv q) := by
  intro x1 s t q h
  unfold b_X6_begins_2 at h
  refine w_li rfl rfl ?_
  refine w_ci rfl ?_
  refine w_ic_ge rfl (fun c1 => ?_) (fun c1 => ?_)
  · replace h := ifp h c1
    refine w_la rfl rfl ?_
    refine w_ci rfl ?_
    refine w_ci rfl ?_
    obtain ⟨j2, e2, h⟩ := bnd h
    refine a_is rfl (mgR56 ho0 _ _) (msR56 ho0 _ _) e2 (fun s2 w2 => ?_)
    replace h := wr_of h s2 w2
    refine w_la rfl rfl ?_
    refine w_ci rfl ?_
    refine w_ci rfl ?_
    obtain ⟨j3, e3, h⟩ := bnd h
    refine a_is rfl (mgR56 ho0 _ _) (msR56 ho0 _ _) e3 (fun s3 w3 => ?_)
    replace h := wr_of h s3 w3
    refine w_la rfl rfl ?_
    refine w_ci rfl ?_
    refine w_ci rfl ?_
    obtain ⟨j4, e4, h⟩ := bnd h
    refine a_is rfl (mgR56 ho0 _ _) (msR56 ho0 _ _) e4 (fun s4 w4 => ?_)
    replace h := wr_of h s4 w4
    refine w_la rfl rfl ?_
    refine w_ci rfl ?_
    refine w_ci rfl ?_
    obtain ⟨j5, e5, h⟩ := bnd h
    refine a_is rfl (mgR56 ho0 _ _) (msR56 ho0 _ _) e5 (fun s5 w5 => ?_)
    replace h := wr_of h s5 w5
    exact a_rv rfl h
  · replace h := ifn h c1
    refine w_la rfl rfl ?_
    refine w_li rfl rfl ?_
    refine w_ci rfl ?_
    obtain ⟨j6, e6, h⟩ := bnd h
    refine a_is rfl (mgR56 ho0 _ _) (msR56 ho0 _ _) e6 (fun s6 w6 => ?_)
    replace h := wr_of h s6 w6
    refine w_inc rfl rfl rfl ?_
    refine w_go rfl ?_
    exact Wp_fgt (fg_s (fg_s fg_e)) (hk2 _ _ _ _ h)
theorem K_X6_begins_2 {o0 : Nat} (ho0 : isR56 o0) : ∀ (n : Nat) (x1 : Int32) (s : SS) (t : TT) (q : SS × TT), l_X6_begins_2 o0 n (x1, s, t) = some q → Wp pl_Kc 109 2 [some (.ref o0), some (.int x1)] [] (mk s t) (Qv q)
  | 0, x1, s, t, q, h => by cases (show (none : Option (SS × TT)) = some q from h)
  | n + 1, x1, s, t, q, h => B_X6_begins_2 ho0 (K_X6_begins_2 ho0 n) x1 s t q h
set_option maxRecDepth 100000 in
theorem T_X6_begins {o0 : Nat} (ho0 : isR56 o0) {s : SS} {t : TT} {q : SS × TT} (h : f_X6_begins o0 s t = some q) : Wm 109 [.ref o0] (mk s t) (Qv q) := by
  refine Wm.of pT_109 (Nat.le_of_ble_eq_true rfl) (L0 := [some (.ref o0), none]) rfl ?_
  unfold f_X6_begins at h
  refine w_ci rfl ?_
  refine w_si rfl (Nat.le_of_ble_eq_true rfl) rfl ?_
  exact Wp_fgt (fg_s (fg_s fg_e)) (K_X6_begins_2 ho0 _ _ _ _ _ h)
-- X6_in
set_option maxRecDepth 100000 in
theorem T_X6_in  {x0 : Int32} {x1 : Int32} {x2 : Int32} {s : SS} {t : TT} {q : Int32 × SS × TT} (h : f_X6_in x0 x1 x2 s t = some q) : Wm 110 [.int x0, .int x1, .int x2] (mk s t) (Qi q) := by
  refine Wm.of pT_110 (Nat.le_of_ble_eq_true rfl) (L0 := [some (.int x0), some (.int x1), some (.int x2)]) rfl ?_
  unfold f_X6_in at h
  refine w_li rfl rfl ?_
  refine w_li rfl rfl ?_
  refine w_ic_lt rfl (fun c1 => ?_) (fun c1 => ?_)
  · replace h := ifp h c1
    refine w_ci rfl ?_
    exact a_rz rfl (by decide) h
  · replace h := ifn h c1
    refine w_li rfl rfl ?_
    refine w_li rfl rfl ?_
    refine w_ic_gt rfl (fun c2 => ?_) (fun c2 => ?_)
    · replace h := ifp h c2
      refine w_ci rfl ?_
      exact a_rz rfl (by decide) h
    · replace h := ifn h c2
      refine w_ci rfl ?_
      refine w_go rfl ?_
      exact a_rz rfl (by decide) h
-- X6_held
set_option maxRecDepth 100000 in
theorem T_X6_held  {x0 : Int32} {x1 : Int32} {x2 : Int32} {s : SS} {t : TT} {q : Int32 × SS × TT} (h : f_X6_held x0 x1 x2 s t = some q) : Wm 111 [.int x0, .int x1, .int x2] (mk s t) (Qi q) := by
  refine Wm.of pT_111 (Nat.le_of_ble_eq_true rfl) (L0 := [some (.int x0), some (.int x1), some (.int x2)]) rfl ?_
  unfold f_X6_held at h
  refine w_li rfl rfl ?_
  refine w_li rfl rfl ?_
  refine w_ic_ge rfl (fun c1 => ?_) (fun c1 => ?_)
  · replace h := ifp h c1
    refine w_li rfl rfl ?_
    refine w_li rfl rfl ?_
    refine w_ic_le rfl (fun c2 => ?_) (fun c2 => ?_)
    · replace h := ifp h c2
      refine w_li rfl rfl ?_
      exact a_ri rfl h
    · replace h := ifn h c2
      refine w_li rfl rfl ?_
      refine w_go rfl ?_
      exact a_ri rfl h
  · replace h := ifn h c1
    refine w_li rfl rfl ?_
    refine w_go rfl ?_
    exact a_ri rfl h
-- X6_moveAll
set_option maxRecDepth 100000 in
theorem B_X6_moveAll_2 {o0 : Nat} (ho0 : isR56 o0) {o1 : Nat} (ho1 : isR56 o1) {k2 : Int32 × SS × TT → Option (SS × TT)} (hk2 : ∀ (x2 : Int32) (s : SS) (t : TT) (q : SS × TT), k2 (x2, s, t) = some q → Wp pl_Kc 112 2 [some (.ref o0), some (.ref o1), some (.int x2)] [] (mk s t) (Qv q)) : ∀ (x2 : Int32) (s : SS) (t : TT) (q : SS × TT), b_X6_moveAll_2 o0 o1 k2 x2 s t = some q → Wp pl_Kc 112 2 [some (.ref o0), some (.ref o1), some (.int x2)] [] (mk s t) (Qv q) := by
  intro x2 s t q h
  unfold b_X6_moveAll_2 at h
  refine w_li rfl rfl ?_
  refine w_ci rfl ?_
  refine w_ic_ge rfl (fun c1 => ?_) (fun c1 => ?_)
  · replace h := ifp h c1
    exact a_rv rfl h
  · replace h := ifn h c1
    refine w_la rfl rfl ?_
    refine w_li rfl rfl ?_
    refine w_la rfl rfl ?_
    refine w_li rfl rfl ?_
    obtain ⟨j2, e2, h⟩ := bnd h
    refine a_ia rfl (mrR56 ho0 _ _ _) e2 ?_
    obtain ⟨j3, e3, h⟩ := bnd h
    refine a_is rfl (mgR56 ho1 _ _) (msR56 ho1 _ _) e3 (fun s3 w3 => ?_)
    replace h := wr_of h s3 w3
    refine w_inc rfl rfl rfl ?_
    refine w_go rfl ?_
    exact Wp_fgt (fg_s (fg_s (fg_s fg_e))) (hk2 _ _ _ _ h)
theorem K_X6_moveAll_2 {o0 : Nat} (ho0 : isR56 o0) {o1 : Nat} (ho1 : isR56 o1) : ∀ (n : Nat) (x2 : Int32) (s : SS) (t : TT) (q : SS × TT), l_X6_moveAll_2 o0 o1 n (x2, s, t) = some q → Wp pl_Kc 112 2 [some (.ref o0), some (.ref o1), some (.int x2)] [] (mk s t) (Qv q)
  | 0, x2, s, t, q, h => by cases (show (none : Option (SS × TT)) = some q from h)
  | n + 1, x2, s, t, q, h => B_X6_moveAll_2 ho0 ho1 (K_X6_moveAll_2 ho0 ho1 n) x2 s t q h
set_option maxRecDepth 100000 in
theorem T_X6_moveAll {o0 : Nat} (ho0 : isR56 o0) {o1 : Nat} (ho1 : isR56 o1) {s : SS} {t : TT} {q : SS × TT} (h : f_X6_moveAll o0 o1 s t = some q) : Wm 112 [.ref o0, .ref o1] (mk s t) (Qv q) := by
  refine Wm.of pT_112 (Nat.le_of_ble_eq_true rfl) (L0 := [some (.ref o0), some (.ref o1), none]) rfl ?_
  unfold f_X6_moveAll at h
  refine w_ci rfl ?_
  refine w_si rfl (Nat.le_of_ble_eq_true rfl) rfl ?_
  exact Wp_fgt (fg_s (fg_s (fg_s fg_e))) (K_X6_moveAll_2 ho0 ho1 _ _ _ _ _ h)
-- X6_isOne
set_option maxRecDepth 100000 in
theorem T_X6_isOne  {x1 : Int32} {s : SS} {t : TT} {q : Int32 × SS × TT} (h : f_X6_isOne x1 s t = some q) : Wm 113 [.ref 51, .int x1] (mk s t) (Qi q) := by
  refine Wm.of pT_113 (Nat.le_of_ble_eq_true rfl) (L0 := [some (.ref 51), some (.int x1)]) rfl ?_
  unfold f_X6_isOne at h
  refine w_li rfl rfl ?_
  refine w_ci rfl ?_
  refine w_la rfl rfl ?_
  refine w_gf rfl (mg_51 _ _) rfl ?_
  refine w_ci rfl ?_
  obtain ⟨j1, e1, h⟩ := bnd h
  refine a_ia rfl (mr_52 _ _ _) e1 ?_
  refine w_ci rfl ?_
  refine w_isub rfl ?_
  obtain ⟨q2, e2, h⟩ := bnd h
  refine a_st3i rfl (Nat.le_of_ble_eq_true rfl) (T_X6_in e2) ?_
  exact a_rzc rfl h
-- X6_its
set_option maxRecDepth 100000 in
theorem T_X6_its  {x1 : Int32} {x2 : Int32} {s : SS} {t : TT} {q : Int32 × SS × TT} (h : f_X6_its x1 x2 s t = some q) : Wm 114 [.ref 51, .int x1, .int x2] (mk s t) (Qi q) := by
  refine Wm.of pT_114 (Nat.le_of_ble_eq_true rfl) (L0 := [some (.ref 51), some (.int x1), some (.int x2)]) rfl ?_
  unfold f_X6_its at h
  refine w_la rfl rfl ?_
  refine w_gf rfl (mg_51 _ _) rfl ?_
  refine w_ci rfl ?_
  refine w_ci rfl ?_
  refine w_li rfl rfl ?_
  refine w_imul rfl ?_
  refine w_iadd rfl ?_
  refine w_li rfl rfl ?_
  refine w_iadd rfl ?_
  obtain ⟨j1, e1, h⟩ := bnd h
  refine a_ia rfl (mr_52 _ _ _) e1 ?_
  exact a_ri rfl h
