-- X5_partOf
set_option maxRecDepth 100000 in
theorem J_X5_partOf_17  : ∀ (x5 : Int64) (y0 : Int64) (s : SS) (t : TT) (q : Int64 × SS × TT), j_X5_partOf_17 x5 y0 s t = some q → Wp pl_Kc 105 17 [none, none, none, none, none, some (.long x5), none, none, none] [.long y0] (mk s t) (Ql q) := by
  intro x5 y0 s t q h
  unfold j_X5_partOf_17 at h
  refine w_sl rfl (Nat.le_of_ble_eq_true rfl) rfl ?_
  refine w_ll rfl rfl ?_
  refine w_cl rfl ?_
  refine w_cmp rfl ?_
  refine w_if_le rfl (fun c1 => ?_) (fun c1 => ?_)
  · replace h := ifp h c1
    refine w_ll rfl rfl ?_
    exact a_rl rfl h
  · replace h := ifn h c1
    refine w_ll rfl rfl ?_
    refine w_ll rfl rfl ?_
    by_cases c2 : x5 = 0
    · cases (ifp h c2)
    replace h := ifn h c2
    refine w_ldiv rfl c2 ?_
    refine w_go rfl ?_
    exact a_rl rfl h
set_option maxRecDepth 100000 in
theorem T_X5_partOf  {x0 : Int64} {x2 : Int64} {x4 : Int32} {s : SS} {t : TT} {q : Int64 × SS × TT} (h : f_X5_partOf x0 x2 x4 s t = some q) : Wm 105 [.long x0, .long x2, .int x4] (mk s t) (Ql q) := by
  refine Wm.of pT_105 (Nat.le_of_ble_eq_true rfl) (L0 := [some (.long x0), none, some (.long x2), none, some (.int x4), none, none, none, none]) rfl ?_
  unfold f_X5_partOf at h
  refine w_ll rfl rfl ?_
  refine w_ll rfl rfl ?_
  obtain ⟨q1, e1, h⟩ := bnd h
  refine a_st2l rfl (Nat.le_of_ble_eq_true rfl) (T_X5_commonDivisor e1) ?_
  refine w_sl rfl (Nat.le_of_ble_eq_true rfl) rfl ?_
  refine w_li rfl rfl ?_
  refine w_if_ne rfl (fun c2 => ?_) (fun c2 => ?_)
  · replace h := ifn h c2
    refine w_ll rfl rfl ?_
    exact Wp_fgt (fg_n (fg_n (fg_n (fg_n (fg_n (fg_s (fg_n (fg_n (fg_n fg_e))))))))) (J_X5_partOf_17 _ _ _ _ _ h)
  · replace h := ifp h (Classical.not_not.mp c2)
    refine w_ll rfl rfl ?_
    refine w_go rfl ?_
    exact Wp_fgt (fg_n (fg_n (fg_n (fg_n (fg_n (fg_s (fg_n (fg_n (fg_n fg_e))))))))) (J_X5_partOf_17 _ _ _ _ _ h)
-- X5_odds
set_option maxRecDepth 100000 in
theorem J_X5_odds_78  {k52 : Int32 × Int32 × Int32 × Int32 × Int64 × Int64 × Int32 × SS × TT → Option (Int64 × SS × TT)} (hk52 : ∀ (x1 : Int32) (x2 : Int32) (x3 : Int32) (x4 : Int32) (x5 : Int64) (x7 : Int64) (x9 : Int32) (s : SS) (t : TT) (q : Int64 × SS × TT), k52 (x1, x2, x3, x4, x5, x7, x9, s, t) = some q → Wp pl_Kc 78 52 [none, some (.int x1), some (.int x2), some (.int x3), some (.int x4), some (.long x5), none, some (.long x7), none, some (.int x9)] [] (mk s t) (Ql q)) : ∀ (x1 : Int32) (x2 : Int32) (x3 : Int32) (x4 : Int32) (x7 : Int64) (x9 : Int32) (y0 : Int64) (y1 : Int64) (s : SS) (t : TT) (q : Int64 × SS × TT), j_X5_odds_78 k52 x1 x2 x3 x4 x7 x9 y0 y1 s t = some q → Wp pl_Kc 78 78 [none, some (.int x1), some (.int x2), some (.int x3), some (.int x4), none, none, some (.long x7), none, some (.int x9)] [.long y0, .long y1] (mk s t) (Ql q) := by
  intro x1 x2 x3 x4 x7 x9 y0 y1 s t q h
  unfold j_X5_odds_78 at h
  refine w_lmul rfl ?_
  refine w_sl rfl (Nat.le_of_ble_eq_true rfl) rfl ?_
  refine w_ll rfl rfl ?_
  refine w_cl rfl ?_
  refine w_lmul rfl ?_
  refine w_sl rfl (Nat.le_of_ble_eq_true rfl) rfl ?_
  refine w_inc rfl rfl rfl ?_
  refine w_go rfl ?_
  exact Wp_fgt (fg_n (fg_s (fg_s (fg_s (fg_s (fg_s (fg_n (fg_s (fg_n (fg_s fg_e)))))))))) (hk52 _ _ _ _ _ _ _ _ _ _ h)
set_option maxRecDepth 100000 in
theorem B_X5_odds_52  {k52 : Int32 × Int32 × Int32 × Int32 × Int64 × Int64 × Int32 × SS × TT → Option (Int64 × SS × TT)} (hk52 : ∀ (x1 : Int32) (x2 : Int32) (x3 : Int32) (x4 : Int32) (x5 : Int64) (x7 : Int64) (x9 : Int32) (s : SS) (t : TT) (q : Int64 × SS × TT), k52 (x1, x2, x3, x4, x5, x7, x9, s, t) = some q → Wp pl_Kc 78 52 [none, some (.int x1), some (.int x2), some (.int x3), some (.int x4), some (.long x5), none, some (.long x7), none, some (.int x9)] [] (mk s t) (Ql q)) : ∀ (x1 : Int32) (x2 : Int32) (x3 : Int32) (x4 : Int32) (x5 : Int64) (x7 : Int64) (x9 : Int32) (s : SS) (t : TT) (q : Int64 × SS × TT), b_X5_odds_52 k52 x1 x2 x3 x4 x5 x7 x9 s t = some q → Wp pl_Kc 78 52 [none, some (.int x1), some (.int x2), some (.int x3), some (.int x4), some (.long x5), none, some (.long x7), none, some (.int x9)] [] (mk s t) (Ql q) := by
  intro x1 x2 x3 x4 x5 x7 x9 s t q h
  unfold b_X5_odds_52 at h
  refine w_li rfl rfl ?_
  refine w_li rfl rfl ?_
  refine w_ic_ge rfl (fun c1 => ?_) (fun c1 => ?_)
  · replace h := ifp h c1
    refine w_ll rfl rfl ?_
    refine w_li rfl rfl ?_
    refine w_li rfl rfl ?_
    obtain ⟨q2, e2, h⟩ := bnd h
    refine a_st2l rfl (Nat.le_of_ble_eq_true rfl) (T_X5_choices e2) ?_
    refine w_lmul rfl ?_
    refine w_ll rfl rfl ?_
    refine w_li rfl rfl ?_
    obtain ⟨q3, e3, h⟩ := bnd h
    refine a_st3l rfl (Nat.le_of_ble_eq_true rfl) (T_X5_partOf e3) ?_
    exact a_rl rfl h
  · replace h := ifn h c1
    refine w_ll rfl rfl ?_
    refine w_li rfl rfl ?_
    refine w_li rfl rfl ?_
    refine w_ic_ge rfl (fun c4 => ?_) (fun c4 => ?_)
    · replace h := ifp h c4
      refine w_ci rfl ?_
      refine w_li rfl rfl ?_
      refine w_isub rfl ?_
      refine w_i2l rfl ?_
      exact Wp_fgt (fg_n (fg_s (fg_s (fg_s (fg_s (fg_n (fg_n (fg_s (fg_n (fg_s fg_e)))))))))) (J_X5_odds_78 hk52 _ _ _ _ _ _ _ _ _ _ _ h)
    · replace h := ifn h c4
      refine w_li rfl rfl ?_
      refine w_i2l rfl ?_
      refine w_go rfl ?_
      exact Wp_fgt (fg_n (fg_s (fg_s (fg_s (fg_s (fg_n (fg_n (fg_s (fg_n (fg_s fg_e)))))))))) (J_X5_odds_78 hk52 _ _ _ _ _ _ _ _ _ _ _ h)
theorem K_X5_odds_52  : ∀ (n : Nat) (x1 : Int32) (x2 : Int32) (x3 : Int32) (x4 : Int32) (x5 : Int64) (x7 : Int64) (x9 : Int32) (s : SS) (t : TT) (q : Int64 × SS × TT), l_X5_odds_52 n (x1, x2, x3, x4, x5, x7, x9, s, t) = some q → Wp pl_Kc 78 52 [none, some (.int x1), some (.int x2), some (.int x3), some (.int x4), some (.long x5), none, some (.long x7), none, some (.int x9)] [] (mk s t) (Ql q)
  | 0, x1, x2, x3, x4, x5, x7, x9, s, t, q, h => by cases (show (none : Option (Int64 × SS × TT)) = some q from h)
  | n + 1, x1, x2, x3, x4, x5, x7, x9, s, t, q, h => B_X5_odds_52 (K_X5_odds_52 n) x1 x2 x3 x4 x5 x7 x9 s t q h
set_option maxRecDepth 100000 in
theorem T_X5_odds  {x1 : Int32} {x2 : Int32} {x3 : Int32} {s : SS} {t : TT} {q : Int64 × SS × TT} (h : f_X5_odds x1 x2 x3 s t = some q) : Wm 78 [.ref 0, .int x1, .int x2, .int x3] (mk s t) (Ql q) := by
  refine Wm.of pT_78 (Nat.le_of_ble_eq_true rfl) (L0 := [some (.ref 0), some (.int x1), some (.int x2), some (.int x3), none, none, none, none, none, none]) rfl ?_
  unfold f_X5_odds at h
  refine w_li rfl rfl ?_
  refine w_ci rfl ?_
  refine w_ci rfl ?_
  obtain ⟨q1, e1, h⟩ := bnd h
  refine a_st3i rfl (Nat.le_of_ble_eq_true rfl) (T_X5_isWithin e1) ?_
  refine w_if_eq rfl (fun c2 => ?_) (fun c2 => ?_)
  · replace h := ifp h c2
    refine w_cl rfl ?_
    exact a_rl rfl h
  · replace h := ifn h c2
    refine w_li rfl rfl ?_
    refine w_ci rfl ?_
    refine w_li rfl rfl ?_
    obtain ⟨q3, e3, h⟩ := bnd h
    refine a_st3i rfl (Nat.le_of_ble_eq_true rfl) (T_X5_isWithin e3) ?_
    refine w_if_eq rfl (fun c4 => ?_) (fun c4 => ?_)
    · replace h := ifp h c4
      refine w_cl rfl ?_
      exact a_rl rfl h
    · replace h := ifn h c4
      refine w_li rfl rfl ?_
      refine w_ci rfl ?_
      refine w_ci rfl ?_
      obtain ⟨q5, e5, h⟩ := bnd h
      refine a_st3i rfl (Nat.le_of_ble_eq_true rfl) (T_X5_isWithin e5) ?_
      refine w_if_ne rfl (fun c6 => ?_) (fun c6 => ?_)
      · replace h := ifn h c6
        refine w_la rfl rfl ?_
        refine w_gf rfl (mg_0 _ _) rfl ?_
        refine w_gf rfl (mg_1 _ _) rfl ?_
        refine w_ci rfl ?_
        obtain ⟨j7, e7, h⟩ := bnd h
        refine a_ia rfl (mr_2 _ _ _) e7 ?_
        refine w_si rfl (Nat.le_of_ble_eq_true rfl) rfl ?_
        refine w_cl rfl ?_
        refine w_sl rfl (Nat.le_of_ble_eq_true rfl) rfl ?_
        refine w_cl rfl ?_
        refine w_sl rfl (Nat.le_of_ble_eq_true rfl) rfl ?_
        refine w_ci rfl ?_
        refine w_si rfl (Nat.le_of_ble_eq_true rfl) rfl ?_
        exact Wp_fgt (fg_n (fg_s (fg_s (fg_s (fg_s (fg_s (fg_n (fg_s (fg_n (fg_s fg_e)))))))))) (K_X5_odds_52 _ _ _ _ _ _ _ _ _ _ _ h)
      · replace h := ifp h (Classical.not_not.mp c6)
        refine w_cl rfl ?_
        exact a_rl rfl h
