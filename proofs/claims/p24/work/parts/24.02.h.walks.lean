-- X5_idle
set_option maxRecDepth 100000 in
theorem B_X5_idle_7  {k7 : Int32 × SS × TT → Option (Int32 × SS × TT)} (hk7 : ∀ (x2 : Int32) (s : SS) (t : TT) (q : Int32 × SS × TT), k7 (x2, s, t) = some q → Wp pl_Kc 70 7 [none, some (.ref 19), some (.int x2)] [] (mk s t) (Qi q)) : ∀ (x2 : Int32) (s : SS) (t : TT) (q : Int32 × SS × TT), b_X5_idle_7 k7 x2 s t = some q → Wp pl_Kc 70 7 [none, some (.ref 19), some (.int x2)] [] (mk s t) (Qi q) := by
  intro x2 s t q h
  unfold b_X5_idle_7 at h
  refine w_li rfl rfl ?_
  refine w_ci rfl ?_
  refine w_ic_gt rfl (fun c1 => ?_) (fun c1 => ?_)
  · replace h := ifp h c1
    refine w_ci rfl ?_
    exact a_ri rfl h
  · replace h := ifn h c1
    refine w_la rfl rfl ?_
    refine w_la rfl rfl ?_
    refine w_gf rfl (mg_19 _ _) rfl ?_
    obtain ⟨q2, e2, h⟩ := bnd h
    refine a_vi1i rfl (mg_19 _ _) (Nat.le_of_ble_eq_true rfl) (T_X1_countOf (Or.inr (Or.inr rfl)) (fun _ _ => rfl) e2) ?_
    refine w_if_ne rfl (fun c3 => ?_) (fun c3 => ?_)
    · replace h := ifn h c3
      refine w_la rfl rfl ?_
      refine w_ci rfl ?_
      obtain ⟨q4, e4, h⟩ := bnd h
      refine a_vi1i rfl (mg_19 _ _) (Nat.le_of_ble_eq_true rfl) (T_X1_passWeek (Or.inr (Or.inr rfl)) e4) ?_
      refine w_pop rfl rfl ?_
      refine w_inc rfl rfl rfl ?_
      refine w_go rfl ?_
      exact Wp_fgt (fg_n (fg_s (fg_s fg_e))) (hk7 _ _ _ _ h)
    · replace h := ifp h (Classical.not_not.mp c3)
      refine w_li rfl rfl ?_
      exact a_ri rfl h
theorem K_X5_idle_7  : ∀ (n : Nat) (x2 : Int32) (s : SS) (t : TT) (q : Int32 × SS × TT), l_X5_idle_7 n (x2, s, t) = some q → Wp pl_Kc 70 7 [none, some (.ref 19), some (.int x2)] [] (mk s t) (Qi q)
  | 0, x2, s, t, q, h => by cases (show (none : Option (Int32 × SS × TT)) = some q from h)
  | n + 1, x2, s, t, q, h => B_X5_idle_7 (K_X5_idle_7 n) x2 s t q h
set_option maxRecDepth 100000 in
theorem T_X5_idle  {s : SS} {t : TT} {q : Int32 × SS × TT} (h : f_X5_idle s t = some q) : Wm 70 [.ref 0] (mk s t) (Qi q) := by
  refine Wm.of pT_70 (Nat.le_of_ble_eq_true rfl) (L0 := [some (.ref 0), none, none]) rfl ?_
  unfold f_X5_idle at h
  refine w_la rfl rfl ?_
  obtain ⟨q1, e1, h⟩ := bnd h
  refine a_vi0t rfl (mg_0 _ _) (Nat.le_of_ble_eq_true rfl) (T_X5_trial e1) ?_
  refine w_sa rfl (Nat.le_of_ble_eq_true rfl) rfl ?_
  refine w_ci rfl ?_
  refine w_si rfl (Nat.le_of_ble_eq_true rfl) rfl ?_
  exact Wp_fgt (fg_n (fg_s (fg_s fg_e))) (K_X5_idle_7 _ _ _ _ _ h)
-- X5_vanFor
set_option maxRecDepth 100000 in
theorem B_X5_vanFor_25  {k25 : Int32 × Int32 × Int32 × SS × TT → Option (Int32 × SS × TT)} (hk25 : ∀ (x1 : Int32) (x2 : Int32) (x3 : Int32) (s : SS) (t : TT) (q : Int32 × SS × TT), k25 (x1, x2, x3, s, t) = some q → Wp pl_Kc 71 25 [some (.ref 0), some (.int x1), some (.int x2), some (.int x3), none] [] (mk s t) (Qi q)) : ∀ (x1 : Int32) (x2 : Int32) (x3 : Int32) (s : SS) (t : TT) (q : Int32 × SS × TT), b_X5_vanFor_25 k25 x1 x2 x3 s t = some q → Wp pl_Kc 71 25 [some (.ref 0), some (.int x1), some (.int x2), some (.int x3), none] [] (mk s t) (Qi q) := by
  intro x1 x2 x3 s t q h
  unfold b_X5_vanFor_25 at h
  refine w_li rfl rfl ?_
  refine w_gs rfl ?_
  refine w_ci rfl ?_
  obtain ⟨j1, e1, h⟩ := bnd h
  refine a_ic rfl (mrB_1 _ _) e1 ?_
  refine w_ic_gt rfl (fun c2 => ?_) (fun c2 => ?_)
  · replace h := ifp h c2
    refine w_ci rfl ?_
    exact a_ri rfl h
  · replace h := ifn h c2
    refine w_la rfl rfl ?_
    obtain ⟨q3, e3, h⟩ := bnd h
    refine a_vi0t rfl (mg_0 _ _) (Nat.le_of_ble_eq_true rfl) (T_X5_trial e3) ?_
    refine w_sa rfl (Nat.le_of_ble_eq_true rfl) rfl ?_
    refine w_la rfl rfl ?_
    refine w_gf rfl (mg_19 _ _) rfl ?_
    refine w_ci rfl ?_
    refine w_li rfl rfl ?_
    obtain ⟨j4, e4, h⟩ := bnd h
    refine a_is rfl (mg_20 _ _) (ms_20 _ _) e4 (fun s4 w4 => ?_)
    replace h := wr_of h s4 w4
    refine w_la rfl rfl ?_
    refine w_li rfl rfl ?_
    refine w_ci rfl ?_
    obtain ⟨q5, e5, h⟩ := bnd h
    refine a_st3i rfl (Nat.le_of_ble_eq_true rfl) (T_X5_wordsBy (Or.inr (Or.inr rfl)) e5) ?_
    refine w_li rfl rfl ?_
    refine w_ic_lt rfl (fun c6 => ?_) (fun c6 => ?_)
    · replace h := ifp h c6
      refine w_inc rfl rfl rfl ?_
      refine w_go rfl ?_
      exact Wp_fgt (fg_s (fg_s (fg_s (fg_s (fg_n fg_e))))) (hk25 _ _ _ _ _ _ h)
    · replace h := ifn h c6
      refine w_li rfl rfl ?_
      exact a_ri rfl h
theorem K_X5_vanFor_25  : ∀ (n : Nat) (x1 : Int32) (x2 : Int32) (x3 : Int32) (s : SS) (t : TT) (q : Int32 × SS × TT), l_X5_vanFor_25 n (x1, x2, x3, s, t) = some q → Wp pl_Kc 71 25 [some (.ref 0), some (.int x1), some (.int x2), some (.int x3), none] [] (mk s t) (Qi q)
  | 0, x1, x2, x3, s, t, q, h => by cases (show (none : Option (Int32 × SS × TT)) = some q from h)
  | n + 1, x1, x2, x3, s, t, q, h => B_X5_vanFor_25 (K_X5_vanFor_25 n) x1 x2 x3 s t q h
set_option maxRecDepth 100000 in
theorem T_X5_vanFor  {x1 : Int32} {x2 : Int32} {s : SS} {t : TT} {q : Int32 × SS × TT} (h : f_X5_vanFor x1 x2 s t = some q) : Wm 71 [.ref 0, .int x1, .int x2] (mk s t) (Qi q) := by
  refine Wm.of pT_71 (Nat.le_of_ble_eq_true rfl) (L0 := [some (.ref 0), some (.int x1), some (.int x2), none, none]) rfl ?_
  unfold f_X5_vanFor at h
  refine w_li rfl rfl ?_
  refine w_ci rfl ?_
  refine w_ci rfl ?_
  obtain ⟨q1, e1, h⟩ := bnd h
  refine a_st3i rfl (Nat.le_of_ble_eq_true rfl) (T_X5_isWithin e1) ?_
  refine w_if_eq rfl (fun c2 => ?_) (fun c2 => ?_)
  · replace h := ifp h c2
    refine w_ci rfl ?_
    exact a_ri rfl h
  · replace h := ifn h c2
    refine w_li rfl rfl ?_
    refine w_ci rfl ?_
    refine w_ci rfl ?_
    obtain ⟨q3, e3, h⟩ := bnd h
    refine a_st3i rfl (Nat.le_of_ble_eq_true rfl) (T_X5_isWithin e3) ?_
    refine w_if_ne rfl (fun c4 => ?_) (fun c4 => ?_)
    · replace h := ifn h c4
      refine w_ci rfl ?_
      refine w_si rfl (Nat.le_of_ble_eq_true rfl) rfl ?_
      exact Wp_fgt (fg_s (fg_s (fg_s (fg_s (fg_n fg_e))))) (K_X5_vanFor_25 _ _ _ _ _ _ _ h)
    · replace h := ifp h (Classical.not_not.mp c4)
      refine w_ci rfl ?_
      exact a_ri rfl h
