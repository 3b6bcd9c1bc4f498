-- X5_seed
set_option maxRecDepth 100000 in
theorem T_X5_seed  {x1 : Int32} {s : SS} {t : TT} {q : Int32 × SS × TT} (h : f_X5_seed x1 s t = some q) : Wm 64 [.ref 0, .int x1] (mk s t) (Qi q) := by
  refine Wm.of pT_64 (Nat.le_of_ble_eq_true rfl) (L0 := [some (.ref 0), some (.int x1), none]) rfl ?_
  unfold f_X5_seed at h
  refine w_la rfl rfl ?_
  refine w_gf rfl (mg_0 _ _) rfl ?_
  refine w_gf rfl (mg_1 _ _) rfl ?_
  refine w_si rfl (Nat.le_of_ble_eq_true rfl) rfl ?_
  refine w_la rfl rfl ?_
  refine w_gf rfl (mg_0 _ _) rfl ?_
  refine w_li rfl rfl ?_
  refine a_pf rfl rfl (mg_1 _ _) (Nat.le_of_ble_eq_true rfl) (ms_1_11 _ _) (fun s1 e1 => ?_)
  replace h := wr_of h s1 e1
  refine w_li rfl rfl ?_
  exact a_ri rfl h
-- X5_week
set_option maxRecDepth 100000 in
theorem T_X5_week  {s : SS} {t : TT} {q : Int32 × SS × TT} (h : f_X5_week s t = some q) : Wm 65 [.ref 0] (mk s t) (Qi q) := by
  refine Wm.of pT_65 (Nat.le_of_ble_eq_true rfl) (L0 := [some (.ref 0)]) rfl ?_
  unfold f_X5_week at h
  refine w_la rfl rfl ?_
  refine w_gf rfl (mg_0 _ _) rfl ?_
  obtain ⟨q1, e1, h⟩ := bnd h
  refine a_vi0i rfl (mg_1 _ _) (Nat.le_of_ble_eq_true rfl) (T_X1_passWeekByDraws (Or.inl rfl) e1) ?_
  exact a_ri rfl h
-- X5_trial
set_option maxRecDepth 100000 in
theorem T_X5_trial  {s : SS} {t : TT} {q : SS × TT} (h : f_X5_trial s t = some q) : Wm 100 [.ref 0] (mk s t) (Qt q) := by
  refine Wm.of pT_100 (Nat.le_of_ble_eq_true rfl) (L0 := [some (.ref 0)]) rfl ?_
  unfold f_X5_trial at h
  refine w_la rfl rfl ?_
  refine w_gf rfl (mg_0 _ _) rfl ?_
  refine w_la rfl rfl ?_
  refine w_gf rfl (mg_0 _ _) rfl ?_
  obtain ⟨q1, e1, h⟩ := bnd h
  refine a_vi1v rfl (mg_19 _ _) (Nat.le_of_ble_eq_true rfl) (T_X1_become (Or.inr (Or.inr rfl)) (Or.inl rfl) e1) ?_
  refine w_la rfl rfl ?_
  refine w_gf rfl (mg_0 _ _) rfl ?_
  exact a_rt rfl h
-- X5_wordsBy
set_option maxRecDepth 100000 in
theorem B_X5_wordsBy_5 {o0 : Nat} (ho0 : isO o0) {k5 : Int32 × Int32 × Int32 × Int32 × SS × TT → Option (Int32 × SS × TT)} (hk5 : ∀ (x1 : Int32) (x2 : Int32) (x3 : Int32) (x4 : Int32) (s : SS) (t : TT) (q : Int32 × SS × TT), k5 (x1, x2, x3, x4, s, t) = some q → Wp pl_Kc 101 5 [some (.ref o0), some (.int x1), some (.int x2), some (.int x3), some (.int x4)] [] (mk s t) (Qi q)) : ∀ (x1 : Int32) (x2 : Int32) (x3 : Int32) (x4 : Int32) (s : SS) (t : TT) (q : Int32 × SS × TT), b_X5_wordsBy_5 o0 k5 x1 x2 x3 x4 s t = some q → Wp pl_Kc 101 5 [some (.ref o0), some (.int x1), some (.int x2), some (.int x3), some (.int x4)] [] (mk s t) (Qi q) := by
  intro x1 x2 x3 x4 s t q h
  unfold b_X5_wordsBy_5 at h
  refine w_li rfl rfl ?_
  refine w_li rfl rfl ?_
  refine w_ic_ge rfl (fun c1 => ?_) (fun c1 => ?_)
  · replace h := ifp h c1
    refine w_li rfl rfl ?_
    exact a_ri rfl h
  · replace h := ifn h c1
    refine w_li rfl rfl ?_
    refine w_la rfl rfl ?_
    refine w_li rfl rfl ?_
    obtain ⟨q2, e2, h⟩ := bnd h
    refine a_vi1i rfl (mgO ho0 _ _) (Nat.le_of_ble_eq_true rfl) (T_X1_passWeek ho0 e2) ?_
    refine w_iadd rfl ?_
    refine w_si rfl (Nat.le_of_ble_eq_true rfl) rfl ?_
    refine w_inc rfl rfl rfl ?_
    refine w_go rfl ?_
    exact Wp_fgt (fg_s (fg_s (fg_s (fg_s (fg_s fg_e))))) (hk5 _ _ _ _ _ _ _ h)
theorem K_X5_wordsBy_5 {o0 : Nat} (ho0 : isO o0) : ∀ (n : Nat) (x1 : Int32) (x2 : Int32) (x3 : Int32) (x4 : Int32) (s : SS) (t : TT) (q : Int32 × SS × TT), l_X5_wordsBy_5 o0 n (x1, x2, x3, x4, s, t) = some q → Wp pl_Kc 101 5 [some (.ref o0), some (.int x1), some (.int x2), some (.int x3), some (.int x4)] [] (mk s t) (Qi q)
  | 0, x1, x2, x3, x4, s, t, q, h => by cases (show (none : Option (Int32 × SS × TT)) = some q from h)
  | n + 1, x1, x2, x3, x4, s, t, q, h => B_X5_wordsBy_5 ho0 (K_X5_wordsBy_5 ho0 n) x1 x2 x3 x4 s t q h
set_option maxRecDepth 100000 in
theorem T_X5_wordsBy {o0 : Nat} (ho0 : isO o0) {x1 : Int32} {x2 : Int32} {s : SS} {t : TT} {q : Int32 × SS × TT} (h : f_X5_wordsBy o0 x1 x2 s t = some q) : Wm 101 [.ref o0, .int x1, .int x2] (mk s t) (Qi q) := by
  refine Wm.of pT_101 (Nat.le_of_ble_eq_true rfl) (L0 := [some (.ref o0), some (.int x1), some (.int x2), none, none]) rfl ?_
  unfold f_X5_wordsBy at h
  refine w_ci rfl ?_
  refine w_si rfl (Nat.le_of_ble_eq_true rfl) rfl ?_
  refine w_ci rfl ?_
  refine w_si rfl (Nat.le_of_ble_eq_true rfl) rfl ?_
  exact Wp_fgt (fg_s (fg_s (fg_s (fg_s (fg_s fg_e))))) (K_X5_wordsBy_5 ho0 _ _ _ _ _ _ _ _ h)
