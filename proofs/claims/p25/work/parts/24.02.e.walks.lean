-- X5_thoughtFor
set_option maxRecDepth 100000 in
theorem J_X5_thoughtFor_87  {k25 : Int32 × Int32 × Int32 × SS × TT → Option (Int32 × SS × TT)} (hk25 : ∀ (x1 : Int32) (x2 : Int32) (x3 : Int32) (s : SS) (t : TT) (q : Int32 × SS × TT), k25 (x1, x2, x3, s, t) = some q → Wp pl_Kc 73 25 [some (.ref 0), some (.int x1), some (.int x2), some (.int x3), none, none] [] (mk s t) (Qi q)) : ∀ (x1 : Int32) (x2 : Int32) (x3 : Int32) (s : SS) (t : TT) (q : Int32 × SS × TT), j_X5_thoughtFor_87 k25 x1 x2 x3 s t = some q → Wp pl_Kc 73 87 [some (.ref 0), some (.int x1), some (.int x2), some (.int x3), some (.ref 19), none] [] (mk s t) (Qi q) := by
  intro x1 x2 x3 s t q h
  unfold j_X5_thoughtFor_87 at h
  refine w_la rfl rfl ?_
  refine w_gf rfl (mg_19 _ _) rfl ?_
  refine w_li rfl rfl ?_
  obtain ⟨j1, e1, h⟩ := bnd h
  refine a_ia rfl (mr_25 _ _ _) e1 ?_
  refine w_if_le rfl (fun c2 => ?_) (fun c2 => ?_)
  · replace h := ifp h c2
    refine w_inc rfl rfl rfl ?_
    refine w_go rfl ?_
    exact Wp_fgt (fg_s (fg_s (fg_s (fg_s (fg_n (fg_n fg_e)))))) (hk25 _ _ _ _ _ _ h)
  · replace h := ifn h c2
    refine w_li rfl rfl ?_
    exact a_ri rfl h
set_option maxRecDepth 100000 in
theorem B_X5_thoughtFor_56  {k25 : Int32 × Int32 × Int32 × SS × TT → Option (Int32 × SS × TT)} (hk25 : ∀ (x1 : Int32) (x2 : Int32) (x3 : Int32) (s : SS) (t : TT) (q : Int32 × SS × TT), k25 (x1, x2, x3, s, t) = some q → Wp pl_Kc 73 25 [some (.ref 0), some (.int x1), some (.int x2), some (.int x3), none, none] [] (mk s t) (Qi q)) {k56 : Int32 × Int32 × Int32 × Int32 × SS × TT → Option (Int32 × SS × TT)} (hk56 : ∀ (x1 : Int32) (x2 : Int32) (x3 : Int32) (x5 : Int32) (s : SS) (t : TT) (q : Int32 × SS × TT), k56 (x1, x2, x3, x5, s, t) = some q → Wp pl_Kc 73 56 [some (.ref 0), some (.int x1), some (.int x2), some (.int x3), some (.ref 19), some (.int x5)] [] (mk s t) (Qi q)) : ∀ (x1 : Int32) (x2 : Int32) (x3 : Int32) (x5 : Int32) (s : SS) (t : TT) (q : Int32 × SS × TT), b_X5_thoughtFor_56 k25 k56 x1 x2 x3 x5 s t = some q → Wp pl_Kc 73 56 [some (.ref 0), some (.int x1), some (.int x2), some (.int x3), some (.ref 19), some (.int x5)] [] (mk s t) (Qi q) := by
  intro x1 x2 x3 x5 s t q h
  unfold b_X5_thoughtFor_56 at h
  refine w_li rfl rfl ?_
  refine w_li rfl rfl ?_
  refine w_ic_ge rfl (fun c1 => ?_) (fun c1 => ?_)
  · replace h := ifp h c1
    exact Wp_fgt (fg_s (fg_s (fg_s (fg_s (fg_s (fg_n fg_e)))))) (J_X5_thoughtFor_87 hk25 _ _ _ _ _ _ h)
  · replace h := ifn h c1
    refine w_la rfl rfl ?_
    refine w_gf rfl (mg_19 _ _) rfl ?_
    refine w_li rfl rfl ?_
    obtain ⟨j2, e2, h⟩ := bnd h
    refine a_ia rfl (mr_25 _ _ _) e2 ?_
    refine w_if_ne rfl (fun c3 => ?_) (fun c3 => ?_)
    · replace h := ifn h c3
      exact Wp_fgt (fg_s (fg_s (fg_s (fg_s (fg_s (fg_n fg_e)))))) (J_X5_thoughtFor_87 hk25 _ _ _ _ _ _ h)
    · replace h := ifp h (Classical.not_not.mp c3)
      refine w_la rfl rfl ?_
      refine w_ci rfl ?_
      obtain ⟨q4, e4, h⟩ := bnd h
      refine a_vi1i rfl (mg_19 _ _) (Nat.le_of_ble_eq_true rfl) (T_X1_passWeek (Or.inr (Or.inr rfl)) e4) ?_
      refine w_pop rfl rfl ?_
      refine w_inc rfl rfl rfl ?_
      refine w_go rfl ?_
      exact Wp_fgt (fg_s (fg_s (fg_s (fg_s (fg_s (fg_s fg_e)))))) (hk56 _ _ _ _ _ _ _ h)
theorem K_X5_thoughtFor_56  {k25 : Int32 × Int32 × Int32 × SS × TT → Option (Int32 × SS × TT)} (hk25 : ∀ (x1 : Int32) (x2 : Int32) (x3 : Int32) (s : SS) (t : TT) (q : Int32 × SS × TT), k25 (x1, x2, x3, s, t) = some q → Wp pl_Kc 73 25 [some (.ref 0), some (.int x1), some (.int x2), some (.int x3), none, none] [] (mk s t) (Qi q)) : ∀ (n : Nat) (x1 : Int32) (x2 : Int32) (x3 : Int32) (x5 : Int32) (s : SS) (t : TT) (q : Int32 × SS × TT), l_X5_thoughtFor_56 k25 n (x1, x2, x3, x5, s, t) = some q → Wp pl_Kc 73 56 [some (.ref 0), some (.int x1), some (.int x2), some (.int x3), some (.ref 19), some (.int x5)] [] (mk s t) (Qi q)
  | 0, x1, x2, x3, x5, s, t, q, h => by cases (show (none : Option (Int32 × SS × TT)) = some q from h)
  | n + 1, x1, x2, x3, x5, s, t, q, h => B_X5_thoughtFor_56 hk25 (K_X5_thoughtFor_56 hk25 n) x1 x2 x3 x5 s t q h
set_option maxRecDepth 100000 in
theorem B_X5_thoughtFor_25  {k25 : Int32 × Int32 × Int32 × SS × TT → Option (Int32 × SS × TT)} (hk25 : ∀ (x1 : Int32) (x2 : Int32) (x3 : Int32) (s : SS) (t : TT) (q : Int32 × SS × TT), k25 (x1, x2, x3, s, t) = some q → Wp pl_Kc 73 25 [some (.ref 0), some (.int x1), some (.int x2), some (.int x3), none, none] [] (mk s t) (Qi q)) : ∀ (x1 : Int32) (x2 : Int32) (x3 : Int32) (s : SS) (t : TT) (q : Int32 × SS × TT), b_X5_thoughtFor_25 k25 x1 x2 x3 s t = some q → Wp pl_Kc 73 25 [some (.ref 0), some (.int x1), some (.int x2), some (.int x3), none, none] [] (mk s t) (Qi q) := by
  intro x1 x2 x3 s t q h
  unfold b_X5_thoughtFor_25 at h
  refine w_li rfl rfl ?_
  refine w_ci rfl ?_
  refine w_ic_gt rfl (fun c1 => ?_) (fun c1 => ?_)
  · replace h := ifp h c1
    refine w_ci rfl ?_
    exact a_ri rfl h
  · replace h := ifn h c1
    refine w_la rfl rfl ?_
    obtain ⟨q2, e2, h⟩ := bnd h
    refine a_vi0t rfl (mg_0 _ _) (Nat.le_of_ble_eq_true rfl) (T_X5_trial e2) ?_
    refine w_sa rfl (Nat.le_of_ble_eq_true rfl) rfl ?_
    refine w_la rfl rfl ?_
    refine w_gf rfl (mg_19 _ _) rfl ?_
    refine w_li rfl rfl ?_
    refine w_li rfl rfl ?_
    obtain ⟨j3, e3, h⟩ := bnd h
    refine a_is rfl (mg_22 _ _) (ms_22 _ _) e3 (fun s3 w3 => ?_)
    replace h := wr_of h s3 w3
    refine w_la rfl rfl ?_
    refine w_gf rfl (mg_19 _ _) rfl ?_
    refine w_li rfl rfl ?_
    refine w_ci rfl ?_
    obtain ⟨j4, e4, h⟩ := bnd h
    refine a_is rfl (mg_25 _ _) (ms_25 _ _) e4 (fun s4 w4 => ?_)
    replace h := wr_of h s4 w4
    refine w_ci rfl ?_
    refine w_si rfl (Nat.le_of_ble_eq_true rfl) rfl ?_
    exact Wp_fgt (fg_s (fg_s (fg_s (fg_s (fg_s (fg_s fg_e)))))) (K_X5_thoughtFor_56 hk25 _ _ _ _ _ _ _ _ h)
theorem K_X5_thoughtFor_25  : ∀ (n : Nat) (x1 : Int32) (x2 : Int32) (x3 : Int32) (s : SS) (t : TT) (q : Int32 × SS × TT), l_X5_thoughtFor_25 n (x1, x2, x3, s, t) = some q → Wp pl_Kc 73 25 [some (.ref 0), some (.int x1), some (.int x2), some (.int x3), none, none] [] (mk s t) (Qi q)
  | 0, x1, x2, x3, s, t, q, h => by cases (show (none : Option (Int32 × SS × TT)) = some q from h)
  | n + 1, x1, x2, x3, s, t, q, h => B_X5_thoughtFor_25 (K_X5_thoughtFor_25 n) x1 x2 x3 s t q h
set_option maxRecDepth 100000 in
theorem T_X5_thoughtFor  {x1 : Int32} {x2 : Int32} {s : SS} {t : TT} {q : Int32 × SS × TT} (h : f_X5_thoughtFor x1 x2 s t = some q) : Wm 73 [.ref 0, .int x1, .int x2] (mk s t) (Qi q) := by
  refine Wm.of pT_73 (Nat.le_of_ble_eq_true rfl) (L0 := [some (.ref 0), some (.int x1), some (.int x2), none, none, none]) rfl ?_
  unfold f_X5_thoughtFor at h
  refine w_la rfl rfl ?_
  refine w_gf rfl (mg_0 _ _) rfl ?_
  refine w_li rfl rfl ?_
  obtain ⟨q1, e1, h⟩ := bnd h
  refine a_vi1i rfl (mg_1 _ _) (Nat.le_of_ble_eq_true rfl) (T_X1_has (Or.inl rfl) e1) ?_
  refine w_if_eq rfl (fun c2 => ?_) (fun c2 => ?_)
  · replace h := ifp h c2
    refine w_ci rfl ?_
    exact a_ri rfl h
  · replace h := ifn h c2
    refine w_li rfl rfl ?_
    refine w_ci rfl ?_
    refine w_ci rfl ?_
    obtain ⟨q3, e3, h⟩ := bnd h
    refine a_st3i rfl (Nat.le_of_ble_eq_true rfl) (T_X5_isWithin e3) ?_
    refine w_if_ne rfl (fun c4 => ?_) (fun c4 => ?_)
    · replace h := ifn h c4
      refine w_ci rfl ?_
      refine w_si rfl (Nat.le_of_ble_eq_true rfl) rfl ?_
      exact Wp_fgt (fg_s (fg_s (fg_s (fg_s (fg_n (fg_n fg_e)))))) (K_X5_thoughtFor_25 _ _ _ _ _ _ _ h)
    · replace h := ifp h (Classical.not_not.mp c4)
      refine w_ci rfl ?_
      exact a_ri rfl h
-- X5_needed
set_option maxRecDepth 100000 in
theorem B_X5_needed_30  {k30 : Int32 × Int32 × Int32 × Int32 × SS × TT → Option (Int32 × SS × TT)} (hk30 : ∀ (x1 : Int32) (x2 : Int32) (x3 : Int32) (x4 : Int32) (s : SS) (t : TT) (q : Int32 × SS × TT), k30 (x1, x2, x3, x4, s, t) = some q → Wp pl_Kc 74 30 [some (.ref 0), some (.int x1), some (.int x2), some (.int x3), some (.int x4), none] [] (mk s t) (Qi q)) : ∀ (x1 : Int32) (x2 : Int32) (x3 : Int32) (x4 : Int32) (s : SS) (t : TT) (q : Int32 × SS × TT), b_X5_needed_30 k30 x1 x2 x3 x4 s t = some q → Wp pl_Kc 74 30 [some (.ref 0), some (.int x1), some (.int x2), some (.int x3), some (.int x4), none] [] (mk s t) (Qi q) := by
  intro x1 x2 x3 x4 s t q h
  unfold b_X5_needed_30 at h
  refine w_li rfl rfl ?_
  refine w_la rfl rfl ?_
  refine w_gf rfl (mg_0 _ _) rfl ?_
  refine w_gf rfl (mg_1 _ _) rfl ?_
  refine w_ic_ge rfl (fun c1 => ?_) (fun c1 => ?_)
  · replace h := ifp h c1
    refine w_li rfl rfl ?_
    exact a_ri rfl h
  · replace h := ifn h c1
    refine w_la rfl rfl ?_
    obtain ⟨q2, e2, h⟩ := bnd h
    refine a_vi0t rfl (mg_0 _ _) (Nat.le_of_ble_eq_true rfl) (T_X5_trial e2) ?_
    refine w_li rfl rfl ?_
    refine w_ci rfl ?_
    refine w_ci rfl ?_
    refine w_li rfl rfl ?_
    refine w_ishl rfl ?_
    refine w_ci rfl ?_
    refine w_ixor rfl ?_
    refine w_iand rfl ?_
    obtain ⟨q3, e3, h⟩ := bnd h
    refine a_st3i rfl (Nat.le_of_ble_eq_true rfl) (T_X5_wordsBy (Or.inr (Or.inr rfl)) e3) ?_
    refine w_si rfl (Nat.le_of_ble_eq_true rfl) rfl ?_
    refine w_li rfl rfl ?_
    refine w_li rfl rfl ?_
    refine w_ic_ge rfl (fun c4 => ?_) (fun c4 => ?_)
    · replace h := ifp h c4
      refine w_inc rfl rfl rfl ?_
      refine w_go rfl ?_
      exact Wp_fgt (fg_s (fg_s (fg_s (fg_s (fg_s (fg_n fg_e)))))) (hk30 _ _ _ _ _ _ _ h)
    · replace h := ifn h c4
      refine w_li rfl rfl ?_
      refine w_si rfl (Nat.le_of_ble_eq_true rfl) rfl ?_
      refine w_li rfl rfl ?_
      refine w_si rfl (Nat.le_of_ble_eq_true rfl) rfl ?_
      refine w_inc rfl rfl rfl ?_
      refine w_go rfl ?_
      exact Wp_fgt (fg_s (fg_s (fg_s (fg_s (fg_s (fg_n fg_e)))))) (hk30 _ _ _ _ _ _ _ h)
theorem K_X5_needed_30  : ∀ (n : Nat) (x1 : Int32) (x2 : Int32) (x3 : Int32) (x4 : Int32) (s : SS) (t : TT) (q : Int32 × SS × TT), l_X5_needed_30 n (x1, x2, x3, x4, s, t) = some q → Wp pl_Kc 74 30 [some (.ref 0), some (.int x1), some (.int x2), some (.int x3), some (.int x4), none] [] (mk s t) (Qi q)
  | 0, x1, x2, x3, x4, s, t, q, h => by cases (show (none : Option (Int32 × SS × TT)) = some q from h)
  | n + 1, x1, x2, x3, x4, s, t, q, h => B_X5_needed_30 (K_X5_needed_30 n) x1 x2 x3 x4 s t q h
set_option maxRecDepth 100000 in
theorem T_X5_needed  {x1 : Int32} {s : SS} {t : TT} {q : Int32 × SS × TT} (h : f_X5_needed x1 s t = some q) : Wm 74 [.ref 0, .int x1] (mk s t) (Qi q) := by
  refine Wm.of pT_74 (Nat.le_of_ble_eq_true rfl) (L0 := [some (.ref 0), some (.int x1), none, none, none, none]) rfl ?_
  unfold f_X5_needed at h
  refine w_li rfl rfl ?_
  refine w_ci rfl ?_
  refine w_ci rfl ?_
  obtain ⟨q1, e1, h⟩ := bnd h
  refine a_st3i rfl (Nat.le_of_ble_eq_true rfl) (T_X5_isWithin e1) ?_
  refine w_if_ne rfl (fun c2 => ?_) (fun c2 => ?_)
  · replace h := ifn h c2
    refine w_ci rfl ?_
    refine w_si rfl (Nat.le_of_ble_eq_true rfl) rfl ?_
    refine w_la rfl rfl ?_
    obtain ⟨q3, e3, h⟩ := bnd h
    refine a_vi0t rfl (mg_0 _ _) (Nat.le_of_ble_eq_true rfl) (T_X5_trial e3) ?_
    refine w_li rfl rfl ?_
    refine w_ci rfl ?_
    obtain ⟨q4, e4, h⟩ := bnd h
    refine a_st3i rfl (Nat.le_of_ble_eq_true rfl) (T_X5_wordsBy (Or.inr (Or.inr rfl)) e4) ?_
    refine w_si rfl (Nat.le_of_ble_eq_true rfl) rfl ?_
    refine w_ci rfl ?_
    refine w_si rfl (Nat.le_of_ble_eq_true rfl) rfl ?_
    exact Wp_fgt (fg_s (fg_s (fg_s (fg_s (fg_s (fg_n fg_e)))))) (K_X5_needed_30 _ _ _ _ _ _ _ _ h)
  · replace h := ifp h (Classical.not_not.mp c2)
    refine w_ci rfl ?_
    exact a_ri rfl h
-- J6_bitCount_0f7a4
set_option maxRecDepth 100000 in
theorem T_bitCount  {x0 : Int32} {s : SS} {t : TT} {q : Int32 × SS × TT} (h : f_bitCount x0 s t = some q) : Wm 212 [.int x0] (mk s t) (Qi q) := by
  refine Wm.of pT_212 (Nat.le_of_ble_eq_true rfl) (L0 := [some (.int x0)]) rfl ?_
  unfold f_bitCount at h
  refine w_li rfl rfl ?_
  refine w_li rfl rfl ?_
  refine w_ci rfl ?_
  refine w_iushr rfl ?_
  refine w_ci rfl ?_
  refine w_iand rfl ?_
  refine w_isub rfl ?_
  refine w_si rfl (Nat.le_of_ble_eq_true rfl) rfl ?_
  refine w_li rfl rfl ?_
  refine w_ci rfl ?_
  refine w_iand rfl ?_
  refine w_li rfl rfl ?_
  refine w_ci rfl ?_
  refine w_iushr rfl ?_
  refine w_ci rfl ?_
  refine w_iand rfl ?_
  refine w_iadd rfl ?_
  refine w_si rfl (Nat.le_of_ble_eq_true rfl) rfl ?_
  refine w_li rfl rfl ?_
  refine w_li rfl rfl ?_
  refine w_ci rfl ?_
  refine w_iushr rfl ?_
  refine w_iadd rfl ?_
  refine w_ci rfl ?_
  refine w_iand rfl ?_
  refine w_si rfl (Nat.le_of_ble_eq_true rfl) rfl ?_
  refine w_li rfl rfl ?_
  refine w_li rfl rfl ?_
  refine w_ci rfl ?_
  refine w_iushr rfl ?_
  refine w_iadd rfl ?_
  refine w_si rfl (Nat.le_of_ble_eq_true rfl) rfl ?_
  refine w_li rfl rfl ?_
  refine w_li rfl rfl ?_
  refine w_ci rfl ?_
  refine w_iushr rfl ?_
  refine w_iadd rfl ?_
  refine w_si rfl (Nat.le_of_ble_eq_true rfl) rfl ?_
  refine w_li rfl rfl ?_
  refine w_ci rfl ?_
  refine w_iand rfl ?_
  exact a_ri rfl h
-- X5_fewest
set_option maxRecDepth 100000 in
theorem B_X5_fewest_51  {k36 : Int32 × Int32 × Int32 × Int32 × SS × TT → Option (Int32 × SS × TT)} (hk36 : ∀ (x1 : Int32) (x2 : Int32) (x3 : Int32) (x4 : Int32) (s : SS) (t : TT) (q : Int32 × SS × TT), k36 (x1, x2, x3, x4, s, t) = some q → Wp pl_Kc 75 36 [some (.ref 0), some (.int x1), some (.int x2), some (.int x3), some (.int x4), none] [] (mk s t) (Qi q)) {k51 : Int32 × Int32 × Int32 × Int32 × Int32 × SS × TT → Option (Int32 × SS × TT)} (hk51 : ∀ (x1 : Int32) (x2 : Int32) (x3 : Int32) (x4 : Int32) (x5 : Int32) (s : SS) (t : TT) (q : Int32 × SS × TT), k51 (x1, x2, x3, x4, x5, s, t) = some q → Wp pl_Kc 75 51 [some (.ref 0), some (.int x1), some (.int x2), some (.int x3), some (.int x4), some (.int x5)] [] (mk s t) (Qi q)) : ∀ (x1 : Int32) (x2 : Int32) (x3 : Int32) (x4 : Int32) (x5 : Int32) (s : SS) (t : TT) (q : Int32 × SS × TT), b_X5_fewest_51 k36 k51 x1 x2 x3 x4 x5 s t = some q → Wp pl_Kc 75 51 [some (.ref 0), some (.int x1), some (.int x2), some (.int x3), some (.int x4), some (.int x5)] [] (mk s t) (Qi q) := by
  intro x1 x2 x3 x4 x5 s t q h
  unfold b_X5_fewest_51 at h
  refine w_li rfl rfl ?_
  refine w_li rfl rfl ?_
  refine w_ic_ge rfl (fun c1 => ?_) (fun c1 => ?_)
  · replace h := ifp h c1
    refine w_inc rfl rfl rfl ?_
    refine w_go rfl ?_
    exact Wp_fgt (fg_s (fg_s (fg_s (fg_s (fg_s (fg_n fg_e)))))) (hk36 _ _ _ _ _ _ _ h)
  · replace h := ifn h c1
    refine w_li rfl rfl ?_
    obtain ⟨q2, e2, h⟩ := bnd h
    refine a_st1i rfl (Nat.le_of_ble_eq_true rfl) (T_bitCount e2) ?_
    refine w_li rfl rfl ?_
    refine w_ic_ne rfl (fun c3 => ?_) (fun c3 => ?_)
    · replace h := ifn h c3
      refine w_inc rfl rfl rfl ?_
      refine w_go rfl ?_
      exact Wp_fgt (fg_s (fg_s (fg_s (fg_s (fg_s (fg_s fg_e)))))) (hk51 _ _ _ _ _ _ _ _ h)
    · replace h := ifp h (Classical.not_not.mp c3)
      refine w_la rfl rfl ?_
      obtain ⟨q4, e4, h⟩ := bnd h
      refine a_vi0t rfl (mg_0 _ _) (Nat.le_of_ble_eq_true rfl) (T_X5_trial e4) ?_
      refine w_li rfl rfl ?_
      refine w_li rfl rfl ?_
      obtain ⟨q5, e5, h⟩ := bnd h
      refine a_st3i rfl (Nat.le_of_ble_eq_true rfl) (T_X5_wordsBy (Or.inr (Or.inr rfl)) e5) ?_
      refine w_li rfl rfl ?_
      refine w_ic_lt rfl (fun c6 => ?_) (fun c6 => ?_)
      · replace h := ifp h c6
        refine w_inc rfl rfl rfl ?_
        refine w_go rfl ?_
        exact Wp_fgt (fg_s (fg_s (fg_s (fg_s (fg_s (fg_s fg_e)))))) (hk51 _ _ _ _ _ _ _ _ h)
      · replace h := ifn h c6
        refine w_li rfl rfl ?_
        exact a_ri rfl h
theorem K_X5_fewest_51  {k36 : Int32 × Int32 × Int32 × Int32 × SS × TT → Option (Int32 × SS × TT)} (hk36 : ∀ (x1 : Int32) (x2 : Int32) (x3 : Int32) (x4 : Int32) (s : SS) (t : TT) (q : Int32 × SS × TT), k36 (x1, x2, x3, x4, s, t) = some q → Wp pl_Kc 75 36 [some (.ref 0), some (.int x1), some (.int x2), some (.int x3), some (.int x4), none] [] (mk s t) (Qi q)) : ∀ (n : Nat) (x1 : Int32) (x2 : Int32) (x3 : Int32) (x4 : Int32) (x5 : Int32) (s : SS) (t : TT) (q : Int32 × SS × TT), l_X5_fewest_51 k36 n (x1, x2, x3, x4, x5, s, t) = some q → Wp pl_Kc 75 51 [some (.ref 0), some (.int x1), some (.int x2), some (.int x3), some (.int x4), some (.int x5)] [] (mk s t) (Qi q)
  | 0, x1, x2, x3, x4, x5, s, t, q, h => by cases (show (none : Option (Int32 × SS × TT)) = some q from h)
  | n + 1, x1, x2, x3, x4, x5, s, t, q, h => B_X5_fewest_51 hk36 (K_X5_fewest_51 hk36 n) x1 x2 x3 x4 x5 s t q h
set_option maxRecDepth 100000 in
theorem B_X5_fewest_36  {k36 : Int32 × Int32 × Int32 × Int32 × SS × TT → Option (Int32 × SS × TT)} (hk36 : ∀ (x1 : Int32) (x2 : Int32) (x3 : Int32) (x4 : Int32) (s : SS) (t : TT) (q : Int32 × SS × TT), k36 (x1, x2, x3, x4, s, t) = some q → Wp pl_Kc 75 36 [some (.ref 0), some (.int x1), some (.int x2), some (.int x3), some (.int x4), none] [] (mk s t) (Qi q)) : ∀ (x1 : Int32) (x2 : Int32) (x3 : Int32) (x4 : Int32) (s : SS) (t : TT) (q : Int32 × SS × TT), b_X5_fewest_36 k36 x1 x2 x3 x4 s t = some q → Wp pl_Kc 75 36 [some (.ref 0), some (.int x1), some (.int x2), some (.int x3), some (.int x4), none] [] (mk s t) (Qi q) := by
  intro x1 x2 x3 x4 s t q h
  unfold b_X5_fewest_36 at h
  refine w_li rfl rfl ?_
  refine w_la rfl rfl ?_
  refine w_gf rfl (mg_0 _ _) rfl ?_
  refine w_gf rfl (mg_1 _ _) rfl ?_
  refine w_ic_gt rfl (fun c1 => ?_) (fun c1 => ?_)
  · replace h := ifp h c1
    refine w_ci rfl ?_
    exact a_ri rfl h
  · replace h := ifn h c1
    refine w_ci rfl ?_
    refine w_si rfl (Nat.le_of_ble_eq_true rfl) rfl ?_
    exact Wp_fgt (fg_s (fg_s (fg_s (fg_s (fg_s (fg_s fg_e)))))) (K_X5_fewest_51 hk36 _ _ _ _ _ _ _ _ _ h)
theorem K_X5_fewest_36  : ∀ (n : Nat) (x1 : Int32) (x2 : Int32) (x3 : Int32) (x4 : Int32) (s : SS) (t : TT) (q : Int32 × SS × TT), l_X5_fewest_36 n (x1, x2, x3, x4, s, t) = some q → Wp pl_Kc 75 36 [some (.ref 0), some (.int x1), some (.int x2), some (.int x3), some (.int x4), none] [] (mk s t) (Qi q)
  | 0, x1, x2, x3, x4, s, t, q, h => by cases (show (none : Option (Int32 × SS × TT)) = some q from h)
  | n + 1, x1, x2, x3, x4, s, t, q, h => B_X5_fewest_36 (K_X5_fewest_36 n) x1 x2 x3 x4 s t q h
set_option maxRecDepth 100000 in
theorem T_X5_fewest  {x1 : Int32} {x2 : Int32} {s : SS} {t : TT} {q : Int32 × SS × TT} (h : f_X5_fewest x1 x2 s t = some q) : Wm 75 [.ref 0, .int x1, .int x2] (mk s t) (Qi q) := by
  refine Wm.of pT_75 (Nat.le_of_ble_eq_true rfl) (L0 := [some (.ref 0), some (.int x1), some (.int x2), none, none, none]) rfl ?_
  unfold f_X5_fewest at h
  refine w_li rfl rfl ?_
  refine w_ci rfl ?_
  refine w_ci rfl ?_
  obtain ⟨q1, e1, h⟩ := bnd h
  refine a_st3i rfl (Nat.le_of_ble_eq_true rfl) (T_X5_isWithin e1) ?_
  refine w_if_eq rfl (fun c2 => ?_) (fun c2 => ?_)
  · replace h := ifp h c2
    refine w_ci rfl ?_
    exact a_ri rfl h
  · replace h := ifn h c2
    refine w_li rfl rfl ?_
    refine w_ci rfl ?_
    refine w_ci rfl ?_
    obtain ⟨q3, e3, h⟩ := bnd h
    refine a_st3i rfl (Nat.le_of_ble_eq_true rfl) (T_X5_isWithin e3) ?_
    refine w_if_ne rfl (fun c4 => ?_) (fun c4 => ?_)
    · replace h := ifn h c4
      refine w_ci rfl ?_
      refine w_la rfl rfl ?_
      refine w_gf rfl (mg_0 _ _) rfl ?_
      refine w_gf rfl (mg_1 _ _) rfl ?_
      refine w_ishl rfl ?_
      refine w_si rfl (Nat.le_of_ble_eq_true rfl) rfl ?_
      refine w_ci rfl ?_
      refine w_si rfl (Nat.le_of_ble_eq_true rfl) rfl ?_
      exact Wp_fgt (fg_s (fg_s (fg_s (fg_s (fg_s (fg_n fg_e)))))) (K_X5_fewest_36 _ _ _ _ _ _ _ _ h)
    · replace h := ifp h (Classical.not_not.mp c4)
      refine w_ci rfl ?_
      exact a_ri rfl h
