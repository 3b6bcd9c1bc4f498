-- X5_taken
set_option maxRecDepth 100000 in
theorem J_X5_taken_125  : ∀ (x4 : Nat) (hx4 : isH x4) (y0 : Int32) (s : SS) (t : TT) (q : Int32 × SS × TT), j_X5_taken_125 x4 y0 s t = some q → Wp pl_Kc 89 125 [none, none, none, none, some (.ref x4), none] [.int y0] (mk s t) (Qi q) := by
  intro x4 hx4 y0 s t q h
  unfold j_X5_taken_125 at h
  refine w_si rfl (Nat.le_of_ble_eq_true rfl) rfl ?_
  refine w_li rfl rfl ?_
  refine w_if_eq rfl (fun c1 => ?_) (fun c1 => ?_)
  · replace h := ifp h c1
    refine w_ci rfl ?_
    exact a_ri rfl h
  · replace h := ifn h c1
    refine w_la rfl rfl ?_
    refine w_gf rfl (mgH hx4 _ _) rfl ?_
    refine w_go rfl ?_
    exact a_ri rfl h
set_option maxRecDepth 100000 in
theorem J_X5_taken_124  : ∀ (x4 : Nat) (hx4 : isH x4) (s : SS) (t : TT) (q : Int32 × SS × TT), j_X5_taken_124 x4 s t = some q → Wp pl_Kc 89 124 [none, none, none, none, some (.ref x4), none] [] (mk s t) (Qi q) := by
  intro x4 hx4 s t q h
  unfold j_X5_taken_124 at h
  refine w_ci rfl ?_
  exact Wp_fgt (fg_n (fg_n (fg_n (fg_n (fg_s (fg_n fg_e)))))) (J_X5_taken_125 _ hx4 _ _ _ _ h)
set_option maxRecDepth 100000 in
theorem J_X5_taken_29  : ∀ (x1 : Int32) (x2 : Int32) (x3 : Int32) (s : SS) (t : TT) (q : Int32 × SS × TT), j_X5_taken_29 x1 x2 x3 s t = some q → Wp pl_Kc 89 29 [some (.ref 0), some (.int x1), some (.int x2), some (.int x3), none, none] [] (mk s t) (Qi q) := by
  intro x1 x2 x3 s t q h
  unfold j_X5_taken_29 at h
  refine w_la rfl rfl ?_
  refine w_gf rfl (mg_0 _ _) rfl ?_
  refine w_li rfl rfl ?_
  obtain ⟨j1, e1, h⟩ := bnd h
  refine a_aaH rfl e1 (fun r1 w1 hr1 => ?_)
  replace h := wr_of h r1 w1
  refine w_sa rfl (Nat.le_of_ble_eq_true rfl) rfl ?_
  refine w_la rfl rfl ?_
  refine w_gf rfl (mgH hr1 _ _) rfl ?_
  refine w_ci rfl ?_
  refine w_ic_ne rfl (fun c2 => ?_) (fun c2 => ?_)
  · replace h := ifn h c2
    refine w_la rfl rfl ?_
    refine w_gf rfl (mgH hr1 _ _) rfl ?_
    refine w_ci rfl ?_
    refine w_ic_eq rfl (fun c3 => ?_) (fun c3 => ?_)
    · replace h := ifp h c3
      refine w_ci rfl ?_
      exact a_ri rfl h
    · replace h := ifn h c3
      refine w_la rfl rfl ?_
      refine w_gf rfl (mg_0 _ _) rfl ?_
      refine w_la rfl rfl ?_
      refine w_gf rfl (mgH hr1 _ _) rfl ?_
      obtain ⟨q4, e4, h⟩ := bnd h
      refine a_vi1i rfl (mg_1 _ _) (Nat.le_of_ble_eq_true rfl) (T_X1_has (Or.inl rfl) e4) ?_
      refine w_if_ne rfl (fun c5 => ?_) (fun c5 => ?_)
      · replace h := ifn h c5
        refine w_li rfl rfl ?_
        refine w_if_ne rfl (fun c6 => ?_) (fun c6 => ?_)
        · replace h := ifn h c6
          exact Wp_fgt (fg_n (fg_n (fg_n (fg_n (fg_s (fg_n fg_e)))))) (J_X5_taken_124 _ hr1 _ _ _ h)
        · replace h := ifp h (Classical.not_not.mp c6)
          refine w_la rfl rfl ?_
          refine w_gf rfl (mg_0 _ _) rfl ?_
          refine w_gf rfl (mg_1 _ _) rfl ?_
          refine w_la rfl rfl ?_
          refine w_gf rfl (mgH hr1 _ _) rfl ?_
          obtain ⟨j7, e7, h⟩ := bnd h
          refine a_ia rfl (mr_3 _ _ _) e7 ?_
          refine w_li rfl rfl ?_
          obtain ⟨q8, e8, h⟩ := bnd h
          refine a_st2i rfl (Nat.le_of_ble_eq_true rfl) (T_X5_isUnder e8) ?_
          refine w_if_eq rfl (fun c9 => ?_) (fun c9 => ?_)
          · replace h := ifp h c9
            exact Wp_fgt (fg_n (fg_n (fg_n (fg_n (fg_s (fg_n fg_e)))))) (J_X5_taken_124 _ hr1 _ _ _ h)
          · replace h := ifn h c9
            refine w_ci rfl ?_
            refine w_go rfl ?_
            exact Wp_fgt (fg_n (fg_n (fg_n (fg_n (fg_s (fg_n fg_e)))))) (J_X5_taken_125 _ hr1 _ _ _ _ h)
      · replace h := ifp h (Classical.not_not.mp c5)
        refine w_ci rfl ?_
        exact a_ri rfl h
  · replace h := ifp h (Classical.not_not.mp c2)
    refine w_la rfl rfl ?_
    refine w_gf rfl (mgH hr1 _ _) rfl ?_
    refine w_li rfl rfl ?_
    refine w_ci rfl ?_
    refine w_isub rfl ?_
    refine w_ic_ne rfl (fun c10 => ?_) (fun c10 => ?_)
    · replace h := ifn h c10
      refine w_ci rfl ?_
      exact a_ri rfl h
    · replace h := ifp h (Classical.not_not.mp c10)
      refine w_la rfl rfl ?_
      refine w_gf rfl (mgH hr1 _ _) rfl ?_
      refine w_go rfl ?_
      exact a_ri rfl h
set_option maxRecDepth 100000 in
theorem T_X5_taken  {x1 : Int32} {x2 : Int32} {s : SS} {t : TT} {q : Int32 × SS × TT} (h : f_X5_taken x1 x2 s t = some q) : Wm 89 [.ref 0, .int x1, .int x2] (mk s t) (Qi q) := by
  refine Wm.of pT_89 (Nat.le_of_ble_eq_true rfl) (L0 := [some (.ref 0), some (.int x1), some (.int x2), none, none, none]) rfl ?_
  unfold f_X5_taken at h
  refine w_li rfl rfl ?_
  refine w_ci rfl ?_
  refine w_ci rfl ?_
  obtain ⟨q1, e1, h⟩ := bnd h
  refine a_st3i rfl (Nat.le_of_ble_eq_true rfl) (T_X5_isWithin e1) ?_
  refine w_si rfl (Nat.le_of_ble_eq_true rfl) rfl ?_
  refine w_li rfl rfl ?_
  obtain ⟨q2, e2, h⟩ := bnd h
  refine a_st1i rfl (Nat.le_of_ble_eq_true rfl) (T_X5_isPlace e2) ?_
  refine w_if_eq rfl (fun c3 => ?_) (fun c3 => ?_)
  · replace h := ifp h c3
    refine w_ci rfl ?_
    exact a_ri rfl h
  · replace h := ifn h c3
    refine w_li rfl rfl ?_
    obtain ⟨q4, e4, h⟩ := bnd h
    refine a_st1i rfl (Nat.le_of_ble_eq_true rfl) (T_X5_isKind e4) ?_
    refine w_if_ne rfl (fun c5 => ?_) (fun c5 => ?_)
    · replace h := ifn h c5
      exact Wp_fgt (fg_s (fg_s (fg_s (fg_s (fg_n (fg_n fg_e)))))) (J_X5_taken_29 _ _ _ _ _ _ h)
    · replace h := ifp h (Classical.not_not.mp c5)
      refine w_li rfl rfl ?_
      refine w_if_ne rfl (fun c6 => ?_) (fun c6 => ?_)
      · replace h := ifn h c6
        exact Wp_fgt (fg_s (fg_s (fg_s (fg_s (fg_n (fg_n fg_e)))))) (J_X5_taken_29 _ _ _ _ _ _ h)
      · replace h := ifp h (Classical.not_not.mp c6)
        refine w_ci rfl ?_
        exact a_ri rfl h
