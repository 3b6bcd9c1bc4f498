-- X5_shelf
set_option maxRecDepth 100000 in
theorem J_X5_shelf_65  : ∀ (x1 : Int32) (x2 : Int32) (s : SS) (t : TT) (q : Int32 × SS × TT), j_X5_shelf_65 x1 x2 s t = some q → Wp pl_Kc 88 65 [some (.ref 0), some (.int x1), some (.int x2), none] [] (mk s t) (Qi q) := by
  intro x1 x2 s t q h
  unfold j_X5_shelf_65 at h
  refine w_li rfl rfl ?_
  refine w_ci rfl ?_
  refine w_ic_ne rfl (fun c1 => ?_) (fun c1 => ?_)
  · replace h := ifn h c1
    refine w_ci rfl ?_
    exact a_ri rfl h
  · replace h := ifp h (Classical.not_not.mp c1)
    refine w_la rfl rfl ?_
    refine w_gf rfl (mg_0 _ _) rfl ?_
    refine w_li rfl rfl ?_
    obtain ⟨j2, e2, h⟩ := bnd h
    refine a_aaH rfl e2 (fun r2 w2 hr2 => ?_)
    replace h := wr_of h r2 w2
    refine w_ci rfl ?_
    refine a_pf rfl rfl (mgH hr2 _ _) (Nat.le_of_ble_eq_true rfl) (msHf_0 hr2 _ _) (fun s3 e3 => ?_)
    replace h := wr_of h s3 e3
    refine w_ci rfl ?_
    exact a_ri rfl h
set_option maxRecDepth 100000 in
theorem J_X5_shelf_36  : ∀ (x1 : Int32) (x2 : Int32) (x3 : Int32) (s : SS) (t : TT) (q : Int32 × SS × TT), j_X5_shelf_36 x1 x2 x3 s t = some q → Wp pl_Kc 88 36 [some (.ref 0), some (.int x1), some (.int x2), some (.int x3)] [] (mk s t) (Qi q) := by
  intro x1 x2 x3 s t q h
  unfold j_X5_shelf_36 at h
  refine w_li rfl rfl ?_
  refine w_ci rfl ?_
  refine w_ic_ne rfl (fun c1 => ?_) (fun c1 => ?_)
  · replace h := ifn h c1
    exact Wp_fgt (fg_s (fg_s (fg_s (fg_n fg_e)))) (J_X5_shelf_65 _ _ _ _ _ h)
  · replace h := ifp h (Classical.not_not.mp c1)
    refine w_li rfl rfl ?_
    obtain ⟨q2, e2, h⟩ := bnd h
    refine a_st1i rfl (Nat.le_of_ble_eq_true rfl) (T_X5_isPlace e2) ?_
    refine w_if_eq rfl (fun c3 => ?_) (fun c3 => ?_)
    · replace h := ifp h c3
      exact Wp_fgt (fg_s (fg_s (fg_s (fg_n fg_e)))) (J_X5_shelf_65 _ _ _ _ _ h)
    · replace h := ifn h c3
      refine w_la rfl rfl ?_
      refine w_gf rfl (mg_0 _ _) rfl ?_
      refine w_li rfl rfl ?_
      obtain ⟨j4, e4, h⟩ := bnd h
      refine a_aaH rfl e4 (fun r4 w4 hr4 => ?_)
      replace h := wr_of h r4 w4
      refine w_la rfl rfl ?_
      refine w_gf rfl (mg_0 _ _) rfl ?_
      refine w_li rfl rfl ?_
      obtain ⟨j5, e5, h⟩ := bnd h
      refine a_aaS rfl e5 (fun r5 w5 hr5 => ?_)
      replace h := wr_of h r5 w5
      obtain ⟨q6, e6, h⟩ := bnd h
      refine a_vi1v rfl (mgH hr4 _ _) (Nat.le_of_ble_eq_true rfl) (T_X3_holdRow hr4 hr5 e6) ?_
      refine w_ci rfl ?_
      exact a_ri rfl h
set_option maxRecDepth 100000 in
theorem T_X5_shelf  {x1 : Int32} {x2 : Int32} {x3 : Int32} {s : SS} {t : TT} {q : Int32 × SS × TT} (h : f_X5_shelf x1 x2 x3 s t = some q) : Wm 88 [.ref 0, .int x1, .int x2, .int x3] (mk s t) (Qi q) := by
  refine Wm.of pT_88 (Nat.le_of_ble_eq_true rfl) (L0 := [some (.ref 0), some (.int x1), some (.int x2), some (.int x3)]) rfl ?_
  unfold f_X5_shelf at h
  refine w_li rfl rfl ?_
  obtain ⟨q1, e1, h⟩ := bnd h
  refine a_st1i rfl (Nat.le_of_ble_eq_true rfl) (T_X5_isPlace e1) ?_
  refine w_if_ne rfl (fun c2 => ?_) (fun c2 => ?_)
  · replace h := ifn h c2
    refine w_li rfl rfl ?_
    refine w_if_ne rfl (fun c3 => ?_) (fun c3 => ?_)
    · replace h := ifn h c3
      exact Wp_fgt (fg_s (fg_s (fg_s (fg_s fg_e)))) (J_X5_shelf_36 _ _ _ _ _ _ h)
    · replace h := ifp h (Classical.not_not.mp c3)
      refine w_la rfl rfl ?_
      refine w_gf rfl (mg_0 _ _) rfl ?_
      refine w_li rfl rfl ?_
      obtain ⟨q4, e4, h⟩ := bnd h
      refine a_vi1i rfl (mg_1 _ _) (Nat.le_of_ble_eq_true rfl) (T_X1_has (Or.inl rfl) e4) ?_
      refine w_if_eq rfl (fun c5 => ?_) (fun c5 => ?_)
      · replace h := ifp h c5
        exact Wp_fgt (fg_s (fg_s (fg_s (fg_s fg_e)))) (J_X5_shelf_36 _ _ _ _ _ _ h)
      · replace h := ifn h c5
        refine w_la rfl rfl ?_
        refine w_gf rfl (mg_0 _ _) rfl ?_
        refine w_li rfl rfl ?_
        obtain ⟨j6, e6, h⟩ := bnd h
        refine a_aaH rfl e6 (fun r6 w6 hr6 => ?_)
        replace h := wr_of h r6 w6
        refine w_li rfl rfl ?_
        obtain ⟨q7, e7, h⟩ := bnd h
        refine a_vi1v rfl (mgH hr6 _ _) (Nat.le_of_ble_eq_true rfl) (T_X3_holdPerson hr6 e7) ?_
        refine w_ci rfl ?_
        exact a_ri rfl h
  · replace h := ifp h (Classical.not_not.mp c2)
    refine w_ci rfl ?_
    exact a_ri rfl h
