-- X5_act
set_option maxRecDepth 100000 in
theorem T_X5_act  {x1 : Int32} {x2 : Int32} {x3 : Int32} {s : SS} {t : TT} {q : Int32 × SS × TT} (h : f_X5_act x1 x2 x3 s t = some q) : Wm 90 [.ref 0, .int x1, .int x2, .int x3] (mk s t) (Qi q) := by
  refine Wm.of pT_90 (Nat.le_of_ble_eq_true rfl) (L0 := [some (.ref 0), some (.int x1), some (.int x2), some (.int x3), none, none, none]) rfl ?_
  unfold f_X5_act at h
  refine w_la rfl rfl ?_
  refine w_gf rfl (mg_0 _ _) rfl ?_
  obtain ⟨q1, e1, h⟩ := bnd h
  refine a_vi0v rfl (mg_33 _ _) (Nat.le_of_ble_eq_true rfl) (T_X0_forget e1) ?_
  refine w_li rfl rfl ?_
  obtain ⟨q2, e2, h⟩ := bnd h
  refine a_st1i rfl (Nat.le_of_ble_eq_true rfl) (T_X5_isPlace e2) ?_
  refine w_if_eq rfl (fun c3 => ?_) (fun c3 => ?_)
  · replace h := ifp h c3
    refine w_ci rfl ?_
    exact a_ri rfl h
  · replace h := ifn h c3
    refine w_li rfl rfl ?_
    refine w_ci rfl ?_
    refine w_ci rfl ?_
    obtain ⟨q4, e4, h⟩ := bnd h
    refine a_st3i rfl (Nat.le_of_ble_eq_true rfl) (T_X5_isWithin e4) ?_
    refine w_if_ne rfl (fun c5 => ?_) (fun c5 => ?_)
    · replace h := ifn h c5
      refine w_la rfl rfl ?_
      refine w_gf rfl (mg_0 _ _) rfl ?_
      refine w_li rfl rfl ?_
      obtain ⟨j6, e6, h⟩ := bnd h
      refine a_aaH rfl e6 (fun r6 w6 hr6 => ?_)
      replace h := wr_of h r6 w6
      refine w_sa rfl (Nat.le_of_ble_eq_true rfl) rfl ?_
      refine w_la rfl rfl ?_
      refine w_gf rfl (mgH hr6 _ _) rfl ?_
      refine w_if_ne rfl (fun c7 => ?_) (fun c7 => ?_)
      · replace h := ifn h c7
        refine w_ci rfl ?_
        exact a_ri rfl h
      · replace h := ifp h (Classical.not_not.mp c7)
        refine w_la rfl rfl ?_
        refine w_gf rfl (mg_0 _ _) rfl ?_
        refine w_la rfl rfl ?_
        refine w_gf rfl (mgH hr6 _ _) rfl ?_
        obtain ⟨q8, e8, h⟩ := bnd h
        refine a_vi1i rfl (mg_1 _ _) (Nat.le_of_ble_eq_true rfl) (T_X1_has (Or.inl rfl) e8) ?_
        refine w_if_ne rfl (fun c9 => ?_) (fun c9 => ?_)
        · replace h := ifn h c9
          refine w_la rfl rfl ?_
          refine w_gf rfl (mgH hr6 _ _) rfl ?_
          refine w_si rfl (Nat.le_of_ble_eq_true rfl) rfl ?_
          refine w_la rfl rfl ?_
          refine w_gf rfl (mg_0 _ _) rfl ?_
          refine w_la rfl rfl ?_
          refine w_gf rfl (mg_0 _ _) rfl ?_
          refine w_gf rfl (mg_1 _ _) rfl ?_
          refine w_li rfl rfl ?_
          obtain ⟨j10, e10, h⟩ := bnd h
          refine a_ia rfl (mr_3 _ _ _) e10 ?_
          refine w_li rfl rfl ?_
          refine w_la rfl rfl ?_
          refine w_gf rfl (mg_0 _ _) rfl ?_
          refine w_gf rfl (mg_1 _ _) rfl ?_
          refine w_li rfl rfl ?_
          obtain ⟨j11, e11, h⟩ := bnd h
          refine a_ia rfl (mr_5 _ _ _) e11 ?_
          obtain ⟨q12, e12, h⟩ := bnd h
          refine a_vi3v rfl (mg_33 _ _) (Nat.le_of_ble_eq_true rfl) (T_X0_play e12) ?_
          refine w_la rfl rfl ?_
          refine w_gf rfl (mg_0 _ _) rfl ?_
          refine w_li rfl rfl ?_
          refine w_li rfl rfl ?_
          obtain ⟨q13, e13, h⟩ := bnd h
          refine a_vi2i rfl (mg_33 _ _) (Nat.le_of_ble_eq_true rfl) (T_X0_perform e13) ?_
          refine w_si rfl (Nat.le_of_ble_eq_true rfl) rfl ?_
          refine w_la rfl rfl ?_
          refine w_gf rfl (mg_0 _ _) rfl ?_
          refine w_gf rfl (mg_33 _ _) rfl ?_
          refine w_if_eq rfl (fun c14 => ?_) (fun c14 => ?_)
          · replace h := ifp h c14
            refine w_li rfl rfl ?_
            exact a_ri rfl h
          · replace h := ifn h c14
            refine w_ci rfl ?_
            refine w_go rfl ?_
            exact a_ri rfl h
        · replace h := ifp h (Classical.not_not.mp c9)
          refine w_ci rfl ?_
          exact a_ri rfl h
    · replace h := ifp h (Classical.not_not.mp c5)
      refine w_ci rfl ?_
      exact a_ri rfl h
