-- X5_item
set_option maxRecDepth 100000 in
theorem T_X5_item  {x1 : Int32} {x2 : Int32} {x3 : Int32} {s : SS} {t : TT} {q : Int32 × SS × TT} (h : f_X5_item x1 x2 x3 s t = some q) : Wm 87 [.ref 0, .int x1, .int x2, .int x3] (mk s t) (Qi q) := by
  refine Wm.of pT_87 (Nat.le_of_ble_eq_true rfl) (L0 := [some (.ref 0), some (.int x1), some (.int x2), some (.int x3), none]) rfl ?_
  unfold f_X5_item at h
  refine w_li rfl rfl ?_
  obtain ⟨q1, e1, h⟩ := bnd h
  refine a_st1i rfl (Nat.le_of_ble_eq_true rfl) (T_X5_isPlace e1) ?_
  refine w_if_eq rfl (fun c2 => ?_) (fun c2 => ?_)
  · replace h := ifp h c2
    refine w_ci rfl ?_
    exact a_ri rfl h
  · replace h := ifn h c2
    refine w_li rfl rfl ?_
    refine w_ci rfl ?_
    refine w_ci rfl ?_
    obtain ⟨q3, e3, h⟩ := bnd h
    refine a_st3i rfl (Nat.le_of_ble_eq_true rfl) (T_X5_isWithin e3) ?_
    refine w_if_ne rfl (fun c4 => ?_) (fun c4 => ?_)
    · replace h := ifn h c4
      refine w_la rfl rfl ?_
      refine w_gf rfl (mg_0 _ _) rfl ?_
      refine w_li rfl rfl ?_
      obtain ⟨j5, e5, h⟩ := bnd h
      refine a_aaS rfl e5 (fun r5 w5 hr5 => ?_)
      replace h := wr_of h r5 w5
      refine w_sa rfl (Nat.le_of_ble_eq_true rfl) rfl ?_
      refine w_la rfl rfl ?_
      refine w_gf rfl (mgS hr5 _ _) rfl ?_
      refine w_ci rfl ?_
      refine w_ic_ne rfl (fun c6 => ?_) (fun c6 => ?_)
      · replace h := ifn h c6
        refine w_la rfl rfl ?_
        refine w_gf rfl (mgS hr5 _ _) rfl ?_
        refine w_li rfl rfl ?_
        refine w_ic_eq rfl (fun c7 => ?_) (fun c7 => ?_)
        · replace h := ifp h c7
          refine w_li rfl rfl ?_
          refine w_ci rfl ?_
          refine w_la rfl rfl ?_
          refine w_gf rfl (mgS hr5 _ _) rfl ?_
          refine w_ci rfl ?_
          refine w_isub rfl ?_
          obtain ⟨q8, e8, h⟩ := bnd h
          refine a_st3i rfl (Nat.le_of_ble_eq_true rfl) (T_X5_isWithin e8) ?_
          refine w_if_eq rfl (fun c9 => ?_) (fun c9 => ?_)
          · replace h := ifp h c9
            refine w_ci rfl ?_
            exact a_ri rfl h
          · replace h := ifn h c9
            refine w_la rfl rfl ?_
            refine w_gf rfl (mgS hr5 _ _) rfl ?_
            refine w_li rfl rfl ?_
            obtain ⟨j10, e10, h⟩ := bnd h
            refine a_ja rfl (mgS_1 hr5 _ _) e10 ?_
            refine w_l2i rfl ?_
            refine w_go rfl ?_
            exact a_ri rfl h
        · replace h := ifn h c7
          refine w_ci rfl ?_
          exact a_ri rfl h
      · replace h := ifp h (Classical.not_not.mp c6)
        refine w_ci rfl ?_
        exact a_ri rfl h
    · replace h := ifp h (Classical.not_not.mp c4)
      refine w_ci rfl ?_
      exact a_ri rfl h
