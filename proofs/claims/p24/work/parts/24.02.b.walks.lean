-- X5_own
set_option maxRecDepth 100000 in
theorem T_X5_own  {x1 : Int32} {x2 : Int32} {s : SS} {t : TT} {q : Int32 × SS × TT} (h : f_X5_own x1 x2 s t = some q) : Wm 61 [.ref 0, .int x1, .int x2] (mk s t) (Qi q) := by
  refine Wm.of pT_61 (Nat.le_of_ble_eq_true rfl) (L0 := [some (.ref 0), some (.int x1), some (.int x2), none]) rfl ?_
  unfold f_X5_own at h
  refine w_la rfl rfl ?_
  refine w_gf rfl (mg_0 _ _) rfl ?_
  refine w_li rfl rfl ?_
  obtain ⟨q1, e1, h⟩ := bnd h
  refine a_vi1i rfl (mg_1 _ _) (Nat.le_of_ble_eq_true rfl) (T_X1_has (Or.inl rfl) e1) ?_
  refine w_if_eq rfl (fun c2 => ?_) (fun c2 => ?_)
  · replace h := ifp h c2
    refine w_ci rfl ?_
    exact a_ri rfl h
  · replace h := ifn h c2
    refine w_li rfl rfl ?_
    refine w_ci rfl ?_
    refine w_ci rfl ?_
    obtain ⟨q3, e3, h⟩ := bnd h
    refine a_st3i rfl (Nat.le_of_ble_eq_true rfl) (T_X5_isWithin e3) ?_
    refine w_if_ne rfl (fun c4 => ?_) (fun c4 => ?_)
    · replace h := ifn h c4
      refine w_la rfl rfl ?_
      refine w_gf rfl (mg_0 _ _) rfl ?_
      refine w_gf rfl (mg_1 _ _) rfl ?_
      refine w_li rfl rfl ?_
      obtain ⟨j5, e5, h⟩ := bnd h
      refine a_ia rfl (mr_6 _ _ _) e5 ?_
      refine w_si rfl (Nat.le_of_ble_eq_true rfl) rfl ?_
      refine w_la rfl rfl ?_
      refine w_gf rfl (mg_0 _ _) rfl ?_
      refine w_gf rfl (mg_1 _ _) rfl ?_
      refine w_li rfl rfl ?_
      refine w_li rfl rfl ?_
      obtain ⟨j6, e6, h⟩ := bnd h
      refine a_is rfl (mg_6 _ _) (ms_6 _ _) e6 (fun s6 w6 => ?_)
      replace h := wr_of h s6 w6
      refine w_li rfl rfl ?_
      exact a_ri rfl h
    · replace h := ifp h (Classical.not_not.mp c4)
      refine w_ci rfl ?_
      exact a_ri rfl h
-- X5_give
set_option maxRecDepth 100000 in
theorem T_X5_give  {x1 : Int32} {x2 : Int32} {s : SS} {t : TT} {q : Int32 × SS × TT} (h : f_X5_give x1 x2 s t = some q) : Wm 62 [.ref 0, .int x1, .int x2] (mk s t) (Qi q) := by
  refine Wm.of pT_62 (Nat.le_of_ble_eq_true rfl) (L0 := [some (.ref 0), some (.int x1), some (.int x2)]) rfl ?_
  unfold f_X5_give at h
  refine w_la rfl rfl ?_
  refine w_gf rfl (mg_0 _ _) rfl ?_
  refine w_li rfl rfl ?_
  obtain ⟨q1, e1, h⟩ := bnd h
  refine a_vi1i rfl (mg_1 _ _) (Nat.le_of_ble_eq_true rfl) (T_X1_has (Or.inl rfl) e1) ?_
  refine w_if_eq rfl (fun c2 => ?_) (fun c2 => ?_)
  · replace h := ifp h c2
    refine w_ci rfl ?_
    exact a_ri rfl h
  · replace h := ifn h c2
    refine w_la rfl rfl ?_
    refine w_gf rfl (mg_0 _ _) rfl ?_
    refine w_li rfl rfl ?_
    obtain ⟨q3, e3, h⟩ := bnd h
    refine a_vi1i rfl (mg_1 _ _) (Nat.le_of_ble_eq_true rfl) (T_X1_has (Or.inl rfl) e3) ?_
    refine w_if_eq rfl (fun c4 => ?_) (fun c4 => ?_)
    · replace h := ifp h c4
      refine w_ci rfl ?_
      exact a_ri rfl h
    · replace h := ifn h c4
      refine w_li rfl rfl ?_
      refine w_li rfl rfl ?_
      refine w_ic_ne rfl (fun c5 => ?_) (fun c5 => ?_)
      · replace h := ifn h c5
        refine w_la rfl rfl ?_
        refine w_gf rfl (mg_0 _ _) rfl ?_
        refine w_gf rfl (mg_1 _ _) rfl ?_
        refine w_li rfl rfl ?_
        obtain ⟨j6, e6, h⟩ := bnd h
        refine a_ia rfl (mr_6 _ _ _) e6 ?_
        refine w_if_eq rfl (fun c7 => ?_) (fun c7 => ?_)
        · replace h := ifp h c7
          refine w_ci rfl ?_
          exact a_ri rfl h
        · replace h := ifn h c7
          refine w_la rfl rfl ?_
          refine w_gf rfl (mg_0 _ _) rfl ?_
          refine w_gf rfl (mg_1 _ _) rfl ?_
          refine w_li rfl rfl ?_
          obtain ⟨j8, e8, h⟩ := bnd h
          refine a_ia rfl (mr_6 _ _ _) e8 ?_
          refine w_ci rfl ?_
          refine w_ic_lt rfl (fun c9 => ?_) (fun c9 => ?_)
          · replace h := ifp h c9
            refine w_la rfl rfl ?_
            refine w_gf rfl (mg_0 _ _) rfl ?_
            refine w_gf rfl (mg_1 _ _) rfl ?_
            refine w_li rfl rfl ?_
            refine w_dup2 rfl rfl rfl ?_
            obtain ⟨j10, e10, h⟩ := bnd h
            refine a_ia rfl (mr_6 _ _ _) e10 ?_
            refine w_ci rfl ?_
            refine w_isub rfl ?_
            obtain ⟨j11, e11, h⟩ := bnd h
            refine a_is rfl (mg_6 _ _) (ms_6 _ _) e11 (fun s11 w11 => ?_)
            replace h := wr_of h s11 w11
            refine w_la rfl rfl ?_
            refine w_gf rfl (mg_0 _ _) rfl ?_
            refine w_gf rfl (mg_1 _ _) rfl ?_
            refine w_li rfl rfl ?_
            refine w_dup2 rfl rfl rfl ?_
            obtain ⟨j12, e12, h⟩ := bnd h
            refine a_ia rfl (mr_6 _ _ _) e12 ?_
            refine w_ci rfl ?_
            refine w_iadd rfl ?_
            obtain ⟨j13, e13, h⟩ := bnd h
            refine a_is rfl (mg_6 _ _) (ms_6 _ _) e13 (fun s13 w13 => ?_)
            replace h := wr_of h s13 w13
            refine w_la rfl rfl ?_
            refine w_gf rfl (mg_0 _ _) rfl ?_
            refine w_gf rfl (mg_1 _ _) rfl ?_
            refine w_li rfl rfl ?_
            obtain ⟨j14, e14, h⟩ := bnd h
            refine a_ia rfl (mr_6 _ _ _) e14 ?_
            exact a_ri rfl h
          · replace h := ifn h c9
            refine w_ci rfl ?_
            exact a_ri rfl h
      · replace h := ifp h (Classical.not_not.mp c5)
        refine w_ci rfl ?_
        exact a_ri rfl h
