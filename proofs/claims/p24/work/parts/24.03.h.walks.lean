-- X5_narrowed
set_option maxRecDepth 100000 in
theorem T_X5_narrowed  {x0 : Int32} {x1 : Int32} {s : SS} {t : TT} {q : Int64 × SS × TT} (h : f_X5_narrowed x0 x1 s t = some q) : Wm 107 [.int x0, .int x1] (mk s t) (Ql q) := by
  refine Wm.of pT_107 (Nat.le_of_ble_eq_true rfl) (L0 := [some (.int x0), some (.int x1)]) rfl ?_
  unfold f_X5_narrowed at h
  refine w_li rfl rfl ?_
  refine w_if_ne rfl (fun c1 => ?_) (fun c1 => ?_)
  · replace h := ifn h c1
    refine w_li rfl rfl ?_
    refine w_ci rfl ?_
    refine w_ic_ne rfl (fun c2 => ?_) (fun c2 => ?_)
    · replace h := ifn h c2
      refine w_li rfl rfl ?_
      refine w_i2l rfl ?_
      exact a_rl rfl h
    · replace h := ifp h (Classical.not_not.mp c2)
      refine w_li rfl rfl ?_
      refine w_i2s rfl ?_
      refine w_i2l rfl ?_
      refine w_go rfl ?_
      exact a_rl rfl h
  · replace h := ifp h (Classical.not_not.mp c1)
    refine w_li rfl rfl ?_
    refine w_i2b rfl ?_
    refine w_i2l rfl ?_
    exact a_rl rfl h
-- X5_put
set_option maxRecDepth 100000 in
theorem T_X5_put  {x1 : Int32} {x2 : Int32} {x3 : Int32} {s : SS} {t : TT} {q : Int32 × SS × TT} (h : f_X5_put x1 x2 x3 s t = some q) : Wm 86 [.ref 0, .int x1, .int x2, .int x3] (mk s t) (Qi q) := by
  refine Wm.of pT_86 (Nat.le_of_ble_eq_true rfl) (L0 := [some (.ref 0), some (.int x1), some (.int x2), some (.int x3), none]) rfl ?_
  unfold f_X5_put at h
  refine w_li rfl rfl ?_
  obtain ⟨q1, e1, h⟩ := bnd h
  refine a_st1i rfl (Nat.le_of_ble_eq_true rfl) (T_X5_isPlace e1) ?_
  refine w_if_ne rfl (fun c2 => ?_) (fun c2 => ?_)
  · replace h := ifn h c2
    refine w_la rfl rfl ?_
    refine w_gf rfl (mg_0 _ _) rfl ?_
    refine w_li rfl rfl ?_
    obtain ⟨j3, e3, h⟩ := bnd h
    refine a_aaS rfl e3 (fun r3 w3 hr3 => ?_)
    replace h := wr_of h r3 w3
    refine w_sa rfl (Nat.le_of_ble_eq_true rfl) rfl ?_
    refine w_la rfl rfl ?_
    refine w_gf rfl (mgS hr3 _ _) rfl ?_
    refine w_ci rfl ?_
    refine w_ic_ne rfl (fun c4 => ?_) (fun c4 => ?_)
    · replace h := ifn h c4
      refine w_li rfl rfl ?_
      refine w_ci rfl ?_
      refine w_la rfl rfl ?_
      refine w_gf rfl (mgS hr3 _ _) rfl ?_
      refine w_ci rfl ?_
      refine w_isub rfl ?_
      obtain ⟨q5, e5, h⟩ := bnd h
      refine a_st3i rfl (Nat.le_of_ble_eq_true rfl) (T_X5_isWithin e5) ?_
      refine w_if_ne rfl (fun c6 => ?_) (fun c6 => ?_)
      · replace h := ifn h c6
        refine w_la rfl rfl ?_
        refine w_gf rfl (mgS hr3 _ _) rfl ?_
        refine w_li rfl rfl ?_
        refine w_la rfl rfl ?_
        refine w_gf rfl (mgS hr3 _ _) rfl ?_
        refine w_li rfl rfl ?_
        obtain ⟨q7, e7, h⟩ := bnd h
        refine a_st2l rfl (Nat.le_of_ble_eq_true rfl) (T_X5_narrowed e7) ?_
        obtain ⟨j8, e8, h⟩ := bnd h
        refine a_js rfl (mgS_1 hr3 _ _) (msS_1 hr3 _ _) e8 (fun t8 w8 => ?_)
        replace h := wr_of h t8 w8
        refine w_ci rfl ?_
        exact a_ri rfl h
      · replace h := ifp h (Classical.not_not.mp c6)
        refine w_ci rfl ?_
        exact a_ri rfl h
    · replace h := ifp h (Classical.not_not.mp c4)
      refine w_ci rfl ?_
      exact a_ri rfl h
  · replace h := ifp h (Classical.not_not.mp c2)
    refine w_ci rfl ?_
    exact a_ri rfl h
