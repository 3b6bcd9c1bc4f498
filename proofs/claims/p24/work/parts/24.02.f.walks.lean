-- X5_state
set_option maxRecDepth 100000 in
theorem T_X5_state  {x1 : Int32} {s : SS} {t : TT} {q : Int32 × SS × TT} (h : f_X5_state x1 s t = some q) : Wm 67 [.ref 0, .int x1] (mk s t) (Qi q) := by
  refine Wm.of pT_67 (Nat.le_of_ble_eq_true rfl) (L0 := [some (.ref 0), some (.int x1)]) rfl ?_
  unfold f_X5_state at h
  refine w_li rfl rfl ?_
  by_cases c1 : x1 = 0
  · replace h := ifp h c1
    refine w_swI rfl (tg := 40) (by rw [c1]; decide +kernel) ?_
    refine w_la rfl rfl ?_
    refine w_gf rfl (mg_0 _ _) rfl ?_
    refine w_gf rfl (mg_1 _ _) rfl ?_
    exact a_ri rfl h
  replace h := ifn h c1
  by_cases c2 : x1 = 1
  · replace h := ifp h c2
    refine w_swI rfl (tg := 48) (by rw [c2]; decide +kernel) ?_
    refine w_la rfl rfl ?_
    refine w_gf rfl (mg_0 _ _) rfl ?_
    refine w_gf rfl (mg_1 _ _) rfl ?_
    exact a_ri rfl h
  replace h := ifn h c2
  by_cases c3 : x1 = 2
  · replace h := ifp h c3
    refine w_swI rfl (tg := 56) (by rw [c3]; decide +kernel) ?_
    refine w_la rfl rfl ?_
    refine w_gf rfl (mg_0 _ _) rfl ?_
    refine w_la rfl rfl ?_
    refine w_gf rfl (mg_0 _ _) rfl ?_
    refine w_gf rfl (mg_1 _ _) rfl ?_
    obtain ⟨q4, e4, h⟩ := bnd h
    refine a_vi1i rfl (mg_1 _ _) (Nat.le_of_ble_eq_true rfl) (T_X1_sumOf (Or.inl rfl) (fun _ _ => rfl) e4) ?_
    exact a_ri rfl h
  replace h := ifn h c3
  by_cases c5 : x1 = 3
  · replace h := ifp h c5
    refine w_swI rfl (tg := 71) (by rw [c5]; decide +kernel) ?_
    refine w_la rfl rfl ?_
    refine w_gf rfl (mg_0 _ _) rfl ?_
    refine w_la rfl rfl ?_
    refine w_gf rfl (mg_0 _ _) rfl ?_
    refine w_gf rfl (mg_1 _ _) rfl ?_
    obtain ⟨q6, e6, h⟩ := bnd h
    refine a_vi1i rfl (mg_1 _ _) (Nat.le_of_ble_eq_true rfl) (T_X1_sumOf (Or.inl rfl) (fun _ _ => rfl) e6) ?_
    exact a_ri rfl h
  replace h := ifn h c5
  by_cases c7 : x1 = 4
  · replace h := ifp h c7
    refine w_swI rfl (tg := 86) (by rw [c7]; decide +kernel) ?_
    refine w_la rfl rfl ?_
    refine w_gf rfl (mg_0 _ _) rfl ?_
    refine w_la rfl rfl ?_
    refine w_gf rfl (mg_0 _ _) rfl ?_
    refine w_gf rfl (mg_1 _ _) rfl ?_
    obtain ⟨q8, e8, h⟩ := bnd h
    refine a_vi1i rfl (mg_1 _ _) (Nat.le_of_ble_eq_true rfl) (T_X1_sumOf (Or.inl rfl) (fun _ _ => rfl) e8) ?_
    exact a_ri rfl h
  replace h := ifn h c7
  by_cases c9 : x1 = 5
  · replace h := ifp h c9
    refine w_swI rfl (tg := 101) (by rw [c9]; decide +kernel) ?_
    refine w_la rfl rfl ?_
    refine w_gf rfl (mg_0 _ _) rfl ?_
    obtain ⟨q10, e10, h⟩ := bnd h
    refine a_vi0i rfl (mg_1 _ _) (Nat.le_of_ble_eq_true rfl) (T_X1_readySet (Or.inl rfl) e10) ?_
    exact a_ri rfl h
  replace h := ifn h c9
  refine w_swI rfl (tg := 109) (sw_df (zs := [0, 1, 2, 3, 4, 5]) (swz_c (i32ne c1 rfl) (swz_c (i32ne c2 rfl) (swz_c (i32ne c3 rfl) (swz_c (i32ne c5 rfl) (swz_c (i32ne c7 rfl) (swz_c (i32ne c9 rfl) swz_n)))))) (by decide +kernel)) ?_
  refine w_ci rfl ?_
  exact a_ri rfl h
