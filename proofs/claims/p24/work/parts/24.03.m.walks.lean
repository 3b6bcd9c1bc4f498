-- X5_trace
set_option maxRecDepth 100000 in
theorem T_X5_trace  {x1 : Int32} {s : SS} {t : TT} {q : Int32 × SS × TT} (h : f_X5_trace x1 s t = some q) : Wm 91 [.ref 0, .int x1] (mk s t) (Qi q) := by
  refine Wm.of pT_91 (Nat.le_of_ble_eq_true rfl) (L0 := [some (.ref 0), some (.int x1)]) rfl ?_
  unfold f_X5_trace at h
  refine w_li rfl rfl ?_
  refine w_ci rfl ?_
  refine w_la rfl rfl ?_
  refine w_gf rfl (mg_0 _ _) rfl ?_
  refine w_gf rfl (mg_33 _ _) rfl ?_
  refine w_ci rfl ?_
  refine w_isub rfl ?_
  obtain ⟨q1, e1, h⟩ := bnd h
  refine a_st3i rfl (Nat.le_of_ble_eq_true rfl) (T_X5_isWithin e1) ?_
  refine w_if_eq rfl (fun c2 => ?_) (fun c2 => ?_)
  · replace h := ifp h c2
    refine w_ci rfl ?_
    exact a_ri rfl h
  · replace h := ifn h c2
    refine w_la rfl rfl ?_
    refine w_gf rfl (mg_0 _ _) rfl ?_
    refine w_gf rfl (mg_33 _ _) rfl ?_
    refine w_li rfl rfl ?_
    obtain ⟨j3, e3, h⟩ := bnd h
    refine a_ia rfl (mr_34 _ _ _) e3 ?_
    refine w_go rfl ?_
    exact a_ri rfl h
-- X5_many
set_option maxRecDepth 100000 in
theorem T_X5_many  {x1 : Int32} {s : SS} {t : TT} {q : Int32 × SS × TT} (h : f_X5_many x1 s t = some q) : Wm 92 [.ref 0, .int x1] (mk s t) (Qi q) := by
  refine Wm.of pT_92 (Nat.le_of_ble_eq_true rfl) (L0 := [some (.ref 0), some (.int x1)]) rfl ?_
  unfold f_X5_many at h
  refine w_li rfl rfl ?_
  by_cases c1 : x1 = 0
  · replace h := ifp h c1
    refine w_swI rfl (tg := 44) (by rw [c1]; decide +kernel) ?_
    refine w_la rfl rfl ?_
    refine w_gf rfl (mg_0 _ _) rfl ?_
    refine w_gf rfl (mg_1 _ _) rfl ?_
    exact a_ri rfl h
  replace h := ifn h c1
  by_cases c2 : x1 = 1
  · replace h := ifp h c2
    refine w_swI rfl (tg := 52) (by rw [c2]; decide +kernel) ?_
    refine w_la rfl rfl ?_
    refine w_gf rfl (mg_0 _ _) rfl ?_
    refine w_la rfl rfl ?_
    refine w_gf rfl (mg_0 _ _) rfl ?_
    refine w_gf rfl (mg_1 _ _) rfl ?_
    obtain ⟨q3, e3, h⟩ := bnd h
    refine a_vi1i rfl (mg_1 _ _) (Nat.le_of_ble_eq_true rfl) (T_X1_countOf (Or.inl rfl) (fun _ _ => rfl) e3) ?_
    exact a_ri rfl h
  replace h := ifn h c2
  by_cases c4 : x1 = 2
  · replace h := ifp h c4
    refine w_swI rfl (tg := 67) (by rw [c4]; decide +kernel) ?_
    refine w_la rfl rfl ?_
    refine w_gf rfl (mg_0 _ _) rfl ?_
    refine w_la rfl rfl ?_
    refine w_gf rfl (mg_0 _ _) rfl ?_
    refine w_gf rfl (mg_1 _ _) rfl ?_
    obtain ⟨q5, e5, h⟩ := bnd h
    refine a_vi1i rfl (mg_1 _ _) (Nat.le_of_ble_eq_true rfl) (T_X1_countOf (Or.inl rfl) (fun _ _ => rfl) e5) ?_
    exact a_ri rfl h
  replace h := ifn h c4
  by_cases c6 : x1 = 3
  · replace h := ifp h c6
    refine w_swI rfl (tg := 82) (by rw [c6]; decide +kernel) ?_
    refine w_la rfl rfl ?_
    refine w_gf rfl (mg_0 _ _) rfl ?_
    obtain ⟨q7, e7, h⟩ := bnd h
    refine a_vi0i rfl (mg_1 _ _) (Nat.le_of_ble_eq_true rfl) (T_X1_readySet (Or.inl rfl) e7) ?_
    obtain ⟨q8, e8, h⟩ := bnd h
    refine a_st1i rfl (Nat.le_of_ble_eq_true rfl) (T_bitCount e8) ?_
    exact a_ri rfl h
  replace h := ifn h c6
  by_cases c9 : x1 = 4
  · replace h := ifp h c9
    refine w_swI rfl (tg := 93) (by rw [c9]; decide +kernel) ?_
    refine w_la rfl rfl ?_
    refine w_gf rfl (mg_0 _ _) rfl ?_
    exact a_ri rfl h
  replace h := ifn h c9
  by_cases c10 : x1 = 5
  · replace h := ifp h c10
    refine w_swI rfl (tg := 98) (by rw [c10]; decide +kernel) ?_
    refine w_la rfl rfl ?_
    refine w_gf rfl (mg_0 _ _) rfl ?_
    refine w_gf rfl (mg_28 _ _) rfl ?_
    exact a_ri rfl h
  replace h := ifn h c10
  by_cases c11 : x1 = 6
  · replace h := ifp h c11
    refine w_swI rfl (tg := 106) (by rw [c11]; decide +kernel) ?_
    refine w_la rfl rfl ?_
    refine w_gf rfl (mg_0 _ _) rfl ?_
    refine w_gf rfl (mg_33 _ _) rfl ?_
    exact a_ri rfl h
  replace h := ifn h c11
  refine w_swI rfl (tg := 114) (sw_df (zs := [0, 1, 2, 3, 4, 5, 6]) (swz_c (i32ne c1 rfl) (swz_c (i32ne c2 rfl) (swz_c (i32ne c4 rfl) (swz_c (i32ne c6 rfl) (swz_c (i32ne c9 rfl) (swz_c (i32ne c10 rfl) (swz_c (i32ne c11 rfl) swz_n))))))) (by decide +kernel)) ?_
  refine w_ci rfl ?_
  exact a_ri rfl h
