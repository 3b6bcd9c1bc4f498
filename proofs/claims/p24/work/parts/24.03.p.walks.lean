-- X6_isOne
set_option maxRecDepth 100000 in
theorem T_X6_isOne  {x1 : Int32} {s : SS} {t : TT} {q : Int32 × SS × TT} (h : f_X6_isOne x1 s t = some q) : Wm 113 [.ref 51, .int x1] (mk s t) (Qi q) := by
  refine Wm.of pT_113 (Nat.le_of_ble_eq_true rfl) (L0 := [some (.ref 51), some (.int x1)]) rfl ?_
  unfold f_X6_isOne at h
  refine w_li rfl rfl ?_
  refine w_ci rfl ?_
  refine w_la rfl rfl ?_
  refine w_gf rfl (mg_51 _ _) rfl ?_
  refine w_ci rfl ?_
  obtain ⟨j1, e1, h⟩ := bnd h
  refine a_ia rfl (mr_52 _ _ _) e1 ?_
  refine w_ci rfl ?_
  refine w_isub rfl ?_
  obtain ⟨q2, e2, h⟩ := bnd h
  refine a_st3i rfl (Nat.le_of_ble_eq_true rfl) (T_X6_in e2) ?_
  exact a_rzc rfl h
-- X6_its
set_option maxRecDepth 100000 in
theorem T_X6_its  {x1 : Int32} {x2 : Int32} {s : SS} {t : TT} {q : Int32 × SS × TT} (h : f_X6_its x1 x2 s t = some q) : Wm 114 [.ref 51, .int x1, .int x2] (mk s t) (Qi q) := by
  refine Wm.of pT_114 (Nat.le_of_ble_eq_true rfl) (L0 := [some (.ref 51), some (.int x1), some (.int x2)]) rfl ?_
  unfold f_X6_its at h
  refine w_la rfl rfl ?_
  refine w_gf rfl (mg_51 _ _) rfl ?_
  refine w_ci rfl ?_
  refine w_ci rfl ?_
  refine w_li rfl rfl ?_
  refine w_imul rfl ?_
  refine w_iadd rfl ?_
  refine w_li rfl rfl ?_
  refine w_iadd rfl ?_
  obtain ⟨j1, e1, h⟩ := bnd h
  refine a_ia rfl (mr_52 _ _ _) e1 ?_
  exact a_ri rfl h
