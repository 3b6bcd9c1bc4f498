-- walks
set_option maxRecDepth 100000 in
theorem B_X5_leastPacking_7  {k7 : Int32 × Int32 × Int32 × Int32 × SS × TT → Option (Int32 × SS × TT)} (hk7 : ∀ (x1 : Int32) (x2 : Int32) (x3 : Int32) (x4 : Int32) (s : SS) (t : TT) (q : Int32 × SS × TT), k7 (x1, x2, x3, x4, s, t) = some q → Wp pl_Kc 103 7 [some (.ref 0), some (.int x1), some (.int x2), some (.int x3), some (.int x4), none, none, none, none] [] (mk s t) (Qi q)) : ∀ (x1 : Int32) (x2 : Int32) (x3 : Int32) (x4 : Int32) (s : SS) (t : TT) (q : Int32 × SS × TT), b_X5_leastPacking_7 k7 x1 x2 x3 x4 s t = some q → Wp pl_Kc 103 7 [some (.ref 0), some (.int x1), some (.int x2), some (.int x3), some (.int x4), none, none, none, none] [] (mk s t) (Qi q) := by
  intro x1 x2 x3 x4 s t q h
  unfold b_X5_leastPacking_7 at h
  refine w_li rfl rfl ?_
  refine w_la rfl rfl ?_
  refine w_gf rfl (mg_0 _ _) rfl ?_
  refine w_gf rfl (mg_1 _ _) rfl ?_
  refine w_ic_ge rfl (fun c1 => ?_) (fun c1 => ?_)
  · replace h := ifp h c1
    refine w_li rfl rfl ?_
    exact a_ri rfl h
  · replace h := ifn h c1
    refine w_li rfl rfl ?_
    refine w_li rfl rfl ?_
    refine w_ishr rfl ?_
    refine w_ci rfl ?_
    refine w_iand rfl ?_
    refine w_if_ne rfl (fun c2 => ?_) (fun c2 => ?_)
    · replace h := ifn h c2
      refine w_la rfl rfl ?_
      refine w_gf rfl (mg_0 _ _) rfl ?_
      refine w_li rfl rfl ?_
      refine w_ci rfl ?_
      refine w_li rfl rfl ?_
      refine w_ishl rfl ?_
      refine w_ci rfl ?_
      refine w_ixor rfl ?_
      refine w_iand rfl ?_
      obtain ⟨j3, e3, h⟩ := bnd h
      refine a_ia rfl (mr_50 _ _ _) e3 ?_
      refine w_si rfl (Nat.le_of_ble_eq_true rfl) rfl ?_
      refine w_la rfl rfl ?_
      refine w_gf rfl (mg_0 _ _) rfl ?_
      refine w_gf rfl (mg_1 _ _) rfl ?_
      refine w_li rfl rfl ?_
      obtain ⟨j4, e4, h⟩ := bnd h
      refine a_ia rfl (mr_4 _ _ _) e4 ?_
      refine w_si rfl (Nat.le_of_ble_eq_true rfl) rfl ?_
      refine w_li rfl rfl ?_
      refine w_li rfl rfl ?_
      refine w_iadd rfl ?_
      refine w_si rfl (Nat.le_of_ble_eq_true rfl) rfl ?_
      refine w_li rfl rfl ?_
      refine w_ci rfl ?_
      refine w_idiv rfl (by decide) ?_
      refine w_ci rfl ?_
      refine w_iadd rfl ?_
      refine w_ci rfl ?_
      refine w_imul rfl ?_
      refine w_li rfl rfl ?_
      refine w_iadd rfl ?_
      refine w_si rfl (Nat.le_of_ble_eq_true rfl) rfl ?_
      refine w_li rfl rfl ?_
      refine w_li rfl rfl ?_
      refine w_ci rfl ?_
      refine w_irem rfl (by decide) ?_
      refine w_li rfl rfl ?_
      refine w_iadd rfl ?_
      refine w_li rfl rfl ?_
      refine w_ic_gt rfl (fun c5 => ?_) (fun c5 => ?_)
      · replace h := ifp h c5
        refine w_li rfl rfl ?_
        exact Wp_fgt (fg_s (fg_s (fg_s (fg_n (fg_s (fg_n (fg_n (fg_n (fg_n fg_e))))))))) (J_X5_leastPacking_100 hk7 _ _ _ _ _ _ _ _ h)
      · replace h := ifn h c5
        refine w_li rfl rfl ?_
        refine w_go rfl ?_
        exact Wp_fgt (fg_s (fg_s (fg_s (fg_n (fg_s (fg_n (fg_n (fg_n (fg_n fg_e))))))))) (J_X5_leastPacking_100 hk7 _ _ _ _ _ _ _ _ h)
    · replace h := ifp h (Classical.not_not.mp c2)
      refine w_go rfl ?_
      refine w_inc rfl rfl rfl ?_
      refine w_go rfl ?_
      exact Wp_fgt (fg_s (fg_s (fg_s (fg_s (fg_s (fg_n (fg_n (fg_n (fg_n fg_e))))))))) (hk7 _ _ _ _ _ _ _ h)
