-- X5_kindFor
set_option maxRecDepth 100000 in
theorem B_X5_kindFor_31  {k31 : Int32 × Int32 × Int32 × Int32 × Int32 × SS × TT → Option (Int32 × SS × TT)} (hk31 : ∀ (x1 : Int32) (x2 : Int32) (x3 : Int32) (x4 : Int32) (x5 : Int32) (s : SS) (t : TT) (q : Int32 × SS × TT), k31 (x1, x2, x3, x4, x5, s, t) = some q → Wp pl_Kc 72 31 [some (.ref 0), some (.int x1), some (.int x2), some (.int x3), some (.int x4), some (.int x5), none, none] [] (mk s t) (Qi q)) : ∀ (x1 : Int32) (x2 : Int32) (x3 : Int32) (x4 : Int32) (x5 : Int32) (s : SS) (t : TT) (q : Int32 × SS × TT), b_X5_kindFor_31 k31 x1 x2 x3 x4 x5 s t = some q → Wp pl_Kc 72 31 [some (.ref 0), some (.int x1), some (.int x2), some (.int x3), some (.int x4), some (.int x5), none, none] [] (mk s t) (Qi q) := by
  intro x1 x2 x3 x4 x5 s t q h
  unfold b_X5_kindFor_31 at h
  refine w_li rfl rfl ?_
  refine w_ci rfl ?_
  refine w_ic_gt rfl (fun c1 => ?_) (fun c1 => ?_)
  · replace h := ifp h c1
    refine w_li rfl rfl ?_
    exact a_ri rfl h
  · replace h := ifn h c1
    refine w_la rfl rfl ?_
    obtain ⟨q2, e2, h⟩ := bnd h
    refine a_vi0t rfl (mg_0 _ _) (Nat.le_of_ble_eq_true rfl) (T_X5_trial e2) ?_
    refine w_sa rfl (Nat.le_of_ble_eq_true rfl) rfl ?_
    refine w_la rfl rfl ?_
    refine w_gf rfl (mg_19 _ _) rfl ?_
    refine w_li rfl rfl ?_
    refine w_li rfl rfl ?_
    obtain ⟨j3, e3, h⟩ := bnd h
    refine a_is rfl (mg_21 _ _) (ms_21 _ _) e3 (fun s3 w3 => ?_)
    replace h := wr_of h s3 w3
    refine w_la rfl rfl ?_
    refine w_li rfl rfl ?_
    refine w_ci rfl ?_
    obtain ⟨q4, e4, h⟩ := bnd h
    refine a_st3i rfl (Nat.le_of_ble_eq_true rfl) (T_X5_wordsBy (Or.inr (Or.inr rfl)) e4) ?_
    refine w_si rfl (Nat.le_of_ble_eq_true rfl) rfl ?_
    refine w_li rfl rfl ?_
    refine w_li rfl rfl ?_
    refine w_ic_le rfl (fun c5 => ?_) (fun c5 => ?_)
    · replace h := ifp h c5
      refine w_inc rfl rfl rfl ?_
      refine w_go rfl ?_
      exact Wp_fgt (fg_s (fg_s (fg_s (fg_s (fg_s (fg_s (fg_n (fg_n fg_e)))))))) (hk31 _ _ _ _ _ _ _ _ h)
    · replace h := ifn h c5
      refine w_li rfl rfl ?_
      refine w_si rfl (Nat.le_of_ble_eq_true rfl) rfl ?_
      refine w_li rfl rfl ?_
      refine w_si rfl (Nat.le_of_ble_eq_true rfl) rfl ?_
      refine w_inc rfl rfl rfl ?_
      refine w_go rfl ?_
      exact Wp_fgt (fg_s (fg_s (fg_s (fg_s (fg_s (fg_s (fg_n (fg_n fg_e)))))))) (hk31 _ _ _ _ _ _ _ _ h)
