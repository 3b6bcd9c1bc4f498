-- X5_judge
set_option maxRecDepth 100000 in
theorem B_X5_judge_20  {k20 : Int32 × Int32 × SS × TT → Option (Int32 × SS × TT)} (hk20 : ∀ (x1 : Int32) (x3 : Int32) (s : SS) (t : TT) (q : Int32 × SS × TT), k20 (x1, x3, s, t) = some q → Wp pl_Kc 83 20 [some (.ref 0), some (.int x1), some (.ref 19), some (.int x3), none] [] (mk s t) (Qi q)) : ∀ (x1 : Int32) (x3 : Int32) (s : SS) (t : TT) (q : Int32 × SS × TT), b_X5_judge_20 k20 x1 x3 s t = some q → Wp pl_Kc 83 20 [some (.ref 0), some (.int x1), some (.ref 19), some (.int x3), none] [] (mk s t) (Qi q) := by
  intro x1 x3 s t q h
  unfold b_X5_judge_20 at h
  refine w_li rfl rfl ?_
  refine w_la rfl rfl ?_
  refine w_gf rfl (mg_0 _ _) rfl ?_
  refine w_ic_ge rfl (fun c1 => ?_) (fun c1 => ?_)
  · replace h := ifp h c1
    refine w_ci rfl ?_
    exact a_ri rfl h
  · replace h := ifn h c1
    refine w_la rfl rfl ?_
    refine w_ci rfl ?_
    obtain ⟨q2, e2, h⟩ := bnd h
    refine a_vi1i rfl (mg_19 _ _) (Nat.le_of_ble_eq_true rfl) (T_X1_passWeek (Or.inr (Or.inr rfl)) e2) ?_
    refine w_si rfl (Nat.le_of_ble_eq_true rfl) rfl ?_
    refine w_la rfl rfl ?_
    refine w_gf rfl (mg_0 _ _) rfl ?_
    refine w_li rfl rfl ?_
    refine w_ci rfl ?_
    refine w_imul rfl ?_
    obtain ⟨j3, e3, h⟩ := bnd h
    refine a_ia rfl (mr_49 _ _ _) e3 ?_
    refine w_la rfl rfl ?_
    refine w_gf rfl (mg_19 _ _) rfl ?_
    refine w_li rfl rfl ?_
    obtain ⟨j4, e4, h⟩ := bnd h
    refine a_ia rfl (mr_22 _ _ _) e4 ?_
    refine w_ic_ne rfl (fun c5 => ?_) (fun c5 => ?_)
    · replace h := ifn h c5
      refine w_li rfl rfl ?_
      refine w_ci rfl ?_
      refine w_iadd rfl ?_
      exact a_ri rfl h
    · replace h := ifp h (Classical.not_not.mp c5)
      refine w_la rfl rfl ?_
      refine w_gf rfl (mg_0 _ _) rfl ?_
      refine w_li rfl rfl ?_
      refine w_ci rfl ?_
      refine w_imul rfl ?_
      refine w_ci rfl ?_
      refine w_iadd rfl ?_
      obtain ⟨j6, e6, h⟩ := bnd h
      refine a_ia rfl (mr_49 _ _ _) e6 ?_
      refine w_la rfl rfl ?_
      refine w_gf rfl (mg_19 _ _) rfl ?_
      refine w_li rfl rfl ?_
      obtain ⟨j7, e7, h⟩ := bnd h
      refine a_ia rfl (mr_24 _ _ _) e7 ?_
      refine w_ic_ne rfl (fun c8 => ?_) (fun c8 => ?_)
      · replace h := ifn h c8
        refine w_li rfl rfl ?_
        refine w_ci rfl ?_
        refine w_iadd rfl ?_
        exact a_ri rfl h
      · replace h := ifp h (Classical.not_not.mp c8)
        refine w_la rfl rfl ?_
        refine w_gf rfl (mg_0 _ _) rfl ?_
        refine w_li rfl rfl ?_
        refine w_ci rfl ?_
        refine w_imul rfl ?_
        refine w_ci rfl ?_
        refine w_iadd rfl ?_
        obtain ⟨j9, e9, h⟩ := bnd h
        refine a_ia rfl (mr_49 _ _ _) e9 ?_
        refine w_li rfl rfl ?_
        refine w_ic_eq rfl (fun c10 => ?_) (fun c10 => ?_)
        · replace h := ifp h c10
          refine w_inc rfl rfl rfl ?_
          refine w_go rfl ?_
          exact Wp_fgt (fg_s (fg_s (fg_s (fg_s (fg_n fg_e))))) (hk20 _ _ _ _ _ h)
        · replace h := ifn h c10
          refine w_li rfl rfl ?_
          refine w_ci rfl ?_
          refine w_iadd rfl ?_
          exact a_ri rfl h
theorem K_X5_judge_20  : ∀ (n : Nat) (x1 : Int32) (x3 : Int32) (s : SS) (t : TT) (q : Int32 × SS × TT), l_X5_judge_20 n (x1, x3, s, t) = some q → Wp pl_Kc 83 20 [some (.ref 0), some (.int x1), some (.ref 19), some (.int x3), none] [] (mk s t) (Qi q)
  | 0, x1, x3, s, t, q, h => by cases (show (none : Option (Int32 × SS × TT)) = some q from h)
  | n + 1, x1, x3, s, t, q, h => B_X5_judge_20 (K_X5_judge_20 n) x1 x3 s t q h
set_option maxRecDepth 100000 in
theorem T_X5_judge  {x1 : Int32} {s : SS} {t : TT} {q : Int32 × SS × TT} (h : f_X5_judge x1 s t = some q) : Wm 83 [.ref 0, .int x1] (mk s t) (Qi q) := by
  refine Wm.of pT_83 (Nat.le_of_ble_eq_true rfl) (L0 := [some (.ref 0), some (.int x1), none, none, none]) rfl ?_
  unfold f_X5_judge at h
  refine w_la rfl rfl ?_
  refine w_gf rfl (mg_0 _ _) rfl ?_
  refine w_li rfl rfl ?_
  obtain ⟨q1, e1, h⟩ := bnd h
  refine a_vi1i rfl (mg_1 _ _) (Nat.le_of_ble_eq_true rfl) (T_X1_has (Or.inl rfl) e1) ?_
  refine w_if_ne rfl (fun c2 => ?_) (fun c2 => ?_)
  · replace h := ifn h c2
    refine w_la rfl rfl ?_
    obtain ⟨q3, e3, h⟩ := bnd h
    refine a_vi0t rfl (mg_0 _ _) (Nat.le_of_ble_eq_true rfl) (T_X5_trial e3) ?_
    refine w_sa rfl (Nat.le_of_ble_eq_true rfl) rfl ?_
    refine w_ci rfl ?_
    refine w_si rfl (Nat.le_of_ble_eq_true rfl) rfl ?_
    exact Wp_fgt (fg_s (fg_s (fg_s (fg_s (fg_n fg_e))))) (K_X5_judge_20 _ _ _ _ _ _ h)
  · replace h := ifp h (Classical.not_not.mp c2)
    refine w_ci rfl ?_
    exact a_ri rfl h
