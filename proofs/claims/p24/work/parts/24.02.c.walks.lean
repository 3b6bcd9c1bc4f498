-- X5_weeks
set_option maxRecDepth 100000 in
theorem B_X5_weeks_14  {k14 : Int32 × Int32 × SS × TT → Option (Int32 × SS × TT)} (hk14 : ∀ (x1 : Int32) (x2 : Int32) (s : SS) (t : TT) (q : Int32 × SS × TT), k14 (x1, x2, s, t) = some q → Wp pl_Kc 63 14 [some (.ref 0), some (.int x1), some (.int x2)] [] (mk s t) (Qi q)) : ∀ (x1 : Int32) (x2 : Int32) (s : SS) (t : TT) (q : Int32 × SS × TT), b_X5_weeks_14 k14 x1 x2 s t = some q → Wp pl_Kc 63 14 [some (.ref 0), some (.int x1), some (.int x2)] [] (mk s t) (Qi q) := by
  intro x1 x2 s t q h
  unfold b_X5_weeks_14 at h
  refine w_li rfl rfl ?_
  refine w_li rfl rfl ?_
  refine w_ic_ge rfl (fun c1 => ?_) (fun c1 => ?_)
  · replace h := ifp h c1
    refine w_la rfl rfl ?_
    refine w_gf rfl (mg_0 _ _) rfl ?_
    refine w_la rfl rfl ?_
    refine w_gf rfl (mg_0 _ _) rfl ?_
    refine w_gf rfl (mg_1 _ _) rfl ?_
    obtain ⟨q2, e2, h⟩ := bnd h
    refine a_vi1i rfl (mg_1 _ _) (Nat.le_of_ble_eq_true rfl) (T_X1_sumOf (Or.inl rfl) (fun _ _ => rfl) e2) ?_
    exact a_ri rfl h
  · replace h := ifn h c1
    refine w_la rfl rfl ?_
    refine w_gf rfl (mg_0 _ _) rfl ?_
    refine w_ci rfl ?_
    obtain ⟨q3, e3, h⟩ := bnd h
    refine a_vi1i rfl (mg_1 _ _) (Nat.le_of_ble_eq_true rfl) (T_X1_passWeek (Or.inl rfl) e3) ?_
    refine w_pop rfl rfl ?_
    refine w_inc rfl rfl rfl ?_
    refine w_go rfl ?_
    exact Wp_fgt (fg_s (fg_s (fg_s fg_e))) (hk14 _ _ _ _ _ h)
theorem K_X5_weeks_14  : ∀ (n : Nat) (x1 : Int32) (x2 : Int32) (s : SS) (t : TT) (q : Int32 × SS × TT), l_X5_weeks_14 n (x1, x2, s, t) = some q → Wp pl_Kc 63 14 [some (.ref 0), some (.int x1), some (.int x2)] [] (mk s t) (Qi q)
  | 0, x1, x2, s, t, q, h => by cases (show (none : Option (Int32 × SS × TT)) = some q from h)
  | n + 1, x1, x2, s, t, q, h => B_X5_weeks_14 (K_X5_weeks_14 n) x1 x2 s t q h
set_option maxRecDepth 100000 in
theorem T_X5_weeks  {x1 : Int32} {s : SS} {t : TT} {q : Int32 × SS × TT} (h : f_X5_weeks x1 s t = some q) : Wm 63 [.ref 0, .int x1] (mk s t) (Qi q) := by
  refine Wm.of pT_63 (Nat.le_of_ble_eq_true rfl) (L0 := [some (.ref 0), some (.int x1), none]) rfl ?_
  unfold f_X5_weeks at h
  refine w_li rfl rfl ?_
  refine w_ci rfl ?_
  refine w_ci rfl ?_
  obtain ⟨q1, e1, h⟩ := bnd h
  refine a_st3i rfl (Nat.le_of_ble_eq_true rfl) (T_X5_isWithin e1) ?_
  refine w_if_ne rfl (fun c2 => ?_) (fun c2 => ?_)
  · replace h := ifn h c2
    refine w_ci rfl ?_
    refine w_si rfl (Nat.le_of_ble_eq_true rfl) rfl ?_
    exact Wp_fgt (fg_s (fg_s (fg_s fg_e))) (K_X5_weeks_14 _ _ _ _ _ _ h)
  · replace h := ifp h (Classical.not_not.mp c2)
    refine w_ci rfl ?_
    exact a_ri rfl h
