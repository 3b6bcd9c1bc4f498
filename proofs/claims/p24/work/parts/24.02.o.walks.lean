-- X5_isPlace
set_option maxRecDepth 100000 in
theorem T_X5_isPlace  {x0 : Int32} {s : SS} {t : TT} {q : Int32 × SS × TT} (h : f_X5_isPlace x0 s t = some q) : Wm 97 [.int x0] (mk s t) (Qi q) := by
  refine Wm.of pT_97 (Nat.le_of_ble_eq_true rfl) (L0 := [some (.int x0)]) rfl ?_
  unfold f_X5_isPlace at h
  refine w_li rfl rfl ?_
  refine w_ci rfl ?_
  refine w_ci rfl ?_
  obtain ⟨q1, e1, h⟩ := bnd h
  refine a_st3i rfl (Nat.le_of_ble_eq_true rfl) (T_X5_isWithin e1) ?_
  exact a_rzc rfl h
-- X5_isTold
set_option maxRecDepth 100000 in
theorem B_X5_isTold_20 {o1 : Nat} (ho1 : isS o1) {k20 : Int32 × Int32 × SS × TT → Option (Int32 × SS × TT)} (hk20 : ∀ (x5 : Int32) (x6 : Int32) (s : SS) (t : TT) (q : Int32 × SS × TT), k20 (x5, x6, s, t) = some q → Wp pl_Kc 102 20 [none, some (.ref o1), none, none, some (.ref 19), some (.int x5), some (.int x6)] [] (mk s t) (Qi q)) : ∀ (x5 : Int32) (x6 : Int32) (s : SS) (t : TT) (q : Int32 × SS × TT), b_X5_isTold_20 o1 k20 x5 x6 s t = some q → Wp pl_Kc 102 20 [none, some (.ref o1), none, none, some (.ref 19), some (.int x5), some (.int x6)] [] (mk s t) (Qi q) := by
  intro x5 x6 s t q h
  unfold b_X5_isTold_20 at h
  refine w_li rfl rfl ?_
  refine w_la rfl rfl ?_
  refine w_gf rfl (mgS ho1 _ _) rfl ?_
  refine w_ic_ge rfl (fun c1 => ?_) (fun c1 => ?_)
  · replace h := ifp h c1
    refine w_ci rfl ?_
    exact a_rz rfl (by decide) h
  · replace h := ifn h c1
    refine w_li rfl rfl ?_
    refine w_la rfl rfl ?_
    refine w_ci rfl ?_
    obtain ⟨q2, e2, h⟩ := bnd h
    refine a_vi1i rfl (mg_19 _ _) (Nat.le_of_ble_eq_true rfl) (T_X1_passWeek (Or.inr (Or.inr rfl)) e2) ?_
    refine w_iadd rfl ?_
    refine w_si rfl (Nat.le_of_ble_eq_true rfl) rfl ?_
    refine w_la rfl rfl ?_
    refine w_gf rfl (mgS ho1 _ _) rfl ?_
    refine w_li rfl rfl ?_
    obtain ⟨j3, e3, h⟩ := bnd h
    refine a_ja rfl (mgS_1 ho1 _ _) e3 ?_
    refine w_cl rfl ?_
    refine w_cmp rfl ?_
    refine w_if_eq rfl (fun c4 => ?_) (fun c4 => ?_)
    · replace h := ifp h c4
      refine w_inc rfl rfl rfl ?_
      refine w_go rfl ?_
      exact Wp_fgt (fg_n (fg_s (fg_n (fg_n (fg_s (fg_s (fg_s fg_e))))))) (hk20 _ _ _ _ _ h)
    · replace h := ifn h c4
      refine w_la rfl rfl ?_
      refine w_gf rfl (mgS ho1 _ _) rfl ?_
      refine w_li rfl rfl ?_
      obtain ⟨j5, e5, h⟩ := bnd h
      refine a_ja rfl (mgS_1 ho1 _ _) e5 ?_
      refine w_li rfl rfl ?_
      refine w_i2l rfl ?_
      refine w_cmp rfl ?_
      refine w_if_eq rfl (fun c6 => ?_) (fun c6 => ?_)
      · replace h := ifp h c6
        refine w_inc rfl rfl rfl ?_
        refine w_go rfl ?_
        exact Wp_fgt (fg_n (fg_s (fg_n (fg_n (fg_s (fg_s (fg_s fg_e))))))) (hk20 _ _ _ _ _ h)
      · replace h := ifn h c6
        refine w_ci rfl ?_
        exact a_rz rfl (by decide) h
theorem K_X5_isTold_20 {o1 : Nat} (ho1 : isS o1) : ∀ (n : Nat) (x5 : Int32) (x6 : Int32) (s : SS) (t : TT) (q : Int32 × SS × TT), l_X5_isTold_20 o1 n (x5, x6, s, t) = some q → Wp pl_Kc 102 20 [none, some (.ref o1), none, none, some (.ref 19), some (.int x5), some (.int x6)] [] (mk s t) (Qi q)
  | 0, x5, x6, s, t, q, h => by cases (show (none : Option (Int32 × SS × TT)) = some q from h)
  | n + 1, x5, x6, s, t, q, h => B_X5_isTold_20 ho1 (K_X5_isTold_20 ho1 n) x5 x6 s t q h
set_option maxRecDepth 100000 in
theorem T_X5_isTold {o1 : Nat} (ho1 : isS o1) {x2 : Int32} {x3 : Int32} {s : SS} {t : TT} {q : Int32 × SS × TT} (h : f_X5_isTold o1 x2 x3 s t = some q) : Wm 102 [.ref 0, .ref o1, .int x2, .int x3] (mk s t) (Qi q) := by
  refine Wm.of pT_102 (Nat.le_of_ble_eq_true rfl) (L0 := [some (.ref 0), some (.ref o1), some (.int x2), some (.int x3), none, none, none]) rfl ?_
  unfold f_X5_isTold at h
  refine w_la rfl rfl ?_
  obtain ⟨q1, e1, h⟩ := bnd h
  refine a_vi0t rfl (mg_0 _ _) (Nat.le_of_ble_eq_true rfl) (T_X5_trial e1) ?_
  refine w_sa rfl (Nat.le_of_ble_eq_true rfl) rfl ?_
  refine w_la rfl rfl ?_
  refine w_gf rfl (mg_19 _ _) rfl ?_
  refine w_li rfl rfl ?_
  refine w_li rfl rfl ?_
  obtain ⟨j2, e2, h⟩ := bnd h
  refine a_is rfl (mg_22 _ _) (ms_22 _ _) e2 (fun s2 w2 => ?_)
  replace h := wr_of h s2 w2
  refine w_ci rfl ?_
  refine w_si rfl (Nat.le_of_ble_eq_true rfl) rfl ?_
  refine w_ci rfl ?_
  refine w_si rfl (Nat.le_of_ble_eq_true rfl) rfl ?_
  exact Wp_fgt (fg_n (fg_s (fg_n (fg_n (fg_s (fg_s (fg_s fg_e))))))) (K_X5_isTold_20 ho1 _ _ _ _ _ _ h)
