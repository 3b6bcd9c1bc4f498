-- X5_hope
set_option maxRecDepth 100000 in
theorem T_X5_hope  {x1 : Int32} {x2 : Int32} {s : SS} {t : TT} {q : Int64 × SS × TT} (h : f_X5_hope x1 x2 s t = some q) : Wm 79 [.ref 0, .int x1, .int x2] (mk s t) (Ql q) := by
  refine Wm.of pT_79 (Nat.le_of_ble_eq_true rfl) (L0 := [some (.ref 0), some (.int x1), some (.int x2)]) rfl ?_
  unfold f_X5_hope at h
  refine w_li rfl rfl ?_
  refine w_ci rfl ?_
  refine w_ci rfl ?_
  obtain ⟨q1, e1, h⟩ := bnd h
  refine a_st3i rfl (Nat.le_of_ble_eq_true rfl) (T_X5_isWithin e1) ?_
  refine w_if_eq rfl (fun c2 => ?_) (fun c2 => ?_)
  · replace h := ifp h c2
    refine w_cl rfl ?_
    exact a_rl rfl h
  · replace h := ifn h c2
    refine w_li rfl rfl ?_
    refine w_ci rfl ?_
    refine w_ci rfl ?_
    obtain ⟨q3, e3, h⟩ := bnd h
    refine a_st3i rfl (Nat.le_of_ble_eq_true rfl) (T_X5_isWithin e3) ?_
    refine w_if_ne rfl (fun c4 => ?_) (fun c4 => ?_)
    · replace h := ifn h c4
      refine w_li rfl rfl ?_
      refine w_i2l rfl ?_
      refine w_la rfl rfl ?_
      refine w_gf rfl (mg_0 _ _) rfl ?_
      refine w_gf rfl (mg_1 _ _) rfl ?_
      refine w_ci rfl ?_
      obtain ⟨j5, e5, h⟩ := bnd h
      refine a_ia rfl (mr_2 _ _ _) e5 ?_
      refine w_i2l rfl ?_
      refine w_lmul rfl ?_
      refine w_cl rfl ?_
      refine w_li rfl rfl ?_
      obtain ⟨q6, e6, h⟩ := bnd h
      refine a_st3l rfl (Nat.le_of_ble_eq_true rfl) (T_X5_partOf e6) ?_
      exact a_rl rfl h
    · replace h := ifp h (Classical.not_not.mp c4)
      refine w_cl rfl ?_
      exact a_rl rfl h
-- X5_prove
set_option maxRecDepth 100000 in
theorem B_X5_prove_31  {k31 : Int32 × Int32 × Int32 × SS × TT → Option (Int32 × SS × TT)} (hk31 : ∀ (x1 : Int32) (x2 : Int32) (x4 : Int32) (s : SS) (t : TT) (q : Int32 × SS × TT), k31 (x1, x2, x4, s, t) = some q → Wp pl_Kc 80 31 [some (.ref 0), some (.int x1), some (.int x2), some (.ref 19), some (.int x4), none] [] (mk s t) (Qi q)) : ∀ (x1 : Int32) (x2 : Int32) (x4 : Int32) (s : SS) (t : TT) (q : Int32 × SS × TT), b_X5_prove_31 k31 x1 x2 x4 s t = some q → Wp pl_Kc 80 31 [some (.ref 0), some (.int x1), some (.int x2), some (.ref 19), some (.int x4), none] [] (mk s t) (Qi q) := by
  intro x1 x2 x4 s t q h
  unfold b_X5_prove_31 at h
  refine w_li rfl rfl ?_
  refine w_li rfl rfl ?_
  refine w_ic_ge rfl (fun c1 => ?_) (fun c1 => ?_)
  · replace h := ifp h c1
    refine w_la rfl rfl ?_
    refine w_li rfl rfl ?_
    refine a_pf rfl rfl (mg_0 _ _) (Nat.le_of_ble_eq_true rfl) (ms_0_9 _ _) (fun s2 e2 => ?_)
    replace h := wr_of h s2 e2
    refine w_li rfl rfl ?_
    exact a_ri rfl h
  · replace h := ifn h c1
    refine w_la rfl rfl ?_
    refine w_ci rfl ?_
    obtain ⟨q3, e3, h⟩ := bnd h
    refine a_vi1i rfl (mg_19 _ _) (Nat.le_of_ble_eq_true rfl) (T_X1_passWeek (Or.inr (Or.inr rfl)) e3) ?_
    refine w_si rfl (Nat.le_of_ble_eq_true rfl) rfl ?_
    refine w_la rfl rfl ?_
    refine w_gf rfl (mg_0 _ _) rfl ?_
    refine w_li rfl rfl ?_
    refine w_ci rfl ?_
    refine w_imul rfl ?_
    refine w_la rfl rfl ?_
    refine w_gf rfl (mg_19 _ _) rfl ?_
    refine w_li rfl rfl ?_
    obtain ⟨j4, e4, h⟩ := bnd h
    refine a_ia rfl (mr_22 _ _ _) e4 ?_
    obtain ⟨j5, e5, h⟩ := bnd h
    refine a_is rfl (mg_49 _ _) (ms_49 _ _) e5 (fun s5 w5 => ?_)
    replace h := wr_of h s5 w5
    refine w_la rfl rfl ?_
    refine w_gf rfl (mg_0 _ _) rfl ?_
    refine w_li rfl rfl ?_
    refine w_ci rfl ?_
    refine w_imul rfl ?_
    refine w_ci rfl ?_
    refine w_iadd rfl ?_
    refine w_la rfl rfl ?_
    refine w_gf rfl (mg_19 _ _) rfl ?_
    refine w_li rfl rfl ?_
    obtain ⟨j6, e6, h⟩ := bnd h
    refine a_ia rfl (mr_24 _ _ _) e6 ?_
    obtain ⟨j7, e7, h⟩ := bnd h
    refine a_is rfl (mg_49 _ _) (ms_49 _ _) e7 (fun s7 w7 => ?_)
    replace h := wr_of h s7 w7
    refine w_la rfl rfl ?_
    refine w_gf rfl (mg_0 _ _) rfl ?_
    refine w_li rfl rfl ?_
    refine w_ci rfl ?_
    refine w_imul rfl ?_
    refine w_ci rfl ?_
    refine w_iadd rfl ?_
    refine w_li rfl rfl ?_
    obtain ⟨j8, e8, h⟩ := bnd h
    refine a_is rfl (mg_49 _ _) (ms_49 _ _) e8 (fun s8 w8 => ?_)
    replace h := wr_of h s8 w8
    refine w_inc rfl rfl rfl ?_
    refine w_go rfl ?_
    exact Wp_fgt (fg_s (fg_s (fg_s (fg_s (fg_s (fg_n fg_e)))))) (hk31 _ _ _ _ _ _ h)
theorem K_X5_prove_31  : ∀ (n : Nat) (x1 : Int32) (x2 : Int32) (x4 : Int32) (s : SS) (t : TT) (q : Int32 × SS × TT), l_X5_prove_31 n (x1, x2, x4, s, t) = some q → Wp pl_Kc 80 31 [some (.ref 0), some (.int x1), some (.int x2), some (.ref 19), some (.int x4), none] [] (mk s t) (Qi q)
  | 0, x1, x2, x4, s, t, q, h => by cases (show (none : Option (Int32 × SS × TT)) = some q from h)
  | n + 1, x1, x2, x4, s, t, q, h => B_X5_prove_31 (K_X5_prove_31 n) x1 x2 x4 s t q h
set_option maxRecDepth 100000 in
theorem T_X5_prove  {x1 : Int32} {x2 : Int32} {s : SS} {t : TT} {q : Int32 × SS × TT} (h : f_X5_prove x1 x2 s t = some q) : Wm 80 [.ref 0, .int x1, .int x2] (mk s t) (Qi q) := by
  refine Wm.of pT_80 (Nat.le_of_ble_eq_true rfl) (L0 := [some (.ref 0), some (.int x1), some (.int x2), none, none, none]) rfl ?_
  unfold f_X5_prove at h
  refine w_la rfl rfl ?_
  refine w_gf rfl (mg_0 _ _) rfl ?_
  refine w_li rfl rfl ?_
  obtain ⟨q1, e1, h⟩ := bnd h
  refine a_vi1i rfl (mg_1 _ _) (Nat.le_of_ble_eq_true rfl) (T_X1_has (Or.inl rfl) e1) ?_
  refine w_if_eq rfl (fun c2 => ?_) (fun c2 => ?_)
  · replace h := ifp h c2
    refine w_ci rfl ?_
    exact a_ri rfl h
  · replace h := ifn h c2
    refine w_li rfl rfl ?_
    refine w_ci rfl ?_
    refine w_ci rfl ?_
    obtain ⟨q3, e3, h⟩ := bnd h
    refine a_st3i rfl (Nat.le_of_ble_eq_true rfl) (T_X5_isWithin e3) ?_
    refine w_if_ne rfl (fun c4 => ?_) (fun c4 => ?_)
    · replace h := ifn h c4
      refine w_la rfl rfl ?_
      obtain ⟨q5, e5, h⟩ := bnd h
      refine a_vi0t rfl (mg_0 _ _) (Nat.le_of_ble_eq_true rfl) (T_X5_trial e5) ?_
      refine w_sa rfl (Nat.le_of_ble_eq_true rfl) rfl ?_
      refine w_ci rfl ?_
      refine w_si rfl (Nat.le_of_ble_eq_true rfl) rfl ?_
      exact Wp_fgt (fg_s (fg_s (fg_s (fg_s (fg_s (fg_n fg_e)))))) (K_X5_prove_31 _ _ _ _ _ _ _ h)
    · replace h := ifp h (Classical.not_not.mp c4)
      refine w_ci rfl ?_
      exact a_ri rfl h
