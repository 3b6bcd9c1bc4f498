-- X5_poor
set_option maxRecDepth 100000 in
theorem J_X5_poor_68  {k38 : Int32 × Int32 × Int32 × Int32 × Int32 × SS × TT → Option (Int32 × SS × TT)} (hk38 : ∀ (x1 : Int32) (x2 : Int32) (x3 : Int32) (x4 : Int32) (x5 : Int32) (s : SS) (t : TT) (q : Int32 × SS × TT), k38 (x1, x2, x3, x4, x5, s, t) = some q → Wp pl_Kc 66 38 [some (.ref 0), some (.int x1), some (.int x2), some (.int x3), some (.int x4), some (.int x5), none] [] (mk s t) (Qi q)) : ∀ (x1 : Int32) (x2 : Int32) (x4 : Int32) (x5 : Int32) (s : SS) (t : TT) (q : Int32 × SS × TT), j_X5_poor_68 k38 x1 x2 x4 x5 s t = some q → Wp pl_Kc 66 68 [some (.ref 0), some (.int x1), some (.int x2), none, some (.int x4), some (.int x5), some (.ref 19)] [] (mk s t) (Qi q) := by
  intro x1 x2 x4 x5 s t q h
  unfold j_X5_poor_68 at h
  refine w_la rfl rfl ?_
  refine w_gf rfl (mg_19 _ _) rfl ?_
  refine w_si rfl (Nat.le_of_ble_eq_true rfl) rfl ?_
  refine w_inc rfl rfl rfl ?_
  refine w_go rfl ?_
  exact Wp_fgt (fg_s (fg_s (fg_s (fg_s (fg_s (fg_s (fg_n fg_e))))))) (hk38 _ _ _ _ _ _ _ _ h)
set_option maxRecDepth 100000 in
theorem B_X5_poor_38  {k38 : Int32 × Int32 × Int32 × Int32 × Int32 × SS × TT → Option (Int32 × SS × TT)} (hk38 : ∀ (x1 : Int32) (x2 : Int32) (x3 : Int32) (x4 : Int32) (x5 : Int32) (s : SS) (t : TT) (q : Int32 × SS × TT), k38 (x1, x2, x3, x4, x5, s, t) = some q → Wp pl_Kc 66 38 [some (.ref 0), some (.int x1), some (.int x2), some (.int x3), some (.int x4), some (.int x5), none] [] (mk s t) (Qi q)) : ∀ (x1 : Int32) (x2 : Int32) (x3 : Int32) (x4 : Int32) (x5 : Int32) (s : SS) (t : TT) (q : Int32 × SS × TT), b_X5_poor_38 k38 x1 x2 x3 x4 x5 s t = some q → Wp pl_Kc 66 38 [some (.ref 0), some (.int x1), some (.int x2), some (.int x3), some (.int x4), some (.int x5), none] [] (mk s t) (Qi q) := by
  intro x1 x2 x3 x4 x5 s t q h
  unfold b_X5_poor_38 at h
  refine w_li rfl rfl ?_
  refine w_li rfl rfl ?_
  refine w_ic_ge rfl (fun c1 => ?_) (fun c1 => ?_)
  · replace h := ifp h c1
    refine w_li rfl rfl ?_
    exact a_ri rfl h
  · replace h := ifn h c1
    refine w_la rfl rfl ?_
    obtain ⟨q2, e2, h⟩ := bnd h
    refine a_vi0t rfl (mg_0 _ _) (Nat.le_of_ble_eq_true rfl) (T_X5_trial e2) ?_
    refine w_sa rfl (Nat.le_of_ble_eq_true rfl) rfl ?_
    refine w_la rfl rfl ?_
    refine w_li rfl rfl ?_
    refine a_pf rfl rfl (mg_19 _ _) (Nat.le_of_ble_eq_true rfl) (ms_19_11 _ _) (fun s3 e3 => ?_)
    replace h := wr_of h s3 e3
    refine w_la rfl rfl ?_
    obtain ⟨q4, e4, h⟩ := bnd h
    refine a_vi0i rfl (mg_19 _ _) (Nat.le_of_ble_eq_true rfl) (T_X1_passWeekByDraws (Or.inr (Or.inr rfl)) e4) ?_
    refine w_li rfl rfl ?_
    refine w_ic_ge rfl (fun c5 => ?_) (fun c5 => ?_)
    · replace h := ifp h c5
      exact Wp_fgt (fg_s (fg_s (fg_s (fg_n (fg_s (fg_s (fg_s fg_e))))))) (J_X5_poor_68 hk38 _ _ _ _ _ _ _ h)
    · replace h := ifn h c5
      refine w_inc rfl rfl rfl ?_
      exact Wp_fgt (fg_s (fg_s (fg_s (fg_n (fg_s (fg_s (fg_s fg_e))))))) (J_X5_poor_68 hk38 _ _ _ _ _ _ _ h)
theorem K_X5_poor_38  : ∀ (n : Nat) (x1 : Int32) (x2 : Int32) (x3 : Int32) (x4 : Int32) (x5 : Int32) (s : SS) (t : TT) (q : Int32 × SS × TT), l_X5_poor_38 n (x1, x2, x3, x4, x5, s, t) = some q → Wp pl_Kc 66 38 [some (.ref 0), some (.int x1), some (.int x2), some (.int x3), some (.int x4), some (.int x5), none] [] (mk s t) (Qi q)
  | 0, x1, x2, x3, x4, x5, s, t, q, h => by cases (show (none : Option (Int32 × SS × TT)) = some q from h)
  | n + 1, x1, x2, x3, x4, x5, s, t, q, h => B_X5_poor_38 (K_X5_poor_38 n) x1 x2 x3 x4 x5 s t q h
set_option maxRecDepth 100000 in
theorem T_X5_poor  {x1 : Int32} {s : SS} {t : TT} {q : Int32 × SS × TT} (h : f_X5_poor x1 s t = some q) : Wm 66 [.ref 0, .int x1] (mk s t) (Qi q) := by
  refine Wm.of pT_66 (Nat.le_of_ble_eq_true rfl) (L0 := [some (.ref 0), some (.int x1), none, none, none, none, none]) rfl ?_
  unfold f_X5_poor at h
  refine w_li rfl rfl ?_
  refine w_ci rfl ?_
  refine w_ci rfl ?_
  obtain ⟨q1, e1, h⟩ := bnd h
  refine a_st3i rfl (Nat.le_of_ble_eq_true rfl) (T_X5_isWithin e1) ?_
  refine w_if_ne rfl (fun c2 => ?_) (fun c2 => ?_)
  · replace h := ifn h c2
    refine w_la rfl rfl ?_
    obtain ⟨q3, e3, h⟩ := bnd h
    refine a_vi0t rfl (mg_0 _ _) (Nat.le_of_ble_eq_true rfl) (T_X5_trial e3) ?_
    refine w_ci rfl ?_
    refine w_ci rfl ?_
    obtain ⟨q4, e4, h⟩ := bnd h
    refine a_st3i rfl (Nat.le_of_ble_eq_true rfl) (T_X5_wordsBy (Or.inr (Or.inr rfl)) e4) ?_
    refine w_si rfl (Nat.le_of_ble_eq_true rfl) rfl ?_
    refine w_la rfl rfl ?_
    refine w_gf rfl (mg_0 _ _) rfl ?_
    refine w_gf rfl (mg_1 _ _) rfl ?_
    refine w_si rfl (Nat.le_of_ble_eq_true rfl) rfl ?_
    refine w_ci rfl ?_
    refine w_si rfl (Nat.le_of_ble_eq_true rfl) rfl ?_
    refine w_ci rfl ?_
    refine w_si rfl (Nat.le_of_ble_eq_true rfl) rfl ?_
    exact Wp_fgt (fg_s (fg_s (fg_s (fg_s (fg_s (fg_s (fg_n fg_e))))))) (K_X5_poor_38 _ _ _ _ _ _ _ _ _ h)
  · replace h := ifp h (Classical.not_not.mp c2)
    refine w_ci rfl ?_
    exact a_ri rfl h
