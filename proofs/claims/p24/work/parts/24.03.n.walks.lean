-- X5_keep
set_option maxRecDepth 100000 in
theorem T_X5_keep  {s : SS} {t : TT} {q : Int32 × SS × TT} (h : f_X5_keep s t = some q) : Wm 93 [.ref 0] (mk s t) (Qi q) := by
  refine Wm.of pT_93 (Nat.le_of_ble_eq_true rfl) (L0 := [some (.ref 0)]) rfl ?_
  unfold f_X5_keep at h
  refine w_la rfl rfl ?_
  refine w_gf rfl (mg_0 _ _) rfl ?_
  refine w_la rfl rfl ?_
  refine w_gf rfl (mg_0 _ _) rfl ?_
  obtain ⟨q1, e1, h⟩ := bnd h
  refine a_vi1v rfl (mg_10 _ _) (Nat.le_of_ble_eq_true rfl) (T_X1_become (Or.inr (Or.inl rfl)) (Or.inl rfl) e1) ?_
  refine w_la rfl rfl ?_
  refine w_ci rfl ?_
  refine a_pf rfl rfl (mg_0 _ _) (Nat.le_of_ble_eq_true rfl) (ms_0_10 _ _) (fun s2 e2 => ?_)
  replace h := wr_of h s2 e2
  refine w_ci rfl ?_
  exact a_ri rfl h
-- X5_again
set_option maxRecDepth 100000 in
theorem T_X5_again  {s : SS} {t : TT} {q : Int32 × SS × TT} (h : f_X5_again s t = some q) : Wm 94 [.ref 0] (mk s t) (Qi q) := by
  refine Wm.of pT_94 (Nat.le_of_ble_eq_true rfl) (L0 := [some (.ref 0)]) rfl ?_
  unfold f_X5_again at h
  refine w_la rfl rfl ?_
  refine w_gf rfl (mg_0 _ _) rfl ?_
  refine w_if_ne rfl (fun c1 => ?_) (fun c1 => ?_)
  · replace h := ifn h c1
    refine w_la rfl rfl ?_
    refine w_gf rfl (mg_0 _ _) rfl ?_
    refine w_la rfl rfl ?_
    refine w_gf rfl (mg_0 _ _) rfl ?_
    obtain ⟨q2, e2, h⟩ := bnd h
    refine a_vi1v rfl (mg_1 _ _) (Nat.le_of_ble_eq_true rfl) (T_X1_become (Or.inl rfl) (Or.inr (Or.inl rfl)) e2) ?_
    refine w_la rfl rfl ?_
    refine w_gf rfl (mg_0 _ _) rfl ?_
    refine w_gf rfl (mg_1 _ _) rfl ?_
    exact a_ri rfl h
  · replace h := ifp h (Classical.not_not.mp c1)
    refine w_ci rfl ?_
    exact a_ri rfl h
-- X6_begins
set_option maxRecDepth 100000 in
theorem B_X6_begins_2 {o0 : Nat} (ho0 : isR56 o0) {k2 : Int32 × SS × TT → Option (SS × TT)} (hk2 : ∀ (x1 : Int32) (s : SS) (t : TT) (q : SS × TT), k2 (x1, s, t) = some q → Wp pl_Kc 109 2 [some (.ref o0), some (.int x1)] [] (mk s t) (Qv q)) : ∀ (x1 : Int32) (s : SS) (t : TT) (q : SS × TT), b_X6_begins_2 o0 k2 x1 s t = some q → Wp pl_Kc 109 2 [some (.ref o0), some (.int x1)] [] (mk s t) (Qv q) := by
  intro x1 s t q h
  unfold b_X6_begins_2 at h
  refine w_li rfl rfl ?_
  refine w_ci rfl ?_
  refine w_ic_ge rfl (fun c1 => ?_) (fun c1 => ?_)
  · replace h := ifp h c1
    refine w_la rfl rfl ?_
    refine w_ci rfl ?_
    refine w_ci rfl ?_
    obtain ⟨j2, e2, h⟩ := bnd h
    refine a_is rfl (mgR56 ho0 _ _) (msR56 ho0 _ _) e2 (fun s2 w2 => ?_)
    replace h := wr_of h s2 w2
    refine w_la rfl rfl ?_
    refine w_ci rfl ?_
    refine w_ci rfl ?_
    obtain ⟨j3, e3, h⟩ := bnd h
    refine a_is rfl (mgR56 ho0 _ _) (msR56 ho0 _ _) e3 (fun s3 w3 => ?_)
    replace h := wr_of h s3 w3
    refine w_la rfl rfl ?_
    refine w_ci rfl ?_
    refine w_ci rfl ?_
    obtain ⟨j4, e4, h⟩ := bnd h
    refine a_is rfl (mgR56 ho0 _ _) (msR56 ho0 _ _) e4 (fun s4 w4 => ?_)
    replace h := wr_of h s4 w4
    refine w_la rfl rfl ?_
    refine w_ci rfl ?_
    refine w_ci rfl ?_
    obtain ⟨j5, e5, h⟩ := bnd h
    refine a_is rfl (mgR56 ho0 _ _) (msR56 ho0 _ _) e5 (fun s5 w5 => ?_)
    replace h := wr_of h s5 w5
    exact a_rv rfl h
  · replace h := ifn h c1
    refine w_la rfl rfl ?_
    refine w_li rfl rfl ?_
    refine w_ci rfl ?_
    obtain ⟨j6, e6, h⟩ := bnd h
    refine a_is rfl (mgR56 ho0 _ _) (msR56 ho0 _ _) e6 (fun s6 w6 => ?_)
    replace h := wr_of h s6 w6
    refine w_inc rfl rfl rfl ?_
    refine w_go rfl ?_
    exact Wp_fgt (fg_s (fg_s fg_e)) (hk2 _ _ _ _ h)
theorem K_X6_begins_2 {o0 : Nat} (ho0 : isR56 o0) : ∀ (n : Nat) (x1 : Int32) (s : SS) (t : TT) (q : SS × TT), l_X6_begins_2 o0 n (x1, s, t) = some q → Wp pl_Kc 109 2 [some (.ref o0), some (.int x1)] [] (mk s t) (Qv q)
  | 0, x1, s, t, q, h => by cases (show (none : Option (SS × TT)) = some q from h)
  | n + 1, x1, s, t, q, h => B_X6_begins_2 ho0 (K_X6_begins_2 ho0 n) x1 s t q h
set_option maxRecDepth 100000 in
theorem T_X6_begins {o0 : Nat} (ho0 : isR56 o0) {s : SS} {t : TT} {q : SS × TT} (h : f_X6_begins o0 s t = some q) : Wm 109 [.ref o0] (mk s t) (Qv q) := by
  refine Wm.of pT_109 (Nat.le_of_ble_eq_true rfl) (L0 := [some (.ref o0), none]) rfl ?_
  unfold f_X6_begins at h
  refine w_ci rfl ?_
  refine w_si rfl (Nat.le_of_ble_eq_true rfl) rfl ?_
  exact Wp_fgt (fg_s (fg_s fg_e)) (K_X6_begins_2 ho0 _ _ _ _ _ h)
