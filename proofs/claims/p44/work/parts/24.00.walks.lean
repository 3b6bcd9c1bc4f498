-- the walks: a program laid these rows
-- X0_forget
set_option maxRecDepth 100000 in
theorem T_X0_forget  {s : SS} {t : TT} {q : SS × TT} (h : f_X0_forget s t = some q) : Wm 1 [.ref 33] (mk s t) (Qv q) := by
  refine Wm.of pT_1 (Nat.le_of_ble_eq_true rfl) (L0 := [some (.ref 33)]) rfl ?_
  unfold f_X0_forget at h
  refine w_la rfl rfl ?_
  refine w_ci rfl ?_
  refine a_pf rfl rfl (mg_33 _ _) (Nat.le_of_ble_eq_true rfl) (ms_33_1 _ _) (fun s1 e1 => ?_)
  replace h := wr_of h s1 e1
  refine w_la rfl rfl ?_
  refine w_ci rfl ?_
  refine a_pf rfl rfl (mg_33 _ _) (Nat.le_of_ble_eq_true rfl) (ms_33_2 _ _) (fun s2 e2 => ?_)
  replace h := wr_of h s2 e2
  exact a_rv rfl h
-- X0_play
set_option maxRecDepth 100000 in
theorem T_X0_play  {x1 : Int32} {x2 : Int32} {x3 : Int32} {s : SS} {t : TT} {q : SS × TT} (h : f_X0_play x1 x2 x3 s t = some q) : Wm 2 [.ref 33, .int x1, .int x2, .int x3] (mk s t) (Qv q) := by
  refine Wm.of pT_2 (Nat.le_of_ble_eq_true rfl) (L0 := [some (.ref 33), some (.int x1), some (.int x2), some (.int x3)]) rfl ?_
  unfold f_X0_play at h
  refine w_la rfl rfl ?_
  refine w_li rfl rfl ?_
  refine a_pf rfl rfl (mg_33 _ _) (Nat.le_of_ble_eq_true rfl) (ms_33_3 _ _) (fun s1 e1 => ?_)
  replace h := wr_of h s1 e1
  refine w_la rfl rfl ?_
  refine w_li rfl rfl ?_
  refine a_pf rfl rfl (mg_33 _ _) (Nat.le_of_ble_eq_true rfl) (ms_33_4 _ _) (fun s2 e2 => ?_)
  replace h := wr_of h s2 e2
  refine w_la rfl rfl ?_
  refine w_li rfl rfl ?_
  refine a_pf rfl rfl (mg_33 _ _) (Nat.le_of_ble_eq_true rfl) (ms_33_5 _ _) (fun s3 e3 => ?_)
  replace h := wr_of h s3 e3
  exact a_rv rfl h
-- X0_enter
set_option maxRecDepth 100000 in
theorem T_X0_enter  {x1 : Int32} {s : SS} {t : TT} {q : SS × TT} (h : f_X0_enter x1 s t = some q) : Wm 4 [.ref 33, .int x1] (mk s t) (Qv q) := by
  refine Wm.of pT_4 (Nat.le_of_ble_eq_true rfl) (L0 := [some (.ref 33), some (.int x1)]) rfl ?_
  unfold f_X0_enter at h
  refine w_la rfl rfl ?_
  refine w_gf rfl (mg_33 _ _) rfl ?_
  refine w_ci rfl ?_
  refine w_ic_ge rfl (fun c1 => ?_) (fun c1 => ?_)
  · replace h := ifp h c1
    exact a_rv rfl h
  · replace h := ifn h c1
    refine w_la rfl rfl ?_
    refine w_gf rfl (mg_33 _ _) rfl ?_
    refine w_la rfl rfl ?_
    refine w_gf rfl (mg_33 _ _) rfl ?_
    refine w_li rfl rfl ?_
    obtain ⟨j2, e2, h⟩ := bnd h
    refine a_is rfl (mg_34 _ _) (ms_34 _ _) e2 (fun s2 w2 => ?_)
    replace h := wr_of h s2 w2
    refine w_la rfl rfl ?_
    refine w_dup rfl rfl ?_
    refine w_gf rfl (mg_33 _ _) rfl ?_
    refine w_ci rfl ?_
    refine w_iadd rfl ?_
    refine a_pf rfl rfl (mg_33 _ _) (Nat.le_of_ble_eq_true rfl) (ms_33_1 _ _) (fun s3 e3 => ?_)
    replace h := wr_of h s3 e3
    exact a_rv rfl h
-- X5_isUnder
set_option maxRecDepth 100000 in
theorem J_X5_isUnder_19  : ∀ (x0 : Int32) (x1 : Int32) (s : SS) (t : TT) (q : Int32 × SS × TT), j_X5_isUnder_19 x0 x1 s t = some q → Wp pl_Kc 98 19 [some (.int x0), some (.int x1)] [] (mk s t) (Qi q) := by
  intro x0 x1 s t q h
  unfold j_X5_isUnder_19 at h
  refine w_li rfl rfl ?_
  refine w_ci rfl ?_
  refine w_ic_ne rfl (fun c1 => ?_) (fun c1 => ?_)
  · replace h := ifn h c1
    refine w_ci rfl ?_
    exact a_rz rfl (by decide) h
  · replace h := ifp h (Classical.not_not.mp c1)
    refine w_li rfl rfl ?_
    refine w_ci rfl ?_
    refine w_ic_ne rfl (fun c2 => ?_) (fun c2 => ?_)
    · replace h := ifn h c2
      refine w_ci rfl ?_
      exact a_rz rfl (by decide) h
    · replace h := ifp h (Classical.not_not.mp c2)
      refine w_ci rfl ?_
      refine w_go rfl ?_
      exact a_rz rfl (by decide) h
set_option maxRecDepth 100000 in
theorem T_X5_isUnder  {x0 : Int32} {x1 : Int32} {s : SS} {t : TT} {q : Int32 × SS × TT} (h : f_X5_isUnder x0 x1 s t = some q) : Wm 98 [.int x0, .int x1] (mk s t) (Qi q) := by
  refine Wm.of pT_98 (Nat.le_of_ble_eq_true rfl) (L0 := [some (.int x0), some (.int x1)]) rfl ?_
  unfold f_X5_isUnder at h
  refine w_li rfl rfl ?_
  refine w_li rfl rfl ?_
  refine w_ic_eq rfl (fun c1 => ?_) (fun c1 => ?_)
  · replace h := ifp h c1
    refine w_ci rfl ?_
    refine w_go rfl ?_
    exact a_rz rfl (by decide) h
  · replace h := ifn h c1
    refine w_li rfl rfl ?_
    refine w_if_eq rfl (fun c2 => ?_) (fun c2 => ?_)
    · replace h := ifp h c2
      refine w_ci rfl ?_
      refine w_go rfl ?_
      exact a_rz rfl (by decide) h
    · replace h := ifn h c2
      refine w_li rfl rfl ?_
      refine w_ci rfl ?_
      refine w_ic_ne rfl (fun c3 => ?_) (fun c3 => ?_)
      · replace h := ifn h c3
        exact Wp_fgt (fg_s (fg_s fg_e)) (J_X5_isUnder_19 _ _ _ _ _ h)
      · replace h := ifp h (Classical.not_not.mp c3)
        refine w_li rfl rfl ?_
        refine w_ci rfl ?_
        refine w_ic_eq rfl (fun c4 => ?_) (fun c4 => ?_)
        · replace h := ifp h c4
          refine w_ci rfl ?_
          refine w_go rfl ?_
          exact a_rz rfl (by decide) h
        · replace h := ifn h c4
          exact Wp_fgt (fg_s (fg_s fg_e)) (J_X5_isUnder_19 _ _ _ _ _ h)
-- X0_thinks
set_option maxRecDepth 100000 in
theorem J_X0_thinks_86  : ∀ (x2 : Int32) (s : SS) (t : TT) (q : Int32 × SS × TT), j_X0_thinks_86 x2 s t = some q → Wp pl_Kc 5 86 [some (.ref 33), none, some (.int x2)] [] (mk s t) (Qi q) := by
  intro x2 s t q h
  unfold j_X0_thinks_86 at h
  refine w_la rfl rfl ?_
  refine w_gf rfl (mg_33 _ _) rfl ?_
  refine w_ci rfl ?_
  refine w_ic_ne rfl (fun c1 => ?_) (fun c1 => ?_)
  · replace h := ifn h c1
    refine w_li rfl rfl ?_
    exact a_ri rfl h
  · replace h := ifp h (Classical.not_not.mp c1)
    refine w_li rfl rfl ?_
    refine w_la rfl rfl ?_
    refine w_gf rfl (mg_33 _ _) rfl ?_
    refine w_isub rfl ?_
    refine w_si rfl (Nat.le_of_ble_eq_true rfl) rfl ?_
    refine w_li rfl rfl ?_
    exact a_ri rfl h
set_option maxRecDepth 100000 in
theorem J_X0_thinks_75  : ∀ (x2 : Int32) (s : SS) (t : TT) (q : Int32 × SS × TT), j_X0_thinks_75 x2 s t = some q → Wp pl_Kc 5 75 [some (.ref 33), none, some (.int x2)] [] (mk s t) (Qi q) := by
  intro x2 s t q h
  unfold j_X0_thinks_75 at h
  refine w_la rfl rfl ?_
  refine w_gf rfl (mg_33 _ _) rfl ?_
  refine w_ci rfl ?_
  refine w_ic_ne rfl (fun c1 => ?_) (fun c1 => ?_)
  · replace h := ifn h c1
    exact Wp_fgt (fg_s (fg_n (fg_s fg_e))) (J_X0_thinks_86 _ _ _ _ h)
  · replace h := ifp h (Classical.not_not.mp c1)
    refine w_inc rfl rfl rfl ?_
    exact Wp_fgt (fg_s (fg_n (fg_s fg_e))) (J_X0_thinks_86 _ _ _ _ h)
set_option maxRecDepth 100000 in
theorem J_X0_thinks_45  : ∀ (x1 : Int32) (s : SS) (t : TT) (q : Int32 × SS × TT), j_X0_thinks_45 x1 s t = some q → Wp pl_Kc 5 45 [some (.ref 33), some (.int x1), none] [] (mk s t) (Qi q) := by
  intro x1 s t q h
  unfold j_X0_thinks_45 at h
  refine w_la rfl rfl ?_
  refine w_ci rfl ?_
  obtain ⟨q1, e1, h⟩ := bnd h
  refine a_vi1v rfl (mg_33 _ _) (Nat.le_of_ble_eq_true rfl) (T_X0_enter e1) ?_
  refine w_li rfl rfl ?_
  refine w_ci rfl ?_
  refine w_imul rfl ?_
  refine w_la rfl rfl ?_
  refine w_gf rfl (mg_33 _ _) rfl ?_
  refine w_isub rfl ?_
  refine w_si rfl (Nat.le_of_ble_eq_true rfl) rfl ?_
  refine w_la rfl rfl ?_
  refine w_gf rfl (mg_33 _ _) rfl ?_
  refine w_ci rfl ?_
  obtain ⟨q2, e2, h⟩ := bnd h
  refine a_st2i rfl (Nat.le_of_ble_eq_true rfl) (T_X5_isUnder e2) ?_
  refine w_if_eq rfl (fun c3 => ?_) (fun c3 => ?_)
  · replace h := ifp h c3
    exact Wp_fgt (fg_s (fg_n (fg_s fg_e))) (J_X0_thinks_75 _ _ _ _ h)
  · replace h := ifn h c3
    refine w_ci rfl ?_
    refine w_li rfl rfl ?_
    refine w_isub rfl ?_
    refine w_si rfl (Nat.le_of_ble_eq_true rfl) rfl ?_
    exact Wp_fgt (fg_s (fg_n (fg_s fg_e))) (J_X0_thinks_75 _ _ _ _ h)
set_option maxRecDepth 100000 in
theorem J_X0_thinks_31  : ∀ (x1 : Int32) (s : SS) (t : TT) (q : Int32 × SS × TT), j_X0_thinks_31 x1 s t = some q → Wp pl_Kc 5 31 [some (.ref 33), some (.int x1), none] [] (mk s t) (Qi q) := by
  intro x1 s t q h
  unfold j_X0_thinks_31 at h
  refine w_la rfl rfl ?_
  refine w_gf rfl (mg_33 _ _) rfl ?_
  refine w_ci rfl ?_
  refine w_ic_ne rfl (fun c1 => ?_) (fun c1 => ?_)
  · replace h := ifn h c1
    exact Wp_fgt (fg_s (fg_s (fg_n fg_e))) (J_X0_thinks_45 _ _ _ _ h)
  · replace h := ifp h (Classical.not_not.mp c1)
    refine w_la rfl rfl ?_
    refine w_ci rfl ?_
    obtain ⟨q2, e2, h⟩ := bnd h
    refine a_vi1v rfl (mg_33 _ _) (Nat.le_of_ble_eq_true rfl) (T_X0_enter e2) ?_
    exact Wp_fgt (fg_s (fg_s (fg_n fg_e))) (J_X0_thinks_45 _ _ _ _ h)
set_option maxRecDepth 100000 in
theorem J_X0_thinks_14  : ∀ (x1 : Int32) (s : SS) (t : TT) (q : Int32 × SS × TT), j_X0_thinks_14 x1 s t = some q → Wp pl_Kc 5 14 [some (.ref 33), some (.int x1), none] [] (mk s t) (Qi q) := by
  intro x1 s t q h
  unfold j_X0_thinks_14 at h
  refine w_la rfl rfl ?_
  refine w_gf rfl (mg_33 _ _) rfl ?_
  refine w_ci rfl ?_
  obtain ⟨q1, e1, h⟩ := bnd h
  refine a_st2i rfl (Nat.le_of_ble_eq_true rfl) (T_X5_isUnder e1) ?_
  refine w_if_eq rfl (fun c2 => ?_) (fun c2 => ?_)
  · replace h := ifp h c2
    exact Wp_fgt (fg_s (fg_s (fg_n fg_e))) (J_X0_thinks_31 _ _ _ _ h)
  · replace h := ifn h c2
    refine w_la rfl rfl ?_
    refine w_ci rfl ?_
    obtain ⟨q3, e3, h⟩ := bnd h
    refine a_vi1v rfl (mg_33 _ _) (Nat.le_of_ble_eq_true rfl) (T_X0_enter e3) ?_
    exact Wp_fgt (fg_s (fg_s (fg_n fg_e))) (J_X0_thinks_31 _ _ _ _ h)
set_option maxRecDepth 100000 in
theorem T_X0_thinks  {x1 : Int32} {s : SS} {t : TT} {q : Int32 × SS × TT} (h : f_X0_thinks x1 s t = some q) : Wm 5 [.ref 33, .int x1] (mk s t) (Qi q) := by
  refine Wm.of pT_5 (Nat.le_of_ble_eq_true rfl) (L0 := [some (.ref 33), some (.int x1), none]) rfl ?_
  unfold f_X0_thinks at h
  refine w_la rfl rfl ?_
  refine w_gf rfl (mg_33 _ _) rfl ?_
  refine w_ci rfl ?_
  refine w_ic_ne rfl (fun c1 => ?_) (fun c1 => ?_)
  · replace h := ifn h c1
    exact Wp_fgt (fg_s (fg_s (fg_n fg_e))) (J_X0_thinks_14 _ _ _ _ h)
  · replace h := ifp h (Classical.not_not.mp c1)
    refine w_la rfl rfl ?_
    refine w_ci rfl ?_
    obtain ⟨q2, e2, h⟩ := bnd h
    refine a_vi1v rfl (mg_33 _ _) (Nat.le_of_ble_eq_true rfl) (T_X0_enter e2) ?_
    exact Wp_fgt (fg_s (fg_s (fg_n fg_e))) (J_X0_thinks_14 _ _ _ _ h)
-- X0_asks
set_option maxRecDepth 100000 in
theorem J_X0_asks_63  : ∀ (x2 : Int32) (s : SS) (t : TT) (q : Int32 × SS × TT), j_X0_asks_63 x2 s t = some q → Wp pl_Kc 6 63 [some (.ref 33), none, some (.int x2)] [] (mk s t) (Qi q) := by
  intro x2 s t q h
  unfold j_X0_asks_63 at h
  refine w_la rfl rfl ?_
  refine w_gf rfl (mg_33 _ _) rfl ?_
  refine w_ci rfl ?_
  refine w_ic_ne rfl (fun c1 => ?_) (fun c1 => ?_)
  · replace h := ifn h c1
    refine w_li rfl rfl ?_
    exact a_ri rfl h
  · replace h := ifp h (Classical.not_not.mp c1)
    refine w_li rfl rfl ?_
    refine w_la rfl rfl ?_
    refine w_la rfl rfl ?_
    refine w_gf rfl (mg_33 _ _) rfl ?_
    obtain ⟨q2, e2, h⟩ := bnd h
    refine a_vi1i rfl (mg_33 _ _) (Nat.le_of_ble_eq_true rfl) (T_X0_thinks e2) ?_
    refine w_ixor rfl ?_
    refine w_si rfl (Nat.le_of_ble_eq_true rfl) rfl ?_
    refine w_li rfl rfl ?_
    exact a_ri rfl h
set_option maxRecDepth 100000 in
theorem J_X0_asks_31  : ∀ (x1 : Int32) (s : SS) (t : TT) (q : Int32 × SS × TT), j_X0_asks_31 x1 s t = some q → Wp pl_Kc 6 31 [some (.ref 33), some (.int x1), none] [] (mk s t) (Qi q) := by
  intro x1 s t q h
  unfold j_X0_asks_31 at h
  refine w_la rfl rfl ?_
  refine w_ci rfl ?_
  obtain ⟨q1, e1, h⟩ := bnd h
  refine a_vi1v rfl (mg_33 _ _) (Nat.le_of_ble_eq_true rfl) (T_X0_enter e1) ?_
  refine w_la rfl rfl ?_
  refine w_li rfl rfl ?_
  obtain ⟨q2, e2, h⟩ := bnd h
  refine a_vi1i rfl (mg_33 _ _) (Nat.le_of_ble_eq_true rfl) (T_X0_thinks e2) ?_
  refine w_la rfl rfl ?_
  refine w_gf rfl (mg_33 _ _) rfl ?_
  refine w_iadd rfl ?_
  refine w_si rfl (Nat.le_of_ble_eq_true rfl) rfl ?_
  refine w_la rfl rfl ?_
  refine w_gf rfl (mg_33 _ _) rfl ?_
  refine w_ci rfl ?_
  obtain ⟨q3, e3, h⟩ := bnd h
  refine a_st2i rfl (Nat.le_of_ble_eq_true rfl) (T_X5_isUnder e3) ?_
  refine w_if_eq rfl (fun c4 => ?_) (fun c4 => ?_)
  · replace h := ifp h c4
    exact Wp_fgt (fg_s (fg_n (fg_s fg_e))) (J_X0_asks_63 _ _ _ _ h)
  · replace h := ifn h c4
    refine w_li rfl rfl ?_
    refine w_ci rfl ?_
    refine w_imul rfl ?_
    refine w_si rfl (Nat.le_of_ble_eq_true rfl) rfl ?_
    exact Wp_fgt (fg_s (fg_n (fg_s fg_e))) (J_X0_asks_63 _ _ _ _ h)
set_option maxRecDepth 100000 in
theorem J_X0_asks_17  : ∀ (x1 : Int32) (s : SS) (t : TT) (q : Int32 × SS × TT), j_X0_asks_17 x1 s t = some q → Wp pl_Kc 6 17 [some (.ref 33), some (.int x1), none] [] (mk s t) (Qi q) := by
  intro x1 s t q h
  unfold j_X0_asks_17 at h
  refine w_la rfl rfl ?_
  refine w_gf rfl (mg_33 _ _) rfl ?_
  refine w_ci rfl ?_
  refine w_ic_ne rfl (fun c1 => ?_) (fun c1 => ?_)
  · replace h := ifn h c1
    exact Wp_fgt (fg_s (fg_s (fg_n fg_e))) (J_X0_asks_31 _ _ _ _ h)
  · replace h := ifp h (Classical.not_not.mp c1)
    refine w_la rfl rfl ?_
    refine w_ci rfl ?_
    obtain ⟨q2, e2, h⟩ := bnd h
    refine a_vi1v rfl (mg_33 _ _) (Nat.le_of_ble_eq_true rfl) (T_X0_enter e2) ?_
    exact Wp_fgt (fg_s (fg_s (fg_n fg_e))) (J_X0_asks_31 _ _ _ _ h)
set_option maxRecDepth 100000 in
theorem T_X0_asks  {x1 : Int32} {s : SS} {t : TT} {q : Int32 × SS × TT} (h : f_X0_asks x1 s t = some q) : Wm 6 [.ref 33, .int x1] (mk s t) (Qi q) := by
  refine Wm.of pT_6 (Nat.le_of_ble_eq_true rfl) (L0 := [some (.ref 33), some (.int x1), none]) rfl ?_
  unfold f_X0_asks at h
  refine w_la rfl rfl ?_
  refine w_gf rfl (mg_33 _ _) rfl ?_
  refine w_ci rfl ?_
  obtain ⟨q1, e1, h⟩ := bnd h
  refine a_st2i rfl (Nat.le_of_ble_eq_true rfl) (T_X5_isUnder e1) ?_
  refine w_if_eq rfl (fun c2 => ?_) (fun c2 => ?_)
  · replace h := ifp h c2
    exact Wp_fgt (fg_s (fg_s (fg_n fg_e))) (J_X0_asks_17 _ _ _ _ h)
  · replace h := ifn h c2
    refine w_la rfl rfl ?_
    refine w_ci rfl ?_
    obtain ⟨q3, e3, h⟩ := bnd h
    refine a_vi1v rfl (mg_33 _ _) (Nat.le_of_ble_eq_true rfl) (T_X0_enter e3) ?_
    exact Wp_fgt (fg_s (fg_s (fg_n fg_e))) (J_X0_asks_17 _ _ _ _ h)
-- X0_parts
set_option maxRecDepth 100000 in
theorem J_X0_parts_88  : ∀ (x3 : Int32) (s : SS) (t : TT) (q : Int32 × SS × TT), j_X0_parts_88 x3 s t = some q → Wp pl_Kc 7 88 [some (.ref 33), none, none, some (.int x3)] [] (mk s t) (Qi q) := by
  intro x3 s t q h
  unfold j_X0_parts_88 at h
  refine w_la rfl rfl ?_
  refine w_gf rfl (mg_33 _ _) rfl ?_
  refine w_ci rfl ?_
  refine w_ic_ne rfl (fun c1 => ?_) (fun c1 => ?_)
  · replace h := ifn h c1
    refine w_li rfl rfl ?_
    exact a_ri rfl h
  · replace h := ifp h (Classical.not_not.mp c1)
    refine w_li rfl rfl ?_
    refine w_la rfl rfl ?_
    refine w_la rfl rfl ?_
    refine w_gf rfl (mg_33 _ _) rfl ?_
    obtain ⟨q2, e2, h⟩ := bnd h
    refine a_vi1i rfl (mg_33 _ _) (Nat.le_of_ble_eq_true rfl) (T_X0_thinks e2) ?_
    refine w_isub rfl ?_
    refine w_si rfl (Nat.le_of_ble_eq_true rfl) rfl ?_
    refine w_li rfl rfl ?_
    exact a_ri rfl h
set_option maxRecDepth 100000 in
theorem J_X0_parts_70  : ∀ (x2 : Int32) (y0 : Int32) (s : SS) (t : TT) (q : Int32 × SS × TT), j_X0_parts_70 x2 y0 s t = some q → Wp pl_Kc 7 70 [some (.ref 33), none, some (.int x2), none] [.int y0] (mk s t) (Qi q) := by
  intro x2 y0 s t q h
  unfold j_X0_parts_70 at h
  refine w_li rfl rfl ?_
  by_cases c1 : x2 = 0
  · cases (ifp h c1)
  replace h := ifn h c1
  refine w_idiv rfl c1 ?_
  refine w_si rfl (Nat.le_of_ble_eq_true rfl) rfl ?_
  refine w_la rfl rfl ?_
  refine w_gf rfl (mg_33 _ _) rfl ?_
  refine w_ci rfl ?_
  refine w_ic_ne rfl (fun c2 => ?_) (fun c2 => ?_)
  · replace h := ifn h c2
    exact Wp_fgt (fg_s (fg_n (fg_n (fg_s fg_e)))) (J_X0_parts_88 _ _ _ _ h)
  · replace h := ifp h (Classical.not_not.mp c2)
    refine w_li rfl rfl ?_
    refine w_la rfl rfl ?_
    refine w_gf rfl (mg_33 _ _) rfl ?_
    refine w_isub rfl ?_
    refine w_si rfl (Nat.le_of_ble_eq_true rfl) rfl ?_
    exact Wp_fgt (fg_s (fg_n (fg_n (fg_s fg_e)))) (J_X0_parts_88 _ _ _ _ h)
set_option maxRecDepth 100000 in
theorem J_X0_parts_28  : ∀ (x1 : Int32) (s : SS) (t : TT) (q : Int32 × SS × TT), j_X0_parts_28 x1 s t = some q → Wp pl_Kc 7 28 [some (.ref 33), some (.int x1), none, none] [] (mk s t) (Qi q) := by
  intro x1 s t q h
  unfold j_X0_parts_28 at h
  refine w_la rfl rfl ?_
  refine w_ci rfl ?_
  obtain ⟨q1, e1, h⟩ := bnd h
  refine a_vi1v rfl (mg_33 _ _) (Nat.le_of_ble_eq_true rfl) (T_X0_enter e1) ?_
  refine w_la rfl rfl ?_
  refine w_gf rfl (mg_33 _ _) rfl ?_
  refine w_la rfl rfl ?_
  refine w_gf rfl (mg_33 _ _) rfl ?_
  refine w_isub rfl ?_
  refine w_si rfl (Nat.le_of_ble_eq_true rfl) rfl ?_
  refine w_li rfl rfl ?_
  refine w_if_ne rfl (fun c2 => ?_) (fun c2 => ?_)
  · replace h := ifn h c2
    refine w_la rfl rfl ?_
    refine w_gf rfl (mg_33 _ _) rfl ?_
    refine w_ci rfl ?_
    refine w_ic_ne rfl (fun c3 => ?_) (fun c3 => ?_)
    · replace h := ifn h c3
      refine w_li rfl rfl ?_
      exact Wp_fgt (fg_s (fg_n (fg_s (fg_n fg_e)))) (J_X0_parts_70 _ _ _ _ _ h)
    · replace h := ifp h (Classical.not_not.mp c3)
      refine w_li rfl rfl ?_
      refine w_ci rfl ?_
      refine w_imul rfl ?_
      refine w_go rfl ?_
      exact Wp_fgt (fg_s (fg_n (fg_s (fg_n fg_e)))) (J_X0_parts_70 _ _ _ _ _ h)
  · replace h := ifp h (Classical.not_not.mp c2)
    refine w_la rfl rfl ?_
    refine w_ci rfl ?_
    refine a_pf rfl rfl (mg_33 _ _) (Nat.le_of_ble_eq_true rfl) (ms_33_2 _ _) (fun s4 e4 => ?_)
    replace h := wr_of h s4 e4
    refine w_ci rfl ?_
    exact a_ri rfl h
set_option maxRecDepth 100000 in
theorem J_X0_parts_14  : ∀ (x1 : Int32) (s : SS) (t : TT) (q : Int32 × SS × TT), j_X0_parts_14 x1 s t = some q → Wp pl_Kc 7 14 [some (.ref 33), some (.int x1), none, none] [] (mk s t) (Qi q) := by
  intro x1 s t q h
  unfold j_X0_parts_14 at h
  refine w_la rfl rfl ?_
  refine w_gf rfl (mg_33 _ _) rfl ?_
  refine w_ci rfl ?_
  refine w_ic_ne rfl (fun c1 => ?_) (fun c1 => ?_)
  · replace h := ifn h c1
    exact Wp_fgt (fg_s (fg_s (fg_n (fg_n fg_e)))) (J_X0_parts_28 _ _ _ _ h)
  · replace h := ifp h (Classical.not_not.mp c1)
    refine w_la rfl rfl ?_
    refine w_ci rfl ?_
    obtain ⟨q2, e2, h⟩ := bnd h
    refine a_vi1v rfl (mg_33 _ _) (Nat.le_of_ble_eq_true rfl) (T_X0_enter e2) ?_
    exact Wp_fgt (fg_s (fg_s (fg_n (fg_n fg_e)))) (J_X0_parts_28 _ _ _ _ h)
set_option maxRecDepth 100000 in
theorem T_X0_parts  {x1 : Int32} {s : SS} {t : TT} {q : Int32 × SS × TT} (h : f_X0_parts x1 s t = some q) : Wm 7 [.ref 33, .int x1] (mk s t) (Qi q) := by
  refine Wm.of pT_7 (Nat.le_of_ble_eq_true rfl) (L0 := [some (.ref 33), some (.int x1), none, none]) rfl ?_
  unfold f_X0_parts at h
  refine w_la rfl rfl ?_
  refine w_gf rfl (mg_33 _ _) rfl ?_
  refine w_ci rfl ?_
  refine w_ic_ne rfl (fun c1 => ?_) (fun c1 => ?_)
  · replace h := ifn h c1
    exact Wp_fgt (fg_s (fg_s (fg_n (fg_n fg_e)))) (J_X0_parts_14 _ _ _ _ h)
  · replace h := ifp h (Classical.not_not.mp c1)
    refine w_la rfl rfl ?_
    refine w_ci rfl ?_
    obtain ⟨q2, e2, h⟩ := bnd h
    refine a_vi1v rfl (mg_33 _ _) (Nat.le_of_ble_eq_true rfl) (T_X0_enter e2) ?_
    exact Wp_fgt (fg_s (fg_s (fg_n (fg_n fg_e)))) (J_X0_parts_14 _ _ _ _ h)
-- X0_writes
set_option maxRecDepth 100000 in
theorem J_X0_writes_68  : ∀ (x2 : Int32) (s : SS) (t : TT) (q : Int32 × SS × TT), j_X0_writes_68 x2 s t = some q → Wp pl_Kc 8 68 [some (.ref 33), none, some (.int x2)] [] (mk s t) (Qi q) := by
  intro x2 s t q h
  unfold j_X0_writes_68 at h
  refine w_la rfl rfl ?_
  refine w_gf rfl (mg_33 _ _) rfl ?_
  refine w_ci rfl ?_
  refine w_ic_ne rfl (fun c1 => ?_) (fun c1 => ?_)
  · replace h := ifn h c1
    refine w_li rfl rfl ?_
    exact a_ri rfl h
  · replace h := ifp h (Classical.not_not.mp c1)
    refine w_ci rfl ?_
    refine w_li rfl rfl ?_
    refine w_isub rfl ?_
    refine w_si rfl (Nat.le_of_ble_eq_true rfl) rfl ?_
    refine w_li rfl rfl ?_
    exact a_ri rfl h
set_option maxRecDepth 100000 in
theorem J_X0_writes_31  : ∀ (x1 : Int32) (s : SS) (t : TT) (q : Int32 × SS × TT), j_X0_writes_31 x1 s t = some q → Wp pl_Kc 8 31 [some (.ref 33), some (.int x1), none] [] (mk s t) (Qi q) := by
  intro x1 s t q h
  unfold j_X0_writes_31 at h
  refine w_la rfl rfl ?_
  refine w_ci rfl ?_
  obtain ⟨q1, e1, h⟩ := bnd h
  refine a_vi1v rfl (mg_33 _ _) (Nat.le_of_ble_eq_true rfl) (T_X0_enter e1) ?_
  refine w_la rfl rfl ?_
  refine w_li rfl rfl ?_
  obtain ⟨q2, e2, h⟩ := bnd h
  refine a_vi1i rfl (mg_33 _ _) (Nat.le_of_ble_eq_true rfl) (T_X0_asks e2) ?_
  refine w_ci rfl ?_
  refine w_ixor rfl ?_
  refine w_si rfl (Nat.le_of_ble_eq_true rfl) rfl ?_
  refine w_la rfl rfl ?_
  refine w_gf rfl (mg_33 _ _) rfl ?_
  refine w_ci rfl ?_
  obtain ⟨q3, e3, h⟩ := bnd h
  refine a_st2i rfl (Nat.le_of_ble_eq_true rfl) (T_X5_isUnder e3) ?_
  refine w_if_eq rfl (fun c4 => ?_) (fun c4 => ?_)
  · replace h := ifp h c4
    exact Wp_fgt (fg_s (fg_n (fg_s fg_e))) (J_X0_writes_68 _ _ _ _ h)
  · replace h := ifn h c4
    refine w_li rfl rfl ?_
    refine w_la rfl rfl ?_
    refine w_la rfl rfl ?_
    refine w_gf rfl (mg_33 _ _) rfl ?_
    obtain ⟨q5, e5, h⟩ := bnd h
    refine a_vi1i rfl (mg_33 _ _) (Nat.le_of_ble_eq_true rfl) (T_X0_parts e5) ?_
    refine w_iadd rfl ?_
    refine w_si rfl (Nat.le_of_ble_eq_true rfl) rfl ?_
    exact Wp_fgt (fg_s (fg_n (fg_s fg_e))) (J_X0_writes_68 _ _ _ _ h)
set_option maxRecDepth 100000 in
theorem J_X0_writes_17  : ∀ (x1 : Int32) (s : SS) (t : TT) (q : Int32 × SS × TT), j_X0_writes_17 x1 s t = some q → Wp pl_Kc 8 17 [some (.ref 33), some (.int x1), none] [] (mk s t) (Qi q) := by
  intro x1 s t q h
  unfold j_X0_writes_17 at h
  refine w_la rfl rfl ?_
  refine w_gf rfl (mg_33 _ _) rfl ?_
  refine w_ci rfl ?_
  refine w_ic_ne rfl (fun c1 => ?_) (fun c1 => ?_)
  · replace h := ifn h c1
    exact Wp_fgt (fg_s (fg_s (fg_n fg_e))) (J_X0_writes_31 _ _ _ _ h)
  · replace h := ifp h (Classical.not_not.mp c1)
    refine w_la rfl rfl ?_
    refine w_ci rfl ?_
    obtain ⟨q2, e2, h⟩ := bnd h
    refine a_vi1v rfl (mg_33 _ _) (Nat.le_of_ble_eq_true rfl) (T_X0_enter e2) ?_
    exact Wp_fgt (fg_s (fg_s (fg_n fg_e))) (J_X0_writes_31 _ _ _ _ h)
set_option maxRecDepth 100000 in
theorem T_X0_writes  {x1 : Int32} {s : SS} {t : TT} {q : Int32 × SS × TT} (h : f_X0_writes x1 s t = some q) : Wm 8 [.ref 33, .int x1] (mk s t) (Qi q) := by
  refine Wm.of pT_8 (Nat.le_of_ble_eq_true rfl) (L0 := [some (.ref 33), some (.int x1), none]) rfl ?_
  unfold f_X0_writes at h
  refine w_la rfl rfl ?_
  refine w_gf rfl (mg_33 _ _) rfl ?_
  refine w_ci rfl ?_
  obtain ⟨q1, e1, h⟩ := bnd h
  refine a_st2i rfl (Nat.le_of_ble_eq_true rfl) (T_X5_isUnder e1) ?_
  refine w_if_eq rfl (fun c2 => ?_) (fun c2 => ?_)
  · replace h := ifp h c2
    exact Wp_fgt (fg_s (fg_s (fg_n fg_e))) (J_X0_writes_17 _ _ _ _ h)
  · replace h := ifn h c2
    refine w_la rfl rfl ?_
    refine w_ci rfl ?_
    obtain ⟨q3, e3, h⟩ := bnd h
    refine a_vi1v rfl (mg_33 _ _) (Nat.le_of_ble_eq_true rfl) (T_X0_enter e3) ?_
    exact Wp_fgt (fg_s (fg_s (fg_n fg_e))) (J_X0_writes_17 _ _ _ _ h)
-- X0_perform
set_option maxRecDepth 100000 in
theorem T_X0_perform  {x1 : Int32} {x2 : Int32} {s : SS} {t : TT} {q : Int32 × SS × TT} (h : f_X0_perform x1 x2 s t = some q) : Wm 3 [.ref 33, .int x1, .int x2] (mk s t) (Qi q) := by
  refine Wm.of pT_3 (Nat.le_of_ble_eq_true rfl) (L0 := [some (.ref 33), some (.int x1), some (.int x2)]) rfl ?_
  unfold f_X0_perform at h
  refine w_li rfl rfl ?_
  by_cases c1 : x1 = 0
  · replace h := ifp h c1
    refine w_swI rfl (tg := 32) (by rw [c1]; decide +kernel) ?_
    refine w_la rfl rfl ?_
    refine w_li rfl rfl ?_
    obtain ⟨q2, e2, h⟩ := bnd h
    refine a_vi1i rfl (mg_33 _ _) (Nat.le_of_ble_eq_true rfl) (T_X0_thinks e2) ?_
    exact a_ri rfl h
  replace h := ifn h c1
  by_cases c3 : x1 = 1
  · replace h := ifp h c3
    refine w_swI rfl (tg := 38) (by rw [c3]; decide +kernel) ?_
    refine w_la rfl rfl ?_
    refine w_li rfl rfl ?_
    obtain ⟨q4, e4, h⟩ := bnd h
    refine a_vi1i rfl (mg_33 _ _) (Nat.le_of_ble_eq_true rfl) (T_X0_asks e4) ?_
    exact a_ri rfl h
  replace h := ifn h c3
  by_cases c5 : x1 = 2
  · replace h := ifp h c5
    refine w_swI rfl (tg := 44) (by rw [c5]; decide +kernel) ?_
    refine w_la rfl rfl ?_
    refine w_li rfl rfl ?_
    obtain ⟨q6, e6, h⟩ := bnd h
    refine a_vi1i rfl (mg_33 _ _) (Nat.le_of_ble_eq_true rfl) (T_X0_parts e6) ?_
    exact a_ri rfl h
  replace h := ifn h c5
  by_cases c7 : x1 = 3
  · replace h := ifp h c7
    refine w_swI rfl (tg := 50) (by rw [c7]; decide +kernel) ?_
    refine w_la rfl rfl ?_
    refine w_li rfl rfl ?_
    obtain ⟨q8, e8, h⟩ := bnd h
    refine a_vi1i rfl (mg_33 _ _) (Nat.le_of_ble_eq_true rfl) (T_X0_writes e8) ?_
    exact a_ri rfl h
  replace h := ifn h c7
  refine w_swI rfl (tg := 56) (sw_df (zs := [0, 1, 2, 3]) (swz_c (i32ne c1 rfl) (swz_c (i32ne c3 rfl) (swz_c (i32ne c5 rfl) (swz_c (i32ne c7 rfl) swz_n)))) (by decide +kernel)) ?_
  refine w_ci rfl ?_
  exact a_ri rfl h
-- X1_begin
set_option maxRecDepth 100000 in
theorem T_X1_begin {o : Nat} (ho : isO o) {s : SS} {t : TT} {q : SS × TT} (h : f_X1_begin o s t = some q) : Wm 10 [.ref o] (mk s t) (Qv q) := by
  refine Wm.of pT_10 (Nat.le_of_ble_eq_true rfl) (L0 := [some (.ref o)]) rfl ?_
  unfold f_X1_begin at h
  refine w_gs rfl ?_
  refine w_ci rfl ?_
  refine w_la rfl rfl ?_
  refine w_gf rfl (mgO ho _ _) rfl ?_
  refine w_ci rfl ?_
  refine w_la rfl rfl ?_
  refine w_gf rfl (mgO ho _ _) rfl ?_
  refine w_len rfl (n := 4) (mlen (mgO_1 ho _ _)) ?_
  refine a_cp (m := 4) rfl (mrB2 _ _) (mgO_1 ho _ _) (by decide) (by decide) (Nat.le_of_ble_eq_true rfl) (cpO_1 ho _ _) (fun s1 e1 => ?_)
  replace h := wr_of h s1 e1
  refine w_la rfl rfl ?_
  refine w_ci rfl ?_
  refine a_pf rfl rfl (mgO ho _ _) (Nat.le_of_ble_eq_true rfl) (msOf_8 ho _ _) (fun s2 e2 => ?_)
  replace h := wr_of h s2 e2
  refine w_la rfl rfl ?_
  refine w_ci rfl ?_
  refine a_pf rfl rfl (mgO ho _ _) (Nat.le_of_ble_eq_true rfl) (msOf_9 ho _ _) (fun s3 e3 => ?_)
  replace h := wr_of h s3 e3
  refine w_la rfl rfl ?_
  refine w_ci rfl ?_
  refine a_pf rfl rfl (mgO ho _ _) (Nat.le_of_ble_eq_true rfl) (msOf_10 ho _ _) (fun s4 e4 => ?_)
  replace h := wr_of h s4 e4
  exact a_rv rfl h
-- X1_become
set_option maxRecDepth 100000 in
theorem T_X1_become {o : Nat} (ho : isO o) {o1 : Nat} (ho1 : isO o1) {s : SS} {t : TT} {q : SS × TT} (h : f_X1_become o o1 s t = some q) : Wm 11 [.ref o, .ref o1] (mk s t) (Qv q) := by
  refine Wm.of pT_11 (Nat.le_of_ble_eq_true rfl) (L0 := [some (.ref o), some (.ref o1)]) rfl ?_
  unfold f_X1_become at h
  refine w_la rfl rfl ?_
  refine w_gf rfl (mgO ho1 _ _) rfl ?_
  refine w_ci rfl ?_
  refine w_la rfl rfl ?_
  refine w_gf rfl (mgO ho _ _) rfl ?_
  refine w_ci rfl ?_
  refine w_la rfl rfl ?_
  refine w_gf rfl (mgO ho _ _) rfl ?_
  refine w_len rfl (n := 4) (mlen (mgO_1 ho _ _)) ?_
  refine a_cp (m := 4) rfl (mrO_1 ho1 _ _ _) (mgO_1 ho _ _) (by decide) (by decide) (Nat.le_of_ble_eq_true rfl) (cpO_1 ho _ _) (fun s1 e1 => ?_)
  replace h := wr_of h s1 e1
  refine w_la rfl rfl ?_
  refine w_gf rfl (mgO ho1 _ _) rfl ?_
  refine w_ci rfl ?_
  refine w_la rfl rfl ?_
  refine w_gf rfl (mgO ho _ _) rfl ?_
  refine w_ci rfl ?_
  refine w_ci rfl ?_
  refine a_cp (m := 8) rfl (mrO_2 ho1 _ _ _) (mgO_2 ho _ _) (by decide) (by decide) (Nat.le_of_ble_eq_true rfl) (cpO_2 ho _ _) (fun s2 e2 => ?_)
  replace h := wr_of h s2 e2
  refine w_la rfl rfl ?_
  refine w_gf rfl (mgO ho1 _ _) rfl ?_
  refine w_ci rfl ?_
  refine w_la rfl rfl ?_
  refine w_gf rfl (mgO ho _ _) rfl ?_
  refine w_ci rfl ?_
  refine w_ci rfl ?_
  refine a_cp (m := 8) rfl (mrO_3 ho1 _ _ _) (mgO_3 ho _ _) (by decide) (by decide) (Nat.le_of_ble_eq_true rfl) (cpO_3 ho _ _) (fun s3 e3 => ?_)
  replace h := wr_of h s3 e3
  refine w_la rfl rfl ?_
  refine w_gf rfl (mgO ho1 _ _) rfl ?_
  refine w_ci rfl ?_
  refine w_la rfl rfl ?_
  refine w_gf rfl (mgO ho _ _) rfl ?_
  refine w_ci rfl ?_
  refine w_ci rfl ?_
  refine a_cp (m := 8) rfl (mrO_4 ho1 _ _ _) (mgO_4 ho _ _) (by decide) (by decide) (Nat.le_of_ble_eq_true rfl) (cpO_4 ho _ _) (fun s4 e4 => ?_)
  replace h := wr_of h s4 e4
  refine w_la rfl rfl ?_
  refine w_gf rfl (mgO ho1 _ _) rfl ?_
  refine w_ci rfl ?_
  refine w_la rfl rfl ?_
  refine w_gf rfl (mgO ho _ _) rfl ?_
  refine w_ci rfl ?_
  refine w_ci rfl ?_
  refine a_cp (m := 8) rfl (mrO_5 ho1 _ _ _) (mgO_5 ho _ _) (by decide) (by decide) (Nat.le_of_ble_eq_true rfl) (cpO_5 ho _ _) (fun s5 e5 => ?_)
  replace h := wr_of h s5 e5
  refine w_la rfl rfl ?_
  refine w_gf rfl (mgO ho1 _ _) rfl ?_
  refine w_ci rfl ?_
  refine w_la rfl rfl ?_
  refine w_gf rfl (mgO ho _ _) rfl ?_
  refine w_ci rfl ?_
  refine w_ci rfl ?_
  refine a_cp (m := 8) rfl (mrO_6 ho1 _ _ _) (mgO_6 ho _ _) (by decide) (by decide) (Nat.le_of_ble_eq_true rfl) (cpO_6 ho _ _) (fun s6 e6 => ?_)
  replace h := wr_of h s6 e6
  refine w_la rfl rfl ?_
  refine w_gf rfl (mgO ho1 _ _) rfl ?_
  refine w_ci rfl ?_
  refine w_la rfl rfl ?_
  refine w_gf rfl (mgO ho _ _) rfl ?_
  refine w_ci rfl ?_
  refine w_ci rfl ?_
  refine a_cp (m := 8) rfl (mrO_7 ho1 _ _ _) (mgO_7 ho _ _) (by decide) (by decide) (Nat.le_of_ble_eq_true rfl) (cpO_7 ho _ _) (fun s7 e7 => ?_)
  replace h := wr_of h s7 e7
  refine w_la rfl rfl ?_
  refine w_la rfl rfl ?_
  refine w_gf rfl (mgO ho1 _ _) rfl ?_
  refine a_pf rfl rfl (mgO ho _ _) (Nat.le_of_ble_eq_true rfl) (msOf_8 ho _ _) (fun s8 e8 => ?_)
  replace h := wr_of h s8 e8
  refine w_la rfl rfl ?_
  refine w_la rfl rfl ?_
  refine w_gf rfl (mgO ho1 _ _) rfl ?_
  refine a_pf rfl rfl (mgO ho _ _) (Nat.le_of_ble_eq_true rfl) (msOf_9 ho _ _) (fun s9 e9 => ?_)
  replace h := wr_of h s9 e9
  refine w_la rfl rfl ?_
  refine w_la rfl rfl ?_
  refine w_gf rfl (mgO ho1 _ _) rfl ?_
  refine a_pf rfl rfl (mgO ho _ _) (Nat.le_of_ble_eq_true rfl) (msOf_10 ho _ _) (fun s10 e10 => ?_)
  replace h := wr_of h s10 e10
  refine w_la rfl rfl ?_
  refine w_la rfl rfl ?_
  refine w_gf rfl (mgO ho1 _ _) rfl ?_
  refine a_pf rfl rfl (mgO ho _ _) (Nat.le_of_ble_eq_true rfl) (msOf_11 ho _ _) (fun s11 e11 => ?_)
  replace h := wr_of h s11 e11
  exact a_rv rfl h
-- X1_add
set_option maxRecDepth 100000 in
theorem T_X1_add {o : Nat} (ho : isO o) {x1 : Int32} {x2 : Int32} {x3 : Int32} {x4 : Int32} {s : SS} {t : TT} {q : SS × TT} (h : f_X1_add o x1 x2 x3 x4 s t = some q) : Wm 12 [.ref o, .int x1, .int x2, .int x3, .int x4] (mk s t) (Qv q) := by
  refine Wm.of pT_12 (Nat.le_of_ble_eq_true rfl) (L0 := [some (.ref o), some (.int x1), some (.int x2), some (.int x3), some (.int x4)]) rfl ?_
  unfold f_X1_add at h
  refine w_la rfl rfl ?_
  refine w_gf rfl (mgO ho _ _) rfl ?_
  refine w_la rfl rfl ?_
  refine w_gf rfl (mgO ho _ _) rfl ?_
  refine w_li rfl rfl ?_
  obtain ⟨j1, e1, h⟩ := bnd h
  refine a_is rfl (mgO_2 ho _ _) (msO_2 ho _ _) e1 (fun s1 w1 => ?_)
  replace h := wr_of h s1 w1
  refine w_la rfl rfl ?_
  refine w_gf rfl (mgO ho _ _) rfl ?_
  refine w_la rfl rfl ?_
  refine w_gf rfl (mgO ho _ _) rfl ?_
  refine w_li rfl rfl ?_
  obtain ⟨j2, e2, h⟩ := bnd h
  refine a_is rfl (mgO_3 ho _ _) (msO_3 ho _ _) e2 (fun s2 w2 => ?_)
  replace h := wr_of h s2 w2
  refine w_la rfl rfl ?_
  refine w_gf rfl (mgO ho _ _) rfl ?_
  refine w_la rfl rfl ?_
  refine w_gf rfl (mgO ho _ _) rfl ?_
  refine w_li rfl rfl ?_
  obtain ⟨j3, e3, h⟩ := bnd h
  refine a_is rfl (mgO_4 ho _ _) (msO_4 ho _ _) e3 (fun s3 w3 => ?_)
  replace h := wr_of h s3 w3
  refine w_la rfl rfl ?_
  refine w_gf rfl (mgO ho _ _) rfl ?_
  refine w_la rfl rfl ?_
  refine w_gf rfl (mgO ho _ _) rfl ?_
  refine w_li rfl rfl ?_
  obtain ⟨j4, e4, h⟩ := bnd h
  refine a_is rfl (mgO_5 ho _ _) (msO_5 ho _ _) e4 (fun s4 w4 => ?_)
  replace h := wr_of h s4 w4
  refine w_la rfl rfl ?_
  refine w_gf rfl (mgO ho _ _) rfl ?_
  refine w_la rfl rfl ?_
  refine w_gf rfl (mgO ho _ _) rfl ?_
  refine w_ci rfl ?_
  obtain ⟨j5, e5, h⟩ := bnd h
  refine a_is rfl (mgO_6 ho _ _) (msO_6 ho _ _) e5 (fun s5 w5 => ?_)
  replace h := wr_of h s5 w5
  refine w_la rfl rfl ?_
  refine w_gf rfl (mgO ho _ _) rfl ?_
  refine w_la rfl rfl ?_
  refine w_gf rfl (mgO ho _ _) rfl ?_
  refine w_ci rfl ?_
  obtain ⟨j6, e6, h⟩ := bnd h
  refine a_is rfl (mgO_7 ho _ _) (msO_7 ho _ _) e6 (fun s6 w6 => ?_)
  replace h := wr_of h s6 w6
  refine w_la rfl rfl ?_
  refine w_dup rfl rfl ?_
  refine w_gf rfl (mgO ho _ _) rfl ?_
  refine w_ci rfl ?_
  refine w_iadd rfl ?_
  refine a_pf rfl rfl (mgO ho _ _) (Nat.le_of_ble_eq_true rfl) (msOf_8 ho _ _) (fun s7 e7 => ?_)
  replace h := wr_of h s7 e7
  exact a_rv rfl h
-- X5_isWithin
set_option maxRecDepth 100000 in
theorem T_X5_isWithin  {x0 : Int32} {x1 : Int32} {x2 : Int32} {s : SS} {t : TT} {q : Int32 × SS × TT} (h : f_X5_isWithin x0 x1 x2 s t = some q) : Wm 95 [.int x0, .int x1, .int x2] (mk s t) (Qi q) := by
  refine Wm.of pT_95 (Nat.le_of_ble_eq_true rfl) (L0 := [some (.int x0), some (.int x1), some (.int x2)]) rfl ?_
  unfold f_X5_isWithin at h
  refine w_li rfl rfl ?_
  refine w_li rfl rfl ?_
  refine w_ic_lt rfl (fun c1 => ?_) (fun c1 => ?_)
  · replace h := ifp h c1
    refine w_ci rfl ?_
    exact a_rz rfl (by decide) h
  · replace h := ifn h c1
    refine w_li rfl rfl ?_
    refine w_li rfl rfl ?_
    refine w_ic_gt rfl (fun c2 => ?_) (fun c2 => ?_)
    · replace h := ifp h c2
      refine w_ci rfl ?_
      exact a_rz rfl (by decide) h
    · replace h := ifn h c2
      refine w_ci rfl ?_
      refine w_go rfl ?_
      exact a_rz rfl (by decide) h
-- X1_has
set_option maxRecDepth 100000 in
theorem T_X1_has {o : Nat} (ho : isO o) {x1 : Int32} {s : SS} {t : TT} {q : Int32 × SS × TT} (h : f_X1_has o x1 s t = some q) : Wm 13 [.ref o, .int x1] (mk s t) (Qi q) := by
  refine Wm.of pT_13 (Nat.le_of_ble_eq_true rfl) (L0 := [some (.ref o), some (.int x1)]) rfl ?_
  unfold f_X1_has at h
  refine w_li rfl rfl ?_
  refine w_ci rfl ?_
  refine w_la rfl rfl ?_
  refine w_gf rfl (mgO ho _ _) rfl ?_
  refine w_ci rfl ?_
  refine w_isub rfl ?_
  obtain ⟨q1, e1, h⟩ := bnd h
  refine a_st3i rfl (Nat.le_of_ble_eq_true rfl) (T_X5_isWithin e1) ?_
  exact a_rzc rfl h
-- X1_sumOf
set_option maxRecDepth 100000 in
theorem B_X1_sumOf_4 {o : Nat} (ho : isO o) {o1 : Nat} (ho1 : isR8 o1) {k4 : Int32 × Int32 × SS × TT → Option (Int32 × SS × TT)} (hk4 : ∀ (x2 : Int32) (x3 : Int32) (s : SS) (t : TT) (q : Int32 × SS × TT), k4 (x2, x3, s, t) = some q → Wp pl_Kc 14 4 [some (.ref o), some (.ref o1), some (.int x2), some (.int x3)] [] (mk s t) (Qi q)) : ∀ (x2 : Int32) (x3 : Int32) (s : SS) (t : TT) (q : Int32 × SS × TT), b_X1_sumOf_4 o o1 k4 x2 x3 s t = some q → Wp pl_Kc 14 4 [some (.ref o), some (.ref o1), some (.int x2), some (.int x3)] [] (mk s t) (Qi q) := by
  intro x2 x3 s t q h
  unfold b_X1_sumOf_4 at h
  refine w_li rfl rfl ?_
  refine w_la rfl rfl ?_
  refine w_gf rfl (mgO ho _ _) rfl ?_
  refine w_ic_ge rfl (fun c1 => ?_) (fun c1 => ?_)
  · replace h := ifp h c1
    refine w_li rfl rfl ?_
    exact a_ri rfl h
  · replace h := ifn h c1
    refine w_li rfl rfl ?_
    refine w_la rfl rfl ?_
    refine w_li rfl rfl ?_
    obtain ⟨j2, e2, h⟩ := bnd h
    refine a_ia rfl (mrR8 ho1 _ _ _) e2 ?_
    refine w_iadd rfl ?_
    refine w_si rfl (Nat.le_of_ble_eq_true rfl) rfl ?_
    refine w_inc rfl rfl rfl ?_
    refine w_go rfl ?_
    exact Wp_fgt (fg_s (fg_s (fg_s (fg_s fg_e)))) (hk4 _ _ _ _ _ h)
theorem K_X1_sumOf_4 {o : Nat} (ho : isO o) {o1 : Nat} (ho1 : isR8 o1) : ∀ (n : Nat) (x2 : Int32) (x3 : Int32) (s : SS) (t : TT) (q : Int32 × SS × TT), l_X1_sumOf_4 o o1 n (x2, x3, s, t) = some q → Wp pl_Kc 14 4 [some (.ref o), some (.ref o1), some (.int x2), some (.int x3)] [] (mk s t) (Qi q)
  | 0, x2, x3, s, t, q, h => by cases (show (none : Option (Int32 × SS × TT)) = some q from h)
  | n + 1, x2, x3, s, t, q, h => B_X1_sumOf_4 ho ho1 (K_X1_sumOf_4 ho ho1 n) x2 x3 s t q h
set_option maxRecDepth 100000 in
theorem T_X1_sumOf {o : Nat} (ho : isO o) {o1 : Nat} (ho1 : isR8 o1) {s : SS} {t : TT} {q : Int32 × SS × TT} (h : f_X1_sumOf o o1 s t = some q) : Wm 14 [.ref o, .ref o1] (mk s t) (Qi q) := by
  refine Wm.of pT_14 (Nat.le_of_ble_eq_true rfl) (L0 := [some (.ref o), some (.ref o1), none, none]) rfl ?_
  unfold f_X1_sumOf at h
  refine w_ci rfl ?_
  refine w_si rfl (Nat.le_of_ble_eq_true rfl) rfl ?_
  refine w_ci rfl ?_
  refine w_si rfl (Nat.le_of_ble_eq_true rfl) rfl ?_
  exact Wp_fgt (fg_s (fg_s (fg_s (fg_s fg_e)))) (K_X1_sumOf_4 ho ho1 _ _ _ _ _ _ h)
-- X1_countOf
set_option maxRecDepth 100000 in
theorem B_X1_countOf_4 {o : Nat} (ho : isO o) {o1 : Nat} (ho1 : isR8 o1) {k4 : Int32 × Int32 × SS × TT → Option (Int32 × SS × TT)} (hk4 : ∀ (x2 : Int32) (x3 : Int32) (s : SS) (t : TT) (q : Int32 × SS × TT), k4 (x2, x3, s, t) = some q → Wp pl_Kc 15 4 [some (.ref o), some (.ref o1), some (.int x2), some (.int x3)] [] (mk s t) (Qi q)) : ∀ (x2 : Int32) (x3 : Int32) (s : SS) (t : TT) (q : Int32 × SS × TT), b_X1_countOf_4 o o1 k4 x2 x3 s t = some q → Wp pl_Kc 15 4 [some (.ref o), some (.ref o1), some (.int x2), some (.int x3)] [] (mk s t) (Qi q) := by
  intro x2 x3 s t q h
  unfold b_X1_countOf_4 at h
  refine w_li rfl rfl ?_
  refine w_la rfl rfl ?_
  refine w_gf rfl (mgO ho _ _) rfl ?_
  refine w_ic_ge rfl (fun c1 => ?_) (fun c1 => ?_)
  · replace h := ifp h c1
    refine w_li rfl rfl ?_
    exact a_ri rfl h
  · replace h := ifn h c1
    refine w_la rfl rfl ?_
    refine w_li rfl rfl ?_
    obtain ⟨j2, e2, h⟩ := bnd h
    refine a_ia rfl (mrR8 ho1 _ _ _) e2 ?_
    refine w_if_le rfl (fun c3 => ?_) (fun c3 => ?_)
    · replace h := ifp h c3
      refine w_inc rfl rfl rfl ?_
      refine w_go rfl ?_
      exact Wp_fgt (fg_s (fg_s (fg_s (fg_s fg_e)))) (hk4 _ _ _ _ _ h)
    · replace h := ifn h c3
      refine w_inc rfl rfl rfl ?_
      refine w_inc rfl rfl rfl ?_
      refine w_go rfl ?_
      exact Wp_fgt (fg_s (fg_s (fg_s (fg_s fg_e)))) (hk4 _ _ _ _ _ h)
theorem K_X1_countOf_4 {o : Nat} (ho : isO o) {o1 : Nat} (ho1 : isR8 o1) : ∀ (n : Nat) (x2 : Int32) (x3 : Int32) (s : SS) (t : TT) (q : Int32 × SS × TT), l_X1_countOf_4 o o1 n (x2, x3, s, t) = some q → Wp pl_Kc 15 4 [some (.ref o), some (.ref o1), some (.int x2), some (.int x3)] [] (mk s t) (Qi q)
  | 0, x2, x3, s, t, q, h => by cases (show (none : Option (Int32 × SS × TT)) = some q from h)
  | n + 1, x2, x3, s, t, q, h => B_X1_countOf_4 ho ho1 (K_X1_countOf_4 ho ho1 n) x2 x3 s t q h
set_option maxRecDepth 100000 in
theorem T_X1_countOf {o : Nat} (ho : isO o) {o1 : Nat} (ho1 : isR8 o1) {s : SS} {t : TT} {q : Int32 × SS × TT} (h : f_X1_countOf o o1 s t = some q) : Wm 15 [.ref o, .ref o1] (mk s t) (Qi q) := by
  refine Wm.of pT_15 (Nat.le_of_ble_eq_true rfl) (L0 := [some (.ref o), some (.ref o1), none, none]) rfl ?_
  unfold f_X1_countOf at h
  refine w_ci rfl ?_
  refine w_si rfl (Nat.le_of_ble_eq_true rfl) rfl ?_
  refine w_ci rfl ?_
  refine w_si rfl (Nat.le_of_ble_eq_true rfl) rfl ?_
  exact Wp_fgt (fg_s (fg_s (fg_s (fg_s fg_e)))) (K_X1_countOf_4 ho ho1 _ _ _ _ _ _ h)
-- X1_needing
set_option maxRecDepth 100000 in
theorem J_X1_needing_61 {o : Nat} (ho : isO o) : ∀ (x2 : Int32) (x3 : Int32) (s : SS) (t : TT) (q : Int32 × SS × TT), j_X1_needing_61 o x2 x3 s t = some q → Wp pl_Kc 18 61 [none, none, some (.int x2), some (.int x3)] [] (mk s t) (Qi q) := by
  intro x2 x3 s t q h
  unfold j_X1_needing_61 at h
  refine w_li rfl rfl ?_
  refine w_ci rfl ?_
  refine w_ic_ne rfl (fun c1 => ?_) (fun c1 => ?_)
  · replace h := ifn h c1
    refine w_li rfl rfl ?_
    exact a_ri rfl h
  · replace h := ifp h (Classical.not_not.mp c1)
    refine w_inc rfl rfl rfl ?_
    refine w_li rfl rfl ?_
    exact a_ri rfl h
set_option maxRecDepth 100000 in
theorem J_X1_needing_53 {o : Nat} (ho : isO o) : ∀ (x2 : Int32) (x3 : Int32) (s : SS) (t : TT) (q : Int32 × SS × TT), j_X1_needing_53 o x2 x3 s t = some q → Wp pl_Kc 18 53 [none, none, some (.int x2), some (.int x3)] [] (mk s t) (Qi q) := by
  intro x2 x3 s t q h
  unfold j_X1_needing_53 at h
  refine w_li rfl rfl ?_
  refine w_ci rfl ?_
  refine w_ic_ne rfl (fun c1 => ?_) (fun c1 => ?_)
  · replace h := ifn h c1
    exact Wp_fgt (fg_n (fg_n (fg_s (fg_s fg_e)))) (J_X1_needing_61 ho _ _ _ _ _ h)
  · replace h := ifp h (Classical.not_not.mp c1)
    refine w_inc rfl rfl rfl ?_
    exact Wp_fgt (fg_n (fg_n (fg_s (fg_s fg_e)))) (J_X1_needing_61 ho _ _ _ _ _ h)
set_option maxRecDepth 100000 in
theorem J_X1_needing_41 {o : Nat} (ho : isO o) : ∀ (x2 : Int32) (x3 : Int32) (s : SS) (t : TT) (q : Int32 × SS × TT), j_X1_needing_41 o x2 x3 s t = some q → Wp pl_Kc 18 41 [none, none, some (.int x2), some (.int x3)] [] (mk s t) (Qi q) := by
  intro x2 x3 s t q h
  unfold j_X1_needing_41 at h
  refine w_li rfl rfl ?_
  refine w_ci rfl ?_
  obtain ⟨q1, e1, h⟩ := bnd h
  refine a_st2i rfl (Nat.le_of_ble_eq_true rfl) (T_X5_isUnder e1) ?_
  refine w_if_eq rfl (fun c2 => ?_) (fun c2 => ?_)
  · replace h := ifp h c2
    exact Wp_fgt (fg_n (fg_n (fg_s (fg_s fg_e)))) (J_X1_needing_53 ho _ _ _ _ _ h)
  · replace h := ifn h c2
    refine w_li rfl rfl ?_
    refine w_ci rfl ?_
    refine w_imul rfl ?_
    refine w_si rfl (Nat.le_of_ble_eq_true rfl) rfl ?_
    exact Wp_fgt (fg_n (fg_n (fg_s (fg_s fg_e)))) (J_X1_needing_53 ho _ _ _ _ _ h)
set_option maxRecDepth 100000 in
theorem J_X1_needing_27 {o : Nat} (ho : isO o) : ∀ (x1 : Int32) (x2 : Int32) (x3 : Int32) (s : SS) (t : TT) (q : Int32 × SS × TT), j_X1_needing_27 o x1 x2 x3 s t = some q → Wp pl_Kc 18 27 [some (.ref o), some (.int x1), some (.int x2), some (.int x3)] [] (mk s t) (Qi q) := by
  intro x1 x2 x3 s t q h
  unfold j_X1_needing_27 at h
  refine w_li rfl rfl ?_
  refine w_ci rfl ?_
  refine w_ic_ne rfl (fun c1 => ?_) (fun c1 => ?_)
  · replace h := ifn h c1
    exact Wp_fgt (fg_n (fg_n (fg_s (fg_s fg_e)))) (J_X1_needing_41 ho _ _ _ _ _ h)
  · replace h := ifp h (Classical.not_not.mp c1)
    refine w_li rfl rfl ?_
    refine w_la rfl rfl ?_
    refine w_gf rfl (mgO ho _ _) rfl ?_
    refine w_li rfl rfl ?_
    obtain ⟨j2, e2, h⟩ := bnd h
    refine a_ia rfl (mrO_4 ho _ _ _) e2 ?_
    refine w_isub rfl ?_
    refine w_si rfl (Nat.le_of_ble_eq_true rfl) rfl ?_
    exact Wp_fgt (fg_n (fg_n (fg_s (fg_s fg_e)))) (J_X1_needing_41 ho _ _ _ _ _ h)
set_option maxRecDepth 100000 in
theorem T_X1_needing {o : Nat} (ho : isO o) {x1 : Int32} {s : SS} {t : TT} {q : Int32 × SS × TT} (h : f_X1_needing o x1 s t = some q) : Wm 18 [.ref o, .int x1] (mk s t) (Qi q) := by
  refine Wm.of pT_18 (Nat.le_of_ble_eq_true rfl) (L0 := [some (.ref o), some (.int x1), none, none]) rfl ?_
  unfold f_X1_needing at h
  refine w_la rfl rfl ?_
  refine w_gf rfl (mgO ho _ _) rfl ?_
  refine w_li rfl rfl ?_
  obtain ⟨j1, e1, h⟩ := bnd h
  refine a_ia rfl (mrO_2 ho _ _ _) e1 ?_
  refine w_si rfl (Nat.le_of_ble_eq_true rfl) rfl ?_
  refine w_ci rfl ?_
  refine w_si rfl (Nat.le_of_ble_eq_true rfl) rfl ?_
  refine w_li rfl rfl ?_
  refine w_ci rfl ?_
  obtain ⟨q2, e2, h⟩ := bnd h
  refine a_st2i rfl (Nat.le_of_ble_eq_true rfl) (T_X5_isUnder e2) ?_
  refine w_if_eq rfl (fun c3 => ?_) (fun c3 => ?_)
  · replace h := ifp h c3
    exact Wp_fgt (fg_s (fg_s (fg_s (fg_s fg_e)))) (J_X1_needing_27 ho _ _ _ _ _ _ h)
  · replace h := ifn h c3
    refine w_li rfl rfl ?_
    refine w_la rfl rfl ?_
    refine w_gf rfl (mgO ho _ _) rfl ?_
    refine w_ci rfl ?_
    obtain ⟨j4, e4, h⟩ := bnd h
    refine a_ia rfl (mrO_1 ho _ _ _) e4 ?_
    refine w_iadd rfl ?_
    refine w_si rfl (Nat.le_of_ble_eq_true rfl) rfl ?_
    exact Wp_fgt (fg_s (fg_s (fg_s (fg_s fg_e)))) (J_X1_needing_27 ho _ _ _ _ _ _ h)
-- X1_readySet
set_option maxRecDepth 100000 in
theorem B_X1_readySet_4 {o : Nat} (ho : isO o) {k4 : Int32 × Int32 × SS × TT → Option (Int32 × SS × TT)} (hk4 : ∀ (x1 : Int32) (x2 : Int32) (s : SS) (t : TT) (q : Int32 × SS × TT), k4 (x1, x2, s, t) = some q → Wp pl_Kc 16 4 [some (.ref o), some (.int x1), some (.int x2)] [] (mk s t) (Qi q)) : ∀ (x1 : Int32) (x2 : Int32) (s : SS) (t : TT) (q : Int32 × SS × TT), b_X1_readySet_4 o k4 x1 x2 s t = some q → Wp pl_Kc 16 4 [some (.ref o), some (.int x1), some (.int x2)] [] (mk s t) (Qi q) := by
  intro x1 x2 s t q h
  unfold b_X1_readySet_4 at h
  refine w_li rfl rfl ?_
  refine w_la rfl rfl ?_
  refine w_gf rfl (mgO ho _ _) rfl ?_
  refine w_ic_ge rfl (fun c1 => ?_) (fun c1 => ?_)
  · replace h := ifp h c1
    refine w_li rfl rfl ?_
    exact a_ri rfl h
  · replace h := ifn h c1
    refine w_la rfl rfl ?_
    refine w_gf rfl (mgO ho _ _) rfl ?_
    refine w_li rfl rfl ?_
    obtain ⟨j2, e2, h⟩ := bnd h
    refine a_ia rfl (mrO_3 ho _ _ _) e2 ?_
    refine w_la rfl rfl ?_
    refine w_li rfl rfl ?_
    obtain ⟨q3, e3, h⟩ := bnd h
    refine a_vi1i rfl (mgO ho _ _) (Nat.le_of_ble_eq_true rfl) (T_X1_needing ho e3) ?_
    refine w_ic_lt rfl (fun c4 => ?_) (fun c4 => ?_)
    · replace h := ifp h c4
      refine w_inc rfl rfl rfl ?_
      refine w_go rfl ?_
      exact Wp_fgt (fg_s (fg_s (fg_s fg_e))) (hk4 _ _ _ _ _ h)
    · replace h := ifn h c4
      refine w_li rfl rfl ?_
      refine w_ci rfl ?_
      refine w_li rfl rfl ?_
      refine w_ishl rfl ?_
      refine w_ior rfl ?_
      refine w_si rfl (Nat.le_of_ble_eq_true rfl) rfl ?_
      refine w_inc rfl rfl rfl ?_
      refine w_go rfl ?_
      exact Wp_fgt (fg_s (fg_s (fg_s fg_e))) (hk4 _ _ _ _ _ h)
theorem K_X1_readySet_4 {o : Nat} (ho : isO o) : ∀ (n : Nat) (x1 : Int32) (x2 : Int32) (s : SS) (t : TT) (q : Int32 × SS × TT), l_X1_readySet_4 o n (x1, x2, s, t) = some q → Wp pl_Kc 16 4 [some (.ref o), some (.int x1), some (.int x2)] [] (mk s t) (Qi q)
  | 0, x1, x2, s, t, q, h => by cases (show (none : Option (Int32 × SS × TT)) = some q from h)
  | n + 1, x1, x2, s, t, q, h => B_X1_readySet_4 ho (K_X1_readySet_4 ho n) x1 x2 s t q h
set_option maxRecDepth 100000 in
theorem T_X1_readySet {o : Nat} (ho : isO o) {s : SS} {t : TT} {q : Int32 × SS × TT} (h : f_X1_readySet o s t = some q) : Wm 16 [.ref o] (mk s t) (Qi q) := by
  refine Wm.of pT_16 (Nat.le_of_ble_eq_true rfl) (L0 := [some (.ref o), none, none]) rfl ?_
  unfold f_X1_readySet at h
  refine w_ci rfl ?_
  refine w_si rfl (Nat.le_of_ble_eq_true rfl) rfl ?_
  refine w_ci rfl ?_
  refine w_si rfl (Nat.le_of_ble_eq_true rfl) rfl ?_
  exact Wp_fgt (fg_s (fg_s (fg_s fg_e))) (K_X1_readySet_4 ho _ _ _ _ _ _ h)
-- X1_thinking
set_option maxRecDepth 100000 in
theorem J_X1_thinking_54 {o : Nat} (ho : isO o) : ∀ (x1 : Int32) (x2 : Int32) (x3 : Int32) (s : SS) (t : TT) (q : Int32 × SS × TT), j_X1_thinking_54 o x1 x2 x3 s t = some q → Wp pl_Kc 17 54 [some (.ref o), some (.int x1), some (.int x2), some (.int x3)] [] (mk s t) (Qi q) := by
  intro x1 x2 x3 s t q h
  unfold j_X1_thinking_54 at h
  refine w_li rfl rfl ?_
  refine w_ci rfl ?_
  refine w_ic_ne rfl (fun c1 => ?_) (fun c1 => ?_)
  · replace h := ifn h c1
    refine w_li rfl rfl ?_
    exact a_ri rfl h
  · replace h := ifp h (Classical.not_not.mp c1)
    refine w_li rfl rfl ?_
    refine w_la rfl rfl ?_
    refine w_gf rfl (mgO ho _ _) rfl ?_
    refine w_li rfl rfl ?_
    obtain ⟨j2, e2, h⟩ := bnd h
    refine a_ia rfl (mrO_4 ho _ _ _) e2 ?_
    refine w_iadd rfl ?_
    refine w_si rfl (Nat.le_of_ble_eq_true rfl) rfl ?_
    refine w_li rfl rfl ?_
    exact a_ri rfl h
set_option maxRecDepth 100000 in
theorem J_X1_thinking_40 {o : Nat} (ho : isO o) : ∀ (x1 : Int32) (x2 : Int32) (x3 : Int32) (s : SS) (t : TT) (q : Int32 × SS × TT), j_X1_thinking_40 o x1 x2 x3 s t = some q → Wp pl_Kc 17 40 [some (.ref o), some (.int x1), some (.int x2), some (.int x3)] [] (mk s t) (Qi q) := by
  intro x1 x2 x3 s t q h
  unfold j_X1_thinking_40 at h
  refine w_li rfl rfl ?_
  refine w_ci rfl ?_
  refine w_ic_ne rfl (fun c1 => ?_) (fun c1 => ?_)
  · replace h := ifn h c1
    exact Wp_fgt (fg_s (fg_s (fg_s (fg_s fg_e)))) (J_X1_thinking_54 ho _ _ _ _ _ _ h)
  · replace h := ifp h (Classical.not_not.mp c1)
    refine w_li rfl rfl ?_
    refine w_la rfl rfl ?_
    refine w_gf rfl (mgO ho _ _) rfl ?_
    refine w_ci rfl ?_
    obtain ⟨j2, e2, h⟩ := bnd h
    refine a_ia rfl (mrO_1 ho _ _ _) e2 ?_
    refine w_iadd rfl ?_
    refine w_si rfl (Nat.le_of_ble_eq_true rfl) rfl ?_
    exact Wp_fgt (fg_s (fg_s (fg_s (fg_s fg_e)))) (J_X1_thinking_54 ho _ _ _ _ _ _ h)
set_option maxRecDepth 100000 in
theorem J_X1_thinking_29 {o : Nat} (ho : isO o) : ∀ (x1 : Int32) (x2 : Int32) (x3 : Int32) (s : SS) (t : TT) (q : Int32 × SS × TT), j_X1_thinking_29 o x1 x2 x3 s t = some q → Wp pl_Kc 17 29 [some (.ref o), some (.int x1), some (.int x2), some (.int x3)] [] (mk s t) (Qi q) := by
  intro x1 x2 x3 s t q h
  unfold j_X1_thinking_29 at h
  refine w_li rfl rfl ?_
  refine w_ci rfl ?_
  obtain ⟨q1, e1, h⟩ := bnd h
  refine a_st2i rfl (Nat.le_of_ble_eq_true rfl) (T_X5_isUnder e1) ?_
  refine w_if_eq rfl (fun c2 => ?_) (fun c2 => ?_)
  · replace h := ifp h c2
    exact Wp_fgt (fg_s (fg_s (fg_s (fg_s fg_e)))) (J_X1_thinking_40 ho _ _ _ _ _ _ h)
  · replace h := ifn h c2
    refine w_inc rfl rfl rfl ?_
    exact Wp_fgt (fg_s (fg_s (fg_s (fg_s fg_e)))) (J_X1_thinking_40 ho _ _ _ _ _ _ h)
set_option maxRecDepth 100000 in
theorem J_X1_thinking_20 {o : Nat} (ho : isO o) : ∀ (x1 : Int32) (x2 : Int32) (x3 : Int32) (s : SS) (t : TT) (q : Int32 × SS × TT), j_X1_thinking_20 o x1 x2 x3 s t = some q → Wp pl_Kc 17 20 [some (.ref o), some (.int x1), some (.int x2), some (.int x3)] [] (mk s t) (Qi q) := by
  intro x1 x2 x3 s t q h
  unfold j_X1_thinking_20 at h
  refine w_li rfl rfl ?_
  refine w_ci rfl ?_
  refine w_ic_ne rfl (fun c1 => ?_) (fun c1 => ?_)
  · replace h := ifn h c1
    exact Wp_fgt (fg_s (fg_s (fg_s (fg_s fg_e)))) (J_X1_thinking_29 ho _ _ _ _ _ _ h)
  · replace h := ifp h (Classical.not_not.mp c1)
    refine w_li rfl rfl ?_
    refine w_ci rfl ?_
    refine w_imul rfl ?_
    refine w_si rfl (Nat.le_of_ble_eq_true rfl) rfl ?_
    exact Wp_fgt (fg_s (fg_s (fg_s (fg_s fg_e)))) (J_X1_thinking_29 ho _ _ _ _ _ _ h)
set_option maxRecDepth 100000 in
theorem T_X1_thinking {o : Nat} (ho : isO o) {x1 : Int32} {s : SS} {t : TT} {q : Int32 × SS × TT} (h : f_X1_thinking o x1 s t = some q) : Wm 17 [.ref o, .int x1] (mk s t) (Qi q) := by
  refine Wm.of pT_17 (Nat.le_of_ble_eq_true rfl) (L0 := [some (.ref o), some (.int x1), none, none]) rfl ?_
  unfold f_X1_thinking at h
  refine w_la rfl rfl ?_
  refine w_gf rfl (mgO ho _ _) rfl ?_
  refine w_li rfl rfl ?_
  obtain ⟨j1, e1, h⟩ := bnd h
  refine a_ia rfl (mrO_2 ho _ _ _) e1 ?_
  refine w_si rfl (Nat.le_of_ble_eq_true rfl) rfl ?_
  refine w_ci rfl ?_
  refine w_si rfl (Nat.le_of_ble_eq_true rfl) rfl ?_
  refine w_li rfl rfl ?_
  refine w_ci rfl ?_
  obtain ⟨q2, e2, h⟩ := bnd h
  refine a_st2i rfl (Nat.le_of_ble_eq_true rfl) (T_X5_isUnder e2) ?_
  refine w_if_eq rfl (fun c3 => ?_) (fun c3 => ?_)
  · replace h := ifp h c3
    exact Wp_fgt (fg_s (fg_s (fg_s (fg_s fg_e)))) (J_X1_thinking_20 ho _ _ _ _ _ _ h)
  · replace h := ifn h c3
    refine w_inc rfl rfl rfl ?_
    exact Wp_fgt (fg_s (fg_s (fg_s (fg_s fg_e)))) (J_X1_thinking_20 ho _ _ _ _ _ _ h)
-- X1_saying
set_option maxRecDepth 100000 in
theorem J_X1_saying_60 {o : Nat} (ho : isO o) : ∀ (x1 : Int32) (x2 : Int32) (x3 : Int32) (s : SS) (t : TT) (q : Int32 × SS × TT), j_X1_saying_60 o x1 x2 x3 s t = some q → Wp pl_Kc 19 60 [some (.ref o), some (.int x1), some (.int x2), some (.int x3)] [] (mk s t) (Qi q) := by
  intro x1 x2 x3 s t q h
  unfold j_X1_saying_60 at h
  refine w_li rfl rfl ?_
  refine w_ci rfl ?_
  refine w_ic_ne rfl (fun c1 => ?_) (fun c1 => ?_)
  · replace h := ifn h c1
    refine w_li rfl rfl ?_
    exact a_ri rfl h
  · replace h := ifp h (Classical.not_not.mp c1)
    refine w_li rfl rfl ?_
    refine w_ci rfl ?_
    refine w_la rfl rfl ?_
    refine w_gf rfl (mgO ho _ _) rfl ?_
    refine w_li rfl rfl ?_
    obtain ⟨j2, e2, h⟩ := bnd h
    refine a_ia rfl (mrO_5 ho _ _ _) e2 ?_
    refine w_ci rfl ?_
    refine w_isub rfl ?_
    refine w_mm rfl (Nat.le_of_ble_eq_true rfl) ?_
    refine w_iadd rfl ?_
    refine w_si rfl (Nat.le_of_ble_eq_true rfl) rfl ?_
    refine w_li rfl rfl ?_
    exact a_ri rfl h
set_option maxRecDepth 100000 in
theorem J_X1_saying_43 {o : Nat} (ho : isO o) : ∀ (x1 : Int32) (x2 : Int32) (x3 : Int32) (s : SS) (t : TT) (q : Int32 × SS × TT), j_X1_saying_43 o x1 x2 x3 s t = some q → Wp pl_Kc 19 43 [some (.ref o), some (.int x1), some (.int x2), some (.int x3)] [] (mk s t) (Qi q) := by
  intro x1 x2 x3 s t q h
  unfold j_X1_saying_43 at h
  refine w_li rfl rfl ?_
  refine w_ci rfl ?_
  obtain ⟨q1, e1, h⟩ := bnd h
  refine a_st2i rfl (Nat.le_of_ble_eq_true rfl) (T_X5_isUnder e1) ?_
  refine w_if_eq rfl (fun c2 => ?_) (fun c2 => ?_)
  · replace h := ifp h c2
    exact Wp_fgt (fg_s (fg_s (fg_s (fg_s fg_e)))) (J_X1_saying_60 ho _ _ _ _ _ _ h)
  · replace h := ifn h c2
    refine w_li rfl rfl ?_
    refine w_la rfl rfl ?_
    refine w_gf rfl (mgO ho _ _) rfl ?_
    refine w_ci rfl ?_
    obtain ⟨j3, e3, h⟩ := bnd h
    refine a_ia rfl (mrO_1 ho _ _ _) e3 ?_
    refine w_iadd rfl ?_
    refine w_si rfl (Nat.le_of_ble_eq_true rfl) rfl ?_
    exact Wp_fgt (fg_s (fg_s (fg_s (fg_s fg_e)))) (J_X1_saying_60 ho _ _ _ _ _ _ h)
set_option maxRecDepth 100000 in
theorem J_X1_saying_35 {o : Nat} (ho : isO o) : ∀ (x1 : Int32) (x2 : Int32) (x3 : Int32) (s : SS) (t : TT) (q : Int32 × SS × TT), j_X1_saying_35 o x1 x2 x3 s t = some q → Wp pl_Kc 19 35 [some (.ref o), some (.int x1), some (.int x2), some (.int x3)] [] (mk s t) (Qi q) := by
  intro x1 x2 x3 s t q h
  unfold j_X1_saying_35 at h
  refine w_li rfl rfl ?_
  refine w_ci rfl ?_
  refine w_ic_ne rfl (fun c1 => ?_) (fun c1 => ?_)
  · replace h := ifn h c1
    exact Wp_fgt (fg_s (fg_s (fg_s (fg_s fg_e)))) (J_X1_saying_43 ho _ _ _ _ _ _ h)
  · replace h := ifp h (Classical.not_not.mp c1)
    refine w_inc rfl rfl rfl ?_
    exact Wp_fgt (fg_s (fg_s (fg_s (fg_s fg_e)))) (J_X1_saying_43 ho _ _ _ _ _ _ h)
set_option maxRecDepth 100000 in
theorem T_X1_saying {o : Nat} (ho : isO o) {x1 : Int32} {s : SS} {t : TT} {q : Int32 × SS × TT} (h : f_X1_saying o x1 s t = some q) : Wm 19 [.ref o, .int x1] (mk s t) (Qi q) := by
  refine Wm.of pT_19 (Nat.le_of_ble_eq_true rfl) (L0 := [some (.ref o), some (.int x1), none, none]) rfl ?_
  unfold f_X1_saying at h
  refine w_la rfl rfl ?_
  refine w_gf rfl (mgO ho _ _) rfl ?_
  refine w_li rfl rfl ?_
  obtain ⟨j1, e1, h⟩ := bnd h
  refine a_ia rfl (mrO_2 ho _ _ _) e1 ?_
  refine w_si rfl (Nat.le_of_ble_eq_true rfl) rfl ?_
  refine w_li rfl rfl ?_
  refine w_ci rfl ?_
  refine w_ic_ne rfl (fun c2 => ?_) (fun c2 => ?_)
  · replace h := ifn h c2
    refine w_ci rfl ?_
    refine w_la rfl rfl ?_
    refine w_gf rfl (mgO ho _ _) rfl ?_
    refine w_li rfl rfl ?_
    obtain ⟨j3, e3, h⟩ := bnd h
    refine a_ia rfl (mrO_4 ho _ _ _) e3 ?_
    refine w_iadd rfl ?_
    refine w_si rfl (Nat.le_of_ble_eq_true rfl) rfl ?_
    refine w_li rfl rfl ?_
    refine w_ci rfl ?_
    obtain ⟨q4, e4, h⟩ := bnd h
    refine a_st2i rfl (Nat.le_of_ble_eq_true rfl) (T_X5_isUnder e4) ?_
    refine w_if_eq rfl (fun c5 => ?_) (fun c5 => ?_)
    · replace h := ifp h c5
      exact Wp_fgt (fg_s (fg_s (fg_s (fg_s fg_e)))) (J_X1_saying_35 ho _ _ _ _ _ _ h)
    · replace h := ifn h c5
      refine w_li rfl rfl ?_
      refine w_ci rfl ?_
      refine w_imul rfl ?_
      refine w_si rfl (Nat.le_of_ble_eq_true rfl) rfl ?_
      exact Wp_fgt (fg_s (fg_s (fg_s (fg_s fg_e)))) (J_X1_saying_35 ho _ _ _ _ _ _ h)
  · replace h := ifp h (Classical.not_not.mp c2)
    refine w_ci rfl ?_
    exact a_ri rfl h
-- X1_isUsing
set_option maxRecDepth 100000 in
theorem J_X1_isUsing_30 {o : Nat} (ho : isO o) : ∀ (x2 : Int32) (s : SS) (t : TT) (q : Int32 × SS × TT), j_X1_isUsing_30 o x2 s t = some q → Wp pl_Kc 20 30 [some (.ref o), none, some (.int x2)] [] (mk s t) (Qi q) := by
  intro x2 s t q h
  unfold j_X1_isUsing_30 at h
  refine w_li rfl rfl ?_
  refine w_ci rfl ?_
  obtain ⟨q1, e1, h⟩ := bnd h
  refine a_st2i rfl (Nat.le_of_ble_eq_true rfl) (T_X5_isUnder e1) ?_
  refine w_if_eq rfl (fun c2 => ?_) (fun c2 => ?_)
  · replace h := ifp h c2
    refine w_ci rfl ?_
    refine w_go rfl ?_
    exact a_rz rfl (by decide) h
  · replace h := ifn h c2
    refine w_la rfl rfl ?_
    refine w_gf rfl (mgO ho _ _) rfl ?_
    refine w_ci rfl ?_
    refine w_irem rfl (by decide) ?_
    refine w_if_eq rfl (fun c3 => ?_) (fun c3 => ?_)
    · replace h := ifp h c3
      refine w_ci rfl ?_
      exact a_rz rfl (by decide) h
    · replace h := ifn h c3
      refine w_ci rfl ?_
      refine w_go rfl ?_
      exact a_rz rfl (by decide) h
set_option maxRecDepth 100000 in
theorem T_X1_isUsing {o : Nat} (ho : isO o) {x1 : Int32} {s : SS} {t : TT} {q : Int32 × SS × TT} (h : f_X1_isUsing o x1 s t = some q) : Wm 20 [.ref o, .int x1] (mk s t) (Qi q) := by
  refine Wm.of pT_20 (Nat.le_of_ble_eq_true rfl) (L0 := [some (.ref o), some (.int x1), none]) rfl ?_
  unfold f_X1_isUsing at h
  refine w_la rfl rfl ?_
  refine w_gf rfl (mgO ho _ _) rfl ?_
  refine w_li rfl rfl ?_
  obtain ⟨j1, e1, h⟩ := bnd h
  refine a_ia rfl (mrO_2 ho _ _ _) e1 ?_
  refine w_si rfl (Nat.le_of_ble_eq_true rfl) rfl ?_
  refine w_li rfl rfl ?_
  refine w_ci rfl ?_
  refine w_ic_ne rfl (fun c2 => ?_) (fun c2 => ?_)
  · replace h := ifn h c2
    refine w_li rfl rfl ?_
    refine w_ci rfl ?_
    refine w_ic_ne rfl (fun c3 => ?_) (fun c3 => ?_)
    · replace h := ifn h c3
      exact Wp_fgt (fg_s (fg_n (fg_s fg_e))) (J_X1_isUsing_30 ho _ _ _ _ h)
    · replace h := ifp h (Classical.not_not.mp c3)
      refine w_la rfl rfl ?_
      refine w_gf rfl (mgO ho _ _) rfl ?_
      refine w_ci rfl ?_
      refine w_irem rfl (by decide) ?_
      refine w_if_eq rfl (fun c4 => ?_) (fun c4 => ?_)
      · replace h := ifp h c4
        exact Wp_fgt (fg_s (fg_n (fg_s fg_e))) (J_X1_isUsing_30 ho _ _ _ _ h)
      · replace h := ifn h c4
        refine w_ci rfl ?_
        exact a_rz rfl (by decide) h
  · replace h := ifp h (Classical.not_not.mp c2)
    refine w_ci rfl ?_
    exact a_rz rfl (by decide) h
-- X1_think
set_option maxRecDepth 100000 in
theorem B_X1_think_2 {o : Nat} (ho : isO o) {k2 : Int32 × SS × TT → Option (SS × TT)} (hk2 : ∀ (x1 : Int32) (s : SS) (t : TT) (q : SS × TT), k2 (x1, s, t) = some q → Wp pl_Kc 24 2 [some (.ref o), some (.int x1)] [] (mk s t) (Qv q)) : ∀ (x1 : Int32) (s : SS) (t : TT) (q : SS × TT), b_X1_think_2 o k2 x1 s t = some q → Wp pl_Kc 24 2 [some (.ref o), some (.int x1)] [] (mk s t) (Qv q) := by
  intro x1 s t q h
  unfold b_X1_think_2 at h
  refine w_li rfl rfl ?_
  refine w_la rfl rfl ?_
  refine w_gf rfl (mgO ho _ _) rfl ?_
  refine w_ic_ge rfl (fun c1 => ?_) (fun c1 => ?_)
  · replace h := ifp h c1
    exact a_rv rfl h
  · replace h := ifn h c1
    refine w_la rfl rfl ?_
    refine w_gf rfl (mgO ho _ _) rfl ?_
    refine w_li rfl rfl ?_
    refine w_ci rfl ?_
    refine w_la rfl rfl ?_
    refine w_gf rfl (mgO ho _ _) rfl ?_
    refine w_li rfl rfl ?_
    obtain ⟨j2, e2, h⟩ := bnd h
    refine a_ia rfl (mrO_3 ho _ _ _) e2 ?_
    refine w_la rfl rfl ?_
    refine w_li rfl rfl ?_
    obtain ⟨q3, e3, h⟩ := bnd h
    refine a_vi1i rfl (mgO ho _ _) (Nat.le_of_ble_eq_true rfl) (T_X1_thinking ho e3) ?_
    refine w_iadd rfl ?_
    refine w_mm rfl (Nat.le_of_ble_eq_true rfl) ?_
    obtain ⟨j4, e4, h⟩ := bnd h
    refine a_is rfl (mgO_3 ho _ _) (msO_3 ho _ _) e4 (fun s4 w4 => ?_)
    replace h := wr_of h s4 w4
    refine w_la rfl rfl ?_
    refine w_gf rfl (mgO ho _ _) rfl ?_
    refine w_li rfl rfl ?_
    refine w_la rfl rfl ?_
    refine w_li rfl rfl ?_
    obtain ⟨q5, e5, h⟩ := bnd h
    refine a_vi1i rfl (mgO ho _ _) (Nat.le_of_ble_eq_true rfl) (T_X1_needing ho e5) ?_
    obtain ⟨j6, e6, h⟩ := bnd h
    refine a_is rfl (mgO_8 ho _ _) (msO_8 ho _ _) e6 (fun s6 w6 => ?_)
    replace h := wr_of h s6 w6
    refine w_inc rfl rfl rfl ?_
    refine w_go rfl ?_
    exact Wp_fgt (fg_s (fg_s fg_e)) (hk2 _ _ _ _ h)
theorem K_X1_think_2 {o : Nat} (ho : isO o) : ∀ (n : Nat) (x1 : Int32) (s : SS) (t : TT) (q : SS × TT), l_X1_think_2 o n (x1, s, t) = some q → Wp pl_Kc 24 2 [some (.ref o), some (.int x1)] [] (mk s t) (Qv q)
  | 0, x1, s, t, q, h => by cases (show (none : Option (SS × TT)) = some q from h)
  | n + 1, x1, s, t, q, h => B_X1_think_2 ho (K_X1_think_2 ho n) x1 s t q h
set_option maxRecDepth 100000 in
theorem T_X1_think {o : Nat} (ho : isO o) {s : SS} {t : TT} {q : SS × TT} (h : f_X1_think o s t = some q) : Wm 24 [.ref o] (mk s t) (Qv q) := by
  refine Wm.of pT_24 (Nat.le_of_ble_eq_true rfl) (L0 := [some (.ref o), none]) rfl ?_
  unfold f_X1_think at h
  refine w_ci rfl ?_
  refine w_si rfl (Nat.le_of_ble_eq_true rfl) rfl ?_
  exact Wp_fgt (fg_s (fg_s fg_e)) (K_X1_think_2 ho _ _ _ _ _ h)
-- X1_keenest
set_option maxRecDepth 100000 in
theorem B_X1_keenest_8 {o : Nat} (ho : isO o) {k8 : Int32 × Int32 × Int32 × Int32 × SS × TT → Option (Int32 × SS × TT)} (hk8 : ∀ (x1 : Int32) (x2 : Int32) (x3 : Int32) (x4 : Int32) (s : SS) (t : TT) (q : Int32 × SS × TT), k8 (x1, x2, x3, x4, s, t) = some q → Wp pl_Kc 26 8 [some (.ref o), some (.int x1), some (.int x2), some (.int x3), some (.int x4), none] [] (mk s t) (Qi q)) : ∀ (x1 : Int32) (x2 : Int32) (x3 : Int32) (x4 : Int32) (s : SS) (t : TT) (q : Int32 × SS × TT), b_X1_keenest_8 o k8 x1 x2 x3 x4 s t = some q → Wp pl_Kc 26 8 [some (.ref o), some (.int x1), some (.int x2), some (.int x3), some (.int x4), none] [] (mk s t) (Qi q) := by
  intro x1 x2 x3 x4 s t q h
  unfold b_X1_keenest_8 at h
  refine w_li rfl rfl ?_
  refine w_la rfl rfl ?_
  refine w_gf rfl (mgO ho _ _) rfl ?_
  refine w_ic_ge rfl (fun c1 => ?_) (fun c1 => ?_)
  · replace h := ifp h c1
    refine w_li rfl rfl ?_
    exact a_ri rfl h
  · replace h := ifn h c1
    refine w_la rfl rfl ?_
    refine w_gf rfl (mgO ho _ _) rfl ?_
    refine w_li rfl rfl ?_
    obtain ⟨j2, e2, h⟩ := bnd h
    refine a_ia rfl (mrO_3 ho _ _ _) e2 ?_
    refine w_la rfl rfl ?_
    refine w_gf rfl (mgO ho _ _) rfl ?_
    refine w_li rfl rfl ?_
    obtain ⟨j3, e3, h⟩ := bnd h
    refine a_ia rfl (mrO_8 ho _ _ _) e3 ?_
    refine w_isub rfl ?_
    refine w_si rfl (Nat.le_of_ble_eq_true rfl) rfl ?_
    refine w_li rfl rfl ?_
    refine w_li rfl rfl ?_
    refine w_ic_le rfl (fun c4 => ?_) (fun c4 => ?_)
    · replace h := ifp h c4
      refine w_inc rfl rfl rfl ?_
      refine w_go rfl ?_
      exact Wp_fgt (fg_s (fg_s (fg_s (fg_s (fg_s (fg_n fg_e)))))) (hk8 _ _ _ _ _ _ _ h)
    · replace h := ifn h c4
      refine w_la rfl rfl ?_
      refine w_gf rfl (mgO ho _ _) rfl ?_
      refine w_li rfl rfl ?_
      obtain ⟨j5, e5, h⟩ := bnd h
      refine a_ia rfl (mrO_5 ho _ _ _) e5 ?_
      refine w_ci rfl ?_
      refine w_ic_ge rfl (fun c6 => ?_) (fun c6 => ?_)
      · replace h := ifp h c6
        refine w_inc rfl rfl rfl ?_
        refine w_go rfl ?_
        exact Wp_fgt (fg_s (fg_s (fg_s (fg_s (fg_s (fg_n fg_e)))))) (hk8 _ _ _ _ _ _ _ h)
      · replace h := ifn h c6
        refine w_li rfl rfl ?_
        refine w_li rfl rfl ?_
        refine w_ishr rfl ?_
        refine w_ci rfl ?_
        refine w_iand rfl ?_
        refine w_if_eq rfl (fun c7 => ?_) (fun c7 => ?_)
        · replace h := ifp h c7
          refine w_inc rfl rfl rfl ?_
          refine w_go rfl ?_
          exact Wp_fgt (fg_s (fg_s (fg_s (fg_s (fg_s (fg_n fg_e)))))) (hk8 _ _ _ _ _ _ _ h)
        · replace h := ifn h c7
          refine w_li rfl rfl ?_
          refine w_si rfl (Nat.le_of_ble_eq_true rfl) rfl ?_
          refine w_li rfl rfl ?_
          refine w_si rfl (Nat.le_of_ble_eq_true rfl) rfl ?_
          refine w_inc rfl rfl rfl ?_
          refine w_go rfl ?_
          exact Wp_fgt (fg_s (fg_s (fg_s (fg_s (fg_s (fg_n fg_e)))))) (hk8 _ _ _ _ _ _ _ h)
theorem K_X1_keenest_8 {o : Nat} (ho : isO o) : ∀ (n : Nat) (x1 : Int32) (x2 : Int32) (x3 : Int32) (x4 : Int32) (s : SS) (t : TT) (q : Int32 × SS × TT), l_X1_keenest_8 o n (x1, x2, x3, x4, s, t) = some q → Wp pl_Kc 26 8 [some (.ref o), some (.int x1), some (.int x2), some (.int x3), some (.int x4), none] [] (mk s t) (Qi q)
  | 0, x1, x2, x3, x4, s, t, q, h => by cases (show (none : Option (Int32 × SS × TT)) = some q from h)
  | n + 1, x1, x2, x3, x4, s, t, q, h => B_X1_keenest_8 ho (K_X1_keenest_8 ho n) x1 x2 x3 x4 s t q h
set_option maxRecDepth 100000 in
theorem T_X1_keenest {o : Nat} (ho : isO o) {x1 : Int32} {s : SS} {t : TT} {q : Int32 × SS × TT} (h : f_X1_keenest o x1 s t = some q) : Wm 26 [.ref o, .int x1] (mk s t) (Qi q) := by
  refine Wm.of pT_26 (Nat.le_of_ble_eq_true rfl) (L0 := [some (.ref o), some (.int x1), none, none, none, none]) rfl ?_
  unfold f_X1_keenest at h
  refine w_ci rfl ?_
  refine w_si rfl (Nat.le_of_ble_eq_true rfl) rfl ?_
  refine w_ci rfl ?_
  refine w_si rfl (Nat.le_of_ble_eq_true rfl) rfl ?_
  refine w_ci rfl ?_
  refine w_si rfl (Nat.le_of_ble_eq_true rfl) rfl ?_
  exact Wp_fgt (fg_s (fg_s (fg_s (fg_s (fg_s (fg_n fg_e)))))) (K_X1_keenest_8 ho _ _ _ _ _ _ _ _ h)
-- X1_handOut
set_option maxRecDepth 100000 in
theorem B_X1_handOut_7 {o : Nat} (ho : isO o) {k7 : Int32 × Int32 × SS × TT → Option (SS × TT)} (hk7 : ∀ (x1 : Int32) (x2 : Int32) (s : SS) (t : TT) (q : SS × TT), k7 (x1, x2, s, t) = some q → Wp pl_Kc 25 7 [some (.ref o), some (.int x1), some (.int x2), none] [] (mk s t) (Qv q)) : ∀ (x1 : Int32) (x2 : Int32) (s : SS) (t : TT) (q : SS × TT), b_X1_handOut_7 o k7 x1 x2 s t = some q → Wp pl_Kc 25 7 [some (.ref o), some (.int x1), some (.int x2), none] [] (mk s t) (Qv q) := by
  intro x1 x2 s t q h
  unfold b_X1_handOut_7 at h
  refine w_li rfl rfl ?_
  refine w_if_le rfl (fun c1 => ?_) (fun c1 => ?_)
  · replace h := ifp h c1
    exact a_rv rfl h
  · replace h := ifn h c1
    refine w_la rfl rfl ?_
    refine w_li rfl rfl ?_
    obtain ⟨q2, e2, h⟩ := bnd h
    refine a_vi1i rfl (mgO ho _ _) (Nat.le_of_ble_eq_true rfl) (T_X1_keenest ho e2) ?_
    refine w_si rfl (Nat.le_of_ble_eq_true rfl) rfl ?_
    refine w_li rfl rfl ?_
    refine w_if_ge rfl (fun c3 => ?_) (fun c3 => ?_)
    · replace h := ifp h c3
      refine w_la rfl rfl ?_
      refine w_gf rfl (mgO ho _ _) rfl ?_
      refine w_li rfl rfl ?_
      refine w_dup2 rfl rfl rfl ?_
      obtain ⟨j4, e4, h⟩ := bnd h
      refine a_ia rfl (mrO_5 ho _ _ _) e4 ?_
      refine w_ci rfl ?_
      refine w_iadd rfl ?_
      obtain ⟨j5, e5, h⟩ := bnd h
      refine a_is rfl (mgO_5 ho _ _) (msO_5 ho _ _) e5 (fun s5 w5 => ?_)
      replace h := wr_of h s5 w5
      refine w_la rfl rfl ?_
      refine w_gf rfl (mgO ho _ _) rfl ?_
      refine w_li rfl rfl ?_
      refine w_ci rfl ?_
      refine w_la rfl rfl ?_
      refine w_gf rfl (mgO ho _ _) rfl ?_
      refine w_li rfl rfl ?_
      obtain ⟨j6, e6, h⟩ := bnd h
      refine a_ia rfl (mrO_6 ho _ _ _) e6 ?_
      refine w_ci rfl ?_
      refine w_iadd rfl ?_
      refine w_mm rfl (Nat.le_of_ble_eq_true rfl) ?_
      obtain ⟨j7, e7, h⟩ := bnd h
      refine a_is rfl (mgO_6 ho _ _) (msO_6 ho _ _) e7 (fun s7 w7 => ?_)
      replace h := wr_of h s7 w7
      refine w_la rfl rfl ?_
      refine w_gf rfl (mgO ho _ _) rfl ?_
      refine w_li rfl rfl ?_
      refine w_dup2 rfl rfl rfl ?_
      obtain ⟨j8, e8, h⟩ := bnd h
      refine a_ia rfl (mrO_3 ho _ _ _) e8 ?_
      refine w_la rfl rfl ?_
      refine w_gf rfl (mgO ho _ _) rfl ?_
      refine w_li rfl rfl ?_
      obtain ⟨j9, e9, h⟩ := bnd h
      refine a_ia rfl (mrO_8 ho _ _ _) e9 ?_
      refine w_isub rfl ?_
      obtain ⟨j10, e10, h⟩ := bnd h
      refine a_is rfl (mgO_3 ho _ _) (msO_3 ho _ _) e10 (fun s10 w10 => ?_)
      replace h := wr_of h s10 w10
      refine w_inc rfl rfl rfl ?_
      refine w_go rfl ?_
      exact Wp_fgt (fg_s (fg_s (fg_s (fg_n fg_e)))) (hk7 _ _ _ _ _ h)
    · replace h := ifn h c3
      refine w_la rfl rfl ?_
      refine w_ci rfl ?_
      refine w_la rfl rfl ?_
      refine w_gf rfl (mgO ho _ _) rfl ?_
      refine w_li rfl rfl ?_
      refine w_iadd rfl ?_
      refine w_mm rfl (Nat.le_of_ble_eq_true rfl) ?_
      refine a_pf rfl rfl (mgO ho _ _) (Nat.le_of_ble_eq_true rfl) (msOf_10 ho _ _) (fun s11 e11 => ?_)
      replace h := wr_of h s11 e11
      exact a_rv rfl h
theorem K_X1_handOut_7 {o : Nat} (ho : isO o) : ∀ (n : Nat) (x1 : Int32) (x2 : Int32) (s : SS) (t : TT) (q : SS × TT), l_X1_handOut_7 o n (x1, x2, s, t) = some q → Wp pl_Kc 25 7 [some (.ref o), some (.int x1), some (.int x2), none] [] (mk s t) (Qv q)
  | 0, x1, x2, s, t, q, h => by cases (show (none : Option (SS × TT)) = some q from h)
  | n + 1, x1, x2, s, t, q, h => B_X1_handOut_7 ho (K_X1_handOut_7 ho n) x1 x2 s t q h
set_option maxRecDepth 100000 in
theorem T_X1_handOut {o : Nat} (ho : isO o) {x1 : Int32} {s : SS} {t : TT} {q : SS × TT} (h : f_X1_handOut o x1 s t = some q) : Wm 25 [.ref o, .int x1] (mk s t) (Qv q) := by
  refine Wm.of pT_25 (Nat.le_of_ble_eq_true rfl) (L0 := [some (.ref o), some (.int x1), none, none]) rfl ?_
  unfold f_X1_handOut at h
  refine w_la rfl rfl ?_
  refine w_gf rfl (mgO ho _ _) rfl ?_
  refine w_ci rfl ?_
  obtain ⟨j1, e1, h⟩ := bnd h
  refine a_ia rfl (mrO_1 ho _ _ _) e1 ?_
  refine w_si rfl (Nat.le_of_ble_eq_true rfl) rfl ?_
  exact Wp_fgt (fg_s (fg_s (fg_s (fg_n fg_e)))) (K_X1_handOut_7 ho _ _ _ _ _ _ h)
-- X1_speak
set_option maxRecDepth 100000 in
theorem B_X1_speak_4 {o : Nat} (ho : isO o) {k4 : Int32 × Int32 × SS × TT → Option (Int32 × SS × TT)} (hk4 : ∀ (x1 : Int32) (x2 : Int32) (s : SS) (t : TT) (q : Int32 × SS × TT), k4 (x1, x2, s, t) = some q → Wp pl_Kc 27 4 [some (.ref o), some (.int x1), some (.int x2), none] [] (mk s t) (Qi q)) : ∀ (x1 : Int32) (x2 : Int32) (s : SS) (t : TT) (q : Int32 × SS × TT), b_X1_speak_4 o k4 x1 x2 s t = some q → Wp pl_Kc 27 4 [some (.ref o), some (.int x1), some (.int x2), none] [] (mk s t) (Qi q) := by
  intro x1 x2 s t q h
  unfold b_X1_speak_4 at h
  refine w_li rfl rfl ?_
  refine w_la rfl rfl ?_
  refine w_gf rfl (mgO ho _ _) rfl ?_
  refine w_ic_ge rfl (fun c1 => ?_) (fun c1 => ?_)
  · replace h := ifp h c1
    refine w_li rfl rfl ?_
    exact a_ri rfl h
  · replace h := ifn h c1
    refine w_la rfl rfl ?_
    refine w_gf rfl (mgO ho _ _) rfl ?_
    refine w_li rfl rfl ?_
    obtain ⟨j2, e2, h⟩ := bnd h
    refine a_ia rfl (mrO_5 ho _ _ _) e2 ?_
    refine w_if_ne rfl (fun c3 => ?_) (fun c3 => ?_)
    · replace h := ifn h c3
      refine w_la rfl rfl ?_
      refine w_li rfl rfl ?_
      obtain ⟨q4, e4, h⟩ := bnd h
      refine a_vi1i rfl (mgO ho _ _) (Nat.le_of_ble_eq_true rfl) (T_X1_saying ho e4) ?_
      refine w_si rfl (Nat.le_of_ble_eq_true rfl) rfl ?_
      refine w_li rfl rfl ?_
      refine w_li rfl rfl ?_
      refine w_iadd rfl ?_
      refine w_si rfl (Nat.le_of_ble_eq_true rfl) rfl ?_
      refine w_la rfl rfl ?_
      refine w_gf rfl (mgO ho _ _) rfl ?_
      refine w_li rfl rfl ?_
      refine w_ci rfl ?_
      refine w_la rfl rfl ?_
      refine w_gf rfl (mgO ho _ _) rfl ?_
      refine w_li rfl rfl ?_
      obtain ⟨j5, e5, h⟩ := bnd h
      refine a_ia rfl (mrO_7 ho _ _ _) e5 ?_
      refine w_li rfl rfl ?_
      refine w_iadd rfl ?_
      refine w_mm rfl (Nat.le_of_ble_eq_true rfl) ?_
      obtain ⟨j6, e6, h⟩ := bnd h
      refine a_is rfl (mgO_7 ho _ _) (msO_7 ho _ _) e6 (fun s6 w6 => ?_)
      replace h := wr_of h s6 w6
      refine w_la rfl rfl ?_
      refine w_li rfl rfl ?_
      obtain ⟨q7, e7, h⟩ := bnd h
      refine a_vi1i rfl (mgO ho _ _) (Nat.le_of_ble_eq_true rfl) (T_X1_isUsing ho e7) ?_
      refine w_if_eq rfl (fun c8 => ?_) (fun c8 => ?_)
      · replace h := ifp h c8
        refine w_inc rfl rfl rfl ?_
        refine w_go rfl ?_
        exact Wp_fgt (fg_s (fg_s (fg_s (fg_n fg_e)))) (hk4 _ _ _ _ _ h)
      · replace h := ifn h c8
        refine w_la rfl rfl ?_
        refine w_gf rfl (mgO ho _ _) rfl ?_
        refine w_li rfl rfl ?_
        refine w_dup2 rfl rfl rfl ?_
        obtain ⟨j9, e9, h⟩ := bnd h
        refine a_ia rfl (mrO_5 ho _ _ _) e9 ?_
        refine w_ci rfl ?_
        refine w_isub rfl ?_
        obtain ⟨j10, e10, h⟩ := bnd h
        refine a_is rfl (mgO_5 ho _ _) (msO_5 ho _ _) e10 (fun s10 w10 => ?_)
        replace h := wr_of h s10 w10
        refine w_inc rfl rfl rfl ?_
        refine w_go rfl ?_
        exact Wp_fgt (fg_s (fg_s (fg_s (fg_n fg_e)))) (hk4 _ _ _ _ _ h)
    · replace h := ifp h (Classical.not_not.mp c3)
      refine w_go rfl ?_
      refine w_inc rfl rfl rfl ?_
      refine w_go rfl ?_
      exact Wp_fgt (fg_s (fg_s (fg_s (fg_n fg_e)))) (hk4 _ _ _ _ _ h)
