-- the walks: a program laid these rows
-- X6_sets
set_option maxRecDepth 100000 in
theorem T_X6_sets  {x1 : Int32} {x2 : Int32} {x3 : Int32} {s : SS} {t : TT} {q : SS × TT} (h : f_X6_sets x1 x2 x3 s t = some q) : Wm 115 [.ref 51, .int x1, .int x2, .int x3] (mk s t) (Qv q) := by
  refine Wm.of pT_115 (Nat.le_of_ble_eq_true rfl) (L0 := [some (.ref 51), some (.int x1), some (.int x2), some (.int x3)]) rfl ?_
  unfold f_X6_sets at h
  refine w_la rfl rfl ?_
  refine w_gf rfl (mg_51 _ _) rfl ?_
  refine w_ci rfl ?_
  refine w_ci rfl ?_
  refine w_li rfl rfl ?_
  refine w_imul rfl ?_
  refine w_iadd rfl ?_
  refine w_li rfl rfl ?_
  refine w_iadd rfl ?_
  refine w_li rfl rfl ?_
  obtain ⟨j1, e1, h⟩ := bnd h
  refine a_is rfl (mg_52 _ _) (ms_52 _ _) e1 (fun s1 w1 => ?_)
  replace h := wr_of h s1 w1
  exact a_rv rfl h
-- X6_becomes
set_option maxRecDepth 100000 in
theorem T_X6_becomes  {x1 : Int32} {x2 : Int32} {s : SS} {t : TT} {q : Int32 × SS × TT} (h : f_X6_becomes x1 x2 s t = some q) : Wm 116 [.ref 51, .int x1, .int x2] (mk s t) (Qi q) := by
  refine Wm.of pT_116 (Nat.le_of_ble_eq_true rfl) (L0 := [some (.ref 51), some (.int x1), some (.int x2), none]) rfl ?_
  unfold f_X6_becomes at h
  refine w_la rfl rfl ?_
  refine w_gf rfl (mg_51 _ _) rfl ?_
  refine w_li rfl rfl ?_
  obtain ⟨j1, e1, h⟩ := bnd h
  refine a_ia rfl (mr_52 _ _ _) e1 ?_
  refine w_si rfl (Nat.le_of_ble_eq_true rfl) rfl ?_
  refine w_la rfl rfl ?_
  refine w_gf rfl (mg_51 _ _) rfl ?_
  refine w_li rfl rfl ?_
  refine w_li rfl rfl ?_
  obtain ⟨j2, e2, h⟩ := bnd h
  refine a_is rfl (mg_52 _ _) (ms_52 _ _) e2 (fun s2 w2 => ?_)
  replace h := wr_of h s2 w2
  refine w_li rfl rfl ?_
  exact a_ri rfl h
-- X6_ones
set_option maxRecDepth 100000 in
theorem B_X6_ones_4  {k4 : Int32 × Int32 × SS × TT → Option (Int32 × SS × TT)} (hk4 : ∀ (x1 : Int32) (x2 : Int32) (s : SS) (t : TT) (q : Int32 × SS × TT), k4 (x1, x2, s, t) = some q → Wp pl_Kc 117 4 [none, some (.int x1), some (.int x2)] [] (mk s t) (Qi q)) : ∀ (x1 : Int32) (x2 : Int32) (s : SS) (t : TT) (q : Int32 × SS × TT), b_X6_ones_4 k4 x1 x2 s t = some q → Wp pl_Kc 117 4 [none, some (.int x1), some (.int x2)] [] (mk s t) (Qi q) := by
  intro x1 x2 s t q h
  unfold b_X6_ones_4 at h
  refine w_li rfl rfl ?_
  refine w_if_eq rfl (fun c1 => ?_) (fun c1 => ?_)
  · replace h := ifp h c1
    refine w_li rfl rfl ?_
    exact a_ri rfl h
  · replace h := ifn h c1
    refine w_inc rfl rfl rfl ?_
    refine w_li rfl rfl ?_
    refine w_li rfl rfl ?_
    refine w_ci rfl ?_
    refine w_isub rfl ?_
    refine w_iand rfl ?_
    refine w_si rfl (Nat.le_of_ble_eq_true rfl) rfl ?_
    refine w_go rfl ?_
    exact Wp_fgt (fg_n (fg_s (fg_s fg_e))) (hk4 _ _ _ _ _ h)
theorem K_X6_ones_4  : ∀ (n : Nat) (x1 : Int32) (x2 : Int32) (s : SS) (t : TT) (q : Int32 × SS × TT), l_X6_ones_4 n (x1, x2, s, t) = some q → Wp pl_Kc 117 4 [none, some (.int x1), some (.int x2)] [] (mk s t) (Qi q)
  | 0, x1, x2, s, t, q, h => by cases (show (none : Option (Int32 × SS × TT)) = some q from h)
  | n + 1, x1, x2, s, t, q, h => B_X6_ones_4 (K_X6_ones_4 n) x1 x2 s t q h
set_option maxRecDepth 100000 in
theorem T_X6_ones  {x0 : Int32} {s : SS} {t : TT} {q : Int32 × SS × TT} (h : f_X6_ones x0 s t = some q) : Wm 117 [.int x0] (mk s t) (Qi q) := by
  refine Wm.of pT_117 (Nat.le_of_ble_eq_true rfl) (L0 := [some (.int x0), none, none]) rfl ?_
  unfold f_X6_ones at h
  refine w_ci rfl ?_
  refine w_si rfl (Nat.le_of_ble_eq_true rfl) rfl ?_
  refine w_li rfl rfl ?_
  refine w_si rfl (Nat.le_of_ble_eq_true rfl) rfl ?_
  exact Wp_fgt (fg_n (fg_s (fg_s fg_e))) (K_X6_ones_4 _ _ _ _ _ _ h)
-- X6_feed
set_option maxRecDepth 100000 in
theorem B_X6_feed_30  {k30 : Int64 × Int32 × Int32 × SS × TT → Option (Int32 × SS × TT)} (hk30 : ∀ (x1 : Int64) (x3 : Int32) (x4 : Int32) (s : SS) (t : TT) (q : Int32 × SS × TT), k30 (x1, x3, x4, s, t) = some q → Wp pl_Kc 118 30 [some (.ref 51), some (.long x1), none, some (.int x3), some (.int x4)] [] (mk s t) (Qi q)) : ∀ (x1 : Int64) (x3 : Int32) (x4 : Int32) (s : SS) (t : TT) (q : Int32 × SS × TT), b_X6_feed_30 k30 x1 x3 x4 s t = some q → Wp pl_Kc 118 30 [some (.ref 51), some (.long x1), none, some (.int x3), some (.int x4)] [] (mk s t) (Qi q) := by
  intro x1 x3 x4 s t q h
  unfold b_X6_feed_30 at h
  refine w_li rfl rfl ?_
  refine w_li rfl rfl ?_
  refine w_ic_ge rfl (fun c1 => ?_) (fun c1 => ?_)
  · replace h := ifp h c1
    refine w_la rfl rfl ?_
    refine w_gf rfl (mg_51 _ _) rfl ?_
    exact a_ri rfl h
  · replace h := ifn h c1
    refine w_la rfl rfl ?_
    refine w_gf rfl (mg_51 _ _) rfl ?_
    refine w_la rfl rfl ?_
    refine w_gf rfl (mg_51 _ _) rfl ?_
    refine w_ll rfl rfl ?_
    refine w_ci rfl ?_
    refine w_li rfl rfl ?_
    refine w_imul rfl ?_
    refine w_lshr rfl ?_
    refine w_cl rfl ?_
    refine w_land rfl ?_
    refine w_l2i rfl ?_
    obtain ⟨j2, e2, h⟩ := bnd h
    refine a_is rfl (mg_56 _ _) (ms_56 _ _) e2 (fun s2 w2 => ?_)
    replace h := wr_of h s2 w2
    refine w_la rfl rfl ?_
    refine w_dup rfl rfl ?_
    refine w_gf rfl (mg_51 _ _) rfl ?_
    refine w_ci rfl ?_
    refine w_iadd rfl ?_
    refine a_pf rfl rfl (mg_51 _ _) (Nat.le_of_ble_eq_true rfl) (ms_51_7 _ _) (fun s3 e3 => ?_)
    replace h := wr_of h s3 e3
    refine w_inc rfl rfl rfl ?_
    refine w_go rfl ?_
    exact Wp_fgt (fg_s (fg_s (fg_n (fg_s (fg_s fg_e))))) (hk30 _ _ _ _ _ _ h)
theorem K_X6_feed_30  : ∀ (n : Nat) (x1 : Int64) (x3 : Int32) (x4 : Int32) (s : SS) (t : TT) (q : Int32 × SS × TT), l_X6_feed_30 n (x1, x3, x4, s, t) = some q → Wp pl_Kc 118 30 [some (.ref 51), some (.long x1), none, some (.int x3), some (.int x4)] [] (mk s t) (Qi q)
  | 0, x1, x3, x4, s, t, q, h => by cases (show (none : Option (Int32 × SS × TT)) = some q from h)
  | n + 1, x1, x3, x4, s, t, q, h => B_X6_feed_30 (K_X6_feed_30 n) x1 x3 x4 s t q h
set_option maxRecDepth 100000 in
theorem T_X6_feed  {x1 : Int64} {x3 : Int32} {s : SS} {t : TT} {q : Int32 × SS × TT} (h : f_X6_feed x1 x3 s t = some q) : Wm 118 [.ref 51, .long x1, .int x3] (mk s t) (Qi q) := by
  refine Wm.of pT_118 (Nat.le_of_ble_eq_true rfl) (L0 := [some (.ref 51), some (.long x1), none, some (.int x3), none]) rfl ?_
  unfold f_X6_feed at h
  refine w_li rfl rfl ?_
  refine w_ci rfl ?_
  refine w_ci rfl ?_
  obtain ⟨q1, e1, h⟩ := bnd h
  refine a_st3i rfl (Nat.le_of_ble_eq_true rfl) (T_X6_in e1) ?_
  refine w_if_ne rfl (fun c2 => ?_) (fun c2 => ?_)
  · replace h := ifn h c2
    refine w_la rfl rfl ?_
    refine w_gf rfl (mg_51 _ _) rfl ?_
    refine w_li rfl rfl ?_
    refine w_iadd rfl ?_
    refine w_ci rfl ?_
    refine w_ic_le rfl (fun c3 => ?_) (fun c3 => ?_)
    · replace h := ifp h c3
      refine w_ci rfl ?_
      refine w_si rfl (Nat.le_of_ble_eq_true rfl) rfl ?_
      exact Wp_fgt (fg_s (fg_s (fg_n (fg_s (fg_s fg_e))))) (K_X6_feed_30 _ _ _ _ _ _ _ h)
    · replace h := ifn h c3
      refine w_ci rfl ?_
      exact a_ri rfl h
  · replace h := ifp h (Classical.not_not.mp c2)
    refine w_ci rfl ?_
    exact a_ri rfl h
-- X6_byteAt
set_option maxRecDepth 100000 in
theorem T_X6_byteAt  {x1 : Int32} {s : SS} {t : TT} {q : Int32 × SS × TT} (h : f_X6_byteAt x1 s t = some q) : Wm 119 [.ref 51, .int x1] (mk s t) (Qi q) := by
  refine Wm.of pT_119 (Nat.le_of_ble_eq_true rfl) (L0 := [some (.ref 51), some (.int x1)]) rfl ?_
  unfold f_X6_byteAt at h
  refine w_li rfl rfl ?_
  refine w_la rfl rfl ?_
  refine w_gf rfl (mg_51 _ _) rfl ?_
  refine w_ic_ge rfl (fun c1 => ?_) (fun c1 => ?_)
  · replace h := ifp h c1
    refine w_ci rfl ?_
    exact a_ri rfl h
  · replace h := ifn h c1
    refine w_la rfl rfl ?_
    refine w_gf rfl (mg_51 _ _) rfl ?_
    refine w_li rfl rfl ?_
    obtain ⟨j2, e2, h⟩ := bnd h
    refine a_ia rfl (mr_56 _ _ _) e2 ?_
    refine w_go rfl ?_
    exact a_ri rfl h
-- X6_isLetter
set_option maxRecDepth 100000 in
theorem T_X6_isLetter  {x0 : Int32} {s : SS} {t : TT} {q : Int32 × SS × TT} (h : f_X6_isLetter x0 s t = some q) : Wm 120 [.int x0] (mk s t) (Qi q) := by
  refine Wm.of pT_120 (Nat.le_of_ble_eq_true rfl) (L0 := [some (.int x0)]) rfl ?_
  unfold f_X6_isLetter at h
  refine w_li rfl rfl ?_
  refine w_ci rfl ?_
  refine w_ci rfl ?_
  obtain ⟨q1, e1, h⟩ := bnd h
  refine a_st3i rfl (Nat.le_of_ble_eq_true rfl) (T_X6_in e1) ?_
  exact a_rzc rfl h
-- X6_isDigit
set_option maxRecDepth 100000 in
theorem T_X6_isDigit  {x0 : Int32} {s : SS} {t : TT} {q : Int32 × SS × TT} (h : f_X6_isDigit x0 s t = some q) : Wm 121 [.int x0] (mk s t) (Qi q) := by
  refine Wm.of pT_121 (Nat.le_of_ble_eq_true rfl) (L0 := [some (.int x0)]) rfl ?_
  unfold f_X6_isDigit at h
  refine w_li rfl rfl ?_
  refine w_ci rfl ?_
  refine w_ci rfl ?_
  obtain ⟨q1, e1, h⟩ := bnd h
  refine a_st3i rfl (Nat.le_of_ble_eq_true rfl) (T_X6_in e1) ?_
  exact a_rzc rfl h
-- X6_advance
set_option maxRecDepth 100000 in
theorem J_X6_advance_266  {k207 : SS × TT → Option (SS × TT)} (hk207 : ∀ (s : SS) (t : TT) (q : SS × TT), k207 (s, t) = some q → Wp pl_Kc 122 207 [some (.ref 51), none] [] (mk s t) (Qv q)) : ∀ (y0 : Int32) (s : SS) (t : TT) (q : SS × TT), j_X6_advance_266 k207 y0 s t = some q → Wp pl_Kc 122 266 [some (.ref 51), none] [.int y0, .ref 51] (mk s t) (Qv q) := by
  intro y0 s t q h
  unfold j_X6_advance_266 at h
  refine a_pf rfl rfl (mg_51 _ _) (Nat.le_of_ble_eq_true rfl) (ms_51_12 _ _) (fun s1 e1 => ?_)
  replace h := wr_of h s1 e1
  refine w_la rfl rfl ?_
  refine w_dup rfl rfl ?_
  refine w_gf rfl (mg_51 _ _) rfl ?_
  refine w_ci rfl ?_
  refine w_iadd rfl ?_
  refine a_pf rfl rfl (mg_51 _ _) (Nat.le_of_ble_eq_true rfl) (ms_51_10 _ _) (fun s2 e2 => ?_)
  replace h := wr_of h s2 e2
  refine w_go rfl ?_
  exact Wp_fgt (fg_s (fg_n fg_e)) (hk207 _ _ _ h)
set_option maxRecDepth 100000 in
theorem B_X6_advance_207  {k207 : SS × TT → Option (SS × TT)} (hk207 : ∀ (s : SS) (t : TT) (q : SS × TT), k207 (s, t) = some q → Wp pl_Kc 122 207 [some (.ref 51), none] [] (mk s t) (Qv q)) : ∀ (s : SS) (t : TT) (q : SS × TT), b_X6_advance_207 k207 s t = some q → Wp pl_Kc 122 207 [some (.ref 51), none] [] (mk s t) (Qv q) := by
  intro s t q h
  unfold b_X6_advance_207 at h
  refine w_la rfl rfl ?_
  refine w_gf rfl (mg_51 _ _) rfl ?_
  refine w_ci rfl ?_
  refine w_ic_ne rfl (fun c1 => ?_) (fun c1 => ?_)
  · replace h := ifn h c1
    exact a_rv rfl h
  · replace h := ifp h (Classical.not_not.mp c1)
    refine w_la rfl rfl ?_
    refine w_la rfl rfl ?_
    refine w_gf rfl (mg_51 _ _) rfl ?_
    obtain ⟨q2, e2, h⟩ := bnd h
    refine a_vi1i rfl (mg_51 _ _) (Nat.le_of_ble_eq_true rfl) (T_X6_byteAt e2) ?_
    obtain ⟨q3, e3, h⟩ := bnd h
    refine a_st1i rfl (Nat.le_of_ble_eq_true rfl) (T_X6_isDigit e3) ?_
    refine w_if_eq rfl (fun c4 => ?_) (fun c4 => ?_)
    · replace h := ifp h c4
      exact a_rv rfl h
    · replace h := ifn h c4
      refine w_la rfl rfl ?_
      refine w_la rfl rfl ?_
      refine w_gf rfl (mg_51 _ _) rfl ?_
      refine w_la rfl rfl ?_
      refine w_gf rfl (mg_51 _ _) rfl ?_
      refine w_isub rfl ?_
      refine w_ci rfl ?_
      refine w_ic_ge rfl (fun c5 => ?_) (fun c5 => ?_)
      · replace h := ifp h c5
        refine w_ci rfl ?_
        exact Wp_fgt (fg_s (fg_n fg_e)) (J_X6_advance_266 hk207 _ _ _ _ h)
      · replace h := ifn h c5
        refine w_ci rfl ?_
        refine w_la rfl rfl ?_
        refine w_gf rfl (mg_51 _ _) rfl ?_
        refine w_imul rfl ?_
        refine w_la rfl rfl ?_
        refine w_la rfl rfl ?_
        refine w_gf rfl (mg_51 _ _) rfl ?_
        obtain ⟨q6, e6, h⟩ := bnd h
        refine a_vi1i rfl (mg_51 _ _) (Nat.le_of_ble_eq_true rfl) (T_X6_byteAt e6) ?_
        refine w_iadd rfl ?_
        refine w_ci rfl ?_
        refine w_isub rfl ?_
        refine w_go rfl ?_
        exact Wp_fgt (fg_s (fg_n fg_e)) (J_X6_advance_266 hk207 _ _ _ _ h)
theorem K_X6_advance_207  : ∀ (n : Nat) (s : SS) (t : TT) (q : SS × TT), l_X6_advance_207 n (s, t) = some q → Wp pl_Kc 122 207 [some (.ref 51), none] [] (mk s t) (Qv q)
  | 0, s, t, q, h => by cases (show (none : Option (SS × TT)) = some q from h)
  | n + 1, s, t, q, h => B_X6_advance_207 (K_X6_advance_207 n) s t q h
set_option maxRecDepth 100000 in
theorem J_X6_advance_191  {k126 : SS × TT → Option (SS × TT)} (hk126 : ∀ (s : SS) (t : TT) (q : SS × TT), k126 (s, t) = some q → Wp pl_Kc 122 126 [some (.ref 51), none] [] (mk s t) (Qv q)) : ∀ (y0 : Int64) (s : SS) (t : TT) (q : SS × TT), j_X6_advance_191 k126 y0 s t = some q → Wp pl_Kc 122 191 [some (.ref 51), none] [.long y0, .ref 51] (mk s t) (Qv q) := by
  intro y0 s t q h
  unfold j_X6_advance_191 at h
  refine a_pfl rfl rfl (mg_51 _ _) (Nat.le_of_ble_eq_true rfl) (ms_51_11 _ _) (fun t1 e1 => ?_)
  replace h := wr_of h t1 e1
  refine w_la rfl rfl ?_
  refine w_dup rfl rfl ?_
  refine w_gf rfl (mg_51 _ _) rfl ?_
  refine w_ci rfl ?_
  refine w_iadd rfl ?_
  refine a_pf rfl rfl (mg_51 _ _) (Nat.le_of_ble_eq_true rfl) (ms_51_10 _ _) (fun s2 e2 => ?_)
  replace h := wr_of h s2 e2
  refine w_go rfl ?_
  exact Wp_fgt (fg_s (fg_n fg_e)) (hk126 _ _ _ h)
set_option maxRecDepth 100000 in
theorem B_X6_advance_126  {k126 : SS × TT → Option (SS × TT)} (hk126 : ∀ (s : SS) (t : TT) (q : SS × TT), k126 (s, t) = some q → Wp pl_Kc 122 126 [some (.ref 51), none] [] (mk s t) (Qv q)) : ∀ (s : SS) (t : TT) (q : SS × TT), b_X6_advance_126 k126 s t = some q → Wp pl_Kc 122 126 [some (.ref 51), none] [] (mk s t) (Qv q) := by
  intro s t q h
  unfold b_X6_advance_126 at h
  refine w_la rfl rfl ?_
  refine w_gf rfl (mg_51 _ _) rfl ?_
  refine w_ci rfl ?_
  refine w_ic_ne rfl (fun c1 => ?_) (fun c1 => ?_)
  · replace h := ifn h c1
    exact Wp_fgt (fg_s (fg_n fg_e)) (K_X6_advance_207 _ _ _ _ h)
  · replace h := ifp h (Classical.not_not.mp c1)
    refine w_la rfl rfl ?_
    refine w_la rfl rfl ?_
    refine w_gf rfl (mg_51 _ _) rfl ?_
    obtain ⟨q2, e2, h⟩ := bnd h
    refine a_vi1i rfl (mg_51 _ _) (Nat.le_of_ble_eq_true rfl) (T_X6_byteAt e2) ?_
    obtain ⟨q3, e3, h⟩ := bnd h
    refine a_st1i rfl (Nat.le_of_ble_eq_true rfl) (T_X6_isLetter e3) ?_
    refine w_if_eq rfl (fun c4 => ?_) (fun c4 => ?_)
    · replace h := ifp h c4
      exact Wp_fgt (fg_s (fg_n fg_e)) (K_X6_advance_207 _ _ _ _ h)
    · replace h := ifn h c4
      refine w_la rfl rfl ?_
      refine w_la rfl rfl ?_
      refine w_gf rfl (mg_51 _ _) rfl ?_
      refine w_la rfl rfl ?_
      refine w_gf rfl (mg_51 _ _) rfl ?_
      refine w_isub rfl ?_
      refine w_ci rfl ?_
      refine w_ic_ge rfl (fun c5 => ?_) (fun c5 => ?_)
      · replace h := ifp h c5
        refine w_cl rfl ?_
        exact Wp_fgt (fg_s (fg_n fg_e)) (J_X6_advance_191 hk126 _ _ _ _ h)
      · replace h := ifn h c5
        refine w_cl rfl ?_
        refine w_la rfl rfl ?_
        refine w_gf rfl (mg_51 _ _) rfl ?_
        refine w_lmul rfl ?_
        refine w_la rfl rfl ?_
        refine w_la rfl rfl ?_
        refine w_gf rfl (mg_51 _ _) rfl ?_
        obtain ⟨q6, e6, h⟩ := bnd h
        refine a_vi1i rfl (mg_51 _ _) (Nat.le_of_ble_eq_true rfl) (T_X6_byteAt e6) ?_
        refine w_i2l rfl ?_
        refine w_ladd rfl ?_
        refine w_cl rfl ?_
        refine w_lsub rfl ?_
        refine w_go rfl ?_
        exact Wp_fgt (fg_s (fg_n fg_e)) (J_X6_advance_191 hk126 _ _ _ _ h)
theorem K_X6_advance_126  : ∀ (n : Nat) (s : SS) (t : TT) (q : SS × TT), l_X6_advance_126 n (s, t) = some q → Wp pl_Kc 122 126 [some (.ref 51), none] [] (mk s t) (Qv q)
  | 0, s, t, q, h => by cases (show (none : Option (SS × TT)) = some q from h)
  | n + 1, s, t, q, h => B_X6_advance_126 (K_X6_advance_126 n) s t q h
set_option maxRecDepth 100000 in
theorem J_X6_advance_105  : ∀ (y0 : Int32) (s : SS) (t : TT) (q : SS × TT), j_X6_advance_105 y0 s t = some q → Wp pl_Kc 122 105 [some (.ref 51), none] [.int y0, .ref 51] (mk s t) (Qv q) := by
  intro y0 s t q h
  unfold j_X6_advance_105 at h
  refine a_pf rfl rfl (mg_51 _ _) (Nat.le_of_ble_eq_true rfl) (ms_51_12 _ _) (fun s1 e1 => ?_)
  replace h := wr_of h s1 e1
  refine w_la rfl rfl ?_
  refine w_gf rfl (mg_51 _ _) rfl ?_
  refine w_ci rfl ?_
  refine w_ic_ne rfl (fun c2 => ?_) (fun c2 => ?_)
  · replace h := ifn h c2
    exact Wp_fgt (fg_s (fg_n fg_e)) (K_X6_advance_126 _ _ _ _ h)
  · replace h := ifp h (Classical.not_not.mp c2)
    refine w_la rfl rfl ?_
    refine w_dup rfl rfl ?_
    refine w_gf rfl (mg_51 _ _) rfl ?_
    refine w_ci rfl ?_
    refine w_iadd rfl ?_
    refine a_pf rfl rfl (mg_51 _ _) (Nat.le_of_ble_eq_true rfl) (ms_51_10 _ _) (fun s3 e3 => ?_)
    replace h := wr_of h s3 e3
    exact Wp_fgt (fg_s (fg_n fg_e)) (K_X6_advance_126 _ _ _ _ h)
set_option maxRecDepth 100000 in
theorem J_X6_advance_83  : ∀ (x1 : Int32) (y0 : Int32) (s : SS) (t : TT) (q : SS × TT), j_X6_advance_83 x1 y0 s t = some q → Wp pl_Kc 122 83 [some (.ref 51), some (.int x1)] [.int y0, .ref 51] (mk s t) (Qv q) := by
  intro x1 y0 s t q h
  unfold j_X6_advance_83 at h
  refine a_pf rfl rfl (mg_51 _ _) (Nat.le_of_ble_eq_true rfl) (ms_51_8 _ _) (fun s1 e1 => ?_)
  replace h := wr_of h s1 e1
  refine w_la rfl rfl ?_
  refine w_cl rfl ?_
  refine a_pfl rfl rfl (mg_51 _ _) (Nat.le_of_ble_eq_true rfl) (ms_51_11 _ _) (fun t2 e2 => ?_)
  replace h := wr_of h t2 e2
  refine w_la rfl rfl ?_
  refine w_la rfl rfl ?_
  refine w_gf rfl (mg_51 _ _) rfl ?_
  refine w_ci rfl ?_
  refine w_ic_ne rfl (fun c3 => ?_) (fun c3 => ?_)
  · replace h := ifn h c3
    refine w_li rfl rfl ?_
    exact Wp_fgt (fg_s (fg_n fg_e)) (J_X6_advance_105 _ _ _ _ h)
  · replace h := ifp h (Classical.not_not.mp c3)
    refine w_ci rfl ?_
    refine w_go rfl ?_
    exact Wp_fgt (fg_s (fg_n fg_e)) (J_X6_advance_105 _ _ _ _ h)
set_option maxRecDepth 100000 in
theorem B_X6_advance_8  {k8 : SS × TT → Option (SS × TT)} (hk8 : ∀ (s : SS) (t : TT) (q : SS × TT), k8 (s, t) = some q → Wp pl_Kc 122 8 [some (.ref 51), none] [] (mk s t) (Qv q)) : ∀ (s : SS) (t : TT) (q : SS × TT), b_X6_advance_8 k8 s t = some q → Wp pl_Kc 122 8 [some (.ref 51), none] [] (mk s t) (Qv q) := by
  intro s t q h
  unfold b_X6_advance_8 at h
  refine w_la rfl rfl ?_
  refine w_la rfl rfl ?_
  refine w_gf rfl (mg_51 _ _) rfl ?_
  obtain ⟨q1, e1, h⟩ := bnd h
  refine a_vi1i rfl (mg_51 _ _) (Nat.le_of_ble_eq_true rfl) (T_X6_byteAt e1) ?_
  refine w_ci rfl ?_
  refine w_ic_ne rfl (fun c2 => ?_) (fun c2 => ?_)
  · replace h := ifn h c2
    refine w_la rfl rfl ?_
    refine w_la rfl rfl ?_
    refine w_gf rfl (mg_51 _ _) rfl ?_
    refine a_pf rfl rfl (mg_51 _ _) (Nat.le_of_ble_eq_true rfl) (ms_51_10 _ _) (fun s3 e3 => ?_)
    replace h := wr_of h s3 e3
    refine w_la rfl rfl ?_
    refine w_la rfl rfl ?_
    refine w_gf rfl (mg_51 _ _) rfl ?_
    obtain ⟨q4, e4, h⟩ := bnd h
    refine a_vi1i rfl (mg_51 _ _) (Nat.le_of_ble_eq_true rfl) (T_X6_byteAt e4) ?_
    refine w_si rfl (Nat.le_of_ble_eq_true rfl) rfl ?_
    refine w_la rfl rfl ?_
    refine w_li rfl rfl ?_
    refine w_if_ge rfl (fun c5 => ?_) (fun c5 => ?_)
    · replace h := ifp h c5
      refine w_li rfl rfl ?_
      obtain ⟨q6, e6, h⟩ := bnd h
      refine a_st1i rfl (Nat.le_of_ble_eq_true rfl) (T_X6_isLetter e6) ?_
      refine w_if_eq rfl (fun c7 => ?_) (fun c7 => ?_)
      · replace h := ifp h c7
        refine w_li rfl rfl ?_
        obtain ⟨q8, e8, h⟩ := bnd h
        refine a_st1i rfl (Nat.le_of_ble_eq_true rfl) (T_X6_isDigit e8) ?_
        refine w_if_eq rfl (fun c9 => ?_) (fun c9 => ?_)
        · replace h := ifp h c9
          refine w_ci rfl ?_
          exact Wp_fgt (fg_s (fg_s fg_e)) (J_X6_advance_83 _ _ _ _ _ h)
        · replace h := ifn h c9
          refine w_ci rfl ?_
          refine w_go rfl ?_
          exact Wp_fgt (fg_s (fg_s fg_e)) (J_X6_advance_83 _ _ _ _ _ h)
      · replace h := ifn h c7
        refine w_ci rfl ?_
        refine w_go rfl ?_
        exact Wp_fgt (fg_s (fg_s fg_e)) (J_X6_advance_83 _ _ _ _ _ h)
    · replace h := ifn h c5
      refine w_ci rfl ?_
      refine w_go rfl ?_
      exact Wp_fgt (fg_s (fg_s fg_e)) (J_X6_advance_83 _ _ _ _ _ h)
  · replace h := ifp h (Classical.not_not.mp c2)
    refine w_la rfl rfl ?_
    refine w_dup rfl rfl ?_
    refine w_gf rfl (mg_51 _ _) rfl ?_
    refine w_ci rfl ?_
    refine w_iadd rfl ?_
    refine a_pf rfl rfl (mg_51 _ _) (Nat.le_of_ble_eq_true rfl) (ms_51_9 _ _) (fun s10 e10 => ?_)
    replace h := wr_of h s10 e10
    refine w_go rfl ?_
    exact Wp_fgt (fg_s (fg_n fg_e)) (hk8 _ _ _ h)
theorem K_X6_advance_8  : ∀ (n : Nat) (s : SS) (t : TT) (q : SS × TT), l_X6_advance_8 n (s, t) = some q → Wp pl_Kc 122 8 [some (.ref 51), none] [] (mk s t) (Qv q)
  | 0, s, t, q, h => by cases (show (none : Option (SS × TT)) = some q from h)
  | n + 1, s, t, q, h => B_X6_advance_8 (K_X6_advance_8 n) s t q h
set_option maxRecDepth 100000 in
theorem T_X6_advance  {s : SS} {t : TT} {q : SS × TT} (h : f_X6_advance s t = some q) : Wm 122 [.ref 51] (mk s t) (Qv q) := by
  refine Wm.of pT_122 (Nat.le_of_ble_eq_true rfl) (L0 := [some (.ref 51), none]) rfl ?_
  unfold f_X6_advance at h
  refine w_la rfl rfl ?_
  refine w_la rfl rfl ?_
  refine w_gf rfl (mg_51 _ _) rfl ?_
  refine a_pf rfl rfl (mg_51 _ _) (Nat.le_of_ble_eq_true rfl) (ms_51_9 _ _) (fun s1 e1 => ?_)
  replace h := wr_of h s1 e1
  exact Wp_fgt (fg_s (fg_n fg_e)) (K_X6_advance_8 _ _ _ _ h)
-- X6_isWord
set_option maxRecDepth 100000 in
theorem T_X6_isWord  {x1 : Int64} {s : SS} {t : TT} {q : Int32 × SS × TT} (h : f_X6_isWord x1 s t = some q) : Wm 123 [.ref 51, .long x1] (mk s t) (Qi q) := by
  refine Wm.of pT_123 (Nat.le_of_ble_eq_true rfl) (L0 := [some (.ref 51), some (.long x1), none]) rfl ?_
  unfold f_X6_isWord at h
  refine w_la rfl rfl ?_
  refine w_gf rfl (mg_51 _ _) rfl ?_
  refine w_ci rfl ?_
  refine w_ic_ne rfl (fun c1 => ?_) (fun c1 => ?_)
  · replace h := ifn h c1
    refine w_ci rfl ?_
    exact a_rz rfl (by decide) h
  · replace h := ifp h (Classical.not_not.mp c1)
    refine w_la rfl rfl ?_
    refine w_gf rfl (mg_51 _ _) rfl ?_
    refine w_ll rfl rfl ?_
    refine w_cmp rfl ?_
    refine w_if_ne rfl (fun c2 => ?_) (fun c2 => ?_)
    · replace h := ifn h c2
      refine w_ci rfl ?_
      exact a_rz rfl (by decide) h
    · replace h := ifp h (Classical.not_not.mp c2)
      refine w_ci rfl ?_
      refine w_go rfl ?_
      exact a_rz rfl (by decide) h
-- X6_isMark
set_option maxRecDepth 100000 in
theorem T_X6_isMark  {x1 : Int32} {s : SS} {t : TT} {q : Int32 × SS × TT} (h : f_X6_isMark x1 s t = some q) : Wm 124 [.ref 51, .int x1] (mk s t) (Qi q) := by
  refine Wm.of pT_124 (Nat.le_of_ble_eq_true rfl) (L0 := [some (.ref 51), some (.int x1)]) rfl ?_
  unfold f_X6_isMark at h
  refine w_la rfl rfl ?_
  refine w_gf rfl (mg_51 _ _) rfl ?_
  refine w_ci rfl ?_
  refine w_ic_ne rfl (fun c1 => ?_) (fun c1 => ?_)
  · replace h := ifn h c1
    refine w_ci rfl ?_
    exact a_rz rfl (by decide) h
  · replace h := ifp h (Classical.not_not.mp c1)
    refine w_la rfl rfl ?_
    refine w_gf rfl (mg_51 _ _) rfl ?_
    refine w_li rfl rfl ?_
    refine w_ic_ne rfl (fun c2 => ?_) (fun c2 => ?_)
    · replace h := ifn h c2
      refine w_ci rfl ?_
      exact a_rz rfl (by decide) h
    · replace h := ifp h (Classical.not_not.mp c2)
      refine w_ci rfl ?_
      refine w_go rfl ?_
      exact a_rz rfl (by decide) h
-- X6_kindHere
set_option maxRecDepth 100000 in
theorem T_X6_kindHere  {s : SS} {t : TT} {q : Int32 × SS × TT} (h : f_X6_kindHere s t = some q) : Wm 125 [.ref 51] (mk s t) (Qi q) := by
  refine Wm.of pT_125 (Nat.le_of_ble_eq_true rfl) (L0 := [some (.ref 51)]) rfl ?_
  unfold f_X6_kindHere at h
  refine w_la rfl rfl ?_
  refine w_cl rfl ?_
  obtain ⟨q1, e1, h⟩ := bnd h
  refine a_vi1i rfl (mg_51 _ _) (Nat.le_of_ble_eq_true rfl) (T_X6_isWord e1) ?_
  refine w_if_eq rfl (fun c2 => ?_) (fun c2 => ?_)
  · replace h := ifp h c2
    refine w_la rfl rfl ?_
    refine w_cl rfl ?_
    obtain ⟨q3, e3, h⟩ := bnd h
    refine a_vi1i rfl (mg_51 _ _) (Nat.le_of_ble_eq_true rfl) (T_X6_isWord e3) ?_
    refine w_if_eq rfl (fun c4 => ?_) (fun c4 => ?_)
    · replace h := ifp h c4
      refine w_la rfl rfl ?_
      refine w_cl rfl ?_
      obtain ⟨q5, e5, h⟩ := bnd h
      refine a_vi1i rfl (mg_51 _ _) (Nat.le_of_ble_eq_true rfl) (T_X6_isWord e5) ?_
      refine w_if_eq rfl (fun c6 => ?_) (fun c6 => ?_)
      · replace h := ifp h c6
        refine w_la rfl rfl ?_
        refine w_cl rfl ?_
        obtain ⟨q7, e7, h⟩ := bnd h
        refine a_vi1i rfl (mg_51 _ _) (Nat.le_of_ble_eq_true rfl) (T_X6_isWord e7) ?_
        refine w_if_eq rfl (fun c8 => ?_) (fun c8 => ?_)
        · replace h := ifp h c8
          refine w_la rfl rfl ?_
          refine w_cl rfl ?_
          obtain ⟨q9, e9, h⟩ := bnd h
          refine a_vi1i rfl (mg_51 _ _) (Nat.le_of_ble_eq_true rfl) (T_X6_isWord e9) ?_
          refine w_if_eq rfl (fun c10 => ?_) (fun c10 => ?_)
          · replace h := ifp h c10
            refine w_la rfl rfl ?_
            refine w_cl rfl ?_
            obtain ⟨q11, e11, h⟩ := bnd h
            refine a_vi1i rfl (mg_51 _ _) (Nat.le_of_ble_eq_true rfl) (T_X6_isWord e11) ?_
            refine w_if_eq rfl (fun c12 => ?_) (fun c12 => ?_)
            · replace h := ifp h c12
              refine w_ci rfl ?_
              exact a_ri rfl h
            · replace h := ifn h c12
              refine w_ci rfl ?_
              refine w_go rfl ?_
              exact a_ri rfl h
          · replace h := ifn h c10
            refine w_ci rfl ?_
            refine w_go rfl ?_
            exact a_ri rfl h
        · replace h := ifn h c8
          refine w_ci rfl ?_
          refine w_go rfl ?_
          exact a_ri rfl h
      · replace h := ifn h c6
        refine w_ci rfl ?_
        refine w_go rfl ?_
        exact a_ri rfl h
    · replace h := ifn h c4
      refine w_ci rfl ?_
      refine w_go rfl ?_
      exact a_ri rfl h
  · replace h := ifn h c2
    refine w_ci rfl ?_
    refine w_go rfl ?_
    exact a_ri rfl h
-- X6_lawHere
set_option maxRecDepth 100000 in
theorem T_X6_lawHere  {s : SS} {t : TT} {q : Int32 × SS × TT} (h : f_X6_lawHere s t = some q) : Wm 126 [.ref 51] (mk s t) (Qi q) := by
  refine Wm.of pT_126 (Nat.le_of_ble_eq_true rfl) (L0 := [some (.ref 51)]) rfl ?_
  unfold f_X6_lawHere at h
  refine w_la rfl rfl ?_
  refine w_cl rfl ?_
  obtain ⟨q1, e1, h⟩ := bnd h
  refine a_vi1i rfl (mg_51 _ _) (Nat.le_of_ble_eq_true rfl) (T_X6_isWord e1) ?_
  refine w_if_eq rfl (fun c2 => ?_) (fun c2 => ?_)
  · replace h := ifp h c2
    refine w_la rfl rfl ?_
    refine w_cl rfl ?_
    obtain ⟨q3, e3, h⟩ := bnd h
    refine a_vi1i rfl (mg_51 _ _) (Nat.le_of_ble_eq_true rfl) (T_X6_isWord e3) ?_
    refine w_if_eq rfl (fun c4 => ?_) (fun c4 => ?_)
    · replace h := ifp h c4
      refine w_la rfl rfl ?_
      refine w_cl rfl ?_
      obtain ⟨q5, e5, h⟩ := bnd h
      refine a_vi1i rfl (mg_51 _ _) (Nat.le_of_ble_eq_true rfl) (T_X6_isWord e5) ?_
      refine w_if_eq rfl (fun c6 => ?_) (fun c6 => ?_)
      · replace h := ifp h c6
        refine w_la rfl rfl ?_
        refine w_cl rfl ?_
        obtain ⟨q7, e7, h⟩ := bnd h
        refine a_vi1i rfl (mg_51 _ _) (Nat.le_of_ble_eq_true rfl) (T_X6_isWord e7) ?_
        refine w_if_eq rfl (fun c8 => ?_) (fun c8 => ?_)
        · replace h := ifp h c8
          refine w_ci rfl ?_
          exact a_ri rfl h
        · replace h := ifn h c8
          refine w_ci rfl ?_
          refine w_go rfl ?_
          exact a_ri rfl h
      · replace h := ifn h c6
        refine w_ci rfl ?_
        refine w_go rfl ?_
        exact a_ri rfl h
    · replace h := ifn h c4
      refine w_ci rfl ?_
      refine w_go rfl ?_
      exact a_ri rfl h
  · replace h := ifn h c2
    refine w_ci rfl ?_
    refine w_go rfl ?_
    exact a_ri rfl h
-- X6_wantNumber
set_option maxRecDepth 100000 in
theorem J_X6_wantNumber_35  : ∀ (x3 : Int32) (y0 : Int32) (s : SS) (t : TT) (q : Int32 × SS × TT), j_X6_wantNumber_35 x3 y0 s t = some q → Wp pl_Kc 127 35 [some (.ref 51), none, none, some (.int x3)] [.int y0, .ref 51] (mk s t) (Qi q) := by
  intro x3 y0 s t q h
  unfold j_X6_wantNumber_35 at h
  by_cases g1 : (y0 == 0 || y0 == 1) = true
  · replace h := ifp h g1
    refine a_pf rfl g1 (mg_51 _ _) (Nat.le_of_ble_eq_true rfl) (ms_51_13 _ _) (fun s1 e1 => ?_)
    replace h := wr_of h s1 e1
    refine w_la rfl rfl ?_
    refine w_gf rfl (mg_51 _ _) rfl ?_
    refine w_if_eq rfl (fun c2 => ?_) (fun c2 => ?_)
    · replace h := ifp h c2
      refine w_li rfl rfl ?_
      exact a_ri rfl h
    · replace h := ifn h c2
      refine w_la rfl rfl ?_
      obtain ⟨q3, e3, h⟩ := bnd h
      refine a_vi0v rfl (mg_51 _ _) (Nat.le_of_ble_eq_true rfl) (T_X6_advance e3) ?_
      refine w_li rfl rfl ?_
      exact a_ri rfl h
  · cases (ifn h g1)
set_option maxRecDepth 100000 in
theorem J_X6_wantNumber_34  : ∀ (x3 : Int32) (s : SS) (t : TT) (q : Int32 × SS × TT), j_X6_wantNumber_34 x3 s t = some q → Wp pl_Kc 127 34 [some (.ref 51), none, none, some (.int x3)] [.ref 51] (mk s t) (Qi q) := by
  intro x3 s t q h
  unfold j_X6_wantNumber_34 at h
  refine w_ci rfl ?_
  exact Wp_fgt (fg_s (fg_n (fg_n (fg_s fg_e)))) (J_X6_wantNumber_35 _ _ _ _ _ h)
set_option maxRecDepth 100000 in
theorem T_X6_wantNumber  {x1 : Int32} {x2 : Int32} {s : SS} {t : TT} {q : Int32 × SS × TT} (h : f_X6_wantNumber x1 x2 s t = some q) : Wm 127 [.ref 51, .int x1, .int x2] (mk s t) (Qi q) := by
  refine Wm.of pT_127 (Nat.le_of_ble_eq_true rfl) (L0 := [some (.ref 51), some (.int x1), some (.int x2), none]) rfl ?_
  unfold f_X6_wantNumber at h
  refine w_la rfl rfl ?_
  refine w_gf rfl (mg_51 _ _) rfl ?_
  refine w_si rfl (Nat.le_of_ble_eq_true rfl) rfl ?_
  refine w_la rfl rfl ?_
  refine w_la rfl rfl ?_
  refine w_gf rfl (mg_51 _ _) rfl ?_
  refine w_if_eq rfl (fun c1 => ?_) (fun c1 => ?_)
  · replace h := ifp h c1
    exact Wp_fgt (fg_s (fg_n (fg_n (fg_s fg_e)))) (J_X6_wantNumber_34 _ _ _ _ h)
  · replace h := ifn h c1
    refine w_la rfl rfl ?_
    refine w_gf rfl (mg_51 _ _) rfl ?_
    refine w_ci rfl ?_
    refine w_ic_ne rfl (fun c2 => ?_) (fun c2 => ?_)
    · replace h := ifn h c2
      exact Wp_fgt (fg_s (fg_n (fg_n (fg_s fg_e)))) (J_X6_wantNumber_34 _ _ _ _ h)
    · replace h := ifp h (Classical.not_not.mp c2)
      refine w_li rfl rfl ?_
      refine w_li rfl rfl ?_
      refine w_li rfl rfl ?_
      obtain ⟨q3, e3, h⟩ := bnd h
      refine a_st3i rfl (Nat.le_of_ble_eq_true rfl) (T_X6_in e3) ?_
      refine w_if_eq rfl (fun c4 => ?_) (fun c4 => ?_)
      · replace h := ifp h c4
        exact Wp_fgt (fg_s (fg_n (fg_n (fg_s fg_e)))) (J_X6_wantNumber_34 _ _ _ _ h)
      · replace h := ifn h c4
        refine w_ci rfl ?_
        refine w_go rfl ?_
        exact Wp_fgt (fg_s (fg_n (fg_n (fg_s fg_e)))) (J_X6_wantNumber_35 _ _ _ _ _ h)
-- X6_wantEnd
set_option maxRecDepth 100000 in
theorem J_X6_wantEnd_22  : ∀ (y0 : Int32) (s : SS) (t : TT) (q : SS × TT), j_X6_wantEnd_22 y0 s t = some q → Wp pl_Kc 128 22 [some (.ref 51)] [.int y0, .ref 51] (mk s t) (Qv q) := by
  intro y0 s t q h
  unfold j_X6_wantEnd_22 at h
  by_cases g1 : (y0 == 0 || y0 == 1) = true
  · replace h := ifp h g1
    refine a_pf rfl g1 (mg_51 _ _) (Nat.le_of_ble_eq_true rfl) (ms_51_13 _ _) (fun s1 e1 => ?_)
    replace h := wr_of h s1 e1
    refine w_la rfl rfl ?_
    refine w_gf rfl (mg_51 _ _) rfl ?_
    refine w_if_eq rfl (fun c2 => ?_) (fun c2 => ?_)
    · replace h := ifp h c2
      exact a_rv rfl h
    · replace h := ifn h c2
      refine w_la rfl rfl ?_
      obtain ⟨q3, e3, h⟩ := bnd h
      refine a_vi0v rfl (mg_51 _ _) (Nat.le_of_ble_eq_true rfl) (T_X6_advance e3) ?_
      exact a_rv rfl h
  · cases (ifn h g1)
set_option maxRecDepth 100000 in
theorem J_X6_wantEnd_21  : ∀ (s : SS) (t : TT) (q : SS × TT), j_X6_wantEnd_21 s t = some q → Wp pl_Kc 128 21 [some (.ref 51)] [.ref 51] (mk s t) (Qv q) := by
  intro s t q h
  unfold j_X6_wantEnd_21 at h
  refine w_ci rfl ?_
  exact Wp_fgt (fg_s fg_e) (J_X6_wantEnd_22 _ _ _ _ h)
set_option maxRecDepth 100000 in
theorem T_X6_wantEnd  {s : SS} {t : TT} {q : SS × TT} (h : f_X6_wantEnd s t = some q) : Wm 128 [.ref 51] (mk s t) (Qv q) := by
  refine Wm.of pT_128 (Nat.le_of_ble_eq_true rfl) (L0 := [some (.ref 51)]) rfl ?_
  unfold f_X6_wantEnd at h
  refine w_la rfl rfl ?_
  refine w_la rfl rfl ?_
  refine w_gf rfl (mg_51 _ _) rfl ?_
  refine w_if_eq rfl (fun c1 => ?_) (fun c1 => ?_)
  · replace h := ifp h c1
    exact Wp_fgt (fg_s fg_e) (J_X6_wantEnd_21 _ _ _ h)
  · replace h := ifn h c1
    refine w_la rfl rfl ?_
    refine w_ci rfl ?_
    obtain ⟨q2, e2, h⟩ := bnd h
    refine a_vi1i rfl (mg_51 _ _) (Nat.le_of_ble_eq_true rfl) (T_X6_isMark e2) ?_
    refine w_if_eq rfl (fun c3 => ?_) (fun c3 => ?_)
    · replace h := ifp h c3
      exact Wp_fgt (fg_s fg_e) (J_X6_wantEnd_21 _ _ _ h)
    · replace h := ifn h c3
      refine w_ci rfl ?_
      refine w_go rfl ?_
      exact Wp_fgt (fg_s fg_e) (J_X6_wantEnd_22 _ _ _ _ h)
-- X6_mayWant
set_option maxRecDepth 100000 in
theorem T_X6_mayWant  {x1 : Int64} {x3 : Int32} {s : SS} {t : TT} {q : Int32 × SS × TT} (h : f_X6_mayWant x1 x3 s t = some q) : Wm 129 [.ref 51, .long x1, .int x3] (mk s t) (Qi q) := by
  refine Wm.of pT_129 (Nat.le_of_ble_eq_true rfl) (L0 := [some (.ref 51), some (.long x1), none, some (.int x3)]) rfl ?_
  unfold f_X6_mayWant at h
  refine w_la rfl rfl ?_
  refine w_gf rfl (mg_51 _ _) rfl ?_
  refine w_if_eq rfl (fun c1 => ?_) (fun c1 => ?_)
  · replace h := ifp h c1
    refine w_ci rfl ?_
    exact a_ri rfl h
  · replace h := ifn h c1
    refine w_la rfl rfl ?_
    refine w_ll rfl rfl ?_
    obtain ⟨q2, e2, h⟩ := bnd h
    refine a_vi1i rfl (mg_51 _ _) (Nat.le_of_ble_eq_true rfl) (T_X6_isWord e2) ?_
    refine w_if_ne rfl (fun c3 => ?_) (fun c3 => ?_)
    · replace h := ifn h c3
      refine w_la rfl rfl ?_
      obtain ⟨q4, e4, h⟩ := bnd h
      refine a_vi0v rfl (mg_51 _ _) (Nat.le_of_ble_eq_true rfl) (T_X6_advance e4) ?_
      refine w_la rfl rfl ?_
      refine w_ci rfl ?_
      refine w_li rfl rfl ?_
      obtain ⟨q5, e5, h⟩ := bnd h
      refine a_vi2i rfl (mg_51 _ _) (Nat.le_of_ble_eq_true rfl) (T_X6_wantNumber e5) ?_
      exact a_ri rfl h
    · replace h := ifp h (Classical.not_not.mp c3)
      refine w_ci rfl ?_
      exact a_ri rfl h
-- X6_wantOne
set_option maxRecDepth 100000 in
theorem J_X6_wantOne_32  : ∀ (x1 : Int32) (s : SS) (t : TT) (q : SS × TT), j_X6_wantOne_32 x1 s t = some q → Wp pl_Kc 130 32 [some (.ref 51), some (.int x1), none, none, none, none] [] (mk s t) (Qv q) := by
  intro x1 s t q h
  unfold j_X6_wantOne_32 at h
  refine w_la rfl rfl ?_
  refine w_cl rfl ?_
  refine w_ci rfl ?_
  obtain ⟨q1, e1, h⟩ := bnd h
  refine a_vi2i rfl (mg_51 _ _) (Nat.le_of_ble_eq_true rfl) (T_X6_mayWant e1) ?_
  refine w_si rfl (Nat.le_of_ble_eq_true rfl) rfl ?_
  refine w_la rfl rfl ?_
  refine w_cl rfl ?_
  refine w_ci rfl ?_
  obtain ⟨q2, e2, h⟩ := bnd h
  refine a_vi2i rfl (mg_51 _ _) (Nat.le_of_ble_eq_true rfl) (T_X6_mayWant e2) ?_
  refine w_si rfl (Nat.le_of_ble_eq_true rfl) rfl ?_
  refine w_la rfl rfl ?_
  refine w_cl rfl ?_
  refine w_ci rfl ?_
  obtain ⟨q3, e3, h⟩ := bnd h
  refine a_vi2i rfl (mg_51 _ _) (Nat.le_of_ble_eq_true rfl) (T_X6_mayWant e3) ?_
  refine w_si rfl (Nat.le_of_ble_eq_true rfl) rfl ?_
  refine w_la rfl rfl ?_
  obtain ⟨q4, e4, h⟩ := bnd h
  refine a_vi0v rfl (mg_51 _ _) (Nat.le_of_ble_eq_true rfl) (T_X6_wantEnd e4) ?_
  refine w_la rfl rfl ?_
  refine w_gf rfl (mg_51 _ _) rfl ?_
  refine w_if_eq rfl (fun c5 => ?_) (fun c5 => ?_)
  · replace h := ifp h c5
    exact a_rv rfl h
  · replace h := ifn h c5
    refine w_ci rfl ?_
    refine w_ci rfl ?_
    refine w_la rfl rfl ?_
    refine w_gf rfl (mg_51 _ _) rfl ?_
    refine w_ci rfl ?_
    obtain ⟨j6, e6, h⟩ := bnd h
    refine a_ia rfl (mr_53 _ _ _) e6 ?_
    refine w_imul rfl ?_
    refine w_iadd rfl ?_
    refine w_si rfl (Nat.le_of_ble_eq_true rfl) rfl ?_
    refine w_la rfl rfl ?_
    refine w_gf rfl (mg_51 _ _) rfl ?_
    refine w_li rfl rfl ?_
    refine w_li rfl rfl ?_
    obtain ⟨j7, e7, h⟩ := bnd h
    refine a_is rfl (mg_53 _ _) (ms_53 _ _) e7 (fun s7 w7 => ?_)
    replace h := wr_of h s7 w7
    refine w_la rfl rfl ?_
    refine w_gf rfl (mg_51 _ _) rfl ?_
    refine w_li rfl rfl ?_
    refine w_ci rfl ?_
    refine w_iadd rfl ?_
    refine w_li rfl rfl ?_
    obtain ⟨j8, e8, h⟩ := bnd h
    refine a_is rfl (mg_53 _ _) (ms_53 _ _) e8 (fun s8 w8 => ?_)
    replace h := wr_of h s8 w8
    refine w_la rfl rfl ?_
    refine w_gf rfl (mg_51 _ _) rfl ?_
    refine w_li rfl rfl ?_
    refine w_ci rfl ?_
    refine w_iadd rfl ?_
    refine w_li rfl rfl ?_
    obtain ⟨j9, e9, h⟩ := bnd h
    refine a_is rfl (mg_53 _ _) (ms_53 _ _) e9 (fun s9 w9 => ?_)
    replace h := wr_of h s9 w9
    refine w_la rfl rfl ?_
    refine w_gf rfl (mg_51 _ _) rfl ?_
    refine w_li rfl rfl ?_
    refine w_ci rfl ?_
    refine w_iadd rfl ?_
    refine w_li rfl rfl ?_
    obtain ⟨j10, e10, h⟩ := bnd h
    refine a_is rfl (mg_53 _ _) (ms_53 _ _) e10 (fun s10 w10 => ?_)
    replace h := wr_of h s10 w10
    refine w_la rfl rfl ?_
    refine w_gf rfl (mg_51 _ _) rfl ?_
    refine w_ci rfl ?_
    refine w_dup2 rfl rfl rfl ?_
    obtain ⟨j11, e11, h⟩ := bnd h
    refine a_ia rfl (mr_53 _ _ _) e11 ?_
    refine w_ci rfl ?_
    refine w_iadd rfl ?_
    obtain ⟨j12, e12, h⟩ := bnd h
    refine a_is rfl (mg_53 _ _) (ms_53 _ _) e12 (fun s12 w12 => ?_)
    replace h := wr_of h s12 w12
    exact a_rv rfl h
set_option maxRecDepth 100000 in
theorem J_X6_wantOne_18  : ∀ (x1 : Int32) (y0 : Int32) (s : SS) (t : TT) (q : SS × TT), j_X6_wantOne_18 x1 y0 s t = some q → Wp pl_Kc 130 18 [some (.ref 51), some (.int x1), none, none, none, none] [.int y0, .ref 51] (mk s t) (Qv q) := by
  intro x1 y0 s t q h
  unfold j_X6_wantOne_18 at h
  by_cases g1 : (y0 == 0 || y0 == 1) = true
  · replace h := ifp h g1
    refine a_pf rfl g1 (mg_51 _ _) (Nat.le_of_ble_eq_true rfl) (ms_51_13 _ _) (fun s1 e1 => ?_)
    replace h := wr_of h s1 e1
    refine w_la rfl rfl ?_
    refine w_gf rfl (mg_51 _ _) rfl ?_
    refine w_if_eq rfl (fun c2 => ?_) (fun c2 => ?_)
    · replace h := ifp h c2
      exact Wp_fgt (fg_s (fg_s (fg_n (fg_n (fg_n (fg_n fg_e)))))) (J_X6_wantOne_32 _ _ _ _ h)
    · replace h := ifn h c2
      refine w_la rfl rfl ?_
      obtain ⟨q3, e3, h⟩ := bnd h
      refine a_vi0v rfl (mg_51 _ _) (Nat.le_of_ble_eq_true rfl) (T_X6_advance e3) ?_
      exact Wp_fgt (fg_s (fg_s (fg_n (fg_n (fg_n (fg_n fg_e)))))) (J_X6_wantOne_32 _ _ _ _ h)
  · cases (ifn h g1)
set_option maxRecDepth 100000 in
theorem T_X6_wantOne  {x1 : Int32} {s : SS} {t : TT} {q : SS × TT} (h : f_X6_wantOne x1 s t = some q) : Wm 130 [.ref 51, .int x1] (mk s t) (Qv q) := by
  refine Wm.of pT_130 (Nat.le_of_ble_eq_true rfl) (L0 := [some (.ref 51), some (.int x1), none, none, none, none]) rfl ?_
  unfold f_X6_wantOne at h
  refine w_la rfl rfl ?_
  refine w_la rfl rfl ?_
  refine w_gf rfl (mg_51 _ _) rfl ?_
  refine w_ci rfl ?_
  obtain ⟨j1, e1, h⟩ := bnd h
  refine a_ia rfl (mr_53 _ _ _) e1 ?_
  refine w_ci rfl ?_
  refine w_ic_ge rfl (fun c2 => ?_) (fun c2 => ?_)
  · replace h := ifp h c2
    refine w_ci rfl ?_
    exact Wp_fgt (fg_s (fg_s (fg_n (fg_n (fg_n (fg_n fg_e)))))) (J_X6_wantOne_18 _ _ _ _ _ h)
  · replace h := ifn h c2
    refine w_ci rfl ?_
    refine w_go rfl ?_
    exact Wp_fgt (fg_s (fg_s (fg_n (fg_n (fg_n (fg_n fg_e)))))) (J_X6_wantOne_18 _ _ _ _ _ h)
-- X6_mostOf
set_option maxRecDepth 100000 in
theorem T_X6_mostOf  {x0 : Int32} {s : SS} {t : TT} {q : Int32 × SS × TT} (h : f_X6_mostOf x0 s t = some q) : Wm 133 [.int x0] (mk s t) (Qi q) := by
  refine Wm.of pT_133 (Nat.le_of_ble_eq_true rfl) (L0 := [some (.int x0)]) rfl ?_
  unfold f_X6_mostOf at h
  refine w_li rfl rfl ?_
  refine w_ci rfl ?_
  refine w_ic_ne rfl (fun c1 => ?_) (fun c1 => ?_)
  · replace h := ifn h c1
    refine w_ci rfl ?_
    exact a_ri rfl h
  · replace h := ifp h (Classical.not_not.mp c1)
    refine w_ci rfl ?_
    refine w_go rfl ?_
    exact a_ri rfl h
-- X6_wantClause
set_option maxRecDepth 100000 in
theorem T_X6_wantClause  {s : SS} {t : TT} {q : SS × TT} (h : f_X6_wantClause s t = some q) : Wm 131 [.ref 51] (mk s t) (Qv q) := by
  refine Wm.of pT_131 (Nat.le_of_ble_eq_true rfl) (L0 := [some (.ref 51), none]) rfl ?_
  unfold f_X6_wantClause at h
  refine w_la rfl rfl ?_
  obtain ⟨q1, e1, h⟩ := bnd h
  refine a_vi0i rfl (mg_51 _ _) (Nat.le_of_ble_eq_true rfl) (T_X6_lawHere e1) ?_
  refine w_si rfl (Nat.le_of_ble_eq_true rfl) rfl ?_
  refine w_la rfl rfl ?_
  obtain ⟨q2, e2, h⟩ := bnd h
  refine a_vi0i rfl (mg_51 _ _) (Nat.le_of_ble_eq_true rfl) (T_X6_kindHere e2) ?_
  refine w_if_lt rfl (fun c3 => ?_) (fun c3 => ?_)
  · replace h := ifp h c3
    refine w_li rfl rfl ?_
    refine w_if_lt rfl (fun c4 => ?_) (fun c4 => ?_)
    · replace h := ifp h c4
      refine w_la rfl rfl ?_
      refine w_ci rfl ?_
      refine a_pf rfl rfl (mg_51 _ _) (Nat.le_of_ble_eq_true rfl) (ms_51_13 _ _) (fun s5 e5 => ?_)
      replace h := wr_of h s5 e5
      exact a_rv rfl h
    · replace h := ifn h c4
      refine w_la rfl rfl ?_
      obtain ⟨q6, e6, h⟩ := bnd h
      refine a_vi0v rfl (mg_51 _ _) (Nat.le_of_ble_eq_true rfl) (T_X6_advance e6) ?_
      refine w_la rfl rfl ?_
      refine w_gf rfl (mg_51 _ _) rfl ?_
      refine w_li rfl rfl ?_
      refine w_la rfl rfl ?_
      refine w_ci rfl ?_
      refine w_li rfl rfl ?_
      obtain ⟨q7, e7, h⟩ := bnd h
      refine a_st1i rfl (Nat.le_of_ble_eq_true rfl) (T_X6_mostOf e7) ?_
      obtain ⟨q8, e8, h⟩ := bnd h
      refine a_vi2i rfl (mg_51 _ _) (Nat.le_of_ble_eq_true rfl) (T_X6_wantNumber e8) ?_
      obtain ⟨j9, e9, h⟩ := bnd h
      refine a_is rfl (mg_53 _ _) (ms_53 _ _) e9 (fun s9 w9 => ?_)
      replace h := wr_of h s9 w9
      refine w_la rfl rfl ?_
      obtain ⟨q10, e10, h⟩ := bnd h
      refine a_vi0v rfl (mg_51 _ _) (Nat.le_of_ble_eq_true rfl) (T_X6_wantEnd e10) ?_
      refine w_go rfl ?_
      exact a_rv rfl h
  · replace h := ifn h c3
    refine w_la rfl rfl ?_
    refine w_la rfl rfl ?_
    obtain ⟨q11, e11, h⟩ := bnd h
    refine a_vi0i rfl (mg_51 _ _) (Nat.le_of_ble_eq_true rfl) (T_X6_kindHere e11) ?_
    obtain ⟨q12, e12, h⟩ := bnd h
    refine a_vi1v rfl (mg_51 _ _) (Nat.le_of_ble_eq_true rfl) (T_X6_wantOne e12) ?_
    refine w_go rfl ?_
    exact a_rv rfl h
-- X6_post
set_option maxRecDepth 100000 in
theorem J_X6_post_42  : ∀ (s : SS) (t : TT) (q : Int32 × SS × TT), j_X6_post_42 s t = some q → Wp pl_Kc 132 42 [some (.ref 51)] [] (mk s t) (Qi q) := by
  intro s t q h
  unfold j_X6_post_42 at h
  refine w_la rfl rfl ?_
  refine w_ci rfl ?_
  refine a_pf rfl rfl (mg_51 _ _) (Nat.le_of_ble_eq_true rfl) (ms_51_7 _ _) (fun s1 e1 => ?_)
  replace h := wr_of h s1 e1
  refine w_la rfl rfl ?_
  refine w_gf rfl (mg_51 _ _) rfl ?_
  refine w_if_ne rfl (fun c2 => ?_) (fun c2 => ?_)
  · replace h := ifn h c2
    refine w_la rfl rfl ?_
    refine w_gf rfl (mg_51 _ _) rfl ?_
    refine w_ci rfl ?_
    refine w_la rfl rfl ?_
    refine w_gf rfl (mg_51 _ _) rfl ?_
    refine w_ci rfl ?_
    obtain ⟨j3, e3, h⟩ := bnd h
    refine a_ia rfl (mr_52 _ _ _) e3 ?_
    obtain ⟨j4, e4, h⟩ := bnd h
    refine a_is rfl (mg_53 _ _) (ms_53 _ _) e4 (fun s4 w4 => ?_)
    replace h := wr_of h s4 w4
    refine w_la rfl rfl ?_
    refine w_gf rfl (mg_51 _ _) rfl ?_
    refine w_la rfl rfl ?_
    refine w_gf rfl (mg_51 _ _) rfl ?_
    obtain ⟨q5, e5, h⟩ := bnd h
    refine a_st2v rfl (Nat.le_of_ble_eq_true rfl) (T_X6_moveAll (Or.inr (Or.inl rfl)) (Or.inl rfl) e5) ?_
    refine w_la rfl rfl ?_
    refine w_ci rfl ?_
    refine a_pf rfl rfl (mg_51 _ _) (Nat.le_of_ble_eq_true rfl) (ms_51_17 _ _) (fun s6 e6 => ?_)
    replace h := wr_of h s6 e6
    refine w_la rfl rfl ?_
    refine w_gf rfl (mg_51 _ _) rfl ?_
    refine w_ci rfl ?_
    obtain ⟨j7, e7, h⟩ := bnd h
    refine a_ia rfl (mr_52 _ _ _) e7 ?_
    exact a_ri rfl h
  · replace h := ifp h (Classical.not_not.mp c2)
    refine w_ci rfl ?_
    refine w_la rfl rfl ?_
    refine w_gf rfl (mg_51 _ _) rfl ?_
    refine w_isub rfl ?_
    exact a_ri rfl h
set_option maxRecDepth 100000 in
theorem B_X6_post_21  {k21 : SS × TT → Option (Int32 × SS × TT)} (hk21 : ∀ (s : SS) (t : TT) (q : Int32 × SS × TT), k21 (s, t) = some q → Wp pl_Kc 132 21 [some (.ref 51)] [] (mk s t) (Qi q)) : ∀ (s : SS) (t : TT) (q : Int32 × SS × TT), b_X6_post_21 k21 s t = some q → Wp pl_Kc 132 21 [some (.ref 51)] [] (mk s t) (Qi q) := by
  intro s t q h
  unfold b_X6_post_21 at h
  refine w_la rfl rfl ?_
  refine w_gf rfl (mg_51 _ _) rfl ?_
  refine w_if_eq rfl (fun c1 => ?_) (fun c1 => ?_)
  · replace h := ifp h c1
    exact Wp_fgt (fg_s fg_e) (J_X6_post_42 _ _ _ h)
  · replace h := ifn h c1
    refine w_la rfl rfl ?_
    refine w_gf rfl (mg_51 _ _) rfl ?_
    refine w_if_eq rfl (fun c2 => ?_) (fun c2 => ?_)
    · replace h := ifp h c2
      exact Wp_fgt (fg_s fg_e) (J_X6_post_42 _ _ _ h)
    · replace h := ifn h c2
      refine w_la rfl rfl ?_
      obtain ⟨q3, e3, h⟩ := bnd h
      refine a_vi0v rfl (mg_51 _ _) (Nat.le_of_ble_eq_true rfl) (T_X6_wantClause e3) ?_
      refine w_go rfl ?_
      exact Wp_fgt (fg_s fg_e) (hk21 _ _ _ h)
theorem K_X6_post_21  : ∀ (n : Nat) (s : SS) (t : TT) (q : Int32 × SS × TT), l_X6_post_21 n (s, t) = some q → Wp pl_Kc 132 21 [some (.ref 51)] [] (mk s t) (Qi q)
  | 0, s, t, q, h => by cases (show (none : Option (Int32 × SS × TT)) = some q from h)
  | n + 1, s, t, q, h => B_X6_post_21 (K_X6_post_21 n) s t q h
set_option maxRecDepth 100000 in
theorem T_X6_post  {s : SS} {t : TT} {q : Int32 × SS × TT} (h : f_X6_post s t = some q) : Wm 132 [.ref 51] (mk s t) (Qi q) := by
  refine Wm.of pT_132 (Nat.le_of_ble_eq_true rfl) (L0 := [some (.ref 51)]) rfl ?_
  unfold f_X6_post at h
  refine w_la rfl rfl ?_
  refine w_ci rfl ?_
  refine a_pf rfl rfl (mg_51 _ _) (Nat.le_of_ble_eq_true rfl) (ms_51_10 _ _) (fun s1 e1 => ?_)
  replace h := wr_of h s1 e1
  refine w_la rfl rfl ?_
  refine w_ci rfl ?_
  refine a_pf rfl rfl (mg_51 _ _) (Nat.le_of_ble_eq_true rfl) (ms_51_13 _ _) (fun s2 e2 => ?_)
  replace h := wr_of h s2 e2
  refine w_la rfl rfl ?_
  refine w_gf rfl (mg_51 _ _) rfl ?_
  obtain ⟨q3, e3, h⟩ := bnd h
  refine a_st1v rfl (Nat.le_of_ble_eq_true rfl) (T_X6_begins (Or.inr (Or.inl rfl)) e3) ?_
  refine w_la rfl rfl ?_
  obtain ⟨q4, e4, h⟩ := bnd h
  refine a_vi0v rfl (mg_51 _ _) (Nat.le_of_ble_eq_true rfl) (T_X6_advance e4) ?_
  exact Wp_fgt (fg_s fg_e) (K_X6_post_21 _ _ _ _ h)
-- X6_set
set_option maxRecDepth 100000 in
theorem T_X6_set  {x1 : Int32} {x2 : Int32} {s : SS} {t : TT} {q : Int32 × SS × TT} (h : f_X6_set x1 x2 s t = some q) : Wm 134 [.ref 51, .int x1, .int x2] (mk s t) (Qi q) := by
  refine Wm.of pT_134 (Nat.le_of_ble_eq_true rfl) (L0 := [some (.ref 51), some (.int x1), some (.int x2)]) rfl ?_
  unfold f_X6_set at h
  refine w_li rfl rfl ?_
  refine w_ci rfl ?_
  refine w_ci rfl ?_
  obtain ⟨q1, e1, h⟩ := bnd h
  refine a_st3i rfl (Nat.le_of_ble_eq_true rfl) (T_X6_in e1) ?_
  refine w_if_eq rfl (fun c2 => ?_) (fun c2 => ?_)
  · replace h := ifp h c2
    refine w_ci rfl ?_
    exact a_ri rfl h
  · replace h := ifn h c2
    refine w_li rfl rfl ?_
    refine w_ci rfl ?_
    refine w_li rfl rfl ?_
    obtain ⟨q3, e3, h⟩ := bnd h
    refine a_st1i rfl (Nat.le_of_ble_eq_true rfl) (T_X6_mostOf e3) ?_
    obtain ⟨q4, e4, h⟩ := bnd h
    refine a_st3i rfl (Nat.le_of_ble_eq_true rfl) (T_X6_in e4) ?_
    refine w_if_eq rfl (fun c5 => ?_) (fun c5 => ?_)
    · replace h := ifp h c5
      refine w_ci rfl ?_
      exact a_ri rfl h
    · replace h := ifn h c5
      refine w_la rfl rfl ?_
      refine w_li rfl rfl ?_
      refine w_li rfl rfl ?_
      obtain ⟨q6, e6, h⟩ := bnd h
      refine a_vi2i rfl (mg_51 _ _) (Nat.le_of_ble_eq_true rfl) (T_X6_becomes e6) ?_
      refine w_go rfl ?_
      exact a_ri rfl h
-- X6_lawOf
set_option maxRecDepth 100000 in
theorem T_X6_lawOf  {x1 : Int32} {s : SS} {t : TT} {q : Int32 × SS × TT} (h : f_X6_lawOf x1 s t = some q) : Wm 135 [.ref 51, .int x1] (mk s t) (Qi q) := by
  refine Wm.of pT_135 (Nat.le_of_ble_eq_true rfl) (L0 := [some (.ref 51), some (.int x1)]) rfl ?_
  unfold f_X6_lawOf at h
  refine w_li rfl rfl ?_
  refine w_ci rfl ?_
  refine w_ci rfl ?_
  obtain ⟨q1, e1, h⟩ := bnd h
  refine a_st3i rfl (Nat.le_of_ble_eq_true rfl) (T_X6_in e1) ?_
  refine w_if_eq rfl (fun c2 => ?_) (fun c2 => ?_)
  · replace h := ifp h c2
    refine w_ci rfl ?_
    exact a_ri rfl h
  · replace h := ifn h c2
    refine w_la rfl rfl ?_
    refine w_gf rfl (mg_51 _ _) rfl ?_
    refine w_li rfl rfl ?_
    obtain ⟨j3, e3, h⟩ := bnd h
    refine a_ia rfl (mr_52 _ _ _) e3 ?_
    refine w_go rfl ?_
    exact a_ri rfl h
-- X6_isKind
set_option maxRecDepth 100000 in
theorem T_X6_isKind  {x0 : Int32} {x1 : Int32} {s : SS} {t : TT} {q : Int32 × SS × TT} (h : f_X6_isKind x0 x1 s t = some q) : Wm 136 [.int x0, .int x1] (mk s t) (Qi q) := by
  refine Wm.of pT_136 (Nat.le_of_ble_eq_true rfl) (L0 := [some (.int x0), some (.int x1)]) rfl ?_
  unfold f_X6_isKind at h
  refine w_li rfl rfl ?_
  refine w_ci rfl ?_
  refine w_ci rfl ?_
  obtain ⟨q1, e1, h⟩ := bnd h
  refine a_st3i rfl (Nat.le_of_ble_eq_true rfl) (T_X6_in e1) ?_
  refine w_if_eq rfl (fun c2 => ?_) (fun c2 => ?_)
  · replace h := ifp h c2
    refine w_ci rfl ?_
    exact a_rz rfl (by decide) h
  · replace h := ifn h c2
    refine w_li rfl rfl ?_
    refine w_ci rfl ?_
    refine w_ci rfl ?_
    obtain ⟨q3, e3, h⟩ := bnd h
    refine a_st3i rfl (Nat.le_of_ble_eq_true rfl) (T_X6_in e3) ?_
    refine w_if_eq rfl (fun c4 => ?_) (fun c4 => ?_)
    · replace h := ifp h c4
      refine w_ci rfl ?_
      exact a_rz rfl (by decide) h
    · replace h := ifn h c4
      refine w_ci rfl ?_
      refine w_go rfl ?_
      exact a_rz rfl (by decide) h
-- X6_person
set_option maxRecDepth 100000 in
theorem T_X6_person  {x1 : Int32} {x2 : Int32} {x3 : Int32} {x4 : Int32} {s : SS} {t : TT} {q : Int32 × SS × TT} (h : f_X6_person x1 x2 x3 x4 s t = some q) : Wm 137 [.ref 51, .int x1, .int x2, .int x3, .int x4] (mk s t) (Qi q) := by
  refine Wm.of pT_137 (Nat.le_of_ble_eq_true rfl) (L0 := [some (.ref 51), some (.int x1), some (.int x2), some (.int x3), some (.int x4), none]) rfl ?_
  unfold f_X6_person at h
  refine w_li rfl rfl ?_
  refine w_li rfl rfl ?_
  obtain ⟨q1, e1, h⟩ := bnd h
  refine a_st2i rfl (Nat.le_of_ble_eq_true rfl) (T_X6_isKind e1) ?_
  refine w_if_eq rfl (fun c2 => ?_) (fun c2 => ?_)
  · replace h := ifp h c2
    refine w_ci rfl ?_
    exact a_ri rfl h
  · replace h := ifn h c2
    refine w_li rfl rfl ?_
    refine w_ci rfl ?_
    refine w_ci rfl ?_
    obtain ⟨q3, e3, h⟩ := bnd h
    refine a_st3i rfl (Nat.le_of_ble_eq_true rfl) (T_X6_in e3) ?_
    refine w_if_eq rfl (fun c4 => ?_) (fun c4 => ?_)
    · replace h := ifp h c4
      refine w_ci rfl ?_
      exact a_ri rfl h
    · replace h := ifn h c4
      refine w_li rfl rfl ?_
      refine w_ci rfl ?_
      refine w_ci rfl ?_
      obtain ⟨q5, e5, h⟩ := bnd h
      refine a_st3i rfl (Nat.le_of_ble_eq_true rfl) (T_X6_in e5) ?_
      refine w_if_ne rfl (fun c6 => ?_) (fun c6 => ?_)
      · replace h := ifn h c6
        refine w_la rfl rfl ?_
        refine w_gf rfl (mg_51 _ _) rfl ?_
        refine w_ci rfl ?_
        obtain ⟨j7, e7, h⟩ := bnd h
        refine a_ia rfl (mr_52 _ _ _) e7 ?_
        refine w_ci rfl ?_
        refine w_ic_ne rfl (fun c8 => ?_) (fun c8 => ?_)
        · replace h := ifn h c8
          refine w_la rfl rfl ?_
          refine w_gf rfl (mg_51 _ _) rfl ?_
          refine w_ci rfl ?_
          obtain ⟨j9, e9, h⟩ := bnd h
          refine a_ia rfl (mr_52 _ _ _) e9 ?_
          refine w_si rfl (Nat.le_of_ble_eq_true rfl) rfl ?_
          refine w_la rfl rfl ?_
          refine w_li rfl rfl ?_
          refine w_ci rfl ?_
          refine w_li rfl rfl ?_
          obtain ⟨q10, e10, h⟩ := bnd h
          refine a_vi3v rfl (mg_51 _ _) (Nat.le_of_ble_eq_true rfl) (T_X6_sets e10) ?_
          refine w_la rfl rfl ?_
          refine w_li rfl rfl ?_
          refine w_ci rfl ?_
          refine w_li rfl rfl ?_
          obtain ⟨q11, e11, h⟩ := bnd h
          refine a_vi3v rfl (mg_51 _ _) (Nat.le_of_ble_eq_true rfl) (T_X6_sets e11) ?_
          refine w_la rfl rfl ?_
          refine w_li rfl rfl ?_
          refine w_ci rfl ?_
          refine w_li rfl rfl ?_
          obtain ⟨q12, e12, h⟩ := bnd h
          refine a_vi3v rfl (mg_51 _ _) (Nat.le_of_ble_eq_true rfl) (T_X6_sets e12) ?_
          refine w_la rfl rfl ?_
          refine w_li rfl rfl ?_
          refine w_ci rfl ?_
          refine w_li rfl rfl ?_
          obtain ⟨q13, e13, h⟩ := bnd h
          refine a_vi3v rfl (mg_51 _ _) (Nat.le_of_ble_eq_true rfl) (T_X6_sets e13) ?_
          refine w_la rfl rfl ?_
          refine w_li rfl rfl ?_
          refine w_ci rfl ?_
          refine w_ci rfl ?_
          obtain ⟨q14, e14, h⟩ := bnd h
          refine a_vi3v rfl (mg_51 _ _) (Nat.le_of_ble_eq_true rfl) (T_X6_sets e14) ?_
          refine w_la rfl rfl ?_
          refine w_li rfl rfl ?_
          refine w_ci rfl ?_
          refine w_ci rfl ?_
          obtain ⟨q15, e15, h⟩ := bnd h
          refine a_vi3v rfl (mg_51 _ _) (Nat.le_of_ble_eq_true rfl) (T_X6_sets e15) ?_
          refine w_la rfl rfl ?_
          refine w_gf rfl (mg_51 _ _) rfl ?_
          refine w_ci rfl ?_
          refine w_dup2 rfl rfl rfl ?_
          obtain ⟨j16, e16, h⟩ := bnd h
          refine a_ia rfl (mr_52 _ _ _) e16 ?_
          refine w_ci rfl ?_
          refine w_iadd rfl ?_
          obtain ⟨j17, e17, h⟩ := bnd h
          refine a_is rfl (mg_52 _ _) (ms_52 _ _) e17 (fun s17 w17 => ?_)
          replace h := wr_of h s17 w17
          refine w_li rfl rfl ?_
          exact a_ri rfl h
        · replace h := ifp h (Classical.not_not.mp c8)
          refine w_ci rfl ?_
          exact a_ri rfl h
      · replace h := ifp h (Classical.not_not.mp c6)
        refine w_ci rfl ?_
        exact a_ri rfl h
-- X6_of
set_option maxRecDepth 100000 in
theorem T_X6_of  {x1 : Int32} {x2 : Int32} {s : SS} {t : TT} {q : Int32 × SS × TT} (h : f_X6_of x1 x2 s t = some q) : Wm 138 [.ref 51, .int x1, .int x2] (mk s t) (Qi q) := by
  refine Wm.of pT_138 (Nat.le_of_ble_eq_true rfl) (L0 := [some (.ref 51), some (.int x1), some (.int x2)]) rfl ?_
  unfold f_X6_of at h
  refine w_la rfl rfl ?_
  refine w_li rfl rfl ?_
  obtain ⟨q1, e1, h⟩ := bnd h
  refine a_vi1i rfl (mg_51 _ _) (Nat.le_of_ble_eq_true rfl) (T_X6_isOne e1) ?_
  refine w_if_eq rfl (fun c2 => ?_) (fun c2 => ?_)
  · replace h := ifp h c2
    refine w_ci rfl ?_
    exact a_ri rfl h
  · replace h := ifn h c2
    refine w_li rfl rfl ?_
    refine w_ci rfl ?_
    refine w_ci rfl ?_
    obtain ⟨q3, e3, h⟩ := bnd h
    refine a_st3i rfl (Nat.le_of_ble_eq_true rfl) (T_X6_in e3) ?_
    refine w_if_eq rfl (fun c4 => ?_) (fun c4 => ?_)
    · replace h := ifp h c4
      refine w_ci rfl ?_
      exact a_ri rfl h
    · replace h := ifn h c4
      refine w_la rfl rfl ?_
      refine w_li rfl rfl ?_
      refine w_li rfl rfl ?_
      obtain ⟨q5, e5, h⟩ := bnd h
      refine a_vi2i rfl (mg_51 _ _) (Nat.le_of_ble_eq_true rfl) (T_X6_its e5) ?_
      refine w_go rfl ?_
      exact a_ri rfl h
-- X6_thinksOf
set_option maxRecDepth 100000 in
theorem T_X6_thinksOf  {x1 : Int32} {s : SS} {t : TT} {q : Int32 × SS × TT} (h : f_X6_thinksOf x1 s t = some q) : Wm 139 [.ref 51, .int x1] (mk s t) (Qi q) := by
  refine Wm.of pT_139 (Nat.le_of_ble_eq_true rfl) (L0 := [some (.ref 51), some (.int x1)]) rfl ?_
  unfold f_X6_thinksOf at h
  refine w_la rfl rfl ?_
  refine w_li rfl rfl ?_
  refine w_ci rfl ?_
  obtain ⟨q1, e1, h⟩ := bnd h
  refine a_vi2i rfl (mg_51 _ _) (Nat.le_of_ble_eq_true rfl) (T_X6_its e1) ?_
  by_cases c2 : q1.1 = 1
  · replace h := ifp h c2
    refine w_swI rfl (tg := 40) (by rw [c2]; decide +kernel) ?_
    refine w_ci rfl ?_
    exact a_ri rfl h
  replace h := ifn h c2
  by_cases c3 : q1.1 = 2
  · replace h := ifp h c3
    refine w_swI rfl (tg := 45) (by rw [c3]; decide +kernel) ?_
    refine w_ci rfl ?_
    exact a_ri rfl h
  replace h := ifn h c3
  by_cases c4 : q1.1 = 3
  · replace h := ifp h c4
    refine w_swI rfl (tg := 42) (by rw [c4]; decide +kernel) ?_
    refine w_ci rfl ?_
    exact a_ri rfl h
  replace h := ifn h c4
  by_cases c5 : q1.1 = 4
  · replace h := ifp h c5
    refine w_swI rfl (tg := 47) (by rw [c5]; decide +kernel) ?_
    refine w_ci rfl ?_
    refine w_la rfl rfl ?_
    refine w_gf rfl (mg_51 _ _) rfl ?_
    refine w_ci rfl ?_
    obtain ⟨j6, e6, h⟩ := bnd h
    refine a_ia rfl (mr_52 _ _ _) e6 ?_
    refine w_iadd rfl ?_
    exact a_ri rfl h
  replace h := ifn h c5
  by_cases c7 : q1.1 = 5
  · replace h := ifp h c7
    refine w_swI rfl (tg := 56) (by rw [c7]; decide +kernel) ?_
    refine w_ci rfl ?_
    refine w_la rfl rfl ?_
    refine w_li rfl rfl ?_
    refine w_ci rfl ?_
    obtain ⟨q8, e8, h⟩ := bnd h
    refine a_vi2i rfl (mg_51 _ _) (Nat.le_of_ble_eq_true rfl) (T_X6_its e8) ?_
    refine w_iadd rfl ?_
    exact a_ri rfl h
  replace h := ifn h c7
  refine w_swI rfl (tg := 65) (sw_df (zs := [1, 2, 3, 4, 5]) (swz_c (i32ne c2 rfl) (swz_c (i32ne c3 rfl) (swz_c (i32ne c4 rfl) (swz_c (i32ne c5 rfl) (swz_c (i32ne c7 rfl) swz_n))))) (by decide +kernel)) ?_
  refine w_ci rfl ?_
  exact a_ri rfl h
-- X6_needs
set_option maxRecDepth 100000 in
theorem T_X6_needs  {x1 : Int32} {s : SS} {t : TT} {q : Int32 × SS × TT} (h : f_X6_needs x1 s t = some q) : Wm 140 [.ref 51, .int x1] (mk s t) (Qi q) := by
  refine Wm.of pT_140 (Nat.le_of_ble_eq_true rfl) (L0 := [some (.ref 51), some (.int x1)]) rfl ?_
  unfold f_X6_needs at h
  refine w_la rfl rfl ?_
  refine w_li rfl rfl ?_
  refine w_ci rfl ?_
  obtain ⟨q1, e1, h⟩ := bnd h
  refine a_vi2i rfl (mg_51 _ _) (Nat.le_of_ble_eq_true rfl) (T_X6_its e1) ?_
  by_cases c2 : q1.1 = 1
  · replace h := ifp h c2
    refine w_swI rfl (tg := 40) (by rw [c2]; decide +kernel) ?_
    refine w_ci rfl ?_
    refine w_la rfl rfl ?_
    refine w_gf rfl (mg_51 _ _) rfl ?_
    refine w_ci rfl ?_
    obtain ⟨j3, e3, h⟩ := bnd h
    refine a_ia rfl (mr_52 _ _ _) e3 ?_
    refine w_iadd rfl ?_
    exact a_ri rfl h
  replace h := ifn h c2
  by_cases c4 : q1.1 = 2
  · replace h := ifp h c4
    refine w_swI rfl (tg := 67) (by rw [c4]; decide +kernel) ?_
    refine w_ci rfl ?_
    exact a_ri rfl h
  replace h := ifn h c4
  by_cases c5 : q1.1 = 3
  · replace h := ifp h c5
    refine w_swI rfl (tg := 50) (by rw [c5]; decide +kernel) ?_
    refine w_ci rfl ?_
    refine w_la rfl rfl ?_
    refine w_gf rfl (mg_51 _ _) rfl ?_
    refine w_ci rfl ?_
    obtain ⟨j6, e6, h⟩ := bnd h
    refine a_ia rfl (mr_52 _ _ _) e6 ?_
    refine w_iadd rfl ?_
    refine w_la rfl rfl ?_
    refine w_li rfl rfl ?_
    refine w_ci rfl ?_
    obtain ⟨q7, e7, h⟩ := bnd h
    refine a_vi2i rfl (mg_51 _ _) (Nat.le_of_ble_eq_true rfl) (T_X6_its e7) ?_
    refine w_isub rfl ?_
    exact a_ri rfl h
  replace h := ifn h c5
  by_cases c8 : q1.1 = 4
  · replace h := ifp h c8
    refine w_swI rfl (tg := 70) (by rw [c8]; decide +kernel) ?_
    refine w_ci rfl ?_
    exact a_ri rfl h
  replace h := ifn h c8
  by_cases c9 : q1.1 = 5
  · replace h := ifp h c9
    refine w_swI rfl (tg := 73) (by rw [c9]; decide +kernel) ?_
    refine w_ci rfl ?_
    exact a_ri rfl h
  replace h := ifn h c9
  refine w_swI rfl (tg := 75) (sw_df (zs := [1, 2, 3, 4, 5]) (swz_c (i32ne c2 rfl) (swz_c (i32ne c4 rfl) (swz_c (i32ne c5 rfl) (swz_c (i32ne c8 rfl) (swz_c (i32ne c9 rfl) swz_n))))) (by decide +kernel)) ?_
  refine w_ci rfl ?_
  exact a_ri rfl h
-- X6_says
set_option maxRecDepth 100000 in
theorem T_X6_says  {x1 : Int32} {s : SS} {t : TT} {q : Int32 × SS × TT} (h : f_X6_says x1 s t = some q) : Wm 141 [.ref 51, .int x1] (mk s t) (Qi q) := by
  refine Wm.of pT_141 (Nat.le_of_ble_eq_true rfl) (L0 := [some (.ref 51), some (.int x1), none]) rfl ?_
  unfold f_X6_says at h
  refine w_ci rfl ?_
  refine w_la rfl rfl ?_
  refine w_li rfl rfl ?_
  refine w_ci rfl ?_
  obtain ⟨q1, e1, h⟩ := bnd h
  refine a_vi2i rfl (mg_51 _ _) (Nat.le_of_ble_eq_true rfl) (T_X6_its e1) ?_
  refine w_iadd rfl ?_
  refine w_si rfl (Nat.le_of_ble_eq_true rfl) rfl ?_
  refine w_la rfl rfl ?_
  refine w_li rfl rfl ?_
  refine w_ci rfl ?_
  obtain ⟨q2, e2, h⟩ := bnd h
  refine a_vi2i rfl (mg_51 _ _) (Nat.le_of_ble_eq_true rfl) (T_X6_its e2) ?_
  by_cases c3 : q2.1 = 1
  · replace h := ifp h c3
    refine w_swI rfl (tg := 48) (by rw [c3]; decide +kernel) ?_
    refine w_ci rfl ?_
    refine w_li rfl rfl ?_
    refine w_imul rfl ?_
    exact a_ri rfl h
  replace h := ifn h c3
  by_cases c4 : q2.1 = 2
  · replace h := ifp h c4
    refine w_swI rfl (tg := 58) (by rw [c4]; decide +kernel) ?_
    refine w_li rfl rfl ?_
    refine w_la rfl rfl ?_
    refine w_gf rfl (mg_51 _ _) rfl ?_
    refine w_ci rfl ?_
    obtain ⟨j5, e5, h⟩ := bnd h
    refine a_ia rfl (mr_52 _ _ _) e5 ?_
    refine w_iadd rfl ?_
    exact a_ri rfl h
  replace h := ifn h c4
  by_cases c6 : q2.1 = 3
  · replace h := ifp h c6
    refine w_swI rfl (tg := 52) (by rw [c6]; decide +kernel) ?_
    refine w_ci rfl ?_
    refine w_li rfl rfl ?_
    refine w_imul rfl ?_
    refine w_ci rfl ?_
    refine w_isub rfl ?_
    exact a_ri rfl h
  replace h := ifn h c6
  by_cases c7 : q2.1 = 4
  · replace h := ifp h c7
    refine w_swI rfl (tg := 67) (by rw [c7]; decide +kernel) ?_
    refine w_li rfl rfl ?_
    refine w_la rfl rfl ?_
    refine w_gf rfl (mg_51 _ _) rfl ?_
    refine w_ci rfl ?_
    obtain ⟨j8, e8, h⟩ := bnd h
    refine a_ia rfl (mr_52 _ _ _) e8 ?_
    refine w_iadd rfl ?_
    refine w_la rfl rfl ?_
    refine w_li rfl rfl ?_
    refine w_ci rfl ?_
    obtain ⟨q9, e9, h⟩ := bnd h
    refine a_vi2i rfl (mg_51 _ _) (Nat.le_of_ble_eq_true rfl) (T_X6_its e9) ?_
    refine w_ci rfl ?_
    refine w_isub rfl ?_
    refine w_ci rfl ?_
    refine w_ci rfl ?_
    obtain ⟨q10, e10, h⟩ := bnd h
    refine a_st3i rfl (Nat.le_of_ble_eq_true rfl) (T_X6_held e10) ?_
    refine w_iadd rfl ?_
    exact a_ri rfl h
  replace h := ifn h c7
  by_cases c11 : q2.1 = 5
  · replace h := ifp h c11
    refine w_swI rfl (tg := 91) (by rw [c11]; decide +kernel) ?_
    refine w_ci rfl ?_
    exact a_ri rfl h
  replace h := ifn h c11
  refine w_swI rfl (tg := 93) (sw_df (zs := [1, 2, 3, 4, 5]) (swz_c (i32ne c3 rfl) (swz_c (i32ne c4 rfl) (swz_c (i32ne c6 rfl) (swz_c (i32ne c7 rfl) (swz_c (i32ne c11 rfl) swz_n))))) (by decide +kernel)) ?_
  refine w_li rfl rfl ?_
  exact a_ri rfl h
-- X6_isUsed
set_option maxRecDepth 100000 in
theorem J_X6_isUsed_17  : ∀ (x1 : Int32) (y0 : Int32) (s : SS) (t : TT) (q : Int32 × SS × TT), j_X6_isUsed_17 x1 y0 s t = some q → Wp pl_Kc 142 17 [some (.ref 51), some (.int x1), none] [.int y0] (mk s t) (Qi q) := by
  intro x1 y0 s t q h
  unfold j_X6_isUsed_17 at h
  refine w_si rfl (Nat.le_of_ble_eq_true rfl) rfl ?_
  refine w_la rfl rfl ?_
  refine w_li rfl rfl ?_
  refine w_ci rfl ?_
  obtain ⟨q1, e1, h⟩ := bnd h
  refine a_vi2i rfl (mg_51 _ _) (Nat.le_of_ble_eq_true rfl) (T_X6_its e1) ?_
  by_cases c2 : q1.1 = 2
  · replace h := ifp h c2
    refine w_swI rfl (tg := 56) (by rw [c2]; decide +kernel) ?_
    refine w_li rfl rfl ?_
    exact a_rzc rfl h
  replace h := ifn h c2
  by_cases c3 : q1.1 = 4
  · replace h := ifp h c3
    refine w_swI rfl (tg := 58) (by rw [c3]; decide +kernel) ?_
    refine w_li rfl rfl ?_
    refine w_if_eq rfl (fun c4 => ?_) (fun c4 => ?_)
    · replace h := ifp h c4
      refine w_ci rfl ?_
      exact a_rz rfl (by decide) h
    · replace h := ifn h c4
      refine w_la rfl rfl ?_
      refine w_gf rfl (mg_51 _ _) rfl ?_
      refine w_ci rfl ?_
      obtain ⟨j5, e5, h⟩ := bnd h
      refine a_ia rfl (mr_52 _ _ _) e5 ?_
      refine w_ci rfl ?_
      refine w_irem rfl (by decide) ?_
      refine w_if_ne rfl (fun c6 => ?_) (fun c6 => ?_)
      · replace h := ifn h c6
        refine w_ci rfl ?_
        exact a_rz rfl (by decide) h
      · replace h := ifp h (Classical.not_not.mp c6)
        refine w_ci rfl ?_
        refine w_go rfl ?_
        exact a_rz rfl (by decide) h
  replace h := ifn h c3
  by_cases c7 : q1.1 = 5
  · replace h := ifp h c7
    refine w_swI rfl (tg := 79) (by rw [c7]; decide +kernel) ?_
    refine w_ci rfl ?_
    exact a_rz rfl (by decide) h
  replace h := ifn h c7
  refine w_swI rfl (tg := 81) (sw_df (zs := [2, 4, 5]) (swz_c (i32ne c2 rfl) (swz_c (i32ne c3 rfl) (swz_c (i32ne c7 rfl) swz_n))) (by decide +kernel)) ?_
  refine w_ci rfl ?_
  exact a_rz rfl (by decide) h
