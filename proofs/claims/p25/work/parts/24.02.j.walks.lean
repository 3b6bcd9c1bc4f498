-- X5_packed
set_option maxRecDepth 100000 in
theorem B_X5_packed_66  {k66 : Int32 × Int32 × Int32 × SS × TT → Option (Int32 × SS × TT)} (hk66 : ∀ (x1 : Int32) (x2 : Int32) (x3 : Int32) (s : SS) (t : TT) (q : Int32 × SS × TT), k66 (x1, x2, x3, s, t) = some q → Wp pl_Kc 76 66 [some (.ref 0), some (.int x1), some (.int x2), some (.int x3)] [] (mk s t) (Qi q)) : ∀ (x1 : Int32) (x2 : Int32) (x3 : Int32) (s : SS) (t : TT) (q : Int32 × SS × TT), b_X5_packed_66 k66 x1 x2 x3 s t = some q → Wp pl_Kc 76 66 [some (.ref 0), some (.int x1), some (.int x2), some (.int x3)] [] (mk s t) (Qi q) := by
  intro x1 x2 x3 s t q h
  unfold b_X5_packed_66 at h
  refine w_li rfl rfl ?_
  refine w_li rfl rfl ?_
  refine w_ic_ge rfl (fun c1 => ?_) (fun c1 => ?_)
  · replace h := ifp h c1
    refine w_la rfl rfl ?_
    refine w_gf rfl (mg_0 _ _) rfl ?_
    refine w_li rfl rfl ?_
    refine w_ci rfl ?_
    refine w_isub rfl ?_
    obtain ⟨j2, e2, h⟩ := bnd h
    refine a_ia rfl (mr_50 _ _ _) e2 ?_
    refine w_ci rfl ?_
    refine w_idiv rfl (by decide) ?_
    exact a_ri rfl h
  · replace h := ifn h c1
    refine w_la rfl rfl ?_
    refine w_gf rfl (mg_0 _ _) rfl ?_
    refine w_li rfl rfl ?_
    refine w_la rfl rfl ?_
    refine w_li rfl rfl ?_
    refine w_li rfl rfl ?_
    obtain ⟨q3, e3, h⟩ := bnd h
    refine a_vi2i rfl (mg_0 _ _) (Nat.le_of_ble_eq_true rfl) (T_X5_leastPacking e3) ?_
    obtain ⟨j4, e4, h⟩ := bnd h
    refine a_is rfl (mg_50 _ _) (ms_50 _ _) e4 (fun s4 w4 => ?_)
    replace h := wr_of h s4 w4
    refine w_inc rfl rfl rfl ?_
    refine w_go rfl ?_
    exact Wp_fgt (fg_s (fg_s (fg_s (fg_s fg_e)))) (hk66 _ _ _ _ _ _ h)
theorem K_X5_packed_66  : ∀ (n : Nat) (x1 : Int32) (x2 : Int32) (x3 : Int32) (s : SS) (t : TT) (q : Int32 × SS × TT), l_X5_packed_66 n (x1, x2, x3, s, t) = some q → Wp pl_Kc 76 66 [some (.ref 0), some (.int x1), some (.int x2), some (.int x3)] [] (mk s t) (Qi q)
  | 0, x1, x2, x3, s, t, q, h => by cases (show (none : Option (Int32 × SS × TT)) = some q from h)
  | n + 1, x1, x2, x3, s, t, q, h => B_X5_packed_66 (K_X5_packed_66 n) x1 x2 x3 s t q h
set_option maxRecDepth 100000 in
theorem B_X5_packed_14  {k14 : Int32 × Int32 × SS × TT → Option (Int32 × SS × TT)} (hk14 : ∀ (x1 : Int32) (x2 : Int32) (s : SS) (t : TT) (q : Int32 × SS × TT), k14 (x1, x2, s, t) = some q → Wp pl_Kc 76 14 [some (.ref 0), some (.int x1), some (.int x2), none] [] (mk s t) (Qi q)) : ∀ (x1 : Int32) (x2 : Int32) (s : SS) (t : TT) (q : Int32 × SS × TT), b_X5_packed_14 k14 x1 x2 s t = some q → Wp pl_Kc 76 14 [some (.ref 0), some (.int x1), some (.int x2), none] [] (mk s t) (Qi q) := by
  intro x1 x2 s t q h
  unfold b_X5_packed_14 at h
  refine w_li rfl rfl ?_
  refine w_la rfl rfl ?_
  refine w_gf rfl (mg_0 _ _) rfl ?_
  refine w_gf rfl (mg_1 _ _) rfl ?_
  refine w_ic_ge rfl (fun c1 => ?_) (fun c1 => ?_)
  · replace h := ifp h c1
    refine w_la rfl rfl ?_
    refine w_gf rfl (mg_0 _ _) rfl ?_
    refine w_ci rfl ?_
    refine w_li rfl rfl ?_
    obtain ⟨j2, e2, h⟩ := bnd h
    refine a_is rfl (mg_50 _ _) (ms_50 _ _) e2 (fun s2 w2 => ?_)
    replace h := wr_of h s2 w2
    refine w_ci rfl ?_
    refine w_la rfl rfl ?_
    refine w_gf rfl (mg_0 _ _) rfl ?_
    refine w_gf rfl (mg_1 _ _) rfl ?_
    refine w_ishl rfl ?_
    refine w_si rfl (Nat.le_of_ble_eq_true rfl) rfl ?_
    refine w_ci rfl ?_
    refine w_si rfl (Nat.le_of_ble_eq_true rfl) rfl ?_
    exact Wp_fgt (fg_s (fg_s (fg_s (fg_s fg_e)))) (K_X5_packed_66 _ _ _ _ _ _ _ h)
  · replace h := ifn h c1
    refine w_la rfl rfl ?_
    refine w_gf rfl (mg_0 _ _) rfl ?_
    refine w_gf rfl (mg_1 _ _) rfl ?_
    refine w_li rfl rfl ?_
    obtain ⟨j3, e3, h⟩ := bnd h
    refine a_ia rfl (mr_4 _ _ _) e3 ?_
    refine w_li rfl rfl ?_
    refine w_ic_le rfl (fun c4 => ?_) (fun c4 => ?_)
    · replace h := ifp h c4
      refine w_inc rfl rfl rfl ?_
      refine w_go rfl ?_
      exact Wp_fgt (fg_s (fg_s (fg_s (fg_n fg_e)))) (hk14 _ _ _ _ _ h)
    · replace h := ifn h c4
      refine w_ci rfl ?_
      exact a_ri rfl h
theorem K_X5_packed_14  : ∀ (n : Nat) (x1 : Int32) (x2 : Int32) (s : SS) (t : TT) (q : Int32 × SS × TT), l_X5_packed_14 n (x1, x2, s, t) = some q → Wp pl_Kc 76 14 [some (.ref 0), some (.int x1), some (.int x2), none] [] (mk s t) (Qi q)
  | 0, x1, x2, s, t, q, h => by cases (show (none : Option (Int32 × SS × TT)) = some q from h)
  | n + 1, x1, x2, s, t, q, h => B_X5_packed_14 (K_X5_packed_14 n) x1 x2 s t q h
set_option maxRecDepth 100000 in
theorem T_X5_packed  {x1 : Int32} {s : SS} {t : TT} {q : Int32 × SS × TT} (h : f_X5_packed x1 s t = some q) : Wm 76 [.ref 0, .int x1] (mk s t) (Qi q) := by
  refine Wm.of pT_76 (Nat.le_of_ble_eq_true rfl) (L0 := [some (.ref 0), some (.int x1), none, none]) rfl ?_
  unfold f_X5_packed at h
  refine w_li rfl rfl ?_
  refine w_ci rfl ?_
  refine w_ci rfl ?_
  obtain ⟨q1, e1, h⟩ := bnd h
  refine a_st3i rfl (Nat.le_of_ble_eq_true rfl) (T_X5_isWithin e1) ?_
  refine w_if_ne rfl (fun c2 => ?_) (fun c2 => ?_)
  · replace h := ifn h c2
    refine w_ci rfl ?_
    refine w_si rfl (Nat.le_of_ble_eq_true rfl) rfl ?_
    exact Wp_fgt (fg_s (fg_s (fg_s (fg_n fg_e)))) (K_X5_packed_14 _ _ _ _ _ _ h)
  · replace h := ifp h (Classical.not_not.mp c2)
    refine w_ci rfl ?_
    exact a_ri rfl h
-- X5_isPlace
set_option maxRecDepth 100000 in
theorem T_X5_isPlace  {x0 : Int32} {s : SS} {t : TT} {q : Int32 × SS × TT} (h : f_X5_isPlace x0 s t = some q) : Wm 97 [.int x0] (mk s t) (Qi q) := by
  refine Wm.of pT_97 (Nat.le_of_ble_eq_true rfl) (L0 := [some (.int x0)]) rfl ?_
  unfold f_X5_isPlace at h
  refine w_li rfl rfl ?_
  refine w_ci rfl ?_
  refine w_ci rfl ?_
  obtain ⟨q1, e1, h⟩ := bnd h
  refine a_st3i rfl (Nat.le_of_ble_eq_true rfl) (T_X5_isWithin e1) ?_
  exact a_rzc rfl h
-- X5_isTold
set_option maxRecDepth 100000 in
theorem B_X5_isTold_20 {o1 : Nat} (ho1 : isS o1) {k20 : Int32 × Int32 × SS × TT → Option (Int32 × SS × TT)} (hk20 : ∀ (x5 : Int32) (x6 : Int32) (s : SS) (t : TT) (q : Int32 × SS × TT), k20 (x5, x6, s, t) = some q → Wp pl_Kc 102 20 [none, some (.ref o1), none, none, some (.ref 19), some (.int x5), some (.int x6)] [] (mk s t) (Qi q)) : ∀ (x5 : Int32) (x6 : Int32) (s : SS) (t : TT) (q : Int32 × SS × TT), b_X5_isTold_20 o1 k20 x5 x6 s t = some q → Wp pl_Kc 102 20 [none, some (.ref o1), none, none, some (.ref 19), some (.int x5), some (.int x6)] [] (mk s t) (Qi q) := by
  intro x5 x6 s t q h
  unfold b_X5_isTold_20 at h
  refine w_li rfl rfl ?_
  refine w_la rfl rfl ?_
  refine w_gf rfl (mgS ho1 _ _) rfl ?_
  refine w_ic_ge rfl (fun c1 => ?_) (fun c1 => ?_)
  · replace h := ifp h c1
    refine w_ci rfl ?_
    exact a_rz rfl (by decide) h
  · replace h := ifn h c1
    refine w_li rfl rfl ?_
    refine w_la rfl rfl ?_
    refine w_ci rfl ?_
    obtain ⟨q2, e2, h⟩ := bnd h
    refine a_vi1i rfl (mg_19 _ _) (Nat.le_of_ble_eq_true rfl) (T_X1_passWeek (Or.inr (Or.inr rfl)) e2) ?_
    refine w_iadd rfl ?_
    refine w_si rfl (Nat.le_of_ble_eq_true rfl) rfl ?_
    refine w_la rfl rfl ?_
    refine w_gf rfl (mgS ho1 _ _) rfl ?_
    refine w_li rfl rfl ?_
    obtain ⟨j3, e3, h⟩ := bnd h
    refine a_ja rfl (mgS_1 ho1 _ _) e3 ?_
    refine w_cl rfl ?_
    refine w_cmp rfl ?_
    refine w_if_eq rfl (fun c4 => ?_) (fun c4 => ?_)
    · replace h := ifp h c4
      refine w_inc rfl rfl rfl ?_
      refine w_go rfl ?_
      exact Wp_fgt (fg_n (fg_s (fg_n (fg_n (fg_s (fg_s (fg_s fg_e))))))) (hk20 _ _ _ _ _ h)
    · replace h := ifn h c4
      refine w_la rfl rfl ?_
      refine w_gf rfl (mgS ho1 _ _) rfl ?_
      refine w_li rfl rfl ?_
      obtain ⟨j5, e5, h⟩ := bnd h
      refine a_ja rfl (mgS_1 ho1 _ _) e5 ?_
      refine w_li rfl rfl ?_
      refine w_i2l rfl ?_
      refine w_cmp rfl ?_
      refine w_if_eq rfl (fun c6 => ?_) (fun c6 => ?_)
      · replace h := ifp h c6
        refine w_inc rfl rfl rfl ?_
        refine w_go rfl ?_
        exact Wp_fgt (fg_n (fg_s (fg_n (fg_n (fg_s (fg_s (fg_s fg_e))))))) (hk20 _ _ _ _ _ h)
      · replace h := ifn h c6
        refine w_ci rfl ?_
        exact a_rz rfl (by decide) h
theorem K_X5_isTold_20 {o1 : Nat} (ho1 : isS o1) : ∀ (n : Nat) (x5 : Int32) (x6 : Int32) (s : SS) (t : TT) (q : Int32 × SS × TT), l_X5_isTold_20 o1 n (x5, x6, s, t) = some q → Wp pl_Kc 102 20 [none, some (.ref o1), none, none, some (.ref 19), some (.int x5), some (.int x6)] [] (mk s t) (Qi q)
  | 0, x5, x6, s, t, q, h => by cases (show (none : Option (Int32 × SS × TT)) = some q from h)
  | n + 1, x5, x6, s, t, q, h => B_X5_isTold_20 ho1 (K_X5_isTold_20 ho1 n) x5 x6 s t q h
set_option maxRecDepth 100000 in
theorem T_X5_isTold {o1 : Nat} (ho1 : isS o1) {x2 : Int32} {x3 : Int32} {s : SS} {t : TT} {q : Int32 × SS × TT} (h : f_X5_isTold o1 x2 x3 s t = some q) : Wm 102 [.ref 0, .ref o1, .int x2, .int x3] (mk s t) (Qi q) := by
  refine Wm.of pT_102 (Nat.le_of_ble_eq_true rfl) (L0 := [some (.ref 0), some (.ref o1), some (.int x2), some (.int x3), none, none, none]) rfl ?_
  unfold f_X5_isTold at h
  refine w_la rfl rfl ?_
  obtain ⟨q1, e1, h⟩ := bnd h
  refine a_vi0t rfl (mg_0 _ _) (Nat.le_of_ble_eq_true rfl) (T_X5_trial e1) ?_
  refine w_sa rfl (Nat.le_of_ble_eq_true rfl) rfl ?_
  refine w_la rfl rfl ?_
  refine w_gf rfl (mg_19 _ _) rfl ?_
  refine w_li rfl rfl ?_
  refine w_li rfl rfl ?_
  obtain ⟨j2, e2, h⟩ := bnd h
  refine a_is rfl (mg_22 _ _) (ms_22 _ _) e2 (fun s2 w2 => ?_)
  replace h := wr_of h s2 w2
  refine w_ci rfl ?_
  refine w_si rfl (Nat.le_of_ble_eq_true rfl) rfl ?_
  refine w_ci rfl ?_
  refine w_si rfl (Nat.le_of_ble_eq_true rfl) rfl ?_
  exact Wp_fgt (fg_n (fg_s (fg_n (fg_n (fg_s (fg_s (fg_s fg_e))))))) (K_X5_isTold_20 ho1 _ _ _ _ _ _ h)
-- X5_fits
set_option maxRecDepth 100000 in
theorem J_X5_fits_90  {k59 : Int32 × Int32 × Nat × Int32 × Int32 × Int32 × SS × TT → Option (Int32 × SS × TT)} (hk59 : ∀ (x2 : Int32) (x3 : Int32) (x4 : Nat) (hx4 : isS x4) (x5 : Int32) (x6 : Int32) (x7 : Int32) (s : SS) (t : TT) (q : Int32 × SS × TT), k59 (x2, x3, x4, x5, x6, x7, s, t) = some q → Wp pl_Kc 77 59 [some (.ref 0), none, some (.int x2), some (.int x3), some (.ref x4), some (.int x5), some (.int x6), some (.int x7)] [] (mk s t) (Qi q)) : ∀ (x2 : Int32) (x3 : Int32) (x4 : Nat) (hx4 : isS x4) (x5 : Int32) (x7 : Int32) (y0 : Int32) (s : SS) (t : TT) (q : Int32 × SS × TT), j_X5_fits_90 k59 x2 x3 x4 x5 x7 y0 s t = some q → Wp pl_Kc 77 90 [some (.ref 0), none, some (.int x2), some (.int x3), some (.ref x4), some (.int x5), none, some (.int x7)] [.int y0] (mk s t) (Qi q) := by
  intro x2 x3 x4 hx4 x5 x7 y0 s t q h
  unfold j_X5_fits_90 at h
  refine w_si rfl (Nat.le_of_ble_eq_true rfl) rfl ?_
  refine w_inc rfl rfl rfl ?_
  refine w_inc rfl rfl rfl ?_
  refine w_go rfl ?_
  exact Wp_fgt (fg_s (fg_n (fg_s (fg_s (fg_s (fg_s (fg_s (fg_s fg_e)))))))) (hk59 _ _ _ hx4 _ _ _ _ _ _ h)
set_option maxRecDepth 100000 in
theorem B_X5_fits_59  {k59 : Int32 × Int32 × Nat × Int32 × Int32 × Int32 × SS × TT → Option (Int32 × SS × TT)} (hk59 : ∀ (x2 : Int32) (x3 : Int32) (x4 : Nat) (hx4 : isS x4) (x5 : Int32) (x6 : Int32) (x7 : Int32) (s : SS) (t : TT) (q : Int32 × SS × TT), k59 (x2, x3, x4, x5, x6, x7, s, t) = some q → Wp pl_Kc 77 59 [some (.ref 0), none, some (.int x2), some (.int x3), some (.ref x4), some (.int x5), some (.int x6), some (.int x7)] [] (mk s t) (Qi q)) : ∀ (x2 : Int32) (x3 : Int32) (x4 : Nat) (hx4 : isS x4) (x5 : Int32) (x6 : Int32) (x7 : Int32) (s : SS) (t : TT) (q : Int32 × SS × TT), b_X5_fits_59 k59 x2 x3 x4 x5 x6 x7 s t = some q → Wp pl_Kc 77 59 [some (.ref 0), none, some (.int x2), some (.int x3), some (.ref x4), some (.int x5), some (.int x6), some (.int x7)] [] (mk s t) (Qi q) := by
  intro x2 x3 x4 hx4 x5 x6 x7 s t q h
  unfold b_X5_fits_59 at h
  refine w_li rfl rfl ?_
  refine w_ci rfl ?_
  refine w_ic_gt rfl (fun c1 => ?_) (fun c1 => ?_)
  · replace h := ifp h c1
    refine w_li rfl rfl ?_
    refine w_if_ne rfl (fun c2 => ?_) (fun c2 => ?_)
    · replace h := ifn h c2
      refine w_li rfl rfl ?_
      exact a_ri rfl h
    · replace h := ifp h (Classical.not_not.mp c2)
      refine w_li rfl rfl ?_
      refine w_go rfl ?_
      exact a_ri rfl h
  · replace h := ifn h c1
    refine w_la rfl rfl ?_
    refine w_la rfl rfl ?_
    refine w_li rfl rfl ?_
    refine w_li rfl rfl ?_
    obtain ⟨q3, e3, h⟩ := bnd h
    refine a_vi3i rfl (mg_0 _ _) (Nat.le_of_ble_eq_true rfl) (T_X5_isTold hx4 e3) ?_
    refine w_if_eq rfl (fun c4 => ?_) (fun c4 => ?_)
    · replace h := ifp h c4
      refine w_inc rfl rfl rfl ?_
      refine w_go rfl ?_
      exact Wp_fgt (fg_s (fg_n (fg_s (fg_s (fg_s (fg_s (fg_s (fg_s fg_e)))))))) (hk59 _ _ _ hx4 _ _ _ _ _ _ h)
    · replace h := ifn h c4
      refine w_li rfl rfl ?_
      refine w_if_ne rfl (fun c5 => ?_) (fun c5 => ?_)
      · replace h := ifn h c5
        refine w_li rfl rfl ?_
        exact Wp_fgt (fg_s (fg_n (fg_s (fg_s (fg_s (fg_s (fg_n (fg_s fg_e)))))))) (J_X5_fits_90 hk59 _ _ _ hx4 _ _ _ _ _ _ h)
      · replace h := ifp h (Classical.not_not.mp c5)
        refine w_li rfl rfl ?_
        refine w_go rfl ?_
        exact Wp_fgt (fg_s (fg_n (fg_s (fg_s (fg_s (fg_s (fg_n (fg_s fg_e)))))))) (J_X5_fits_90 hk59 _ _ _ hx4 _ _ _ _ _ _ h)
theorem K_X5_fits_59  : ∀ (n : Nat) (x2 : Int32) (x3 : Int32) (x4 : Nat) (hx4 : isS x4) (x5 : Int32) (x6 : Int32) (x7 : Int32) (s : SS) (t : TT) (q : Int32 × SS × TT), l_X5_fits_59 n (x2, x3, x4, x5, x6, x7, s, t) = some q → Wp pl_Kc 77 59 [some (.ref 0), none, some (.int x2), some (.int x3), some (.ref x4), some (.int x5), some (.int x6), some (.int x7)] [] (mk s t) (Qi q)
  | 0, x2, x3, x4, hx4, x5, x6, x7, s, t, q, h => by cases (show (none : Option (Int32 × SS × TT)) = some q from h)
  | n + 1, x2, x3, x4, hx4, x5, x6, x7, s, t, q, h => B_X5_fits_59 (K_X5_fits_59 n) x2 x3 x4 hx4 x5 x6 x7 s t q h
set_option maxRecDepth 100000 in
theorem T_X5_fits  {x1 : Int32} {x2 : Int32} {x3 : Int32} {s : SS} {t : TT} {q : Int32 × SS × TT} (h : f_X5_fits x1 x2 x3 s t = some q) : Wm 77 [.ref 0, .int x1, .int x2, .int x3] (mk s t) (Qi q) := by
  refine Wm.of pT_77 (Nat.le_of_ble_eq_true rfl) (L0 := [some (.ref 0), some (.int x1), some (.int x2), some (.int x3), none, none, none, none]) rfl ?_
  unfold f_X5_fits at h
  refine w_li rfl rfl ?_
  obtain ⟨q1, e1, h⟩ := bnd h
  refine a_st1i rfl (Nat.le_of_ble_eq_true rfl) (T_X5_isPlace e1) ?_
  refine w_if_eq rfl (fun c2 => ?_) (fun c2 => ?_)
  · replace h := ifp h c2
    refine w_ci rfl ?_
    exact a_ri rfl h
  · replace h := ifn h c2
    refine w_la rfl rfl ?_
    refine w_gf rfl (mg_0 _ _) rfl ?_
    refine w_li rfl rfl ?_
    obtain ⟨q3, e3, h⟩ := bnd h
    refine a_vi1i rfl (mg_1 _ _) (Nat.le_of_ble_eq_true rfl) (T_X1_has (Or.inl rfl) e3) ?_
    refine w_if_eq rfl (fun c4 => ?_) (fun c4 => ?_)
    · replace h := ifp h c4
      refine w_ci rfl ?_
      exact a_ri rfl h
    · replace h := ifn h c4
      refine w_li rfl rfl ?_
      refine w_ci rfl ?_
      refine w_ci rfl ?_
      obtain ⟨q5, e5, h⟩ := bnd h
      refine a_st3i rfl (Nat.le_of_ble_eq_true rfl) (T_X5_isWithin e5) ?_
      refine w_if_ne rfl (fun c6 => ?_) (fun c6 => ?_)
      · replace h := ifn h c6
        refine w_la rfl rfl ?_
        refine w_gf rfl (mg_0 _ _) rfl ?_
        refine w_li rfl rfl ?_
        obtain ⟨j7, e7, h⟩ := bnd h
        refine a_aaS rfl e7 (fun r7 w7 hr7 => ?_)
        replace h := wr_of h r7 w7
        refine w_sa rfl (Nat.le_of_ble_eq_true rfl) rfl ?_
        refine w_la rfl rfl ?_
        refine w_gf rfl (mgS hr7 _ _) rfl ?_
        refine w_ci rfl ?_
        refine w_ic_ne rfl (fun c8 => ?_) (fun c8 => ?_)
        · replace h := ifn h c8
          refine w_ci rfl ?_
          refine w_si rfl (Nat.le_of_ble_eq_true rfl) rfl ?_
          refine w_ci rfl ?_
          refine w_si rfl (Nat.le_of_ble_eq_true rfl) rfl ?_
          refine w_ci rfl ?_
          refine w_si rfl (Nat.le_of_ble_eq_true rfl) rfl ?_
          exact Wp_fgt (fg_s (fg_n (fg_s (fg_s (fg_s (fg_s (fg_s (fg_s fg_e)))))))) (K_X5_fits_59 _ _ _ _ hr7 _ _ _ _ _ _ h)
        · replace h := ifp h (Classical.not_not.mp c8)
          refine w_ci rfl ?_
          exact a_ri rfl h
      · replace h := ifp h (Classical.not_not.mp c6)
        refine w_ci rfl ?_
        exact a_ri rfl h
-- X5_choices
set_option maxRecDepth 100000 in
theorem B_X5_choices_5  {k5 : Int32 × Int32 × Int64 × Int32 × SS × TT → Option (Int64 × SS × TT)} (hk5 : ∀ (x0 : Int32) (x1 : Int32) (x2 : Int64) (x4 : Int32) (s : SS) (t : TT) (q : Int64 × SS × TT), k5 (x0, x1, x2, x4, s, t) = some q → Wp pl_Kc 104 5 [some (.int x0), some (.int x1), some (.long x2), none, some (.int x4)] [] (mk s t) (Ql q)) : ∀ (x0 : Int32) (x1 : Int32) (x2 : Int64) (x4 : Int32) (s : SS) (t : TT) (q : Int64 × SS × TT), b_X5_choices_5 k5 x0 x1 x2 x4 s t = some q → Wp pl_Kc 104 5 [some (.int x0), some (.int x1), some (.long x2), none, some (.int x4)] [] (mk s t) (Ql q) := by
  intro x0 x1 x2 x4 s t q h
  unfold b_X5_choices_5 at h
  refine w_li rfl rfl ?_
  refine w_li rfl rfl ?_
  refine w_ic_gt rfl (fun c1 => ?_) (fun c1 => ?_)
  · replace h := ifp h c1
    refine w_ll rfl rfl ?_
    exact a_rl rfl h
  · replace h := ifn h c1
    refine w_ll rfl rfl ?_
    refine w_li rfl rfl ?_
    refine w_li rfl rfl ?_
    refine w_isub rfl ?_
    refine w_li rfl rfl ?_
    refine w_iadd rfl ?_
    refine w_i2l rfl ?_
    refine w_lmul rfl ?_
    refine w_li rfl rfl ?_
    refine w_i2l rfl ?_
    by_cases c2 : (Int32.toInt64 x4) = 0
    · cases (ifp h c2)
    replace h := ifn h c2
    refine w_ldiv rfl c2 ?_
    refine w_sl rfl (Nat.le_of_ble_eq_true rfl) rfl ?_
    refine w_inc rfl rfl rfl ?_
    refine w_go rfl ?_
    exact Wp_fgt (fg_s (fg_s (fg_s (fg_n (fg_s fg_e))))) (hk5 _ _ _ _ _ _ _ h)
