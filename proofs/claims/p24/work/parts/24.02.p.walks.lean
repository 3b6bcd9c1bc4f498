-- X5_fits
set_option maxRecDepth 100000 in
theorem J_X5_fits_90  {k59 : Int32 × Int32 × Nat × Int32 × Int32 × Int32 × SS × TT → Option (Int32 × SS × TT)} (hk59 : ∀ (x2 : Int32) (x3 : Int32) (x4 : Nat) (hx4 : isS x4) (x5 : Int32) (x6 : Int32) (x7 : Int32) (s : SS) (t : TT) (q : Int32 × SS × TT), k59 (x2, x3, x4, x5, x6, x7, s, t) = some q → Wp pl_Kc 77 59 [some (.ref 0), none, some (.int x2), some (.int x3), some (.ref x4), some (.int x5), some (.int x6), some (.int x7)] [] (mk s t) (Qi q)) : ∀ (x2 : Int32) (x3 : Int32) (x4 : Nat) (hx4 : isS x4) (x5 : Int32) (x7 : Int32) (y0 : Int32) (s : SS) (t : TT) (q : Int32 × SS × TT), j_X5_fits_90 k59 x2 x3 x4 x5 x7 y0 s t = some q → Wp pl_Kc 77 90 [some (.ref 0), none, some (.int x2), some (.int x3), some (.ref x4), some (.int x5), none, some (.int x7)] [.int y0] (mk s t) (Qi q) := by
  intro x2 x3 x4 hx4 x5 x7 y0 s t q h
  unfold j_X5_fits_90 at h
  refine w_si rfl (Nat.le_of_ble_eq_true rfl) rfl ?_
  refine w_inc rfl rfl rfl ?_
  refine w_inc rfl rfl rfl ?_
  refine w_go rfl ?_
  exact Wp_fgt (fg_s (fg_n (fg_s (fg_s (fg_s (fg_s (fg_s (fg_s fg_e)))))))) (hk59 _ _ _ hx4 _ _ _ _ _ _ h)
set_option maxRecDepth 100000 in
theorem B_X5_fits_59  {k59 : Int32 × Int32 × Nat × Int32 × Int32 × Int32 × SS × TT → Option (Int32 × SS × TT)} (hk59 : ∀ (x2 : Int32) (x3 : Int32) (x4 : Nat) (hx4 : isS x4) (x5 : Int32) (x6 : Int32) (x7 : Int32) (s : SS) (t : TT) (q : Int32 × SS × TT), k59 (x2, x3, x4, x5, x6, x7, s, t) = some q → Wp pl_Kc 77 59 [some (.ref 0), none, some (.int x2), some (.int x3), some (.ref x4), some (.int x5), some (.int x6), some (.int x7)] [] (mk s t) (Qi q)) : ∀ (x2 : Int32) (x3 : Int32) (x4 : Nat) (hx4 : isS x4) (x5 : Int32) (x6 : Int32) (x7 : Int32) (s : SS) (t : TT) (q : Int32 × SS × TT), b_X5_fits_59 k59 x2 x3 x4 x5 x6 x7 s t = some q → Wp pl_Kc 77 59 [some (.ref 0), none, some (.int x2), some (.int x3), some (.ref x4), some (.int x5), some (.int x6), some (.int x7)] [] (mk s t) (Qi q) := by
  intro x2 x3 x4 hx4 x5 x6 x7 s t q h
  unfold b_X5_fits_59 at h
  refine w_li rfl rfl ?_
  refine w_ci rfl ?_
  refine w_ic_gt rfl (fun c1 => ?_) (fun c1 => ?_)
  · replace h := ifp h c1
    refine w_li rfl rfl ?_
    refine w_if_ne rfl (fun c2 => ?_) (fun c2 => ?_)
    · replace h := ifn h c2
      refine w_li rfl rfl ?_
      exact a_ri rfl h
    · replace h := ifp h (Classical.not_not.mp c2)
      refine w_li rfl rfl ?_
      refine w_go rfl ?_
      exact a_ri rfl h
  · replace h := ifn h c1
    refine w_la rfl rfl ?_
    refine w_la rfl rfl ?_
    refine w_li rfl rfl ?_
    refine w_li rfl rfl ?_
    obtain ⟨q3, e3, h⟩ := bnd h
    refine a_vi3i rfl (mg_0 _ _) (Nat.le_of_ble_eq_true rfl) (T_X5_isTold hx4 e3) ?_
    refine w_if_eq rfl (fun c4 => ?_) (fun c4 => ?_)
    · replace h := ifp h c4
      refine w_inc rfl rfl rfl ?_
      refine w_go rfl ?_
      exact Wp_fgt (fg_s (fg_n (fg_s (fg_s (fg_s (fg_s (fg_s (fg_s fg_e)))))))) (hk59 _ _ _ hx4 _ _ _ _ _ _ h)
    · replace h := ifn h c4
      refine w_li rfl rfl ?_
      refine w_if_ne rfl (fun c5 => ?_) (fun c5 => ?_)
      · replace h := ifn h c5
        refine w_li rfl rfl ?_
        exact Wp_fgt (fg_s (fg_n (fg_s (fg_s (fg_s (fg_s (fg_n (fg_s fg_e)))))))) (J_X5_fits_90 hk59 _ _ _ hx4 _ _ _ _ _ _ h)
      · replace h := ifp h (Classical.not_not.mp c5)
        refine w_li rfl rfl ?_
        refine w_go rfl ?_
        exact Wp_fgt (fg_s (fg_n (fg_s (fg_s (fg_s (fg_s (fg_n (fg_s fg_e)))))))) (J_X5_fits_90 hk59 _ _ _ hx4 _ _ _ _ _ _ h)
theorem K_X5_fits_59  : ∀ (n : Nat) (x2 : Int32) (x3 : Int32) (x4 : Nat) (hx4 : isS x4) (x5 : Int32) (x6 : Int32) (x7 : Int32) (s : SS) (t : TT) (q : Int32 × SS × TT), l_X5_fits_59 n (x2, x3, x4, x5, x6, x7, s, t) = some q → Wp pl_Kc 77 59 [some (.ref 0), none, some (.int x2), some (.int x3), some (.ref x4), some (.int x5), some (.int x6), some (.int x7)] [] (mk s t) (Qi q)
  | 0, x2, x3, x4, hx4, x5, x6, x7, s, t, q, h => by cases (show (none : Option (Int32 × SS × TT)) = some q from h)
  | n + 1, x2, x3, x4, hx4, x5, x6, x7, s, t, q, h => B_X5_fits_59 (K_X5_fits_59 n) x2 x3 x4 hx4 x5 x6 x7 s t q h
set_option maxRecDepth 100000 in
theorem T_X5_fits  {x1 : Int32} {x2 : Int32} {x3 : Int32} {s : SS} {t : TT} {q : Int32 × SS × TT} (h : f_X5_fits x1 x2 x3 s t = some q) : Wm 77 [.ref 0, .int x1, .int x2, .int x3] (mk s t) (Qi q) := by
  refine Wm.of pT_77 (Nat.le_of_ble_eq_true rfl) (L0 := [some (.ref 0), some (.int x1), some (.int x2), some (.int x3), none, none, none, none]) rfl ?_
  unfold f_X5_fits at h
  refine w_li rfl rfl ?_
  obtain ⟨q1, e1, h⟩ := bnd h
  refine a_st1i rfl (Nat.le_of_ble_eq_true rfl) (T_X5_isPlace e1) ?_
  refine w_if_eq rfl (fun c2 => ?_) (fun c2 => ?_)
  · replace h := ifp h c2
    refine w_ci rfl ?_
    exact a_ri rfl h
  · replace h := ifn h c2
    refine w_la rfl rfl ?_
    refine w_gf rfl (mg_0 _ _) rfl ?_
    refine w_li rfl rfl ?_
    obtain ⟨q3, e3, h⟩ := bnd h
    refine a_vi1i rfl (mg_1 _ _) (Nat.le_of_ble_eq_true rfl) (T_X1_has (Or.inl rfl) e3) ?_
    refine w_if_eq rfl (fun c4 => ?_) (fun c4 => ?_)
    · replace h := ifp h c4
      refine w_ci rfl ?_
      exact a_ri rfl h
    · replace h := ifn h c4
      refine w_li rfl rfl ?_
      refine w_ci rfl ?_
      refine w_ci rfl ?_
      obtain ⟨q5, e5, h⟩ := bnd h
      refine a_st3i rfl (Nat.le_of_ble_eq_true rfl) (T_X5_isWithin e5) ?_
      refine w_if_ne rfl (fun c6 => ?_) (fun c6 => ?_)
      · replace h := ifn h c6
        refine w_la rfl rfl ?_
        refine w_gf rfl (mg_0 _ _) rfl ?_
        refine w_li rfl rfl ?_
        obtain ⟨j7, e7, h⟩ := bnd h
        refine a_aaS rfl e7 (fun r7 w7 hr7 => ?_)
        replace h := wr_of h r7 w7
        refine w_sa rfl (Nat.le_of_ble_eq_true rfl) rfl ?_
        refine w_la rfl rfl ?_
        refine w_gf rfl (mgS hr7 _ _) rfl ?_
        refine w_ci rfl ?_
        refine w_ic_ne rfl (fun c8 => ?_) (fun c8 => ?_)
        · replace h := ifn h c8
          refine w_ci rfl ?_
          refine w_si rfl (Nat.le_of_ble_eq_true rfl) rfl ?_
          refine w_ci rfl ?_
          refine w_si rfl (Nat.le_of_ble_eq_true rfl) rfl ?_
          refine w_ci rfl ?_
          refine w_si rfl (Nat.le_of_ble_eq_true rfl) rfl ?_
          exact Wp_fgt (fg_s (fg_n (fg_s (fg_s (fg_s (fg_s (fg_s (fg_s fg_e)))))))) (K_X5_fits_59 _ _ _ _ hr7 _ _ _ _ _ _ h)
        · replace h := ifp h (Classical.not_not.mp c8)
          refine w_ci rfl ?_
          exact a_ri rfl h
      · replace h := ifp h (Classical.not_not.mp c6)
        refine w_ci rfl ?_
        exact a_ri rfl h
