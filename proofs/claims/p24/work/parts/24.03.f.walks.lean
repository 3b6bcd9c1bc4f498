-- X5_minds
set_option maxRecDepth 100000 in
theorem B_X5_minds_107  {k107 : Int32 × Int32 × Int32 × Nat × Int32 × SS × TT → Option (Int32 × SS × TT)} (hk107 : ∀ (x2 : Int32) (x3 : Int32) (x4 : Int32) (x5 : Nat) (hx5 : isS x5) (x6 : Int32) (s : SS) (t : TT) (q : Int32 × SS × TT), k107 (x2, x3, x4, x5, x6, s, t) = some q → Wp pl_Kc 84 107 [some (.ref 0), none, some (.int x2), some (.int x3), some (.int x4), some (.ref x5), some (.int x6), none] [] (mk s t) (Qi q)) : ∀ (x2 : Int32) (x3 : Int32) (x4 : Int32) (x5 : Nat) (hx5 : isS x5) (x6 : Int32) (s : SS) (t : TT) (q : Int32 × SS × TT), b_X5_minds_107 k107 x2 x3 x4 x5 x6 s t = some q → Wp pl_Kc 84 107 [some (.ref 0), none, some (.int x2), some (.int x3), some (.int x4), some (.ref x5), some (.int x6), none] [] (mk s t) (Qi q) := by
  intro x2 x3 x4 x5 hx5 x6 s t q h
  unfold b_X5_minds_107 at h
  refine w_li rfl rfl ?_
  refine w_li rfl rfl ?_
  refine w_ic_ge rfl (fun c1 => ?_) (fun c1 => ?_)
  · replace h := ifp h c1
    refine w_li rfl rfl ?_
    exact a_ri rfl h
  · replace h := ifn h c1
    refine w_la rfl rfl ?_
    refine w_gf rfl (mgS hx5 _ _) rfl ?_
    refine w_li rfl rfl ?_
    refine w_li rfl rfl ?_
    refine w_iadd rfl ?_
    obtain ⟨j2, e2, h⟩ := bnd h
    refine a_ja rfl (mgS_1 hx5 _ _) e2 ?_
    refine w_l2i rfl ?_
    refine w_si rfl (Nat.le_of_ble_eq_true rfl) rfl ?_
    refine w_la rfl rfl ?_
    refine w_gf rfl (mg_0 _ _) rfl ?_
    refine w_gf rfl (mg_1 _ _) rfl ?_
    refine w_li rfl rfl ?_
    refine w_li rfl rfl ?_
    refine w_iadd rfl ?_
    refine w_ci rfl ?_
    refine w_ci rfl ?_
    refine w_li rfl rfl ?_
    refine w_mm rfl (Nat.le_of_ble_eq_true rfl) ?_
    refine w_mm rfl (Nat.le_of_ble_eq_true rfl) ?_
    obtain ⟨j3, e3, h⟩ := bnd h
    refine a_is rfl (mg_4 _ _) (ms_4 _ _) e3 (fun s3 w3 => ?_)
    replace h := wr_of h s3 w3
    refine w_inc rfl rfl rfl ?_
    refine w_go rfl ?_
    exact Wp_fgt (fg_s (fg_n (fg_s (fg_s (fg_s (fg_s (fg_s (fg_n fg_e)))))))) (hk107 _ _ _ _ hx5 _ _ _ _ h)
theorem K_X5_minds_107  : ∀ (n : Nat) (x2 : Int32) (x3 : Int32) (x4 : Int32) (x5 : Nat) (hx5 : isS x5) (x6 : Int32) (s : SS) (t : TT) (q : Int32 × SS × TT), l_X5_minds_107 n (x2, x3, x4, x5, x6, s, t) = some q → Wp pl_Kc 84 107 [some (.ref 0), none, some (.int x2), some (.int x3), some (.int x4), some (.ref x5), some (.int x6), none] [] (mk s t) (Qi q)
  | 0, x2, x3, x4, x5, hx5, x6, s, t, q, h => by cases (show (none : Option (Int32 × SS × TT)) = some q from h)
  | n + 1, x2, x3, x4, x5, hx5, x6, s, t, q, h => B_X5_minds_107 (K_X5_minds_107 n) x2 x3 x4 x5 hx5 x6 s t q h
set_option maxRecDepth 100000 in
theorem T_X5_minds  {x1 : Int32} {x2 : Int32} {x3 : Int32} {x4 : Int32} {s : SS} {t : TT} {q : Int32 × SS × TT} (h : f_X5_minds x1 x2 x3 x4 s t = some q) : Wm 84 [.ref 0, .int x1, .int x2, .int x3, .int x4] (mk s t) (Qi q) := by
  refine Wm.of pT_84 (Nat.le_of_ble_eq_true rfl) (L0 := [some (.ref 0), some (.int x1), some (.int x2), some (.int x3), some (.int x4), none, none, none]) rfl ?_
  unfold f_X5_minds at h
  refine w_li rfl rfl ?_
  obtain ⟨q1, e1, h⟩ := bnd h
  refine a_st1i rfl (Nat.le_of_ble_eq_true rfl) (T_X5_isPlace e1) ?_
  refine w_if_eq rfl (fun c2 => ?_) (fun c2 => ?_)
  · replace h := ifp h c2
    refine w_ci rfl ?_
    exact a_ri rfl h
  · replace h := ifn h c2
    refine w_la rfl rfl ?_
    refine w_gf rfl (mg_0 _ _) rfl ?_
    refine w_li rfl rfl ?_
    obtain ⟨q3, e3, h⟩ := bnd h
    refine a_vi1i rfl (mg_1 _ _) (Nat.le_of_ble_eq_true rfl) (T_X1_has (Or.inl rfl) e3) ?_
    refine w_if_eq rfl (fun c4 => ?_) (fun c4 => ?_)
    · replace h := ifp h c4
      refine w_ci rfl ?_
      exact a_ri rfl h
    · replace h := ifn h c4
      refine w_li rfl rfl ?_
      refine w_ci rfl ?_
      refine w_ci rfl ?_
      obtain ⟨q5, e5, h⟩ := bnd h
      refine a_st3i rfl (Nat.le_of_ble_eq_true rfl) (T_X5_isWithin e5) ?_
      refine w_if_eq rfl (fun c6 => ?_) (fun c6 => ?_)
      · replace h := ifp h c6
        refine w_ci rfl ?_
        exact a_ri rfl h
      · replace h := ifn h c6
        refine w_li rfl rfl ?_
        refine w_la rfl rfl ?_
        refine w_gf rfl (mg_0 _ _) rfl ?_
        refine w_gf rfl (mg_1 _ _) rfl ?_
        refine w_li rfl rfl ?_
        refine w_isub rfl ?_
        refine w_ic_le rfl (fun c7 => ?_) (fun c7 => ?_)
        · replace h := ifp h c7
          refine w_la rfl rfl ?_
          refine w_gf rfl (mg_0 _ _) rfl ?_
          refine w_li rfl rfl ?_
          obtain ⟨j8, e8, h⟩ := bnd h
          refine a_aaS rfl e8 (fun r8 w8 hr8 => ?_)
          replace h := wr_of h r8 w8
          refine w_sa rfl (Nat.le_of_ble_eq_true rfl) rfl ?_
          refine w_la rfl rfl ?_
          refine w_gf rfl (mgS hr8 _ _) rfl ?_
          refine w_ci rfl ?_
          refine w_ic_ne rfl (fun c9 => ?_) (fun c9 => ?_)
          · replace h := ifn h c9
            refine w_la rfl rfl ?_
            refine w_gf rfl (mgS hr8 _ _) rfl ?_
            refine w_if_eq rfl (fun c10 => ?_) (fun c10 => ?_)
            · replace h := ifp h c10
              refine w_li rfl rfl ?_
              refine w_ci rfl ?_
              refine w_la rfl rfl ?_
              refine w_gf rfl (mgS hr8 _ _) rfl ?_
              obtain ⟨q11, e11, h⟩ := bnd h
              refine a_st3i rfl (Nat.le_of_ble_eq_true rfl) (T_X5_isWithin e11) ?_
              refine w_if_eq rfl (fun c12 => ?_) (fun c12 => ?_)
              · replace h := ifp h c12
                refine w_ci rfl ?_
                exact a_ri rfl h
              · replace h := ifn h c12
                refine w_li rfl rfl ?_
                refine w_la rfl rfl ?_
                refine w_gf rfl (mgS hr8 _ _) rfl ?_
                refine w_li rfl rfl ?_
                refine w_isub rfl ?_
                refine w_ic_le rfl (fun c13 => ?_) (fun c13 => ?_)
                · replace h := ifp h c13
                  refine w_ci rfl ?_
                  refine w_si rfl (Nat.le_of_ble_eq_true rfl) rfl ?_
                  exact Wp_fgt (fg_s (fg_n (fg_s (fg_s (fg_s (fg_s (fg_s (fg_n fg_e)))))))) (K_X5_minds_107 _ _ _ _ _ hr8 _ _ _ _ h)
                · replace h := ifn h c13
                  refine w_ci rfl ?_
                  exact a_ri rfl h
            · replace h := ifn h c10
              refine w_ci rfl ?_
              exact a_ri rfl h
          · replace h := ifp h (Classical.not_not.mp c9)
            refine w_ci rfl ?_
            exact a_ri rfl h
        · replace h := ifn h c7
          refine w_ci rfl ?_
          exact a_ri rfl h
