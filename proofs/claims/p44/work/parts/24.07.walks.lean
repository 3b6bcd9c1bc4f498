-- the walks: a program laid these rows
theorem K_X6_sheet_64  : ∀ (n : Nat) (x1 : Int32) (x4 : Int32) (s : SS) (t : TT) (q : Int32 × SS × TT), l_X6_sheet_64 n (x1, x4, s, t) = some q → Wp pl_Kc 187 64 [some (.ref 51), some (.int x1), none, none, some (.int x4)] [] (mk s t) (Qi q)
  | 0, x1, x4, s, t, q, h => by cases (show (none : Option (Int32 × SS × TT)) = some q from h)
  | n + 1, x1, x4, s, t, q, h => B_X6_sheet_64 (K_X6_sheet_64 n) x1 x4 s t q h
set_option maxRecDepth 100000 in
theorem J_X6_sheet_39  : ∀ (x1 : Int32) (x2 : Int32) (x3 : Int32) (s : SS) (t : TT) (q : Int32 × SS × TT), j_X6_sheet_39 x1 x2 x3 s t = some q → Wp pl_Kc 187 39 [some (.ref 51), some (.int x1), some (.int x2), some (.int x3), none] [] (mk s t) (Qi q) := by
  intro x1 x2 x3 s t q h
  unfold j_X6_sheet_39 at h
  refine w_la rfl rfl ?_
  refine w_gf rfl (mg_51 _ _) rfl ?_
  refine w_li rfl rfl ?_
  refine w_li rfl rfl ?_
  obtain ⟨j1, e1, h⟩ := bnd h
  refine a_is rfl (mg_60 _ _) (ms_60 _ _) e1 (fun s1 w1 => ?_)
  replace h := wr_of h s1 w1
  refine w_la rfl rfl ?_
  refine w_gf rfl (mg_51 _ _) rfl ?_
  refine w_li rfl rfl ?_
  refine w_li rfl rfl ?_
  refine w_if_ge rfl (fun c2 => ?_) (fun c2 => ?_)
  · replace h := ifp h c2
    refine w_li rfl rfl ?_
    obtain ⟨j3, e3, h⟩ := bnd h
    refine a_is rfl (mg_61 _ _) (ms_61 _ _) e3 (fun s3 w3 => ?_)
    replace h := wr_of h s3 w3
    refine w_ci rfl ?_
    refine w_si rfl (Nat.le_of_ble_eq_true rfl) rfl ?_
    exact Wp_fgt (fg_s (fg_s (fg_n (fg_n (fg_s fg_e))))) (K_X6_sheet_64 _ _ _ _ _ _ h)
  · replace h := ifn h c2
    refine w_ci rfl ?_
    refine w_go rfl ?_
    obtain ⟨j4, e4, h⟩ := bnd h
    refine a_is rfl (mg_61 _ _) (ms_61 _ _) e4 (fun s4 w4 => ?_)
    replace h := wr_of h s4 w4
    refine w_ci rfl ?_
    refine w_si rfl (Nat.le_of_ble_eq_true rfl) rfl ?_
    exact Wp_fgt (fg_s (fg_s (fg_n (fg_n (fg_s fg_e))))) (K_X6_sheet_64 _ _ _ _ _ _ h)
set_option maxRecDepth 100000 in
theorem J_X6_sheet_28  : ∀ (x1 : Int32) (x2 : Int32) (x3 : Int32) (s : SS) (t : TT) (q : Int32 × SS × TT), j_X6_sheet_28 x1 x2 x3 s t = some q → Wp pl_Kc 187 28 [some (.ref 51), some (.int x1), some (.int x2), some (.int x3), none] [] (mk s t) (Qi q) := by
  intro x1 x2 x3 s t q h
  unfold j_X6_sheet_28 at h
  refine w_li rfl rfl ?_
  refine w_if_lt rfl (fun c1 => ?_) (fun c1 => ?_)
  · replace h := ifp h c1
    exact Wp_fgt (fg_s (fg_s (fg_s (fg_s (fg_n fg_e))))) (J_X6_sheet_39 _ _ _ _ _ _ h)
  · replace h := ifn h c1
    refine w_li rfl rfl ?_
    refine w_if_ge rfl (fun c2 => ?_) (fun c2 => ?_)
    · replace h := ifp h c2
      exact Wp_fgt (fg_s (fg_s (fg_s (fg_s (fg_n fg_e))))) (J_X6_sheet_39 _ _ _ _ _ _ h)
    · replace h := ifn h c2
      refine w_ci rfl ?_
      exact a_ri rfl h
set_option maxRecDepth 100000 in
theorem T_X6_sheet  {x1 : Int32} {x2 : Int32} {x3 : Int32} {s : SS} {t : TT} {q : Int32 × SS × TT} (h : f_X6_sheet x1 x2 x3 s t = some q) : Wm 187 [.ref 51, .int x1, .int x2, .int x3] (mk s t) (Qi q) := by
  refine Wm.of pT_187 (Nat.le_of_ble_eq_true rfl) (L0 := [some (.ref 51), some (.int x1), some (.int x2), some (.int x3), none]) rfl ?_
  unfold f_X6_sheet at h
  refine w_li rfl rfl ?_
  obtain ⟨q1, e1, h⟩ := bnd h
  refine a_st1i rfl (Nat.le_of_ble_eq_true rfl) (T_X6_isShelf e1) ?_
  refine w_if_eq rfl (fun c2 => ?_) (fun c2 => ?_)
  · replace h := ifp h c2
    refine w_ci rfl ?_
    exact a_ri rfl h
  · replace h := ifn h c2
    refine w_li rfl rfl ?_
    refine w_ci rfl ?_
    refine w_ci rfl ?_
    obtain ⟨q3, e3, h⟩ := bnd h
    refine a_st3i rfl (Nat.le_of_ble_eq_true rfl) (T_X6_in e3) ?_
    refine w_if_eq rfl (fun c4 => ?_) (fun c4 => ?_)
    · replace h := ifp h c4
      refine w_ci rfl ?_
      exact a_ri rfl h
    · replace h := ifn h c4
      refine w_li rfl rfl ?_
      refine w_if_lt rfl (fun c5 => ?_) (fun c5 => ?_)
      · replace h := ifp h c5
        exact Wp_fgt (fg_s (fg_s (fg_s (fg_s (fg_n fg_e))))) (J_X6_sheet_28 _ _ _ _ _ _ h)
      · replace h := ifn h c5
        refine w_li rfl rfl ?_
        refine w_ci rfl ?_
        refine w_ic_le rfl (fun c6 => ?_) (fun c6 => ?_)
        · replace h := ifp h c6
          exact Wp_fgt (fg_s (fg_s (fg_s (fg_s (fg_n fg_e))))) (J_X6_sheet_28 _ _ _ _ _ _ h)
        · replace h := ifn h c6
          refine w_ci rfl ?_
          exact a_ri rfl h
-- X6_put
set_option maxRecDepth 100000 in
theorem T_X6_put  {x1 : Int32} {x2 : Int32} {x3 : Int32} {s : SS} {t : TT} {q : Int32 × SS × TT} (h : f_X6_put x1 x2 x3 s t = some q) : Wm 188 [.ref 51, .int x1, .int x2, .int x3] (mk s t) (Qi q) := by
  refine Wm.of pT_188 (Nat.le_of_ble_eq_true rfl) (L0 := [some (.ref 51), some (.int x1), some (.int x2), some (.int x3)]) rfl ?_
  unfold f_X6_put at h
  refine w_li rfl rfl ?_
  obtain ⟨q1, e1, h⟩ := bnd h
  refine a_st1i rfl (Nat.le_of_ble_eq_true rfl) (T_X6_isShelf e1) ?_
  refine w_if_ne rfl (fun c2 => ?_) (fun c2 => ?_)
  · replace h := ifn h c2
    refine w_la rfl rfl ?_
    refine w_gf rfl (mg_51 _ _) rfl ?_
    refine w_li rfl rfl ?_
    obtain ⟨j3, e3, h⟩ := bnd h
    refine a_ia rfl (mr_60 _ _ _) e3 ?_
    refine w_if_ge rfl (fun c4 => ?_) (fun c4 => ?_)
    · replace h := ifp h c4
      refine w_li rfl rfl ?_
      refine w_ci rfl ?_
      refine w_la rfl rfl ?_
      refine w_gf rfl (mg_51 _ _) rfl ?_
      refine w_li rfl rfl ?_
      obtain ⟨j5, e5, h⟩ := bnd h
      refine a_ia rfl (mr_61 _ _ _) e5 ?_
      refine w_ci rfl ?_
      refine w_isub rfl ?_
      obtain ⟨q6, e6, h⟩ := bnd h
      refine a_st3i rfl (Nat.le_of_ble_eq_true rfl) (T_X6_in e6) ?_
      refine w_if_ne rfl (fun c7 => ?_) (fun c7 => ?_)
      · replace h := ifn h c7
        refine w_la rfl rfl ?_
        refine w_gf rfl (mg_51 _ _) rfl ?_
        refine w_ci rfl ?_
        refine w_li rfl rfl ?_
        refine w_imul rfl ?_
        refine w_li rfl rfl ?_
        refine w_iadd rfl ?_
        refine w_la rfl rfl ?_
        refine w_gf rfl (mg_51 _ _) rfl ?_
        refine w_li rfl rfl ?_
        obtain ⟨j8, e8, h⟩ := bnd h
        refine a_ia rfl (mr_60 _ _ _) e8 ?_
        refine w_if_ne rfl (fun c9 => ?_) (fun c9 => ?_)
        · replace h := ifn h c9
          refine w_la rfl rfl ?_
          refine w_gf rfl (mg_51 _ _) rfl ?_
          refine w_li rfl rfl ?_
          obtain ⟨j10, e10, h⟩ := bnd h
          refine a_ia rfl (mr_60 _ _ _) e10 ?_
          refine w_ci rfl ?_
          refine w_ic_ne rfl (fun c11 => ?_) (fun c11 => ?_)
          · replace h := ifn h c11
            refine w_li rfl rfl ?_
            refine w_i2l rfl ?_
            obtain ⟨j12, e12, h⟩ := bnd h
            refine a_js rfl (mg_62 _ _) (ms_62 _ _) e12 (fun t12 w12 => ?_)
            replace h := wr_of h t12 w12
            refine w_ci rfl ?_
            exact a_ri rfl h
          · replace h := ifp h (Classical.not_not.mp c11)
            refine w_li rfl rfl ?_
            refine w_i2s rfl ?_
            refine w_i2l rfl ?_
            refine w_go rfl ?_
            obtain ⟨j13, e13, h⟩ := bnd h
            refine a_js rfl (mg_62 _ _) (ms_62 _ _) e13 (fun t13 w13 => ?_)
            replace h := wr_of h t13 w13
            refine w_ci rfl ?_
            exact a_ri rfl h
        · replace h := ifp h (Classical.not_not.mp c9)
          refine w_li rfl rfl ?_
          refine w_i2b rfl ?_
          refine w_i2l rfl ?_
          refine w_go rfl ?_
          obtain ⟨j14, e14, h⟩ := bnd h
          refine a_js rfl (mg_62 _ _) (ms_62 _ _) e14 (fun t14 w14 => ?_)
          replace h := wr_of h t14 w14
          refine w_ci rfl ?_
          exact a_ri rfl h
      · replace h := ifp h (Classical.not_not.mp c7)
        refine w_ci rfl ?_
        exact a_ri rfl h
    · replace h := ifn h c4
      refine w_ci rfl ?_
      exact a_ri rfl h
  · replace h := ifp h (Classical.not_not.mp c2)
    refine w_ci rfl ?_
    exact a_ri rfl h
-- X6_item
set_option maxRecDepth 100000 in
theorem T_X6_item  {x1 : Int32} {x2 : Int32} {x3 : Int32} {s : SS} {t : TT} {q : Int32 × SS × TT} (h : f_X6_item x1 x2 x3 s t = some q) : Wm 190 [.ref 51, .int x1, .int x2, .int x3] (mk s t) (Qi q) := by
  refine Wm.of pT_190 (Nat.le_of_ble_eq_true rfl) (L0 := [some (.ref 51), some (.int x1), some (.int x2), some (.int x3), none]) rfl ?_
  unfold f_X6_item at h
  refine w_li rfl rfl ?_
  obtain ⟨q1, e1, h⟩ := bnd h
  refine a_st1i rfl (Nat.le_of_ble_eq_true rfl) (T_X6_isShelf e1) ?_
  refine w_if_eq rfl (fun c2 => ?_) (fun c2 => ?_)
  · replace h := ifp h c2
    refine w_ci rfl ?_
    exact a_ri rfl h
  · replace h := ifn h c2
    refine w_li rfl rfl ?_
    refine w_ci rfl ?_
    refine w_ci rfl ?_
    obtain ⟨q3, e3, h⟩ := bnd h
    refine a_st3i rfl (Nat.le_of_ble_eq_true rfl) (T_X6_in e3) ?_
    refine w_if_ne rfl (fun c4 => ?_) (fun c4 => ?_)
    · replace h := ifn h c4
      refine w_la rfl rfl ?_
      refine w_li rfl rfl ?_
      refine w_li rfl rfl ?_
      obtain ⟨q5, e5, h⟩ := bnd h
      refine a_vi2i rfl (mg_51 _ _) (Nat.le_of_ble_eq_true rfl) (T_X6_lacksSort e5) ?_
      refine w_si rfl (Nat.le_of_ble_eq_true rfl) rfl ?_
      refine w_li rfl rfl ?_
      refine w_if_eq rfl (fun c6 => ?_) (fun c6 => ?_)
      · replace h := ifp h c6
        refine w_li rfl rfl ?_
        refine w_ci rfl ?_
        refine w_la rfl rfl ?_
        refine w_gf rfl (mg_51 _ _) rfl ?_
        refine w_li rfl rfl ?_
        obtain ⟨j7, e7, h⟩ := bnd h
        refine a_ia rfl (mr_61 _ _ _) e7 ?_
        refine w_ci rfl ?_
        refine w_isub rfl ?_
        obtain ⟨q8, e8, h⟩ := bnd h
        refine a_st3i rfl (Nat.le_of_ble_eq_true rfl) (T_X6_in e8) ?_
        refine w_if_eq rfl (fun c9 => ?_) (fun c9 => ?_)
        · replace h := ifp h c9
          refine w_ci rfl ?_
          exact a_ri rfl h
        · replace h := ifn h c9
          refine w_la rfl rfl ?_
          refine w_gf rfl (mg_51 _ _) rfl ?_
          refine w_ci rfl ?_
          refine w_li rfl rfl ?_
          refine w_imul rfl ?_
          refine w_li rfl rfl ?_
          refine w_iadd rfl ?_
          obtain ⟨j10, e10, h⟩ := bnd h
          refine a_ja rfl (mg_62 _ _) e10 ?_
          refine w_l2i rfl ?_
          refine w_go rfl ?_
          exact a_ri rfl h
      · replace h := ifn h c6
        refine w_li rfl rfl ?_
        exact a_ri rfl h
    · replace h := ifp h (Classical.not_not.mp c4)
      refine w_ci rfl ?_
      exact a_ri rfl h
-- X6_isHeld
set_option maxRecDepth 100000 in
theorem T_X6_isHeld  {x1 : Int32} {x2 : Int32} {s : SS} {t : TT} {q : Int32 × SS × TT} (h : f_X6_isHeld x1 x2 s t = some q) : Wm 191 [.ref 51, .int x1, .int x2] (mk s t) (Qi q) := by
  refine Wm.of pT_191 (Nat.le_of_ble_eq_true rfl) (L0 := [some (.ref 51), some (.int x1), some (.int x2)]) rfl ?_
  unfold f_X6_isHeld at h
  refine w_li rfl rfl ?_
  refine w_if_ne rfl (fun c1 => ?_) (fun c1 => ?_)
  · replace h := ifn h c1
    refine w_li rfl rfl ?_
    refine w_ci rfl ?_
    refine w_ic_ne rfl (fun c2 => ?_) (fun c2 => ?_)
    · replace h := ifn h c2
      refine w_li rfl rfl ?_
      refine w_ci rfl ?_
      refine w_ic_ne rfl (fun c3 => ?_) (fun c3 => ?_)
      · replace h := ifn h c3
        refine w_ci rfl ?_
        exact a_rz rfl (by decide) h
      · replace h := ifp h (Classical.not_not.mp c3)
        refine w_ci rfl ?_
        refine w_go rfl ?_
        exact a_rz rfl (by decide) h
    · replace h := ifp h (Classical.not_not.mp c2)
      refine w_li rfl rfl ?_
      obtain ⟨q4, e4, h⟩ := bnd h
      refine a_st1i rfl (Nat.le_of_ble_eq_true rfl) (T_X6_isShelf e4) ?_
      refine w_go rfl ?_
      exact a_rzc rfl h
  · replace h := ifp h (Classical.not_not.mp c1)
    refine w_la rfl rfl ?_
    refine w_li rfl rfl ?_
    obtain ⟨q5, e5, h⟩ := bnd h
    refine a_vi1i rfl (mg_51 _ _) (Nat.le_of_ble_eq_true rfl) (T_X6_isOne e5) ?_
    refine w_go rfl ?_
    exact a_rzc rfl h
-- X6_shelf
set_option maxRecDepth 100000 in
theorem J_X6_shelf_68  : ∀ (x1 : Int32) (x2 : Int32) (x3 : Int32) (y0 : Int32) (y1 : Int32) (s : SS) (t : TT) (q : Int32 × SS × TT), j_X6_shelf_68 x1 x2 x3 y0 y1 s t = some q → Wp pl_Kc 192 68 [some (.ref 51), some (.int x1), some (.int x2), some (.int x3)] [.int y0, .int y1, .ref 64] (mk s t) (Qi q) := by
  intro x1 x2 x3 y0 y1 s t q h
  unfold j_X6_shelf_68 at h
  obtain ⟨j1, e1, h⟩ := bnd h
  refine a_is rfl (mg_64 _ _) (ms_64 _ _) e1 (fun s1 w1 => ?_)
  replace h := wr_of h s1 w1
  refine w_la rfl rfl ?_
  refine w_gf rfl (mg_51 _ _) rfl ?_
  refine w_li rfl rfl ?_
  refine w_li rfl rfl ?_
  refine w_ci rfl ?_
  refine w_ic_ne rfl (fun c2 => ?_) (fun c2 => ?_)
  · replace h := ifn h c2
    refine w_ci rfl ?_
    obtain ⟨j3, e3, h⟩ := bnd h
    refine a_is rfl (mg_65 _ _) (ms_65 _ _) e3 (fun s3 w3 => ?_)
    replace h := wr_of h s3 w3
    refine w_ci rfl ?_
    exact a_ri rfl h
  · replace h := ifp h (Classical.not_not.mp c2)
    refine w_la rfl rfl ?_
    refine w_gf rfl (mg_51 _ _) rfl ?_
    refine w_li rfl rfl ?_
    obtain ⟨j4, e4, h⟩ := bnd h
    refine a_ia rfl (mr_61 _ _ _) e4 ?_
    refine w_go rfl ?_
    obtain ⟨j5, e5, h⟩ := bnd h
    refine a_is rfl (mg_65 _ _) (ms_65 _ _) e5 (fun s5 w5 => ?_)
    replace h := wr_of h s5 w5
    refine w_ci rfl ?_
    exact a_ri rfl h
set_option maxRecDepth 100000 in
theorem J_X6_shelf_47  : ∀ (x1 : Int32) (x2 : Int32) (x3 : Int32) (y0 : Int32) (y1 : Int32) (s : SS) (t : TT) (q : Int32 × SS × TT), j_X6_shelf_47 x1 x2 x3 y0 y1 s t = some q → Wp pl_Kc 192 47 [some (.ref 51), some (.int x1), some (.int x2), some (.int x3)] [.int y0, .int y1, .ref 63] (mk s t) (Qi q) := by
  intro x1 x2 x3 y0 y1 s t q h
  unfold j_X6_shelf_47 at h
  obtain ⟨j1, e1, h⟩ := bnd h
  refine a_is rfl (mg_63 _ _) (ms_63 _ _) e1 (fun s1 w1 => ?_)
  replace h := wr_of h s1 w1
  refine w_la rfl rfl ?_
  refine w_gf rfl (mg_51 _ _) rfl ?_
  refine w_li rfl rfl ?_
  refine w_li rfl rfl ?_
  refine w_ci rfl ?_
  refine w_ic_ne rfl (fun c2 => ?_) (fun c2 => ?_)
  · replace h := ifn h c2
    refine w_li rfl rfl ?_
    exact Wp_fgt (fg_s (fg_s (fg_s (fg_s fg_e)))) (J_X6_shelf_68 _ _ _ _ _ _ _ _ h)
  · replace h := ifp h (Classical.not_not.mp c2)
    refine w_la rfl rfl ?_
    refine w_gf rfl (mg_51 _ _) rfl ?_
    refine w_li rfl rfl ?_
    obtain ⟨j3, e3, h⟩ := bnd h
    refine a_ia rfl (mr_60 _ _ _) e3 ?_
    refine w_go rfl ?_
    exact Wp_fgt (fg_s (fg_s (fg_s (fg_s fg_e)))) (J_X6_shelf_68 _ _ _ _ _ _ _ _ h)
set_option maxRecDepth 100000 in
theorem J_X6_shelf_42  : ∀ (x1 : Int32) (x2 : Int32) (x3 : Int32) (y0 : Int32) (s : SS) (t : TT) (q : Int32 × SS × TT), j_X6_shelf_42 x1 x2 x3 y0 s t = some q → Wp pl_Kc 192 42 [some (.ref 51), some (.int x1), some (.int x2), some (.int x3)] [.int y0, .ref 63] (mk s t) (Qi q) := by
  intro x1 x2 x3 y0 s t q h
  unfold j_X6_shelf_42 at h
  refine w_ci rfl ?_
  refine w_go rfl ?_
  exact Wp_fgt (fg_s (fg_s (fg_s (fg_s fg_e)))) (J_X6_shelf_47 _ _ _ _ _ _ _ _ h)
set_option maxRecDepth 100000 in
theorem J_X6_shelf_46  : ∀ (x1 : Int32) (x2 : Int32) (x3 : Int32) (y0 : Int32) (s : SS) (t : TT) (q : Int32 × SS × TT), j_X6_shelf_46 x1 x2 x3 y0 s t = some q → Wp pl_Kc 192 46 [some (.ref 51), some (.int x1), some (.int x2), some (.int x3)] [.int y0, .ref 63] (mk s t) (Qi q) := by
  intro x1 x2 x3 y0 s t q h
  unfold j_X6_shelf_46 at h
  refine w_li rfl rfl ?_
  exact Wp_fgt (fg_s (fg_s (fg_s (fg_s fg_e)))) (J_X6_shelf_47 _ _ _ _ _ _ _ _ h)
set_option maxRecDepth 100000 in
theorem T_X6_shelf  {x1 : Int32} {x2 : Int32} {x3 : Int32} {s : SS} {t : TT} {q : Int32 × SS × TT} (h : f_X6_shelf x1 x2 x3 s t = some q) : Wm 192 [.ref 51, .int x1, .int x2, .int x3] (mk s t) (Qi q) := by
  refine Wm.of pT_192 (Nat.le_of_ble_eq_true rfl) (L0 := [some (.ref 51), some (.int x1), some (.int x2), some (.int x3)]) rfl ?_
  unfold f_X6_shelf at h
  refine w_li rfl rfl ?_
  obtain ⟨q1, e1, h⟩ := bnd h
  refine a_st1i rfl (Nat.le_of_ble_eq_true rfl) (T_X6_isShelf e1) ?_
  refine w_if_eq rfl (fun c2 => ?_) (fun c2 => ?_)
  · replace h := ifp h c2
    refine w_ci rfl ?_
    exact a_ri rfl h
  · replace h := ifn h c2
    refine w_la rfl rfl ?_
    refine w_li rfl rfl ?_
    refine w_li rfl rfl ?_
    obtain ⟨q3, e3, h⟩ := bnd h
    refine a_vi2i rfl (mg_51 _ _) (Nat.le_of_ble_eq_true rfl) (T_X6_isHeld e3) ?_
    refine w_if_ne rfl (fun c4 => ?_) (fun c4 => ?_)
    · replace h := ifn h c4
      refine w_la rfl rfl ?_
      refine w_gf rfl (mg_51 _ _) rfl ?_
      refine w_li rfl rfl ?_
      refine w_li rfl rfl ?_
      refine w_ci rfl ?_
      refine w_ic_eq rfl (fun c5 => ?_) (fun c5 => ?_)
      · replace h := ifp h c5
        exact Wp_fgt (fg_s (fg_s (fg_s (fg_s fg_e)))) (J_X6_shelf_42 _ _ _ _ _ _ _ h)
      · replace h := ifn h c5
        refine w_li rfl rfl ?_
        refine w_ci rfl ?_
        refine w_ic_ne rfl (fun c6 => ?_) (fun c6 => ?_)
        · replace h := ifn h c6
          exact Wp_fgt (fg_s (fg_s (fg_s (fg_s fg_e)))) (J_X6_shelf_46 _ _ _ _ _ _ _ h)
        · replace h := ifp h (Classical.not_not.mp c6)
          refine w_la rfl rfl ?_
          refine w_gf rfl (mg_51 _ _) rfl ?_
          refine w_li rfl rfl ?_
          obtain ⟨j7, e7, h⟩ := bnd h
          refine a_ia rfl (mr_60 _ _ _) e7 ?_
          refine w_if_ge rfl (fun c8 => ?_) (fun c8 => ?_)
          · replace h := ifp h c8
            exact Wp_fgt (fg_s (fg_s (fg_s (fg_s fg_e)))) (J_X6_shelf_46 _ _ _ _ _ _ _ h)
          · replace h := ifn h c8
            exact Wp_fgt (fg_s (fg_s (fg_s (fg_s fg_e)))) (J_X6_shelf_42 _ _ _ _ _ _ _ h)
    · replace h := ifp h (Classical.not_not.mp c4)
      refine w_ci rfl ?_
      exact a_ri rfl h
-- X6_kindOn
set_option maxRecDepth 100000 in
theorem T_X6_kindOn  {x1 : Int32} {s : SS} {t : TT} {q : Int32 × SS × TT} (h : f_X6_kindOn x1 s t = some q) : Wm 193 [.ref 51, .int x1] (mk s t) (Qi q) := by
  refine Wm.of pT_193 (Nat.le_of_ble_eq_true rfl) (L0 := [some (.ref 51), some (.int x1)]) rfl ?_
  unfold f_X6_kindOn at h
  refine w_la rfl rfl ?_
  refine w_gf rfl (mg_51 _ _) rfl ?_
  refine w_li rfl rfl ?_
  obtain ⟨j1, e1, h⟩ := bnd h
  refine a_ia rfl (mr_63 _ _ _) e1 ?_
  refine w_if_eq rfl (fun c2 => ?_) (fun c2 => ?_)
  · replace h := ifp h c2
    refine w_la rfl rfl ?_
    refine w_la rfl rfl ?_
    refine w_gf rfl (mg_51 _ _) rfl ?_
    refine w_li rfl rfl ?_
    obtain ⟨j3, e3, h⟩ := bnd h
    refine a_ia rfl (mr_64 _ _ _) e3 ?_
    obtain ⟨q4, e4, h⟩ := bnd h
    refine a_vi1i rfl (mg_51 _ _) (Nat.le_of_ble_eq_true rfl) (T_X6_isOne e4) ?_
    refine w_if_eq rfl (fun c5 => ?_) (fun c5 => ?_)
    · replace h := ifp h c5
      refine w_ci rfl ?_
      exact a_ri rfl h
    · replace h := ifn h c5
      refine w_la rfl rfl ?_
      refine w_la rfl rfl ?_
      refine w_gf rfl (mg_51 _ _) rfl ?_
      refine w_li rfl rfl ?_
      obtain ⟨j6, e6, h⟩ := bnd h
      refine a_ia rfl (mr_64 _ _ _) e6 ?_
      refine w_ci rfl ?_
      obtain ⟨q7, e7, h⟩ := bnd h
      refine a_vi2i rfl (mg_51 _ _) (Nat.le_of_ble_eq_true rfl) (T_X6_its e7) ?_
      refine w_go rfl ?_
      exact a_ri rfl h
  · replace h := ifn h c2
    refine w_la rfl rfl ?_
    refine w_gf rfl (mg_51 _ _) rfl ?_
    refine w_li rfl rfl ?_
    obtain ⟨j8, e8, h⟩ := bnd h
    refine a_ia rfl (mr_63 _ _ _) e8 ?_
    refine w_if_ge rfl (fun c9 => ?_) (fun c9 => ?_)
    · replace h := ifp h c9
      refine w_ci rfl ?_
      exact a_ri rfl h
    · replace h := ifn h c9
      refine w_ci rfl ?_
      refine w_go rfl ?_
      exact a_ri rfl h
-- X6_isUnder
set_option maxRecDepth 100000 in
theorem J_X6_isUnder_19  : ∀ (x0 : Int32) (x1 : Int32) (s : SS) (t : TT) (q : Int32 × SS × TT), j_X6_isUnder_19 x0 x1 s t = some q → Wp pl_Kc 194 19 [some (.int x0), some (.int x1)] [] (mk s t) (Qi q) := by
  intro x0 x1 s t q h
  unfold j_X6_isUnder_19 at h
  refine w_li rfl rfl ?_
  refine w_ci rfl ?_
  refine w_ic_ne rfl (fun c1 => ?_) (fun c1 => ?_)
  · replace h := ifn h c1
    refine w_ci rfl ?_
    exact a_rz rfl (by decide) h
  · replace h := ifp h (Classical.not_not.mp c1)
    refine w_li rfl rfl ?_
    refine w_ci rfl ?_
    refine w_ic_ne rfl (fun c2 => ?_) (fun c2 => ?_)
    · replace h := ifn h c2
      refine w_ci rfl ?_
      exact a_rz rfl (by decide) h
    · replace h := ifp h (Classical.not_not.mp c2)
      refine w_ci rfl ?_
      refine w_go rfl ?_
      exact a_rz rfl (by decide) h
set_option maxRecDepth 100000 in
theorem T_X6_isUnder  {x0 : Int32} {x1 : Int32} {s : SS} {t : TT} {q : Int32 × SS × TT} (h : f_X6_isUnder x0 x1 s t = some q) : Wm 194 [.int x0, .int x1] (mk s t) (Qi q) := by
  refine Wm.of pT_194 (Nat.le_of_ble_eq_true rfl) (L0 := [some (.int x0), some (.int x1)]) rfl ?_
  unfold f_X6_isUnder at h
  refine w_li rfl rfl ?_
  refine w_if_eq rfl (fun c1 => ?_) (fun c1 => ?_)
  · replace h := ifp h c1
    refine w_ci rfl ?_
    refine w_go rfl ?_
    exact a_rz rfl (by decide) h
  · replace h := ifn h c1
    refine w_li rfl rfl ?_
    refine w_li rfl rfl ?_
    refine w_ic_eq rfl (fun c2 => ?_) (fun c2 => ?_)
    · replace h := ifp h c2
      refine w_ci rfl ?_
      refine w_go rfl ?_
      exact a_rz rfl (by decide) h
    · replace h := ifn h c2
      refine w_li rfl rfl ?_
      refine w_ci rfl ?_
      refine w_ic_ne rfl (fun c3 => ?_) (fun c3 => ?_)
      · replace h := ifn h c3
        exact Wp_fgt (fg_s (fg_s fg_e)) (J_X6_isUnder_19 _ _ _ _ _ h)
      · replace h := ifp h (Classical.not_not.mp c3)
        refine w_li rfl rfl ?_
        refine w_ci rfl ?_
        refine w_ic_eq rfl (fun c4 => ?_) (fun c4 => ?_)
        · replace h := ifp h c4
          refine w_ci rfl ?_
          refine w_go rfl ?_
          exact a_rz rfl (by decide) h
        · replace h := ifn h c4
          exact Wp_fgt (fg_s (fg_s fg_e)) (J_X6_isUnder_19 _ _ _ _ _ h)
-- X6_taken
set_option maxRecDepth 100000 in
theorem J_X6_taken_29  : ∀ (x1 : Int32) (x2 : Int32) (s : SS) (t : TT) (q : Int32 × SS × TT), j_X6_taken_29 x1 x2 s t = some q → Wp pl_Kc 195 29 [some (.ref 51), some (.int x1), some (.int x2), none] [] (mk s t) (Qi q) := by
  intro x1 x2 s t q h
  unfold j_X6_taken_29 at h
  refine w_la rfl rfl ?_
  refine w_li rfl rfl ?_
  obtain ⟨q1, e1, h⟩ := bnd h
  refine a_vi1i rfl (mg_51 _ _) (Nat.le_of_ble_eq_true rfl) (T_X6_kindOn e1) ?_
  refine w_si rfl (Nat.le_of_ble_eq_true rfl) rfl ?_
  refine w_li rfl rfl ?_
  refine w_if_ge rfl (fun c2 => ?_) (fun c2 => ?_)
  · replace h := ifp h c2
    refine w_li rfl rfl ?_
    refine w_ci rfl ?_
    refine w_ic_ne rfl (fun c3 => ?_) (fun c3 => ?_)
    · replace h := ifn h c3
      refine w_li rfl rfl ?_
      refine w_ci rfl ?_
      refine w_ic_ge rfl (fun c4 => ?_) (fun c4 => ?_)
      · replace h := ifp h c4
        refine w_ci rfl ?_
        exact a_ri rfl h
      · replace h := ifn h c4
        refine w_li rfl rfl ?_
        refine w_li rfl rfl ?_
        obtain ⟨q5, e5, h⟩ := bnd h
        refine a_st2i rfl (Nat.le_of_ble_eq_true rfl) (T_X6_isUnder e5) ?_
        refine w_if_eq rfl (fun c6 => ?_) (fun c6 => ?_)
        · replace h := ifp h c6
          refine w_ci rfl ?_
          exact a_ri rfl h
        · replace h := ifn h c6
          refine w_la rfl rfl ?_
          refine w_gf rfl (mg_51 _ _) rfl ?_
          refine w_li rfl rfl ?_
          obtain ⟨j7, e7, h⟩ := bnd h
          refine a_ia rfl (mr_64 _ _ _) e7 ?_
          refine w_go rfl ?_
          exact a_ri rfl h
    · replace h := ifp h (Classical.not_not.mp c3)
      refine w_li rfl rfl ?_
      refine w_ci rfl ?_
      refine w_la rfl rfl ?_
      refine w_gf rfl (mg_51 _ _) rfl ?_
      refine w_li rfl rfl ?_
      obtain ⟨j8, e8, h⟩ := bnd h
      refine a_ia rfl (mr_64 _ _ _) e8 ?_
      refine w_iadd rfl ?_
      refine w_ic_ne rfl (fun c9 => ?_) (fun c9 => ?_)
      · replace h := ifn h c9
        refine w_ci rfl ?_
        exact a_ri rfl h
      · replace h := ifp h (Classical.not_not.mp c9)
        refine w_la rfl rfl ?_
        refine w_gf rfl (mg_51 _ _) rfl ?_
        refine w_li rfl rfl ?_
        obtain ⟨j10, e10, h⟩ := bnd h
        refine a_ia rfl (mr_65 _ _ _) e10 ?_
        refine w_go rfl ?_
        exact a_ri rfl h
  · replace h := ifn h c2
    refine w_ci rfl ?_
    exact a_ri rfl h
set_option maxRecDepth 100000 in
theorem T_X6_taken  {x1 : Int32} {x2 : Int32} {s : SS} {t : TT} {q : Int32 × SS × TT} (h : f_X6_taken x1 x2 s t = some q) : Wm 195 [.ref 51, .int x1, .int x2] (mk s t) (Qi q) := by
  refine Wm.of pT_195 (Nat.le_of_ble_eq_true rfl) (L0 := [some (.ref 51), some (.int x1), some (.int x2), none]) rfl ?_
  unfold f_X6_taken at h
  refine w_li rfl rfl ?_
  obtain ⟨q1, e1, h⟩ := bnd h
  refine a_st1i rfl (Nat.le_of_ble_eq_true rfl) (T_X6_isShelf e1) ?_
  refine w_if_eq rfl (fun c2 => ?_) (fun c2 => ?_)
  · replace h := ifp h c2
    refine w_ci rfl ?_
    exact a_ri rfl h
  · replace h := ifn h c2
    refine w_li rfl rfl ?_
    refine w_ci rfl ?_
    refine w_ci rfl ?_
    obtain ⟨q3, e3, h⟩ := bnd h
    refine a_st3i rfl (Nat.le_of_ble_eq_true rfl) (T_X6_in e3) ?_
    refine w_if_ne rfl (fun c4 => ?_) (fun c4 => ?_)
    · replace h := ifn h c4
      exact Wp_fgt (fg_s (fg_s (fg_s (fg_n fg_e)))) (J_X6_taken_29 _ _ _ _ _ h)
    · replace h := ifp h (Classical.not_not.mp c4)
      refine w_li rfl rfl ?_
      refine w_ci rfl ?_
      refine w_ci rfl ?_
      obtain ⟨q5, e5, h⟩ := bnd h
      refine a_st3i rfl (Nat.le_of_ble_eq_true rfl) (T_X6_in e5) ?_
      refine w_if_ne rfl (fun c6 => ?_) (fun c6 => ?_)
      · replace h := ifn h c6
        exact Wp_fgt (fg_s (fg_s (fg_s (fg_n fg_e)))) (J_X6_taken_29 _ _ _ _ _ h)
      · replace h := ifp h (Classical.not_not.mp c6)
        refine w_ci rfl ?_
        exact a_ri rfl h
-- X6_ran
set_option maxRecDepth 100000 in
theorem T_X6_ran  {x1 : Int32} {s : SS} {t : TT} {q : SS × TT} (h : f_X6_ran x1 s t = some q) : Wm 196 [.ref 51, .int x1] (mk s t) (Qv q) := by
  refine Wm.of pT_196 (Nat.le_of_ble_eq_true rfl) (L0 := [some (.ref 51), some (.int x1)]) rfl ?_
  unfold f_X6_ran at h
  refine w_la rfl rfl ?_
  refine w_gf rfl (mg_51 _ _) rfl ?_
  refine w_ci rfl ?_
  refine w_ic_ge rfl (fun c1 => ?_) (fun c1 => ?_)
  · replace h := ifp h c1
    exact a_rv rfl h
  · replace h := ifn h c1
    refine w_la rfl rfl ?_
    refine w_gf rfl (mg_51 _ _) rfl ?_
    refine w_la rfl rfl ?_
    refine w_gf rfl (mg_51 _ _) rfl ?_
    refine w_li rfl rfl ?_
    obtain ⟨j2, e2, h⟩ := bnd h
    refine a_is rfl (mg_66 _ _) (ms_66 _ _) e2 (fun s2 w2 => ?_)
    replace h := wr_of h s2 w2
    refine w_la rfl rfl ?_
    refine w_dup rfl rfl ?_
    refine w_gf rfl (mg_51 _ _) rfl ?_
    refine w_ci rfl ?_
    refine w_iadd rfl ?_
    refine a_pf rfl rfl (mg_51 _ _) (Nat.le_of_ble_eq_true rfl) (ms_51_28 _ _) (fun s3 e3 => ?_)
    replace h := wr_of h s3 e3
    exact a_rv rfl h
-- X6_plainThinks
set_option maxRecDepth 100000 in
theorem T_X6_plainThinks  {x1 : Int32} {s : SS} {t : TT} {q : Int32 × SS × TT} (h : f_X6_plainThinks x1 s t = some q) : Wm 197 [.ref 51, .int x1] (mk s t) (Qi q) := by
  refine Wm.of pT_197 (Nat.le_of_ble_eq_true rfl) (L0 := [some (.ref 51), some (.int x1)]) rfl ?_
  unfold f_X6_plainThinks at h
  refine w_la rfl rfl ?_
  refine w_ci rfl ?_
  obtain ⟨q1, e1, h⟩ := bnd h
  refine a_vi1v rfl (mg_51 _ _) (Nat.le_of_ble_eq_true rfl) (T_X6_ran e1) ?_
  refine w_li rfl rfl ?_
  refine w_ci rfl ?_
  refine w_imul rfl ?_
  refine w_la rfl rfl ?_
  refine w_gf rfl (mg_51 _ _) rfl ?_
  refine w_isub rfl ?_
  exact a_ri rfl h
-- X6_widowThinks
set_option maxRecDepth 100000 in
theorem T_X6_widowThinks  {x1 : Int32} {s : SS} {t : TT} {q : Int32 × SS × TT} (h : f_X6_widowThinks x1 s t = some q) : Wm 198 [.ref 51, .int x1] (mk s t) (Qi q) := by
  refine Wm.of pT_198 (Nat.le_of_ble_eq_true rfl) (L0 := [some (.ref 51), some (.int x1)]) rfl ?_
  unfold f_X6_widowThinks at h
  refine w_la rfl rfl ?_
  refine w_ci rfl ?_
  obtain ⟨q1, e1, h⟩ := bnd h
  refine a_vi1v rfl (mg_51 _ _) (Nat.le_of_ble_eq_true rfl) (T_X6_ran e1) ?_
  refine w_la rfl rfl ?_
  refine w_li rfl rfl ?_
  obtain ⟨q2, e2, h⟩ := bnd h
  refine a_vi1i rfl (mg_51 _ _) (Nat.le_of_ble_eq_true rfl) (T_X6_plainThinks e2) ?_
  refine w_ineg rfl ?_
  exact a_ri rfl h
-- X6_thinksIt
set_option maxRecDepth 100000 in
theorem T_X6_thinksIt  {x1 : Int32} {s : SS} {t : TT} {q : Int32 × SS × TT} (h : f_X6_thinksIt x1 s t = some q) : Wm 199 [.ref 51, .int x1] (mk s t) (Qi q) := by
  refine Wm.of pT_199 (Nat.le_of_ble_eq_true rfl) (L0 := [some (.ref 51), some (.int x1)]) rfl ?_
  unfold f_X6_thinksIt at h
  refine w_la rfl rfl ?_
  refine w_gf rfl (mg_51 _ _) rfl ?_
  by_cases c1 : (s 51 24) = 2
  · replace h := ifp h c1
    refine w_swI rfl (tg := 32) (by rw [c1]; decide +kernel) ?_
    refine w_la rfl rfl ?_
    refine w_li rfl rfl ?_
    obtain ⟨q2, e2, h⟩ := bnd h
    refine a_vi1i rfl (mg_51 _ _) (Nat.le_of_ble_eq_true rfl) (T_X6_widowThinks e2) ?_
    exact a_ri rfl h
  replace h := ifn h c1
  by_cases c3 : (s 51 24) = 3
  · replace h := ifp h c3
    refine w_swI rfl (tg := 52) (by rw [c3]; decide +kernel) ?_
    refine w_la rfl rfl ?_
    refine w_ci rfl ?_
    obtain ⟨q4, e4, h⟩ := bnd h
    refine a_vi1v rfl (mg_51 _ _) (Nat.le_of_ble_eq_true rfl) (T_X6_ran e4) ?_
    refine w_la rfl rfl ?_
    refine w_li rfl rfl ?_
    obtain ⟨q5, e5, h⟩ := bnd h
    refine a_vi1i rfl (mg_51 _ _) (Nat.le_of_ble_eq_true rfl) (T_X6_plainThinks e5) ?_
    refine w_la rfl rfl ?_
    refine w_gf rfl (mg_51 _ _) rfl ?_
    refine w_isub rfl ?_
    exact a_ri rfl h
  replace h := ifn h c3
  by_cases c6 : (s 51 24) = 4
  · replace h := ifp h c6
    refine w_swI rfl (tg := 38) (by rw [c6]; decide +kernel) ?_
    refine w_la rfl rfl ?_
    refine w_ci rfl ?_
    obtain ⟨q7, e7, h⟩ := bnd h
    refine a_vi1v rfl (mg_51 _ _) (Nat.le_of_ble_eq_true rfl) (T_X6_ran e7) ?_
    refine w_la rfl rfl ?_
    refine w_li rfl rfl ?_
    obtain ⟨q8, e8, h⟩ := bnd h
    refine a_vi1i rfl (mg_51 _ _) (Nat.le_of_ble_eq_true rfl) (T_X6_widowThinks e8) ?_
    refine w_ci rfl ?_
    refine w_iadd rfl ?_
    exact a_ri rfl h
  replace h := ifn h c6
  refine w_swI rfl (tg := 69) (sw_df (zs := [2, 3, 4]) (swz_c (i32ne c1 rfl) (swz_c (i32ne c3 rfl) (swz_c (i32ne c6 rfl) swz_n))) (by decide +kernel)) ?_
  refine w_la rfl rfl ?_
  refine w_li rfl rfl ?_
  obtain ⟨q9, e9, h⟩ := bnd h
  refine a_vi1i rfl (mg_51 _ _) (Nat.le_of_ble_eq_true rfl) (T_X6_plainThinks e9) ?_
  exact a_ri rfl h
-- X6_plainAsks
set_option maxRecDepth 100000 in
theorem T_X6_plainAsks  {x1 : Int32} {s : SS} {t : TT} {q : Int32 × SS × TT} (h : f_X6_plainAsks x1 s t = some q) : Wm 200 [.ref 51, .int x1] (mk s t) (Qi q) := by
  refine Wm.of pT_200 (Nat.le_of_ble_eq_true rfl) (L0 := [some (.ref 51), some (.int x1)]) rfl ?_
  unfold f_X6_plainAsks at h
  refine w_la rfl rfl ?_
  refine w_ci rfl ?_
  obtain ⟨q1, e1, h⟩ := bnd h
  refine a_vi1v rfl (mg_51 _ _) (Nat.le_of_ble_eq_true rfl) (T_X6_ran e1) ?_
  refine w_la rfl rfl ?_
  refine w_li rfl rfl ?_
  obtain ⟨q2, e2, h⟩ := bnd h
  refine a_vi1i rfl (mg_51 _ _) (Nat.le_of_ble_eq_true rfl) (T_X6_thinksIt e2) ?_
  refine w_la rfl rfl ?_
  refine w_gf rfl (mg_51 _ _) rfl ?_
  refine w_iadd rfl ?_
  exact a_ri rfl h
-- X6_asksIt
set_option maxRecDepth 100000 in
theorem J_X6_asksIt_16  : ∀ (x1 : Int32) (s : SS) (t : TT) (q : Int32 × SS × TT), j_X6_asksIt_16 x1 s t = some q → Wp pl_Kc 201 16 [some (.ref 51), some (.int x1), none] [] (mk s t) (Qi q) := by
  intro x1 s t q h
  unfold j_X6_asksIt_16 at h
  refine w_la rfl rfl ?_
  refine w_ci rfl ?_
  obtain ⟨q1, e1, h⟩ := bnd h
  refine a_vi1v rfl (mg_51 _ _) (Nat.le_of_ble_eq_true rfl) (T_X6_ran e1) ?_
  refine w_la rfl rfl ?_
  refine w_li rfl rfl ?_
  obtain ⟨q2, e2, h⟩ := bnd h
  refine a_vi1i rfl (mg_51 _ _) (Nat.le_of_ble_eq_true rfl) (T_X6_plainAsks e2) ?_
  refine w_ci rfl ?_
  refine w_imul rfl ?_
  exact a_ri rfl h
set_option maxRecDepth 100000 in
theorem T_X6_asksIt  {x1 : Int32} {s : SS} {t : TT} {q : Int32 × SS × TT} (h : f_X6_asksIt x1 s t = some q) : Wm 201 [.ref 51, .int x1] (mk s t) (Qi q) := by
  refine Wm.of pT_201 (Nat.le_of_ble_eq_true rfl) (L0 := [some (.ref 51), some (.int x1), none]) rfl ?_
  unfold f_X6_asksIt at h
  refine w_la rfl rfl ?_
  refine w_gf rfl (mg_51 _ _) rfl ?_
  refine w_ci rfl ?_
  refine w_ic_eq rfl (fun c1 => ?_) (fun c1 => ?_)
  · replace h := ifp h c1
    exact Wp_fgt (fg_s (fg_s (fg_n fg_e))) (J_X6_asksIt_16 _ _ _ _ h)
  · replace h := ifn h c1
    refine w_la rfl rfl ?_
    refine w_gf rfl (mg_51 _ _) rfl ?_
    refine w_ci rfl ?_
    refine w_ic_ne rfl (fun c2 => ?_) (fun c2 => ?_)
    · replace h := ifn h c2
      refine w_la rfl rfl ?_
      refine w_gf rfl (mg_51 _ _) rfl ?_
      refine w_ci rfl ?_
      refine w_ic_ne rfl (fun c3 => ?_) (fun c3 => ?_)
      · replace h := ifn h c3
        refine w_la rfl rfl ?_
        refine w_li rfl rfl ?_
        obtain ⟨q4, e4, h⟩ := bnd h
        refine a_vi1i rfl (mg_51 _ _) (Nat.le_of_ble_eq_true rfl) (T_X6_plainAsks e4) ?_
        exact a_ri rfl h
      · replace h := ifp h (Classical.not_not.mp c3)
        refine w_la rfl rfl ?_
        refine w_ci rfl ?_
        obtain ⟨q5, e5, h⟩ := bnd h
        refine a_vi1v rfl (mg_51 _ _) (Nat.le_of_ble_eq_true rfl) (T_X6_ran e5) ?_
        refine w_la rfl rfl ?_
        refine w_li rfl rfl ?_
        obtain ⟨q6, e6, h⟩ := bnd h
        refine a_vi1i rfl (mg_51 _ _) (Nat.le_of_ble_eq_true rfl) (T_X6_plainAsks e6) ?_
        refine w_si rfl (Nat.le_of_ble_eq_true rfl) rfl ?_
        refine w_li rfl rfl ?_
        refine w_la rfl rfl ?_
        refine w_la rfl rfl ?_
        refine w_gf rfl (mg_51 _ _) rfl ?_
        obtain ⟨q7, e7, h⟩ := bnd h
        refine a_vi1i rfl (mg_51 _ _) (Nat.le_of_ble_eq_true rfl) (T_X6_thinksIt e7) ?_
        refine w_ixor rfl ?_
        exact a_ri rfl h
    · replace h := ifp h (Classical.not_not.mp c2)
      exact Wp_fgt (fg_s (fg_s (fg_n fg_e))) (J_X6_asksIt_16 _ _ _ _ h)
-- X6_plainParts
set_option maxRecDepth 100000 in
theorem T_X6_plainParts  {x1 : Int32} {s : SS} {t : TT} {q : Int32 × SS × TT} (h : f_X6_plainParts x1 s t = some q) : Wm 202 [.ref 51, .int x1] (mk s t) (Qi q) := by
  refine Wm.of pT_202 (Nat.le_of_ble_eq_true rfl) (L0 := [some (.ref 51), some (.int x1)]) rfl ?_
  unfold f_X6_plainParts at h
  refine w_la rfl rfl ?_
  refine w_ci rfl ?_
  obtain ⟨q1, e1, h⟩ := bnd h
  refine a_vi1v rfl (mg_51 _ _) (Nat.le_of_ble_eq_true rfl) (T_X6_ran e1) ?_
  refine w_la rfl rfl ?_
  refine w_gf rfl (mg_51 _ _) rfl ?_
  refine w_la rfl rfl ?_
  refine w_gf rfl (mg_51 _ _) rfl ?_
  refine w_ic_ne rfl (fun c2 => ?_) (fun c2 => ?_)
  · replace h := ifn h c2
    refine w_li rfl rfl ?_
    refine w_la rfl rfl ?_
    refine w_gf rfl (mg_51 _ _) rfl ?_
    refine w_la rfl rfl ?_
    refine w_gf rfl (mg_51 _ _) rfl ?_
    refine w_isub rfl ?_
    by_cases c3 : ((q1.1 51 26) - (q1.1 51 25)) = 0
    · cases (ifp h c3)
    replace h := ifn h c3
    refine w_idiv rfl c3 ?_
    exact a_ri rfl h
  · replace h := ifp h (Classical.not_not.mp c2)
    refine w_la rfl rfl ?_
    refine w_ci rfl ?_
    refine a_pf rfl rfl (mg_51 _ _) (Nat.le_of_ble_eq_true rfl) (ms_51_29 _ _) (fun s4 e4 => ?_)
    replace h := wr_of h s4 e4
    refine w_ci rfl ?_
    exact a_ri rfl h
-- X6_partsIt
set_option maxRecDepth 100000 in
theorem T_X6_partsIt  {x1 : Int32} {s : SS} {t : TT} {q : Int32 × SS × TT} (h : f_X6_partsIt x1 s t = some q) : Wm 203 [.ref 51, .int x1] (mk s t) (Qi q) := by
  refine Wm.of pT_203 (Nat.le_of_ble_eq_true rfl) (L0 := [some (.ref 51), some (.int x1), none]) rfl ?_
  unfold f_X6_partsIt at h
  refine w_la rfl rfl ?_
  refine w_gf rfl (mg_51 _ _) rfl ?_
  refine w_ci rfl ?_
  refine w_ic_ne rfl (fun c1 => ?_) (fun c1 => ?_)
  · replace h := ifn h c1
    refine w_la rfl rfl ?_
    refine w_gf rfl (mg_51 _ _) rfl ?_
    refine w_ci rfl ?_
    refine w_ic_ne rfl (fun c2 => ?_) (fun c2 => ?_)
    · replace h := ifn h c2
      refine w_la rfl rfl ?_
      refine w_li rfl rfl ?_
      obtain ⟨q3, e3, h⟩ := bnd h
      refine a_vi1i rfl (mg_51 _ _) (Nat.le_of_ble_eq_true rfl) (T_X6_plainParts e3) ?_
      exact a_ri rfl h
    · replace h := ifp h (Classical.not_not.mp c2)
      refine w_la rfl rfl ?_
      refine w_ci rfl ?_
      obtain ⟨q4, e4, h⟩ := bnd h
      refine a_vi1v rfl (mg_51 _ _) (Nat.le_of_ble_eq_true rfl) (T_X6_ran e4) ?_
      refine w_la rfl rfl ?_
      refine w_li rfl rfl ?_
      obtain ⟨q5, e5, h⟩ := bnd h
      refine a_vi1i rfl (mg_51 _ _) (Nat.le_of_ble_eq_true rfl) (T_X6_plainParts e5) ?_
      refine w_si rfl (Nat.le_of_ble_eq_true rfl) rfl ?_
      refine w_la rfl rfl ?_
      refine w_gf rfl (mg_51 _ _) rfl ?_
      refine w_if_eq rfl (fun c6 => ?_) (fun c6 => ?_)
      · replace h := ifp h c6
        refine w_li rfl rfl ?_
        refine w_la rfl rfl ?_
        refine w_la rfl rfl ?_
        refine w_gf rfl (mg_51 _ _) rfl ?_
        obtain ⟨q7, e7, h⟩ := bnd h
        refine a_vi1i rfl (mg_51 _ _) (Nat.le_of_ble_eq_true rfl) (T_X6_thinksIt e7) ?_
        refine w_isub rfl ?_
        exact a_ri rfl h
      · replace h := ifn h c6
        refine w_ci rfl ?_
        refine w_go rfl ?_
        exact a_ri rfl h
  · replace h := ifp h (Classical.not_not.mp c1)
    refine w_la rfl rfl ?_
    refine w_ci rfl ?_
    obtain ⟨q8, e8, h⟩ := bnd h
    refine a_vi1v rfl (mg_51 _ _) (Nat.le_of_ble_eq_true rfl) (T_X6_ran e8) ?_
    refine w_la rfl rfl ?_
    refine w_li rfl rfl ?_
    refine w_ci rfl ?_
    refine w_imul rfl ?_
    obtain ⟨q9, e9, h⟩ := bnd h
    refine a_vi1i rfl (mg_51 _ _) (Nat.le_of_ble_eq_true rfl) (T_X6_plainParts e9) ?_
    refine w_la rfl rfl ?_
    refine w_gf rfl (mg_51 _ _) rfl ?_
    refine w_isub rfl ?_
    exact a_ri rfl h
-- X6_plainWrites
set_option maxRecDepth 100000 in
theorem T_X6_plainWrites  {x1 : Int32} {s : SS} {t : TT} {q : Int32 × SS × TT} (h : f_X6_plainWrites x1 s t = some q) : Wm 204 [.ref 51, .int x1] (mk s t) (Qi q) := by
  refine Wm.of pT_204 (Nat.le_of_ble_eq_true rfl) (L0 := [some (.ref 51), some (.int x1)]) rfl ?_
  unfold f_X6_plainWrites at h
  refine w_la rfl rfl ?_
  refine w_ci rfl ?_
  obtain ⟨q1, e1, h⟩ := bnd h
  refine a_vi1v rfl (mg_51 _ _) (Nat.le_of_ble_eq_true rfl) (T_X6_ran e1) ?_
  refine w_la rfl rfl ?_
  refine w_li rfl rfl ?_
  obtain ⟨q2, e2, h⟩ := bnd h
  refine a_vi1i rfl (mg_51 _ _) (Nat.le_of_ble_eq_true rfl) (T_X6_asksIt e2) ?_
  refine w_ci rfl ?_
  refine w_ixor rfl ?_
  exact a_ri rfl h
-- X6_writesIt
set_option maxRecDepth 100000 in
theorem J_X6_writesIt_16  : ∀ (x1 : Int32) (s : SS) (t : TT) (q : Int32 × SS × TT), j_X6_writesIt_16 x1 s t = some q → Wp pl_Kc 205 16 [some (.ref 51), some (.int x1), none] [] (mk s t) (Qi q) := by
  intro x1 s t q h
  unfold j_X6_writesIt_16 at h
  refine w_la rfl rfl ?_
  refine w_ci rfl ?_
  obtain ⟨q1, e1, h⟩ := bnd h
  refine a_vi1v rfl (mg_51 _ _) (Nat.le_of_ble_eq_true rfl) (T_X6_ran e1) ?_
  refine w_la rfl rfl ?_
  refine w_li rfl rfl ?_
  obtain ⟨q2, e2, h⟩ := bnd h
  refine a_vi1i rfl (mg_51 _ _) (Nat.le_of_ble_eq_true rfl) (T_X6_plainWrites e2) ?_
  refine w_si rfl (Nat.le_of_ble_eq_true rfl) rfl ?_
  refine w_li rfl rfl ?_
  refine w_la rfl rfl ?_
  refine w_la rfl rfl ?_
  refine w_gf rfl (mg_51 _ _) rfl ?_
  obtain ⟨q3, e3, h⟩ := bnd h
  refine a_vi1i rfl (mg_51 _ _) (Nat.le_of_ble_eq_true rfl) (T_X6_partsIt e3) ?_
  refine w_iadd rfl ?_
  exact a_ri rfl h
set_option maxRecDepth 100000 in
theorem T_X6_writesIt  {x1 : Int32} {s : SS} {t : TT} {q : Int32 × SS × TT} (h : f_X6_writesIt x1 s t = some q) : Wm 205 [.ref 51, .int x1] (mk s t) (Qi q) := by
  refine Wm.of pT_205 (Nat.le_of_ble_eq_true rfl) (L0 := [some (.ref 51), some (.int x1), none]) rfl ?_
  unfold f_X6_writesIt at h
  refine w_la rfl rfl ?_
  refine w_gf rfl (mg_51 _ _) rfl ?_
  refine w_ci rfl ?_
  refine w_ic_eq rfl (fun c1 => ?_) (fun c1 => ?_)
  · replace h := ifp h c1
    exact Wp_fgt (fg_s (fg_s (fg_n fg_e))) (J_X6_writesIt_16 _ _ _ _ h)
  · replace h := ifn h c1
    refine w_la rfl rfl ?_
    refine w_gf rfl (mg_51 _ _) rfl ?_
    refine w_ci rfl ?_
    refine w_ic_ne rfl (fun c2 => ?_) (fun c2 => ?_)
    · replace h := ifn h c2
      refine w_la rfl rfl ?_
      refine w_gf rfl (mg_51 _ _) rfl ?_
      refine w_ci rfl ?_
      refine w_ic_ne rfl (fun c3 => ?_) (fun c3 => ?_)
      · replace h := ifn h c3
        refine w_la rfl rfl ?_
        refine w_li rfl rfl ?_
        obtain ⟨q4, e4, h⟩ := bnd h
        refine a_vi1i rfl (mg_51 _ _) (Nat.le_of_ble_eq_true rfl) (T_X6_plainWrites e4) ?_
        exact a_ri rfl h
      · replace h := ifp h (Classical.not_not.mp c3)
        refine w_la rfl rfl ?_
        refine w_ci rfl ?_
        obtain ⟨q5, e5, h⟩ := bnd h
        refine a_vi1v rfl (mg_51 _ _) (Nat.le_of_ble_eq_true rfl) (T_X6_ran e5) ?_
        refine w_ci rfl ?_
        refine w_la rfl rfl ?_
        refine w_li rfl rfl ?_
        obtain ⟨q6, e6, h⟩ := bnd h
        refine a_vi1i rfl (mg_51 _ _) (Nat.le_of_ble_eq_true rfl) (T_X6_plainWrites e6) ?_
        refine w_isub rfl ?_
        exact a_ri rfl h
    · replace h := ifp h (Classical.not_not.mp c2)
      exact Wp_fgt (fg_s (fg_s (fg_n fg_e))) (J_X6_writesIt_16 _ _ _ _ h)
-- X6_act
set_option maxRecDepth 100000 in
theorem J_X6_act_121  : ∀ (y0 : Int32) (s : SS) (t : TT) (q : Int32 × SS × TT), j_X6_act_121 y0 s t = some q → Wp pl_Kc 206 121 [some (.ref 51), none, none, none, none, none] [.int y0] (mk s t) (Qi q) := by
  intro y0 s t q h
  unfold j_X6_act_121 at h
  refine w_si rfl (Nat.le_of_ble_eq_true rfl) rfl ?_
  refine w_la rfl rfl ?_
  refine w_gf rfl (mg_51 _ _) rfl ?_
  refine w_if_eq rfl (fun c1 => ?_) (fun c1 => ?_)
  · replace h := ifp h c1
    refine w_li rfl rfl ?_
    exact a_ri rfl h
  · replace h := ifn h c1
    refine w_ci rfl ?_
    refine w_go rfl ?_
    exact a_ri rfl h
set_option maxRecDepth 100000 in
theorem J_X6_act_21  : ∀ (x1 : Int32) (x2 : Int32) (x3 : Int32) (y0 : Int32) (s : SS) (t : TT) (q : Int32 × SS × TT), j_X6_act_21 x1 x2 x3 y0 s t = some q → Wp pl_Kc 206 21 [some (.ref 51), some (.int x1), some (.int x2), some (.int x3), none, none] [.int y0] (mk s t) (Qi q) := by
  intro x1 x2 x3 y0 s t q h
  unfold j_X6_act_21 at h
  refine w_si rfl (Nat.le_of_ble_eq_true rfl) rfl ?_
  refine w_li rfl rfl ?_
  refine w_ci rfl ?_
  refine w_ci rfl ?_
  obtain ⟨q1, e1, h⟩ := bnd h
  refine a_st3i rfl (Nat.le_of_ble_eq_true rfl) (T_X6_in e1) ?_
  refine w_if_eq rfl (fun c2 => ?_) (fun c2 => ?_)
  · replace h := ifp h c2
    refine w_ci rfl ?_
    exact a_ri rfl h
  · replace h := ifn h c2
    refine w_li rfl rfl ?_
    refine w_ci rfl ?_
    refine w_ci rfl ?_
    obtain ⟨q3, e3, h⟩ := bnd h
    refine a_st3i rfl (Nat.le_of_ble_eq_true rfl) (T_X6_in e3) ?_
    refine w_if_ne rfl (fun c4 => ?_) (fun c4 => ?_)
    · replace h := ifn h c4
      refine w_la rfl rfl ?_
      refine w_li rfl rfl ?_
      refine a_pf rfl rfl (mg_51 _ _) (Nat.le_of_ble_eq_true rfl) (ms_51_24 _ _) (fun s5 e5 => ?_)
      replace h := wr_of h s5 e5
      refine w_la rfl rfl ?_
      refine w_la rfl rfl ?_
      refine w_gf rfl (mg_51 _ _) rfl ?_
      refine w_li rfl rfl ?_
      obtain ⟨j6, e6, h⟩ := bnd h
      refine a_ia rfl (mr_64 _ _ _) e6 ?_
      refine a_pf rfl rfl (mg_51 _ _) (Nat.le_of_ble_eq_true rfl) (ms_51_25 _ _) (fun s7 e7 => ?_)
      replace h := wr_of h s7 e7
      refine w_la rfl rfl ?_
      refine w_la rfl rfl ?_
      refine w_la rfl rfl ?_
      refine w_gf rfl (mg_51 _ _) rfl ?_
      refine w_ci rfl ?_
      obtain ⟨q8, e8, h⟩ := bnd h
      refine a_vi2i rfl (mg_51 _ _) (Nat.le_of_ble_eq_true rfl) (T_X6_its e8) ?_
      refine a_pf rfl rfl (mg_51 _ _) (Nat.le_of_ble_eq_true rfl) (ms_51_26 _ _) (fun s9 e9 => ?_)
      replace h := wr_of h s9 e9
      refine w_la rfl rfl ?_
      refine w_ci rfl ?_
      refine a_pf rfl rfl (mg_51 _ _) (Nat.le_of_ble_eq_true rfl) (ms_51_29 _ _) (fun s10 e10 => ?_)
      replace h := wr_of h s10 e10
      refine w_li rfl rfl ?_
      refine w_if_ne rfl (fun c11 => ?_) (fun c11 => ?_)
      · replace h := ifn h c11
        refine w_li rfl rfl ?_
        refine w_ci rfl ?_
        refine w_ic_ne rfl (fun c12 => ?_) (fun c12 => ?_)
        · replace h := ifn h c12
          refine w_li rfl rfl ?_
          refine w_ci rfl ?_
          refine w_ic_ne rfl (fun c13 => ?_) (fun c13 => ?_)
          · replace h := ifn h c13
            refine w_la rfl rfl ?_
            refine w_li rfl rfl ?_
            obtain ⟨q14, e14, h⟩ := bnd h
            refine a_vi1i rfl (mg_51 _ _) (Nat.le_of_ble_eq_true rfl) (T_X6_writesIt e14) ?_
            exact Wp_fgt (fg_s (fg_n (fg_n (fg_n (fg_n (fg_n fg_e)))))) (J_X6_act_121 _ _ _ _ h)
          · replace h := ifp h (Classical.not_not.mp c13)
            refine w_la rfl rfl ?_
            refine w_li rfl rfl ?_
            obtain ⟨q15, e15, h⟩ := bnd h
            refine a_vi1i rfl (mg_51 _ _) (Nat.le_of_ble_eq_true rfl) (T_X6_partsIt e15) ?_
            refine w_go rfl ?_
            exact Wp_fgt (fg_s (fg_n (fg_n (fg_n (fg_n (fg_n fg_e)))))) (J_X6_act_121 _ _ _ _ h)
        · replace h := ifp h (Classical.not_not.mp c12)
          refine w_la rfl rfl ?_
          refine w_li rfl rfl ?_
          obtain ⟨q16, e16, h⟩ := bnd h
          refine a_vi1i rfl (mg_51 _ _) (Nat.le_of_ble_eq_true rfl) (T_X6_asksIt e16) ?_
          refine w_go rfl ?_
          exact Wp_fgt (fg_s (fg_n (fg_n (fg_n (fg_n (fg_n fg_e)))))) (J_X6_act_121 _ _ _ _ h)
      · replace h := ifp h (Classical.not_not.mp c11)
        refine w_la rfl rfl ?_
        refine w_li rfl rfl ?_
        obtain ⟨q17, e17, h⟩ := bnd h
        refine a_vi1i rfl (mg_51 _ _) (Nat.le_of_ble_eq_true rfl) (T_X6_thinksIt e17) ?_
        refine w_go rfl ?_
        exact Wp_fgt (fg_s (fg_n (fg_n (fg_n (fg_n (fg_n fg_e)))))) (J_X6_act_121 _ _ _ _ h)
    · replace h := ifp h (Classical.not_not.mp c4)
      refine w_ci rfl ?_
      exact a_ri rfl h
set_option maxRecDepth 100000 in
theorem T_X6_act  {x1 : Int32} {x2 : Int32} {x3 : Int32} {s : SS} {t : TT} {q : Int32 × SS × TT} (h : f_X6_act x1 x2 x3 s t = some q) : Wm 206 [.ref 51, .int x1, .int x2, .int x3] (mk s t) (Qi q) := by
  refine Wm.of pT_206 (Nat.le_of_ble_eq_true rfl) (L0 := [some (.ref 51), some (.int x1), some (.int x2), some (.int x3), none, none]) rfl ?_
  unfold f_X6_act at h
  refine w_la rfl rfl ?_
  refine w_ci rfl ?_
  refine a_pf rfl rfl (mg_51 _ _) (Nat.le_of_ble_eq_true rfl) (ms_51_28 _ _) (fun s1 e1 => ?_)
  replace h := wr_of h s1 e1
  refine w_li rfl rfl ?_
  obtain ⟨q2, e2, h⟩ := bnd h
  refine a_st1i rfl (Nat.le_of_ble_eq_true rfl) (T_X6_isShelf e2) ?_
  refine w_if_eq rfl (fun c3 => ?_) (fun c3 => ?_)
  · replace h := ifp h c3
    refine w_ci rfl ?_
    exact Wp_fgt (fg_s (fg_s (fg_s (fg_s (fg_n (fg_n fg_e)))))) (J_X6_act_21 _ _ _ _ _ _ _ h)
  · replace h := ifn h c3
    refine w_la rfl rfl ?_
    refine w_li rfl rfl ?_
    obtain ⟨q4, e4, h⟩ := bnd h
    refine a_vi1i rfl (mg_51 _ _) (Nat.le_of_ble_eq_true rfl) (T_X6_kindOn e4) ?_
    refine w_go rfl ?_
    exact Wp_fgt (fg_s (fg_s (fg_s (fg_s (fg_n (fg_n fg_e)))))) (J_X6_act_21 _ _ _ _ _ _ _ h)
-- X6_trace
set_option maxRecDepth 100000 in
theorem T_X6_trace  {x1 : Int32} {s : SS} {t : TT} {q : Int32 × SS × TT} (h : f_X6_trace x1 s t = some q) : Wm 207 [.ref 51, .int x1] (mk s t) (Qi q) := by
  refine Wm.of pT_207 (Nat.le_of_ble_eq_true rfl) (L0 := [some (.ref 51), some (.int x1)]) rfl ?_
  unfold f_X6_trace at h
  refine w_li rfl rfl ?_
  refine w_ci rfl ?_
  refine w_la rfl rfl ?_
  refine w_gf rfl (mg_51 _ _) rfl ?_
  refine w_ci rfl ?_
  refine w_isub rfl ?_
  obtain ⟨q1, e1, h⟩ := bnd h
  refine a_st3i rfl (Nat.le_of_ble_eq_true rfl) (T_X6_in e1) ?_
  refine w_if_eq rfl (fun c2 => ?_) (fun c2 => ?_)
  · replace h := ifp h c2
    refine w_ci rfl ?_
    exact a_ri rfl h
  · replace h := ifn h c2
    refine w_la rfl rfl ?_
    refine w_gf rfl (mg_51 _ _) rfl ?_
    refine w_li rfl rfl ?_
    obtain ⟨j3, e3, h⟩ := bnd h
    refine a_ia rfl (mr_66 _ _ _) e3 ?_
    refine w_go rfl ?_
    exact a_ri rfl h
-- X6_manyWith
set_option maxRecDepth 100000 in
theorem J_X6_manyWith_30  {k4 : Int32 × Int32 × Int32 × SS × TT → Option (Int32 × SS × TT)} (hk4 : ∀ (x1 : Int32) (x2 : Int32) (x3 : Int32) (s : SS) (t : TT) (q : Int32 × SS × TT), k4 (x1, x2, x3, s, t) = some q → Wp pl_Kc 208 4 [some (.ref 51), some (.int x1), some (.int x2), some (.int x3)] [] (mk s t) (Qi q)) : ∀ (x1 : Int32) (x3 : Int32) (y0 : Int32) (y1 : Int32) (s : SS) (t : TT) (q : Int32 × SS × TT), j_X6_manyWith_30 k4 x1 x3 y0 y1 s t = some q → Wp pl_Kc 208 30 [some (.ref 51), some (.int x1), none, some (.int x3)] [.int y0, .int y1] (mk s t) (Qi q) := by
  intro x1 x3 y0 y1 s t q h
  unfold j_X6_manyWith_30 at h
  refine w_iadd rfl ?_
  refine w_si rfl (Nat.le_of_ble_eq_true rfl) rfl ?_
  refine w_inc rfl rfl rfl ?_
  refine w_go rfl ?_
  exact Wp_fgt (fg_s (fg_s (fg_s (fg_s fg_e)))) (hk4 _ _ _ _ _ _ h)
set_option maxRecDepth 100000 in
theorem B_X6_manyWith_4  {k4 : Int32 × Int32 × Int32 × SS × TT → Option (Int32 × SS × TT)} (hk4 : ∀ (x1 : Int32) (x2 : Int32) (x3 : Int32) (s : SS) (t : TT) (q : Int32 × SS × TT), k4 (x1, x2, x3, s, t) = some q → Wp pl_Kc 208 4 [some (.ref 51), some (.int x1), some (.int x2), some (.int x3)] [] (mk s t) (Qi q)) : ∀ (x1 : Int32) (x2 : Int32) (x3 : Int32) (s : SS) (t : TT) (q : Int32 × SS × TT), b_X6_manyWith_4 k4 x1 x2 x3 s t = some q → Wp pl_Kc 208 4 [some (.ref 51), some (.int x1), some (.int x2), some (.int x3)] [] (mk s t) (Qi q) := by
  intro x1 x2 x3 s t q h
  unfold b_X6_manyWith_4 at h
  refine w_li rfl rfl ?_
  refine w_la rfl rfl ?_
  refine w_gf rfl (mg_51 _ _) rfl ?_
  refine w_ci rfl ?_
  obtain ⟨j1, e1, h⟩ := bnd h
  refine a_ia rfl (mr_52 _ _ _) e1 ?_
  refine w_ic_ge rfl (fun c2 => ?_) (fun c2 => ?_)
  · replace h := ifp h c2
    refine w_li rfl rfl ?_
    exact a_ri rfl h
  · replace h := ifn h c2
    refine w_li rfl rfl ?_
    refine w_la rfl rfl ?_
    refine w_li rfl rfl ?_
    refine w_li rfl rfl ?_
    obtain ⟨q3, e3, h⟩ := bnd h
    refine a_vi2i rfl (mg_51 _ _) (Nat.le_of_ble_eq_true rfl) (T_X6_its e3) ?_
    refine w_if_le rfl (fun c4 => ?_) (fun c4 => ?_)
    · replace h := ifp h c4
      refine w_ci rfl ?_
      exact Wp_fgt (fg_s (fg_s (fg_n (fg_s fg_e)))) (J_X6_manyWith_30 hk4 _ _ _ _ _ _ _ h)
    · replace h := ifn h c4
      refine w_ci rfl ?_
      refine w_go rfl ?_
      exact Wp_fgt (fg_s (fg_s (fg_n (fg_s fg_e)))) (J_X6_manyWith_30 hk4 _ _ _ _ _ _ _ h)
theorem K_X6_manyWith_4  : ∀ (n : Nat) (x1 : Int32) (x2 : Int32) (x3 : Int32) (s : SS) (t : TT) (q : Int32 × SS × TT), l_X6_manyWith_4 n (x1, x2, x3, s, t) = some q → Wp pl_Kc 208 4 [some (.ref 51), some (.int x1), some (.int x2), some (.int x3)] [] (mk s t) (Qi q)
  | 0, x1, x2, x3, s, t, q, h => by cases (show (none : Option (Int32 × SS × TT)) = some q from h)
  | n + 1, x1, x2, x3, s, t, q, h => B_X6_manyWith_4 (K_X6_manyWith_4 n) x1 x2 x3 s t q h
set_option maxRecDepth 100000 in
theorem T_X6_manyWith  {x1 : Int32} {s : SS} {t : TT} {q : Int32 × SS × TT} (h : f_X6_manyWith x1 s t = some q) : Wm 208 [.ref 51, .int x1] (mk s t) (Qi q) := by
  refine Wm.of pT_208 (Nat.le_of_ble_eq_true rfl) (L0 := [some (.ref 51), some (.int x1), none, none]) rfl ?_
  unfold f_X6_manyWith at h
  refine w_ci rfl ?_
  refine w_si rfl (Nat.le_of_ble_eq_true rfl) rfl ?_
  refine w_ci rfl ?_
  refine w_si rfl (Nat.le_of_ble_eq_true rfl) rfl ?_
  exact Wp_fgt (fg_s (fg_s (fg_s (fg_s fg_e)))) (K_X6_manyWith_4 _ _ _ _ _ _ _ h)
-- X6_many
set_option maxRecDepth 100000 in
theorem T_X6_many  {x1 : Int32} {s : SS} {t : TT} {q : Int32 × SS × TT} (h : f_X6_many x1 s t = some q) : Wm 209 [.ref 51, .int x1] (mk s t) (Qi q) := by
  refine Wm.of pT_209 (Nat.le_of_ble_eq_true rfl) (L0 := [some (.ref 51), some (.int x1)]) rfl ?_
  unfold f_X6_many at h
  refine w_li rfl rfl ?_
  by_cases c1 : x1 = 0
  · replace h := ifp h c1
    refine w_swI rfl (tg := 44) (by rw [c1]; decide +kernel) ?_
    refine w_la rfl rfl ?_
    refine w_gf rfl (mg_51 _ _) rfl ?_
    refine w_ci rfl ?_
    obtain ⟨j2, e2, h⟩ := bnd h
    refine a_ia rfl (mr_52 _ _ _) e2 ?_
    exact a_ri rfl h
  replace h := ifn h c1
  by_cases c3 : x1 = 1
  · replace h := ifp h c3
    refine w_swI rfl (tg := 52) (by rw [c3]; decide +kernel) ?_
    refine w_la rfl rfl ?_
    refine w_ci rfl ?_
    obtain ⟨q4, e4, h⟩ := bnd h
    refine a_vi1i rfl (mg_51 _ _) (Nat.le_of_ble_eq_true rfl) (T_X6_manyWith e4) ?_
    exact a_ri rfl h
  replace h := ifn h c3
  by_cases c5 : x1 = 2
  · replace h := ifp h c5
    refine w_swI rfl (tg := 58) (by rw [c5]; decide +kernel) ?_
    refine w_la rfl rfl ?_
    refine w_ci rfl ?_
    obtain ⟨q6, e6, h⟩ := bnd h
    refine a_vi1i rfl (mg_51 _ _) (Nat.le_of_ble_eq_true rfl) (T_X6_manyWith e6) ?_
    exact a_ri rfl h
  replace h := ifn h c5
  by_cases c7 : x1 = 3
  · replace h := ifp h c7
    refine w_swI rfl (tg := 64) (by rw [c7]; decide +kernel) ?_
    refine w_la rfl rfl ?_
    obtain ⟨q8, e8, h⟩ := bnd h
    refine a_vi0i rfl (mg_51 _ _) (Nat.le_of_ble_eq_true rfl) (T_X6_readySet e8) ?_
    obtain ⟨q9, e9, h⟩ := bnd h
    refine a_st1i rfl (Nat.le_of_ble_eq_true rfl) (T_X6_ones e9) ?_
    exact a_ri rfl h
  replace h := ifn h c7
  by_cases c10 : x1 = 4
  · replace h := ifp h c10
    refine w_swI rfl (tg := 72) (by rw [c10]; decide +kernel) ?_
    refine w_la rfl rfl ?_
    refine w_gf rfl (mg_51 _ _) rfl ?_
    exact a_ri rfl h
  replace h := ifn h c10
  by_cases c11 : x1 = 5
  · replace h := ifp h c11
    refine w_swI rfl (tg := 77) (by rw [c11]; decide +kernel) ?_
    refine w_la rfl rfl ?_
    refine w_gf rfl (mg_51 _ _) rfl ?_
    exact a_ri rfl h
  replace h := ifn h c11
  by_cases c12 : x1 = 6
  · replace h := ifp h c12
    refine w_swI rfl (tg := 82) (by rw [c12]; decide +kernel) ?_
    refine w_la rfl rfl ?_
    refine w_gf rfl (mg_51 _ _) rfl ?_
    exact a_ri rfl h
  replace h := ifn h c12
  refine w_swI rfl (tg := 87) (sw_df (zs := [0, 1, 2, 3, 4, 5, 6]) (swz_c (i32ne c1 rfl) (swz_c (i32ne c3 rfl) (swz_c (i32ne c5 rfl) (swz_c (i32ne c7 rfl) (swz_c (i32ne c10 rfl) (swz_c (i32ne c11 rfl) (swz_c (i32ne c12 rfl) swz_n))))))) (by decide +kernel)) ?_
  refine w_ci rfl ?_
  exact a_ri rfl h
-- X6_keep
set_option maxRecDepth 100000 in
theorem T_X6_keep  {s : SS} {t : TT} {q : Int32 × SS × TT} (h : f_X6_keep s t = some q) : Wm 210 [.ref 51] (mk s t) (Qi q) := by
  refine Wm.of pT_210 (Nat.le_of_ble_eq_true rfl) (L0 := [some (.ref 51)]) rfl ?_
  unfold f_X6_keep at h
  refine w_la rfl rfl ?_
  refine w_gf rfl (mg_51 _ _) rfl ?_
  refine w_la rfl rfl ?_
  refine w_gf rfl (mg_51 _ _) rfl ?_
  obtain ⟨q1, e1, h⟩ := bnd h
  refine a_st2v rfl (Nat.le_of_ble_eq_true rfl) (T_X6_moveAll (Or.inl rfl) (Or.inr (Or.inr (Or.inl rfl))) e1) ?_
  refine w_la rfl rfl ?_
  refine w_ci rfl ?_
  refine a_pf rfl rfl (mg_51 _ _) (Nat.le_of_ble_eq_true rfl) (ms_51_4 _ _) (fun s2 e2 => ?_)
  replace h := wr_of h s2 e2
  refine w_ci rfl ?_
  exact a_ri rfl h
-- X6_again
set_option maxRecDepth 100000 in
theorem T_X6_again  {s : SS} {t : TT} {q : Int32 × SS × TT} (h : f_X6_again s t = some q) : Wm 211 [.ref 51] (mk s t) (Qi q) := by
  refine Wm.of pT_211 (Nat.le_of_ble_eq_true rfl) (L0 := [some (.ref 51)]) rfl ?_
  unfold f_X6_again at h
  refine w_la rfl rfl ?_
  refine w_gf rfl (mg_51 _ _) rfl ?_
  refine w_if_ne rfl (fun c1 => ?_) (fun c1 => ?_)
  · replace h := ifn h c1
    refine w_la rfl rfl ?_
    refine w_gf rfl (mg_51 _ _) rfl ?_
    refine w_la rfl rfl ?_
    refine w_gf rfl (mg_51 _ _) rfl ?_
    obtain ⟨q2, e2, h⟩ := bnd h
    refine a_st2v rfl (Nat.le_of_ble_eq_true rfl) (T_X6_moveAll (Or.inr (Or.inr (Or.inl rfl))) (Or.inl rfl) e2) ?_
    refine w_la rfl rfl ?_
    refine w_gf rfl (mg_51 _ _) rfl ?_
    refine w_ci rfl ?_
    obtain ⟨j3, e3, h⟩ := bnd h
    refine a_ia rfl (mr_52 _ _ _) e3 ?_
    exact a_ri rfl h
  · replace h := ifp h (Classical.not_not.mp c1)
    refine w_ci rfl ?_
    exact a_ri rfl h
