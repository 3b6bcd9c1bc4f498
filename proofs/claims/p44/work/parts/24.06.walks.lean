-- the walks: a program laid these rows
set_option maxRecDepth 100000 in
theorem B_X6_thoughtFor_60  {k36 : Int32 × Int32 × Int32 × Int32 × SS × TT → Option (Int32 × SS × TT)} (hk36 : ∀ (x1 : Int32) (x2 : Int32) (x3 : Int32) (x4 : Int32) (s : SS) (t : TT) (q : Int32 × SS × TT), k36 (x1, x2, x3, x4, s, t) = some q → Wp pl_Kc 168 36 [some (.ref 51), some (.int x1), some (.int x2), some (.int x3), some (.int x4), none] [] (mk s t) (Qi q)) {k60 : Int32 × Int32 × Int32 × Int32 × Int32 × SS × TT → Option (Int32 × SS × TT)} (hk60 : ∀ (x1 : Int32) (x2 : Int32) (x3 : Int32) (x4 : Int32) (x5 : Int32) (s : SS) (t : TT) (q : Int32 × SS × TT), k60 (x1, x2, x3, x4, x5, s, t) = some q → Wp pl_Kc 168 60 [some (.ref 51), some (.int x1), some (.int x2), some (.int x3), some (.int x4), some (.int x5)] [] (mk s t) (Qi q)) : ∀ (x1 : Int32) (x2 : Int32) (x3 : Int32) (x4 : Int32) (x5 : Int32) (s : SS) (t : TT) (q : Int32 × SS × TT), b_X6_thoughtFor_60 k36 k60 x1 x2 x3 x4 x5 s t = some q → Wp pl_Kc 168 60 [some (.ref 51), some (.int x1), some (.int x2), some (.int x3), some (.int x4), some (.int x5)] [] (mk s t) (Qi q) := by
  intro x1 x2 x3 x4 x5 s t q h
  unfold b_X6_thoughtFor_60 at h
  refine w_li rfl rfl ?_
  refine w_li rfl rfl ?_
  refine w_ic_ge rfl (fun c1 => ?_) (fun c1 => ?_)
  · replace h := ifp h c1
    exact Wp_fgt (fg_s (fg_s (fg_s (fg_s (fg_s (fg_n fg_e)))))) (J_X6_thoughtFor_112 hk36 _ _ _ _ _ _ _ h)
  · replace h := ifn h c1
    refine w_li rfl rfl ?_
    refine w_if_ne rfl (fun c2 => ?_) (fun c2 => ?_)
    · replace h := ifn h c2
      exact Wp_fgt (fg_s (fg_s (fg_s (fg_s (fg_s (fg_n fg_e)))))) (J_X6_thoughtFor_112 hk36 _ _ _ _ _ _ _ h)
    · replace h := ifp h (Classical.not_not.mp c2)
      refine w_la rfl rfl ?_
      obtain ⟨q3, e3, h⟩ := bnd h
      refine a_vi0i rfl (mg_51 _ _) (Nat.le_of_ble_eq_true rfl) (T_X6_weekGoes e3) ?_
      refine w_pop rfl rfl ?_
      refine w_la rfl rfl ?_
      refine w_li rfl rfl ?_
      refine w_ci rfl ?_
      obtain ⟨q4, e4, h⟩ := bnd h
      refine a_vi2i rfl (mg_51 _ _) (Nat.le_of_ble_eq_true rfl) (T_X6_its e4) ?_
      refine w_la rfl rfl ?_
      refine w_gf rfl (mg_51 _ _) rfl ?_
      refine w_ci rfl ?_
      refine w_ci rfl ?_
      refine w_li rfl rfl ?_
      refine w_imul rfl ?_
      refine w_iadd rfl ?_
      refine w_ci rfl ?_
      refine w_iadd rfl ?_
      obtain ⟨j5, e5, h⟩ := bnd h
      refine a_ia rfl (mr_55 _ _ _) e5 ?_
      refine w_ic_le rfl (fun c6 => ?_) (fun c6 => ?_)
      · replace h := ifp h c6
        refine w_ci rfl ?_
        refine w_si rfl (Nat.le_of_ble_eq_true rfl) rfl ?_
        refine w_inc rfl rfl rfl ?_
        refine w_go rfl ?_
        exact Wp_fgt (fg_s (fg_s (fg_s (fg_s (fg_s (fg_s fg_e)))))) (hk60 _ _ _ _ _ _ _ _ h)
      · replace h := ifn h c6
        refine w_ci rfl ?_
        refine w_go rfl ?_
        refine w_si rfl (Nat.le_of_ble_eq_true rfl) rfl ?_
        refine w_inc rfl rfl rfl ?_
        refine w_go rfl ?_
        exact Wp_fgt (fg_s (fg_s (fg_s (fg_s (fg_s (fg_s fg_e)))))) (hk60 _ _ _ _ _ _ _ _ h)
theorem K_X6_thoughtFor_60  {k36 : Int32 × Int32 × Int32 × Int32 × SS × TT → Option (Int32 × SS × TT)} (hk36 : ∀ (x1 : Int32) (x2 : Int32) (x3 : Int32) (x4 : Int32) (s : SS) (t : TT) (q : Int32 × SS × TT), k36 (x1, x2, x3, x4, s, t) = some q → Wp pl_Kc 168 36 [some (.ref 51), some (.int x1), some (.int x2), some (.int x3), some (.int x4), none] [] (mk s t) (Qi q)) : ∀ (n : Nat) (x1 : Int32) (x2 : Int32) (x3 : Int32) (x4 : Int32) (x5 : Int32) (s : SS) (t : TT) (q : Int32 × SS × TT), l_X6_thoughtFor_60 k36 n (x1, x2, x3, x4, x5, s, t) = some q → Wp pl_Kc 168 60 [some (.ref 51), some (.int x1), some (.int x2), some (.int x3), some (.int x4), some (.int x5)] [] (mk s t) (Qi q)
  | 0, x1, x2, x3, x4, x5, s, t, q, h => by cases (show (none : Option (Int32 × SS × TT)) = some q from h)
  | n + 1, x1, x2, x3, x4, x5, s, t, q, h => B_X6_thoughtFor_60 hk36 (K_X6_thoughtFor_60 hk36 n) x1 x2 x3 x4 x5 s t q h
set_option maxRecDepth 100000 in
theorem B_X6_thoughtFor_36  {k36 : Int32 × Int32 × Int32 × Int32 × SS × TT → Option (Int32 × SS × TT)} (hk36 : ∀ (x1 : Int32) (x2 : Int32) (x3 : Int32) (x4 : Int32) (s : SS) (t : TT) (q : Int32 × SS × TT), k36 (x1, x2, x3, x4, s, t) = some q → Wp pl_Kc 168 36 [some (.ref 51), some (.int x1), some (.int x2), some (.int x3), some (.int x4), none] [] (mk s t) (Qi q)) : ∀ (x1 : Int32) (x2 : Int32) (x3 : Int32) (x4 : Int32) (s : SS) (t : TT) (q : Int32 × SS × TT), b_X6_thoughtFor_36 k36 x1 x2 x3 x4 s t = some q → Wp pl_Kc 168 36 [some (.ref 51), some (.int x1), some (.int x2), some (.int x3), some (.int x4), none] [] (mk s t) (Qi q) := by
  intro x1 x2 x3 x4 s t q h
  unfold b_X6_thoughtFor_36 at h
  refine w_li rfl rfl ?_
  refine w_ci rfl ?_
  refine w_ic_ge rfl (fun c1 => ?_) (fun c1 => ?_)
  · replace h := ifp h c1
    exact Wp_fgt (fg_n (fg_n (fg_n (fg_s (fg_s (fg_n fg_e)))))) (J_X6_thoughtFor_126 _ _ _ _ _ h)
  · replace h := ifn h c1
    refine w_li rfl rfl ?_
    refine w_if_ne rfl (fun c2 => ?_) (fun c2 => ?_)
    · replace h := ifn h c2
      exact Wp_fgt (fg_n (fg_n (fg_n (fg_s (fg_s (fg_n fg_e)))))) (J_X6_thoughtFor_126 _ _ _ _ _ h)
    · replace h := ifp h (Classical.not_not.mp c2)
      refine w_inc rfl rfl rfl ?_
      refine w_la rfl rfl ?_
      refine w_li rfl rfl ?_
      refine w_ci rfl ?_
      refine w_li rfl rfl ?_
      obtain ⟨q3, e3, h⟩ := bnd h
      refine a_vi3v rfl (mg_51 _ _) (Nat.le_of_ble_eq_true rfl) (T_X6_sets e3) ?_
      refine w_ci rfl ?_
      refine w_si rfl (Nat.le_of_ble_eq_true rfl) rfl ?_
      exact Wp_fgt (fg_s (fg_s (fg_s (fg_s (fg_s (fg_s fg_e)))))) (K_X6_thoughtFor_60 hk36 _ _ _ _ _ _ _ _ _ h)
theorem K_X6_thoughtFor_36  : ∀ (n : Nat) (x1 : Int32) (x2 : Int32) (x3 : Int32) (x4 : Int32) (s : SS) (t : TT) (q : Int32 × SS × TT), l_X6_thoughtFor_36 n (x1, x2, x3, x4, s, t) = some q → Wp pl_Kc 168 36 [some (.ref 51), some (.int x1), some (.int x2), some (.int x3), some (.int x4), none] [] (mk s t) (Qi q)
  | 0, x1, x2, x3, x4, s, t, q, h => by cases (show (none : Option (Int32 × SS × TT)) = some q from h)
  | n + 1, x1, x2, x3, x4, s, t, q, h => B_X6_thoughtFor_36 (K_X6_thoughtFor_36 n) x1 x2 x3 x4 s t q h
set_option maxRecDepth 100000 in
theorem T_X6_thoughtFor  {x1 : Int32} {x2 : Int32} {s : SS} {t : TT} {q : Int32 × SS × TT} (h : f_X6_thoughtFor x1 x2 s t = some q) : Wm 168 [.ref 51, .int x1, .int x2] (mk s t) (Qi q) := by
  refine Wm.of pT_168 (Nat.le_of_ble_eq_true rfl) (L0 := [some (.ref 51), some (.int x1), some (.int x2), none, none, none]) rfl ?_
  unfold f_X6_thoughtFor at h
  refine w_la rfl rfl ?_
  refine w_li rfl rfl ?_
  obtain ⟨q1, e1, h⟩ := bnd h
  refine a_vi1i rfl (mg_51 _ _) (Nat.le_of_ble_eq_true rfl) (T_X6_isOne e1) ?_
  refine w_if_eq rfl (fun c2 => ?_) (fun c2 => ?_)
  · replace h := ifp h c2
    refine w_ci rfl ?_
    exact a_ri rfl h
  · replace h := ifn h c2
    refine w_li rfl rfl ?_
    refine w_ci rfl ?_
    refine w_ci rfl ?_
    obtain ⟨q3, e3, h⟩ := bnd h
    refine a_st3i rfl (Nat.le_of_ble_eq_true rfl) (T_X6_in e3) ?_
    refine w_if_ne rfl (fun c4 => ?_) (fun c4 => ?_)
    · replace h := ifn h c4
      refine w_la rfl rfl ?_
      refine w_gf rfl (mg_51 _ _) rfl ?_
      refine w_la rfl rfl ?_
      refine w_gf rfl (mg_51 _ _) rfl ?_
      obtain ⟨q5, e5, h⟩ := bnd h
      refine a_st2v rfl (Nat.le_of_ble_eq_true rfl) (T_X6_moveAll (Or.inl rfl) (Or.inr (Or.inr (Or.inr rfl))) e5) ?_
      refine w_ci rfl ?_
      refine w_si rfl (Nat.le_of_ble_eq_true rfl) rfl ?_
      refine w_ci rfl ?_
      refine w_si rfl (Nat.le_of_ble_eq_true rfl) rfl ?_
      exact Wp_fgt (fg_s (fg_s (fg_s (fg_s (fg_s (fg_n fg_e)))))) (K_X6_thoughtFor_36 _ _ _ _ _ _ _ _ h)
    · replace h := ifp h (Classical.not_not.mp c4)
      refine w_ci rfl ?_
      exact a_ri rfl h
-- X6_needed
set_option maxRecDepth 100000 in
theorem J_X6_needed_74  {k35 : Int32 × Int32 × Int32 × Int32 × SS × TT → Option (Int32 × SS × TT)} (hk35 : ∀ (x1 : Int32) (x2 : Int32) (x3 : Int32) (x4 : Int32) (s : SS) (t : TT) (q : Int32 × SS × TT), k35 (x1, x2, x3, x4, s, t) = some q → Wp pl_Kc 169 35 [some (.ref 51), some (.int x1), some (.int x2), some (.int x3), some (.int x4), none] [] (mk s t) (Qi q)) : ∀ (x1 : Int32) (x3 : Int32) (x4 : Int32) (x5 : Int32) (y0 : Int32) (s : SS) (t : TT) (q : Int32 × SS × TT), j_X6_needed_74 k35 x1 x3 x4 x5 y0 s t = some q → Wp pl_Kc 169 74 [some (.ref 51), some (.int x1), none, some (.int x3), some (.int x4), some (.int x5)] [.int y0] (mk s t) (Qi q) := by
  intro x1 x3 x4 x5 y0 s t q h
  unfold j_X6_needed_74 at h
  refine w_si rfl (Nat.le_of_ble_eq_true rfl) rfl ?_
  refine w_li rfl rfl ?_
  refine w_li rfl rfl ?_
  refine w_ic_ge rfl (fun c1 => ?_) (fun c1 => ?_)
  · replace h := ifp h c1
    refine w_li rfl rfl ?_
    refine w_si rfl (Nat.le_of_ble_eq_true rfl) rfl ?_
    refine w_inc rfl rfl rfl ?_
    refine w_go rfl ?_
    exact Wp_fgt (fg_s (fg_s (fg_s (fg_s (fg_s (fg_n fg_e)))))) (hk35 _ _ _ _ _ _ _ h)
  · replace h := ifn h c1
    refine w_li rfl rfl ?_
    refine w_go rfl ?_
    refine w_si rfl (Nat.le_of_ble_eq_true rfl) rfl ?_
    refine w_inc rfl rfl rfl ?_
    refine w_go rfl ?_
    exact Wp_fgt (fg_s (fg_s (fg_s (fg_s (fg_s (fg_n fg_e)))))) (hk35 _ _ _ _ _ _ _ h)
set_option maxRecDepth 100000 in
theorem B_X6_needed_35  {k35 : Int32 × Int32 × Int32 × Int32 × SS × TT → Option (Int32 × SS × TT)} (hk35 : ∀ (x1 : Int32) (x2 : Int32) (x3 : Int32) (x4 : Int32) (s : SS) (t : TT) (q : Int32 × SS × TT), k35 (x1, x2, x3, x4, s, t) = some q → Wp pl_Kc 169 35 [some (.ref 51), some (.int x1), some (.int x2), some (.int x3), some (.int x4), none] [] (mk s t) (Qi q)) : ∀ (x1 : Int32) (x2 : Int32) (x3 : Int32) (x4 : Int32) (s : SS) (t : TT) (q : Int32 × SS × TT), b_X6_needed_35 k35 x1 x2 x3 x4 s t = some q → Wp pl_Kc 169 35 [some (.ref 51), some (.int x1), some (.int x2), some (.int x3), some (.int x4), none] [] (mk s t) (Qi q) := by
  intro x1 x2 x3 x4 s t q h
  unfold b_X6_needed_35 at h
  refine w_li rfl rfl ?_
  refine w_la rfl rfl ?_
  refine w_gf rfl (mg_51 _ _) rfl ?_
  refine w_ci rfl ?_
  obtain ⟨j1, e1, h⟩ := bnd h
  refine a_ia rfl (mr_52 _ _ _) e1 ?_
  refine w_ic_ge rfl (fun c2 => ?_) (fun c2 => ?_)
  · replace h := ifp h c2
    refine w_la rfl rfl ?_
    refine w_ci rfl ?_
    refine a_pf rfl rfl (mg_51 _ _) (Nat.le_of_ble_eq_true rfl) (ms_51_5 _ _) (fun s3 e3 => ?_)
    replace h := wr_of h s3 e3
    refine w_li rfl rfl ?_
    exact a_ri rfl h
  · replace h := ifn h c2
    refine w_la rfl rfl ?_
    refine w_ci rfl ?_
    refine w_li rfl rfl ?_
    refine w_ishl rfl ?_
    refine a_pf rfl rfl (mg_51 _ _) (Nat.le_of_ble_eq_true rfl) (ms_51_5 _ _) (fun s4 e4 => ?_)
    replace h := wr_of h s4 e4
    refine w_la rfl rfl ?_
    refine w_li rfl rfl ?_
    obtain ⟨q5, e5, h⟩ := bnd h
    refine a_vi1i rfl (mg_51 _ _) (Nat.le_of_ble_eq_true rfl) (T_X6_wordsBehind e5) ?_
    refine w_si rfl (Nat.le_of_ble_eq_true rfl) rfl ?_
    refine w_li rfl rfl ?_
    refine w_li rfl rfl ?_
    refine w_ic_ge rfl (fun c6 => ?_) (fun c6 => ?_)
    · replace h := ifp h c6
      refine w_li rfl rfl ?_
      exact Wp_fgt (fg_s (fg_s (fg_n (fg_s (fg_s (fg_s fg_e)))))) (J_X6_needed_74 hk35 _ _ _ _ _ _ _ _ h)
    · replace h := ifn h c6
      refine w_li rfl rfl ?_
      refine w_go rfl ?_
      exact Wp_fgt (fg_s (fg_s (fg_n (fg_s (fg_s (fg_s fg_e)))))) (J_X6_needed_74 hk35 _ _ _ _ _ _ _ _ h)
theorem K_X6_needed_35  : ∀ (n : Nat) (x1 : Int32) (x2 : Int32) (x3 : Int32) (x4 : Int32) (s : SS) (t : TT) (q : Int32 × SS × TT), l_X6_needed_35 n (x1, x2, x3, x4, s, t) = some q → Wp pl_Kc 169 35 [some (.ref 51), some (.int x1), some (.int x2), some (.int x3), some (.int x4), none] [] (mk s t) (Qi q)
  | 0, x1, x2, x3, x4, s, t, q, h => by cases (show (none : Option (Int32 × SS × TT)) = some q from h)
  | n + 1, x1, x2, x3, x4, s, t, q, h => B_X6_needed_35 (K_X6_needed_35 n) x1 x2 x3 x4 s t q h
set_option maxRecDepth 100000 in
theorem T_X6_needed  {x1 : Int32} {s : SS} {t : TT} {q : Int32 × SS × TT} (h : f_X6_needed x1 s t = some q) : Wm 169 [.ref 51, .int x1] (mk s t) (Qi q) := by
  refine Wm.of pT_169 (Nat.le_of_ble_eq_true rfl) (L0 := [some (.ref 51), some (.int x1), none, none, none, none]) rfl ?_
  unfold f_X6_needed at h
  refine w_li rfl rfl ?_
  refine w_ci rfl ?_
  refine w_ci rfl ?_
  obtain ⟨q1, e1, h⟩ := bnd h
  refine a_st3i rfl (Nat.le_of_ble_eq_true rfl) (T_X6_in e1) ?_
  refine w_if_ne rfl (fun c2 => ?_) (fun c2 => ?_)
  · replace h := ifn h c2
    refine w_la rfl rfl ?_
    refine w_gf rfl (mg_51 _ _) rfl ?_
    refine w_la rfl rfl ?_
    refine w_gf rfl (mg_51 _ _) rfl ?_
    obtain ⟨q3, e3, h⟩ := bnd h
    refine a_st2v rfl (Nat.le_of_ble_eq_true rfl) (T_X6_moveAll (Or.inl rfl) (Or.inr (Or.inr (Or.inr rfl))) e3) ?_
    refine w_ci rfl ?_
    refine w_si rfl (Nat.le_of_ble_eq_true rfl) rfl ?_
    refine w_la rfl rfl ?_
    refine w_li rfl rfl ?_
    obtain ⟨q4, e4, h⟩ := bnd h
    refine a_vi1i rfl (mg_51 _ _) (Nat.le_of_ble_eq_true rfl) (T_X6_wordsBehind e4) ?_
    refine w_si rfl (Nat.le_of_ble_eq_true rfl) rfl ?_
    refine w_ci rfl ?_
    refine w_si rfl (Nat.le_of_ble_eq_true rfl) rfl ?_
    exact Wp_fgt (fg_s (fg_s (fg_s (fg_s (fg_s (fg_n fg_e)))))) (K_X6_needed_35 _ _ _ _ _ _ _ _ h)
  · replace h := ifp h (Classical.not_not.mp c2)
    refine w_ci rfl ?_
    exact a_ri rfl h
-- X6_fewest
set_option maxRecDepth 100000 in
theorem J_X6_fewest_75  {k52 : Int32 × Int32 × Int32 × Int32 × Int32 × SS × TT → Option (Int32 × SS × TT)} (hk52 : ∀ (x1 : Int32) (x2 : Int32) (x3 : Int32) (x4 : Int32) (x5 : Int32) (s : SS) (t : TT) (q : Int32 × SS × TT), k52 (x1, x2, x3, x4, x5, s, t) = some q → Wp pl_Kc 170 52 [some (.ref 51), some (.int x1), some (.int x2), some (.int x3), some (.int x4), some (.int x5)] [] (mk s t) (Qi q)) : ∀ (x1 : Int32) (x2 : Int32) (x3 : Int32) (x4 : Int32) (x5 : Int32) (s : SS) (t : TT) (q : Int32 × SS × TT), j_X6_fewest_75 k52 x1 x2 x3 x4 x5 s t = some q → Wp pl_Kc 170 75 [some (.ref 51), some (.int x1), some (.int x2), some (.int x3), some (.int x4), some (.int x5)] [] (mk s t) (Qi q) := by
  intro x1 x2 x3 x4 x5 s t q h
  unfold j_X6_fewest_75 at h
  refine w_la rfl rfl ?_
  refine w_li rfl rfl ?_
  refine w_li rfl rfl ?_
  refine w_ci rfl ?_
  refine w_ixor rfl ?_
  refine w_iand rfl ?_
  refine a_pf rfl rfl (mg_51 _ _) (Nat.le_of_ble_eq_true rfl) (ms_51_5 _ _) (fun s1 e1 => ?_)
  replace h := wr_of h s1 e1
  refine w_la rfl rfl ?_
  refine w_li rfl rfl ?_
  obtain ⟨q2, e2, h⟩ := bnd h
  refine a_vi1i rfl (mg_51 _ _) (Nat.le_of_ble_eq_true rfl) (T_X6_wordsBehind e2) ?_
  refine w_li rfl rfl ?_
  refine w_ic_lt rfl (fun c3 => ?_) (fun c3 => ?_)
  · replace h := ifp h c3
    refine w_li rfl rfl ?_
    refine w_si rfl (Nat.le_of_ble_eq_true rfl) rfl ?_
    refine w_inc rfl rfl rfl ?_
    refine w_go rfl ?_
    exact Wp_fgt (fg_s (fg_s (fg_s (fg_s (fg_s (fg_s fg_e)))))) (hk52 _ _ _ _ _ _ _ _ h)
  · replace h := ifn h c3
    refine w_li rfl rfl ?_
    refine w_go rfl ?_
    refine w_si rfl (Nat.le_of_ble_eq_true rfl) rfl ?_
    refine w_inc rfl rfl rfl ?_
    refine w_go rfl ?_
    exact Wp_fgt (fg_s (fg_s (fg_s (fg_s (fg_s (fg_s fg_e)))))) (hk52 _ _ _ _ _ _ _ _ h)
set_option maxRecDepth 100000 in
theorem B_X6_fewest_52  {k52 : Int32 × Int32 × Int32 × Int32 × Int32 × SS × TT → Option (Int32 × SS × TT)} (hk52 : ∀ (x1 : Int32) (x2 : Int32) (x3 : Int32) (x4 : Int32) (x5 : Int32) (s : SS) (t : TT) (q : Int32 × SS × TT), k52 (x1, x2, x3, x4, x5, s, t) = some q → Wp pl_Kc 170 52 [some (.ref 51), some (.int x1), some (.int x2), some (.int x3), some (.int x4), some (.int x5)] [] (mk s t) (Qi q)) : ∀ (x1 : Int32) (x2 : Int32) (x3 : Int32) (x4 : Int32) (x5 : Int32) (s : SS) (t : TT) (q : Int32 × SS × TT), b_X6_fewest_52 k52 x1 x2 x3 x4 x5 s t = some q → Wp pl_Kc 170 52 [some (.ref 51), some (.int x1), some (.int x2), some (.int x3), some (.int x4), some (.int x5)] [] (mk s t) (Qi q) := by
  intro x1 x2 x3 x4 x5 s t q h
  unfold b_X6_fewest_52 at h
  refine w_li rfl rfl ?_
  refine w_li rfl rfl ?_
  refine w_ic_gt rfl (fun c1 => ?_) (fun c1 => ?_)
  · replace h := ifp h c1
    refine w_la rfl rfl ?_
    refine w_ci rfl ?_
    refine a_pf rfl rfl (mg_51 _ _) (Nat.le_of_ble_eq_true rfl) (ms_51_5 _ _) (fun s2 e2 => ?_)
    replace h := wr_of h s2 e2
    refine w_li rfl rfl ?_
    refine w_if_ge rfl (fun c3 => ?_) (fun c3 => ?_)
    · replace h := ifp h c3
      refine w_li rfl rfl ?_
      exact a_ri rfl h
    · replace h := ifn h c3
      refine w_ci rfl ?_
      refine w_go rfl ?_
      exact a_ri rfl h
  · replace h := ifn h c1
    refine w_li rfl rfl ?_
    refine w_if_lt rfl (fun c4 => ?_) (fun c4 => ?_)
    · replace h := ifp h c4
      exact Wp_fgt (fg_s (fg_s (fg_s (fg_s (fg_s (fg_s fg_e)))))) (J_X6_fewest_75 hk52 _ _ _ _ _ _ _ _ h)
    · replace h := ifn h c4
      refine w_li rfl rfl ?_
      obtain ⟨q5, e5, h⟩ := bnd h
      refine a_st1i rfl (Nat.le_of_ble_eq_true rfl) (T_X6_ones e5) ?_
      refine w_li rfl rfl ?_
      obtain ⟨q6, e6, h⟩ := bnd h
      refine a_st1i rfl (Nat.le_of_ble_eq_true rfl) (T_X6_ones e6) ?_
      refine w_ic_ge rfl (fun c7 => ?_) (fun c7 => ?_)
      · replace h := ifp h c7
        refine w_inc rfl rfl rfl ?_
        refine w_go rfl ?_
        exact Wp_fgt (fg_s (fg_s (fg_s (fg_s (fg_s (fg_s fg_e)))))) (hk52 _ _ _ _ _ _ _ _ h)
      · replace h := ifn h c7
        exact Wp_fgt (fg_s (fg_s (fg_s (fg_s (fg_s (fg_s fg_e)))))) (J_X6_fewest_75 hk52 _ _ _ _ _ _ _ _ h)
theorem K_X6_fewest_52  : ∀ (n : Nat) (x1 : Int32) (x2 : Int32) (x3 : Int32) (x4 : Int32) (x5 : Int32) (s : SS) (t : TT) (q : Int32 × SS × TT), l_X6_fewest_52 n (x1, x2, x3, x4, x5, s, t) = some q → Wp pl_Kc 170 52 [some (.ref 51), some (.int x1), some (.int x2), some (.int x3), some (.int x4), some (.int x5)] [] (mk s t) (Qi q)
  | 0, x1, x2, x3, x4, x5, s, t, q, h => by cases (show (none : Option (Int32 × SS × TT)) = some q from h)
  | n + 1, x1, x2, x3, x4, x5, s, t, q, h => B_X6_fewest_52 (K_X6_fewest_52 n) x1 x2 x3 x4 x5 s t q h
set_option maxRecDepth 100000 in
theorem T_X6_fewest  {x1 : Int32} {x2 : Int32} {s : SS} {t : TT} {q : Int32 × SS × TT} (h : f_X6_fewest x1 x2 s t = some q) : Wm 170 [.ref 51, .int x1, .int x2] (mk s t) (Qi q) := by
  refine Wm.of pT_170 (Nat.le_of_ble_eq_true rfl) (L0 := [some (.ref 51), some (.int x1), some (.int x2), none, none, none]) rfl ?_
  unfold f_X6_fewest at h
  refine w_li rfl rfl ?_
  refine w_ci rfl ?_
  refine w_ci rfl ?_
  obtain ⟨q1, e1, h⟩ := bnd h
  refine a_st3i rfl (Nat.le_of_ble_eq_true rfl) (T_X6_in e1) ?_
  refine w_if_eq rfl (fun c2 => ?_) (fun c2 => ?_)
  · replace h := ifp h c2
    refine w_ci rfl ?_
    exact a_ri rfl h
  · replace h := ifn h c2
    refine w_li rfl rfl ?_
    refine w_ci rfl ?_
    refine w_ci rfl ?_
    obtain ⟨q3, e3, h⟩ := bnd h
    refine a_st3i rfl (Nat.le_of_ble_eq_true rfl) (T_X6_in e3) ?_
    refine w_if_ne rfl (fun c4 => ?_) (fun c4 => ?_)
    · replace h := ifn h c4
      refine w_la rfl rfl ?_
      refine w_gf rfl (mg_51 _ _) rfl ?_
      refine w_la rfl rfl ?_
      refine w_gf rfl (mg_51 _ _) rfl ?_
      obtain ⟨q5, e5, h⟩ := bnd h
      refine a_st2v rfl (Nat.le_of_ble_eq_true rfl) (T_X6_moveAll (Or.inl rfl) (Or.inr (Or.inr (Or.inr rfl))) e5) ?_
      refine w_ci rfl ?_
      refine w_si rfl (Nat.le_of_ble_eq_true rfl) rfl ?_
      refine w_ci rfl ?_
      refine w_la rfl rfl ?_
      refine w_gf rfl (mg_51 _ _) rfl ?_
      refine w_ci rfl ?_
      obtain ⟨j6, e6, h⟩ := bnd h
      refine a_ia rfl (mr_52 _ _ _) e6 ?_
      refine w_ishl rfl ?_
      refine w_ci rfl ?_
      refine w_isub rfl ?_
      refine w_si rfl (Nat.le_of_ble_eq_true rfl) rfl ?_
      refine w_ci rfl ?_
      refine w_si rfl (Nat.le_of_ble_eq_true rfl) rfl ?_
      exact Wp_fgt (fg_s (fg_s (fg_s (fg_s (fg_s (fg_s fg_e)))))) (K_X6_fewest_52 _ _ _ _ _ _ _ _ _ h)
    · replace h := ifp h (Classical.not_not.mp c4)
      refine w_ci rfl ?_
      exact a_ri rfl h
-- X6_thoughtOf
set_option maxRecDepth 100000 in
theorem J_X6_thoughtOf_35  {k4 : Int32 × Int32 × Int32 × SS × TT → Option (Int32 × SS × TT)} (hk4 : ∀ (x1 : Int32) (x2 : Int32) (x3 : Int32) (s : SS) (t : TT) (q : Int32 × SS × TT), k4 (x1, x2, x3, s, t) = some q → Wp pl_Kc 171 4 [some (.ref 51), some (.int x1), some (.int x2), some (.int x3)] [] (mk s t) (Qi q)) : ∀ (x1 : Int32) (x3 : Int32) (y0 : Int32) (y1 : Int32) (s : SS) (t : TT) (q : Int32 × SS × TT), j_X6_thoughtOf_35 k4 x1 x3 y0 y1 s t = some q → Wp pl_Kc 171 35 [some (.ref 51), some (.int x1), none, some (.int x3)] [.int y0, .int y1] (mk s t) (Qi q) := by
  intro x1 x3 y0 y1 s t q h
  unfold j_X6_thoughtOf_35 at h
  refine w_iadd rfl ?_
  refine w_si rfl (Nat.le_of_ble_eq_true rfl) rfl ?_
  refine w_inc rfl rfl rfl ?_
  refine w_go rfl ?_
  exact Wp_fgt (fg_s (fg_s (fg_s (fg_s fg_e)))) (hk4 _ _ _ _ _ _ h)
set_option maxRecDepth 100000 in
theorem B_X6_thoughtOf_4  {k4 : Int32 × Int32 × Int32 × SS × TT → Option (Int32 × SS × TT)} (hk4 : ∀ (x1 : Int32) (x2 : Int32) (x3 : Int32) (s : SS) (t : TT) (q : Int32 × SS × TT), k4 (x1, x2, x3, s, t) = some q → Wp pl_Kc 171 4 [some (.ref 51), some (.int x1), some (.int x2), some (.int x3)] [] (mk s t) (Qi q)) : ∀ (x1 : Int32) (x2 : Int32) (x3 : Int32) (s : SS) (t : TT) (q : Int32 × SS × TT), b_X6_thoughtOf_4 k4 x1 x2 x3 s t = some q → Wp pl_Kc 171 4 [some (.ref 51), some (.int x1), some (.int x2), some (.int x3)] [] (mk s t) (Qi q) := by
  intro x1 x2 x3 s t q h
  unfold b_X6_thoughtOf_4 at h
  refine w_li rfl rfl ?_
  refine w_la rfl rfl ?_
  refine w_gf rfl (mg_51 _ _) rfl ?_
  refine w_ci rfl ?_
  obtain ⟨j1, e1, h⟩ := bnd h
  refine a_ia rfl (mr_52 _ _ _) e1 ?_
  refine w_ic_ge rfl (fun c2 => ?_) (fun c2 => ?_)
  · replace h := ifp h c2
    refine w_li rfl rfl ?_
    exact a_ri rfl h
  · replace h := ifn h c2
    refine w_li rfl rfl ?_
    refine w_li rfl rfl ?_
    refine w_li rfl rfl ?_
    refine w_ishr rfl ?_
    refine w_ci rfl ?_
    refine w_iand rfl ?_
    refine w_ci rfl ?_
    refine w_ic_ne rfl (fun c3 => ?_) (fun c3 => ?_)
    · replace h := ifn h c3
      refine w_ci rfl ?_
      exact Wp_fgt (fg_s (fg_s (fg_n (fg_s fg_e)))) (J_X6_thoughtOf_35 hk4 _ _ _ _ _ _ _ h)
    · replace h := ifp h (Classical.not_not.mp c3)
      refine w_la rfl rfl ?_
      refine w_li rfl rfl ?_
      refine w_ci rfl ?_
      obtain ⟨q4, e4, h⟩ := bnd h
      refine a_vi2i rfl (mg_51 _ _) (Nat.le_of_ble_eq_true rfl) (T_X6_its e4) ?_
      refine w_go rfl ?_
      exact Wp_fgt (fg_s (fg_s (fg_n (fg_s fg_e)))) (J_X6_thoughtOf_35 hk4 _ _ _ _ _ _ _ h)
theorem K_X6_thoughtOf_4  : ∀ (n : Nat) (x1 : Int32) (x2 : Int32) (x3 : Int32) (s : SS) (t : TT) (q : Int32 × SS × TT), l_X6_thoughtOf_4 n (x1, x2, x3, s, t) = some q → Wp pl_Kc 171 4 [some (.ref 51), some (.int x1), some (.int x2), some (.int x3)] [] (mk s t) (Qi q)
  | 0, x1, x2, x3, s, t, q, h => by cases (show (none : Option (Int32 × SS × TT)) = some q from h)
  | n + 1, x1, x2, x3, s, t, q, h => B_X6_thoughtOf_4 (K_X6_thoughtOf_4 n) x1 x2 x3 s t q h
set_option maxRecDepth 100000 in
theorem T_X6_thoughtOf  {x1 : Int32} {s : SS} {t : TT} {q : Int32 × SS × TT} (h : f_X6_thoughtOf x1 s t = some q) : Wm 171 [.ref 51, .int x1] (mk s t) (Qi q) := by
  refine Wm.of pT_171 (Nat.le_of_ble_eq_true rfl) (L0 := [some (.ref 51), some (.int x1), none, none]) rfl ?_
  unfold f_X6_thoughtOf at h
  refine w_ci rfl ?_
  refine w_si rfl (Nat.le_of_ble_eq_true rfl) rfl ?_
  refine w_ci rfl ?_
  refine w_si rfl (Nat.le_of_ble_eq_true rfl) rfl ?_
  exact Wp_fgt (fg_s (fg_s (fg_s (fg_s fg_e)))) (K_X6_thoughtOf_4 _ _ _ _ _ _ _ h)
-- X6_packed
set_option maxRecDepth 100000 in
theorem J_X6_packed_141  {k67 : Int32 × Int32 × Int32 × SS × TT → Option (Int32 × SS × TT)} (hk67 : ∀ (x1 : Int32) (x2 : Int32) (x3 : Int32) (s : SS) (t : TT) (q : Int32 × SS × TT), k67 (x1, x2, x3, s, t) = some q → Wp pl_Kc 172 67 [some (.ref 51), some (.int x1), some (.int x2), some (.int x3), none] [] (mk s t) (Qi q)) {k85 : Int32 × Int32 × Int32 × Int32 × SS × TT → Option (Int32 × SS × TT)} (hk85 : ∀ (x1 : Int32) (x2 : Int32) (x3 : Int32) (x4 : Int32) (s : SS) (t : TT) (q : Int32 × SS × TT), k85 (x1, x2, x3, x4, s, t) = some q → Wp pl_Kc 172 85 [some (.ref 51), some (.int x1), some (.int x2), some (.int x3), some (.int x4)] [] (mk s t) (Qi q)) : ∀ (x1 : Int32) (x2 : Int32) (x3 : Int32) (x4 : Int32) (s : SS) (t : TT) (q : Int32 × SS × TT), j_X6_packed_141 k67 k85 x1 x2 x3 x4 s t = some q → Wp pl_Kc 172 141 [some (.ref 51), some (.int x1), some (.int x2), some (.int x3), some (.int x4)] [] (mk s t) (Qi q) := by
  intro x1 x2 x3 x4 s t q h
  unfold j_X6_packed_141 at h
  refine w_li rfl rfl ?_
  refine w_ci rfl ?_
  refine w_isub rfl ?_
  refine w_li rfl rfl ?_
  refine w_iand rfl ?_
  refine w_si rfl (Nat.le_of_ble_eq_true rfl) rfl ?_
  refine w_go rfl ?_
  exact Wp_fgt (fg_s (fg_s (fg_s (fg_s (fg_s fg_e))))) (hk85 _ _ _ _ _ _ _ h)
set_option maxRecDepth 100000 in
theorem B_X6_packed_85  {k67 : Int32 × Int32 × Int32 × SS × TT → Option (Int32 × SS × TT)} (hk67 : ∀ (x1 : Int32) (x2 : Int32) (x3 : Int32) (s : SS) (t : TT) (q : Int32 × SS × TT), k67 (x1, x2, x3, s, t) = some q → Wp pl_Kc 172 67 [some (.ref 51), some (.int x1), some (.int x2), some (.int x3), none] [] (mk s t) (Qi q)) {k85 : Int32 × Int32 × Int32 × Int32 × SS × TT → Option (Int32 × SS × TT)} (hk85 : ∀ (x1 : Int32) (x2 : Int32) (x3 : Int32) (x4 : Int32) (s : SS) (t : TT) (q : Int32 × SS × TT), k85 (x1, x2, x3, x4, s, t) = some q → Wp pl_Kc 172 85 [some (.ref 51), some (.int x1), some (.int x2), some (.int x3), some (.int x4)] [] (mk s t) (Qi q)) : ∀ (x1 : Int32) (x2 : Int32) (x3 : Int32) (x4 : Int32) (s : SS) (t : TT) (q : Int32 × SS × TT), b_X6_packed_85 k67 k85 x1 x2 x3 x4 s t = some q → Wp pl_Kc 172 85 [some (.ref 51), some (.int x1), some (.int x2), some (.int x3), some (.int x4)] [] (mk s t) (Qi q) := by
  intro x1 x2 x3 x4 s t q h
  unfold b_X6_packed_85 at h
  refine w_li rfl rfl ?_
  refine w_if_le rfl (fun c1 => ?_) (fun c1 => ?_)
  · replace h := ifp h c1
    refine w_inc rfl rfl rfl ?_
    refine w_go rfl ?_
    exact Wp_fgt (fg_s (fg_s (fg_s (fg_s (fg_n fg_e))))) (hk67 _ _ _ _ _ _ h)
  · replace h := ifn h c1
    refine w_la rfl rfl ?_
    refine w_li rfl rfl ?_
    obtain ⟨q2, e2, h⟩ := bnd h
    refine a_vi1i rfl (mg_51 _ _) (Nat.le_of_ble_eq_true rfl) (T_X6_thoughtOf e2) ?_
    refine w_li rfl rfl ?_
    refine w_ic_gt rfl (fun c3 => ?_) (fun c3 => ?_)
    · replace h := ifp h c3
      exact Wp_fgt (fg_s (fg_s (fg_s (fg_s (fg_s fg_e))))) (J_X6_packed_141 hk67 hk85 _ _ _ _ _ _ _ h)
    · replace h := ifn h c3
      refine w_la rfl rfl ?_
      refine w_gf rfl (mg_51 _ _) rfl ?_
      refine w_li rfl rfl ?_
      refine w_li rfl rfl ?_
      refine w_ci rfl ?_
      refine w_ixor rfl ?_
      refine w_iand rfl ?_
      obtain ⟨j4, e4, h⟩ := bnd h
      refine a_ia rfl (mr_57 _ _ _) e4 ?_
      refine w_ci rfl ?_
      refine w_iadd rfl ?_
      refine w_la rfl rfl ?_
      refine w_gf rfl (mg_51 _ _) rfl ?_
      refine w_li rfl rfl ?_
      obtain ⟨j5, e5, h⟩ := bnd h
      refine a_ia rfl (mr_57 _ _ _) e5 ?_
      refine w_ic_ge rfl (fun c6 => ?_) (fun c6 => ?_)
      · replace h := ifp h c6
        exact Wp_fgt (fg_s (fg_s (fg_s (fg_s (fg_s fg_e))))) (J_X6_packed_141 hk67 hk85 _ _ _ _ _ _ _ h)
      · replace h := ifn h c6
        refine w_la rfl rfl ?_
        refine w_gf rfl (mg_51 _ _) rfl ?_
        refine w_li rfl rfl ?_
        refine w_la rfl rfl ?_
        refine w_gf rfl (mg_51 _ _) rfl ?_
        refine w_li rfl rfl ?_
        refine w_li rfl rfl ?_
        refine w_ci rfl ?_
        refine w_ixor rfl ?_
        refine w_iand rfl ?_
        obtain ⟨j7, e7, h⟩ := bnd h
        refine a_ia rfl (mr_57 _ _ _) e7 ?_
        refine w_ci rfl ?_
        refine w_iadd rfl ?_
        obtain ⟨j8, e8, h⟩ := bnd h
        refine a_is rfl (mg_57 _ _) (ms_57 _ _) e8 (fun s8 w8 => ?_)
        replace h := wr_of h s8 w8
        exact Wp_fgt (fg_s (fg_s (fg_s (fg_s (fg_s fg_e))))) (J_X6_packed_141 hk67 hk85 _ _ _ _ _ _ _ h)
theorem K_X6_packed_85  {k67 : Int32 × Int32 × Int32 × SS × TT → Option (Int32 × SS × TT)} (hk67 : ∀ (x1 : Int32) (x2 : Int32) (x3 : Int32) (s : SS) (t : TT) (q : Int32 × SS × TT), k67 (x1, x2, x3, s, t) = some q → Wp pl_Kc 172 67 [some (.ref 51), some (.int x1), some (.int x2), some (.int x3), none] [] (mk s t) (Qi q)) : ∀ (n : Nat) (x1 : Int32) (x2 : Int32) (x3 : Int32) (x4 : Int32) (s : SS) (t : TT) (q : Int32 × SS × TT), l_X6_packed_85 k67 n (x1, x2, x3, x4, s, t) = some q → Wp pl_Kc 172 85 [some (.ref 51), some (.int x1), some (.int x2), some (.int x3), some (.int x4)] [] (mk s t) (Qi q)
  | 0, x1, x2, x3, x4, s, t, q, h => by cases (show (none : Option (Int32 × SS × TT)) = some q from h)
  | n + 1, x1, x2, x3, x4, s, t, q, h => B_X6_packed_85 hk67 (K_X6_packed_85 hk67 n) x1 x2 x3 x4 s t q h
set_option maxRecDepth 100000 in
theorem B_X6_packed_67  {k67 : Int32 × Int32 × Int32 × SS × TT → Option (Int32 × SS × TT)} (hk67 : ∀ (x1 : Int32) (x2 : Int32) (x3 : Int32) (s : SS) (t : TT) (q : Int32 × SS × TT), k67 (x1, x2, x3, s, t) = some q → Wp pl_Kc 172 67 [some (.ref 51), some (.int x1), some (.int x2), some (.int x3), none] [] (mk s t) (Qi q)) : ∀ (x1 : Int32) (x2 : Int32) (x3 : Int32) (s : SS) (t : TT) (q : Int32 × SS × TT), b_X6_packed_67 k67 x1 x2 x3 s t = some q → Wp pl_Kc 172 67 [some (.ref 51), some (.int x1), some (.int x2), some (.int x3), none] [] (mk s t) (Qi q) := by
  intro x1 x2 x3 s t q h
  unfold b_X6_packed_67 at h
  refine w_li rfl rfl ?_
  refine w_li rfl rfl ?_
  refine w_ic_gt rfl (fun c1 => ?_) (fun c1 => ?_)
  · replace h := ifp h c1
    refine w_la rfl rfl ?_
    refine w_gf rfl (mg_51 _ _) rfl ?_
    refine w_li rfl rfl ?_
    obtain ⟨j2, e2, h⟩ := bnd h
    refine a_ia rfl (mr_57 _ _ _) e2 ?_
    exact a_ri rfl h
  · replace h := ifn h c1
    refine w_la rfl rfl ?_
    refine w_gf rfl (mg_51 _ _) rfl ?_
    refine w_li rfl rfl ?_
    refine w_li rfl rfl ?_
    obtain ⟨q3, e3, h⟩ := bnd h
    refine a_st1i rfl (Nat.le_of_ble_eq_true rfl) (T_X6_ones e3) ?_
    obtain ⟨j4, e4, h⟩ := bnd h
    refine a_is rfl (mg_57 _ _) (ms_57 _ _) e4 (fun s4 w4 => ?_)
    replace h := wr_of h s4 w4
    refine w_li rfl rfl ?_
    refine w_si rfl (Nat.le_of_ble_eq_true rfl) rfl ?_
    exact Wp_fgt (fg_s (fg_s (fg_s (fg_s (fg_s fg_e))))) (K_X6_packed_85 hk67 _ _ _ _ _ _ _ _ h)
theorem K_X6_packed_67  : ∀ (n : Nat) (x1 : Int32) (x2 : Int32) (x3 : Int32) (s : SS) (t : TT) (q : Int32 × SS × TT), l_X6_packed_67 n (x1, x2, x3, s, t) = some q → Wp pl_Kc 172 67 [some (.ref 51), some (.int x1), some (.int x2), some (.int x3), none] [] (mk s t) (Qi q)
  | 0, x1, x2, x3, s, t, q, h => by cases (show (none : Option (Int32 × SS × TT)) = some q from h)
  | n + 1, x1, x2, x3, s, t, q, h => B_X6_packed_67 (K_X6_packed_67 n) x1 x2 x3 s t q h
set_option maxRecDepth 100000 in
theorem J_X6_packed_57  {k16 : Int32 × Int32 × Int32 × SS × TT → Option (Int32 × SS × TT)} (hk16 : ∀ (x1 : Int32) (x2 : Int32) (x3 : Int32) (s : SS) (t : TT) (q : Int32 × SS × TT), k16 (x1, x2, x3, s, t) = some q → Wp pl_Kc 172 16 [some (.ref 51), some (.int x1), some (.int x2), some (.int x3), none] [] (mk s t) (Qi q)) : ∀ (x1 : Int32) (x3 : Int32) (y0 : Int32) (y1 : Int32) (s : SS) (t : TT) (q : Int32 × SS × TT), j_X6_packed_57 k16 x1 x3 y0 y1 s t = some q → Wp pl_Kc 172 57 [some (.ref 51), some (.int x1), none, some (.int x3), none] [.int y0, .int y1] (mk s t) (Qi q) := by
  intro x1 x3 y0 y1 s t q h
  unfold j_X6_packed_57 at h
  refine w_ior rfl ?_
  refine w_si rfl (Nat.le_of_ble_eq_true rfl) rfl ?_
  refine w_inc rfl rfl rfl ?_
  refine w_go rfl ?_
  exact Wp_fgt (fg_s (fg_s (fg_s (fg_s (fg_n fg_e))))) (hk16 _ _ _ _ _ _ h)
set_option maxRecDepth 100000 in
theorem B_X6_packed_16  {k16 : Int32 × Int32 × Int32 × SS × TT → Option (Int32 × SS × TT)} (hk16 : ∀ (x1 : Int32) (x2 : Int32) (x3 : Int32) (s : SS) (t : TT) (q : Int32 × SS × TT), k16 (x1, x2, x3, s, t) = some q → Wp pl_Kc 172 16 [some (.ref 51), some (.int x1), some (.int x2), some (.int x3), none] [] (mk s t) (Qi q)) : ∀ (x1 : Int32) (x2 : Int32) (x3 : Int32) (s : SS) (t : TT) (q : Int32 × SS × TT), b_X6_packed_16 k16 x1 x2 x3 s t = some q → Wp pl_Kc 172 16 [some (.ref 51), some (.int x1), some (.int x2), some (.int x3), none] [] (mk s t) (Qi q) := by
  intro x1 x2 x3 s t q h
  unfold b_X6_packed_16 at h
  refine w_li rfl rfl ?_
  refine w_la rfl rfl ?_
  refine w_gf rfl (mg_51 _ _) rfl ?_
  refine w_ci rfl ?_
  obtain ⟨j1, e1, h⟩ := bnd h
  refine a_ia rfl (mr_52 _ _ _) e1 ?_
  refine w_ic_ge rfl (fun c2 => ?_) (fun c2 => ?_)
  · replace h := ifp h c2
    refine w_ci rfl ?_
    refine w_si rfl (Nat.le_of_ble_eq_true rfl) rfl ?_
    exact Wp_fgt (fg_s (fg_s (fg_s (fg_s (fg_n fg_e))))) (K_X6_packed_67 _ _ _ _ _ _ _ h)
  · replace h := ifn h c2
    refine w_la rfl rfl ?_
    refine w_li rfl rfl ?_
    refine w_ci rfl ?_
    obtain ⟨q3, e3, h⟩ := bnd h
    refine a_vi2i rfl (mg_51 _ _) (Nat.le_of_ble_eq_true rfl) (T_X6_its e3) ?_
    refine w_li rfl rfl ?_
    refine w_ic_le rfl (fun c4 => ?_) (fun c4 => ?_)
    · replace h := ifp h c4
      refine w_li rfl rfl ?_
      refine w_la rfl rfl ?_
      refine w_li rfl rfl ?_
      refine w_ci rfl ?_
      obtain ⟨q5, e5, h⟩ := bnd h
      refine a_vi2i rfl (mg_51 _ _) (Nat.le_of_ble_eq_true rfl) (T_X6_its e5) ?_
      refine w_if_le rfl (fun c6 => ?_) (fun c6 => ?_)
      · replace h := ifp h c6
        refine w_ci rfl ?_
        exact Wp_fgt (fg_s (fg_s (fg_n (fg_s (fg_n fg_e))))) (J_X6_packed_57 hk16 _ _ _ _ _ _ _ h)
      · replace h := ifn h c6
        refine w_ci rfl ?_
        refine w_li rfl rfl ?_
        refine w_ishl rfl ?_
        refine w_go rfl ?_
        exact Wp_fgt (fg_s (fg_s (fg_n (fg_s (fg_n fg_e))))) (J_X6_packed_57 hk16 _ _ _ _ _ _ _ h)
    · replace h := ifn h c4
      refine w_ci rfl ?_
      exact a_ri rfl h
theorem K_X6_packed_16  : ∀ (n : Nat) (x1 : Int32) (x2 : Int32) (x3 : Int32) (s : SS) (t : TT) (q : Int32 × SS × TT), l_X6_packed_16 n (x1, x2, x3, s, t) = some q → Wp pl_Kc 172 16 [some (.ref 51), some (.int x1), some (.int x2), some (.int x3), none] [] (mk s t) (Qi q)
  | 0, x1, x2, x3, s, t, q, h => by cases (show (none : Option (Int32 × SS × TT)) = some q from h)
  | n + 1, x1, x2, x3, s, t, q, h => B_X6_packed_16 (K_X6_packed_16 n) x1 x2 x3 s t q h
set_option maxRecDepth 100000 in
theorem T_X6_packed  {x1 : Int32} {s : SS} {t : TT} {q : Int32 × SS × TT} (h : f_X6_packed x1 s t = some q) : Wm 172 [.ref 51, .int x1] (mk s t) (Qi q) := by
  refine Wm.of pT_172 (Nat.le_of_ble_eq_true rfl) (L0 := [some (.ref 51), some (.int x1), none, none, none]) rfl ?_
  unfold f_X6_packed at h
  refine w_li rfl rfl ?_
  refine w_ci rfl ?_
  refine w_ci rfl ?_
  obtain ⟨q1, e1, h⟩ := bnd h
  refine a_st3i rfl (Nat.le_of_ble_eq_true rfl) (T_X6_in e1) ?_
  refine w_if_ne rfl (fun c2 => ?_) (fun c2 => ?_)
  · replace h := ifn h c2
    refine w_ci rfl ?_
    refine w_si rfl (Nat.le_of_ble_eq_true rfl) rfl ?_
    refine w_ci rfl ?_
    refine w_si rfl (Nat.le_of_ble_eq_true rfl) rfl ?_
    exact Wp_fgt (fg_s (fg_s (fg_s (fg_s (fg_n fg_e))))) (K_X6_packed_16 _ _ _ _ _ _ _ h)
  · replace h := ifp h (Classical.not_not.mp c2)
    refine w_ci rfl ?_
    exact a_ri rfl h
-- X6_isSo
set_option maxRecDepth 100000 in
theorem J_X6_isSo_78  : ∀ (x2 : Int32) (s : SS) (t : TT) (q : Int32 × SS × TT), j_X6_isSo_78 x2 s t = some q → Wp pl_Kc 173 78 [some (.ref 51), none, some (.int x2), none, none] [] (mk s t) (Qi q) := by
  intro x2 s t q h
  unfold j_X6_isSo_78 at h
  refine w_la rfl rfl ?_
  refine w_gf rfl (mg_51 _ _) rfl ?_
  refine w_la rfl rfl ?_
  refine w_gf rfl (mg_51 _ _) rfl ?_
  obtain ⟨q1, e1, h⟩ := bnd h
  refine a_st2v rfl (Nat.le_of_ble_eq_true rfl) (T_X6_moveAll (Or.inr (Or.inr (Or.inr rfl))) (Or.inl rfl) e1) ?_
  refine w_li rfl rfl ?_
  exact a_rzc rfl h
set_option maxRecDepth 100000 in
theorem J_X6_isSo_66  {k7 : Int32 × Int32 × Int32 × Int32 × SS × TT → Option (Int32 × SS × TT)} (hk7 : ∀ (x1 : Int32) (x2 : Int32) (x3 : Int32) (x4 : Int32) (s : SS) (t : TT) (q : Int32 × SS × TT), k7 (x1, x2, x3, x4, s, t) = some q → Wp pl_Kc 173 7 [some (.ref 51), some (.int x1), some (.int x2), some (.int x3), some (.int x4)] [] (mk s t) (Qi q)) : ∀ (x1 : Int32) (x3 : Int32) (x4 : Int32) (s : SS) (t : TT) (q : Int32 × SS × TT), j_X6_isSo_66 k7 x1 x3 x4 s t = some q → Wp pl_Kc 173 66 [some (.ref 51), some (.int x1), none, some (.int x3), some (.int x4)] [] (mk s t) (Qi q) := by
  intro x1 x3 x4 s t q h
  unfold j_X6_isSo_66 at h
  refine w_ci rfl ?_
  refine w_go rfl ?_
  refine w_si rfl (Nat.le_of_ble_eq_true rfl) rfl ?_
  refine w_inc rfl rfl rfl ?_
  refine w_go rfl ?_
  exact Wp_fgt (fg_s (fg_s (fg_s (fg_s (fg_s fg_e))))) (hk7 _ _ _ _ _ _ _ h)
set_option maxRecDepth 100000 in
theorem B_X6_isSo_7  {k7 : Int32 × Int32 × Int32 × Int32 × SS × TT → Option (Int32 × SS × TT)} (hk7 : ∀ (x1 : Int32) (x2 : Int32) (x3 : Int32) (x4 : Int32) (s : SS) (t : TT) (q : Int32 × SS × TT), k7 (x1, x2, x3, x4, s, t) = some q → Wp pl_Kc 173 7 [some (.ref 51), some (.int x1), some (.int x2), some (.int x3), some (.int x4)] [] (mk s t) (Qi q)) : ∀ (x1 : Int32) (x2 : Int32) (x3 : Int32) (x4 : Int32) (s : SS) (t : TT) (q : Int32 × SS × TT), b_X6_isSo_7 k7 x1 x2 x3 x4 s t = some q → Wp pl_Kc 173 7 [some (.ref 51), some (.int x1), some (.int x2), some (.int x3), some (.int x4)] [] (mk s t) (Qi q) := by
  intro x1 x2 x3 x4 s t q h
  unfold b_X6_isSo_7 at h
  refine w_li rfl rfl ?_
  refine w_la rfl rfl ?_
  refine w_gf rfl (mg_51 _ _) rfl ?_
  refine w_li rfl rfl ?_
  obtain ⟨j1, e1, h⟩ := bnd h
  refine a_ia rfl (mr_61 _ _ _) e1 ?_
  refine w_ic_ge rfl (fun c2 => ?_) (fun c2 => ?_)
  · replace h := ifp h c2
    exact Wp_fgt (fg_s (fg_n (fg_s (fg_n (fg_n fg_e))))) (J_X6_isSo_78 _ _ _ _ h)
  · replace h := ifn h c2
    refine w_li rfl rfl ?_
    refine w_if_eq rfl (fun c3 => ?_) (fun c3 => ?_)
    · replace h := ifp h c3
      exact Wp_fgt (fg_s (fg_n (fg_s (fg_n (fg_n fg_e))))) (J_X6_isSo_78 _ _ _ _ h)
    · replace h := ifn h c3
      refine w_li rfl rfl ?_
      refine w_la rfl rfl ?_
      obtain ⟨q4, e4, h⟩ := bnd h
      refine a_vi0i rfl (mg_51 _ _) (Nat.le_of_ble_eq_true rfl) (T_X6_weekGoes e4) ?_
      refine w_iadd rfl ?_
      refine w_si rfl (Nat.le_of_ble_eq_true rfl) rfl ?_
      refine w_la rfl rfl ?_
      refine w_gf rfl (mg_51 _ _) rfl ?_
      refine w_ci rfl ?_
      refine w_li rfl rfl ?_
      refine w_imul rfl ?_
      refine w_li rfl rfl ?_
      refine w_iadd rfl ?_
      obtain ⟨j5, e5, h⟩ := bnd h
      refine a_ja rfl (mg_62 _ _) e5 ?_
      refine w_cl rfl ?_
      refine w_cmp rfl ?_
      refine w_if_eq rfl (fun c6 => ?_) (fun c6 => ?_)
      · replace h := ifp h c6
        exact Wp_fgt (fg_s (fg_s (fg_n (fg_s (fg_s fg_e))))) (J_X6_isSo_66 hk7 _ _ _ _ _ _ h)
      · replace h := ifn h c6
        refine w_la rfl rfl ?_
        refine w_gf rfl (mg_51 _ _) rfl ?_
        refine w_ci rfl ?_
        refine w_li rfl rfl ?_
        refine w_imul rfl ?_
        refine w_li rfl rfl ?_
        refine w_iadd rfl ?_
        obtain ⟨j7, e7, h⟩ := bnd h
        refine a_ja rfl (mg_62 _ _) e7 ?_
        refine w_li rfl rfl ?_
        refine w_i2l rfl ?_
        refine w_cmp rfl ?_
        refine w_if_ne rfl (fun c8 => ?_) (fun c8 => ?_)
        · replace h := ifn h c8
          refine w_ci rfl ?_
          refine w_si rfl (Nat.le_of_ble_eq_true rfl) rfl ?_
          refine w_inc rfl rfl rfl ?_
          refine w_go rfl ?_
          exact Wp_fgt (fg_s (fg_s (fg_s (fg_s (fg_s fg_e))))) (hk7 _ _ _ _ _ _ _ h)
        · replace h := ifp h (Classical.not_not.mp c8)
          exact Wp_fgt (fg_s (fg_s (fg_n (fg_s (fg_s fg_e))))) (J_X6_isSo_66 hk7 _ _ _ _ _ _ h)
theorem K_X6_isSo_7  : ∀ (n : Nat) (x1 : Int32) (x2 : Int32) (x3 : Int32) (x4 : Int32) (s : SS) (t : TT) (q : Int32 × SS × TT), l_X6_isSo_7 n (x1, x2, x3, x4, s, t) = some q → Wp pl_Kc 173 7 [some (.ref 51), some (.int x1), some (.int x2), some (.int x3), some (.int x4)] [] (mk s t) (Qi q)
  | 0, x1, x2, x3, x4, s, t, q, h => by cases (show (none : Option (Int32 × SS × TT)) = some q from h)
  | n + 1, x1, x2, x3, x4, s, t, q, h => B_X6_isSo_7 (K_X6_isSo_7 n) x1 x2 x3 x4 s t q h
set_option maxRecDepth 100000 in
theorem T_X6_isSo  {x1 : Int32} {s : SS} {t : TT} {q : Int32 × SS × TT} (h : f_X6_isSo x1 s t = some q) : Wm 173 [.ref 51, .int x1] (mk s t) (Qi q) := by
  refine Wm.of pT_173 (Nat.le_of_ble_eq_true rfl) (L0 := [some (.ref 51), some (.int x1), none, none, none]) rfl ?_
  unfold f_X6_isSo at h
  refine w_ci rfl ?_
  refine w_si rfl (Nat.le_of_ble_eq_true rfl) rfl ?_
  refine w_ci rfl ?_
  refine w_si rfl (Nat.le_of_ble_eq_true rfl) rfl ?_
  refine w_ci rfl ?_
  refine w_si rfl (Nat.le_of_ble_eq_true rfl) rfl ?_
  exact Wp_fgt (fg_s (fg_s (fg_s (fg_s (fg_s fg_e))))) (K_X6_isSo_7 _ _ _ _ _ _ _ _ h)
-- X6_isShelf
set_option maxRecDepth 100000 in
theorem T_X6_isShelf  {x0 : Int32} {s : SS} {t : TT} {q : Int32 × SS × TT} (h : f_X6_isShelf x0 s t = some q) : Wm 186 [.int x0] (mk s t) (Qi q) := by
  refine Wm.of pT_186 (Nat.le_of_ble_eq_true rfl) (L0 := [some (.int x0)]) rfl ?_
  unfold f_X6_isShelf at h
  refine w_li rfl rfl ?_
  refine w_ci rfl ?_
  refine w_ci rfl ?_
  obtain ⟨q1, e1, h⟩ := bnd h
  refine a_st3i rfl (Nat.le_of_ble_eq_true rfl) (T_X6_in e1) ?_
  exact a_rzc rfl h
-- X6_fits
set_option maxRecDepth 100000 in
theorem J_X6_fits_92  {k60 : Int32 × Int32 × Int32 × Int32 × Int32 × Int32 × SS × TT → Option (Int32 × SS × TT)} (hk60 : ∀ (x1 : Int32) (x2 : Int32) (x3 : Int32) (x4 : Int32) (x5 : Int32) (x6 : Int32) (s : SS) (t : TT) (q : Int32 × SS × TT), k60 (x1, x2, x3, x4, x5, x6, s, t) = some q → Wp pl_Kc 174 60 [some (.ref 51), some (.int x1), some (.int x2), some (.int x3), some (.int x4), some (.int x5), some (.int x6), none] [] (mk s t) (Qi q)) : ∀ (x1 : Int32) (x2 : Int32) (x3 : Int32) (x5 : Int32) (x6 : Int32) (x7 : Int32) (y0 : Int32) (y1 : Int32) (s : SS) (t : TT) (q : Int32 × SS × TT), j_X6_fits_92 k60 x1 x2 x3 x5 x6 x7 y0 y1 s t = some q → Wp pl_Kc 174 92 [some (.ref 51), some (.int x1), some (.int x2), some (.int x3), none, some (.int x5), some (.int x6), some (.int x7)] [.int y0, .int y1] (mk s t) (Qi q) := by
  intro x1 x2 x3 x5 x6 x7 y0 y1 s t q h
  unfold j_X6_fits_92 at h
  refine w_iadd rfl ?_
  refine w_si rfl (Nat.le_of_ble_eq_true rfl) rfl ?_
  refine w_li rfl rfl ?_
  refine w_if_eq rfl (fun c1 => ?_) (fun c1 => ?_)
  · replace h := ifp h c1
    refine w_li rfl rfl ?_
    refine w_si rfl (Nat.le_of_ble_eq_true rfl) rfl ?_
    refine w_inc rfl rfl rfl ?_
    refine w_go rfl ?_
    exact Wp_fgt (fg_s (fg_s (fg_s (fg_s (fg_s (fg_s (fg_s (fg_n fg_e)))))))) (hk60 _ _ _ _ _ _ _ _ _ h)
  · replace h := ifn h c1
    refine w_li rfl rfl ?_
    refine w_go rfl ?_
    refine w_si rfl (Nat.le_of_ble_eq_true rfl) rfl ?_
    refine w_inc rfl rfl rfl ?_
    refine w_go rfl ?_
    exact Wp_fgt (fg_s (fg_s (fg_s (fg_s (fg_s (fg_s (fg_s (fg_n fg_e)))))))) (hk60 _ _ _ _ _ _ _ _ _ h)
set_option maxRecDepth 100000 in
theorem B_X6_fits_60  {k60 : Int32 × Int32 × Int32 × Int32 × Int32 × Int32 × SS × TT → Option (Int32 × SS × TT)} (hk60 : ∀ (x1 : Int32) (x2 : Int32) (x3 : Int32) (x4 : Int32) (x5 : Int32) (x6 : Int32) (s : SS) (t : TT) (q : Int32 × SS × TT), k60 (x1, x2, x3, x4, x5, x6, s, t) = some q → Wp pl_Kc 174 60 [some (.ref 51), some (.int x1), some (.int x2), some (.int x3), some (.int x4), some (.int x5), some (.int x6), none] [] (mk s t) (Qi q)) : ∀ (x1 : Int32) (x2 : Int32) (x3 : Int32) (x4 : Int32) (x5 : Int32) (x6 : Int32) (s : SS) (t : TT) (q : Int32 × SS × TT), b_X6_fits_60 k60 x1 x2 x3 x4 x5 x6 s t = some q → Wp pl_Kc 174 60 [some (.ref 51), some (.int x1), some (.int x2), some (.int x3), some (.int x4), some (.int x5), some (.int x6), none] [] (mk s t) (Qi q) := by
  intro x1 x2 x3 x4 x5 x6 s t q h
  unfold b_X6_fits_60 at h
  refine w_li rfl rfl ?_
  refine w_if_lt rfl (fun c1 => ?_) (fun c1 => ?_)
  · replace h := ifp h c1
    refine w_li rfl rfl ?_
    refine w_if_ne rfl (fun c2 => ?_) (fun c2 => ?_)
    · replace h := ifn h c2
      refine w_li rfl rfl ?_
      exact a_ri rfl h
    · replace h := ifp h (Classical.not_not.mp c2)
      refine w_li rfl rfl ?_
      refine w_go rfl ?_
      exact a_ri rfl h
  · replace h := ifn h c1
    refine w_la rfl rfl ?_
    refine w_li rfl rfl ?_
    refine w_ci rfl ?_
    refine w_li rfl rfl ?_
    obtain ⟨q3, e3, h⟩ := bnd h
    refine a_vi3v rfl (mg_51 _ _) (Nat.le_of_ble_eq_true rfl) (T_X6_sets e3) ?_
    refine w_la rfl rfl ?_
    refine w_li rfl rfl ?_
    obtain ⟨q4, e4, h⟩ := bnd h
    refine a_vi1i rfl (mg_51 _ _) (Nat.le_of_ble_eq_true rfl) (T_X6_isSo e4) ?_
    refine w_si rfl (Nat.le_of_ble_eq_true rfl) rfl ?_
    refine w_li rfl rfl ?_
    refine w_li rfl rfl ?_
    refine w_if_eq rfl (fun c5 => ?_) (fun c5 => ?_)
    · replace h := ifp h c5
      refine w_ci rfl ?_
      exact Wp_fgt (fg_s (fg_s (fg_s (fg_s (fg_n (fg_s (fg_s (fg_s fg_e)))))))) (J_X6_fits_92 hk60 _ _ _ _ _ _ _ _ _ _ _ h)
    · replace h := ifn h c5
      refine w_ci rfl ?_
      refine w_go rfl ?_
      exact Wp_fgt (fg_s (fg_s (fg_s (fg_s (fg_n (fg_s (fg_s (fg_s fg_e)))))))) (J_X6_fits_92 hk60 _ _ _ _ _ _ _ _ _ _ _ h)
theorem K_X6_fits_60  : ∀ (n : Nat) (x1 : Int32) (x2 : Int32) (x3 : Int32) (x4 : Int32) (x5 : Int32) (x6 : Int32) (s : SS) (t : TT) (q : Int32 × SS × TT), l_X6_fits_60 n (x1, x2, x3, x4, x5, x6, s, t) = some q → Wp pl_Kc 174 60 [some (.ref 51), some (.int x1), some (.int x2), some (.int x3), some (.int x4), some (.int x5), some (.int x6), none] [] (mk s t) (Qi q)
  | 0, x1, x2, x3, x4, x5, x6, s, t, q, h => by cases (show (none : Option (Int32 × SS × TT)) = some q from h)
  | n + 1, x1, x2, x3, x4, x5, x6, s, t, q, h => B_X6_fits_60 (K_X6_fits_60 n) x1 x2 x3 x4 x5 x6 s t q h
set_option maxRecDepth 100000 in
theorem T_X6_fits  {x1 : Int32} {x2 : Int32} {x3 : Int32} {s : SS} {t : TT} {q : Int32 × SS × TT} (h : f_X6_fits x1 x2 x3 s t = some q) : Wm 174 [.ref 51, .int x1, .int x2, .int x3] (mk s t) (Qi q) := by
  refine Wm.of pT_174 (Nat.le_of_ble_eq_true rfl) (L0 := [some (.ref 51), some (.int x1), some (.int x2), some (.int x3), none, none, none, none]) rfl ?_
  unfold f_X6_fits at h
  refine w_li rfl rfl ?_
  obtain ⟨q1, e1, h⟩ := bnd h
  refine a_st1i rfl (Nat.le_of_ble_eq_true rfl) (T_X6_isShelf e1) ?_
  refine w_if_eq rfl (fun c2 => ?_) (fun c2 => ?_)
  · replace h := ifp h c2
    refine w_ci rfl ?_
    exact a_ri rfl h
  · replace h := ifn h c2
    refine w_la rfl rfl ?_
    refine w_li rfl rfl ?_
    obtain ⟨q3, e3, h⟩ := bnd h
    refine a_vi1i rfl (mg_51 _ _) (Nat.le_of_ble_eq_true rfl) (T_X6_isOne e3) ?_
    refine w_if_eq rfl (fun c4 => ?_) (fun c4 => ?_)
    · replace h := ifp h c4
      refine w_ci rfl ?_
      exact a_ri rfl h
    · replace h := ifn h c4
      refine w_li rfl rfl ?_
      refine w_ci rfl ?_
      refine w_ci rfl ?_
      obtain ⟨q5, e5, h⟩ := bnd h
      refine a_st3i rfl (Nat.le_of_ble_eq_true rfl) (T_X6_in e5) ?_
      refine w_if_ne rfl (fun c6 => ?_) (fun c6 => ?_)
      · replace h := ifn h c6
        refine w_la rfl rfl ?_
        refine w_gf rfl (mg_51 _ _) rfl ?_
        refine w_li rfl rfl ?_
        obtain ⟨j7, e7, h⟩ := bnd h
        refine a_ia rfl (mr_60 _ _ _) e7 ?_
        refine w_if_ge rfl (fun c8 => ?_) (fun c8 => ?_)
        · replace h := ifp h c8
          refine w_la rfl rfl ?_
          refine w_gf rfl (mg_51 _ _) rfl ?_
          refine w_la rfl rfl ?_
          refine w_gf rfl (mg_51 _ _) rfl ?_
          obtain ⟨q9, e9, h⟩ := bnd h
          refine a_st2v rfl (Nat.le_of_ble_eq_true rfl) (T_X6_moveAll (Or.inl rfl) (Or.inr (Or.inr (Or.inr rfl))) e9) ?_
          refine w_ci rfl ?_
          refine w_si rfl (Nat.le_of_ble_eq_true rfl) rfl ?_
          refine w_ci rfl ?_
          refine w_si rfl (Nat.le_of_ble_eq_true rfl) rfl ?_
          refine w_ci rfl ?_
          refine w_si rfl (Nat.le_of_ble_eq_true rfl) rfl ?_
          exact Wp_fgt (fg_s (fg_s (fg_s (fg_s (fg_s (fg_s (fg_s (fg_n fg_e)))))))) (K_X6_fits_60 _ _ _ _ _ _ _ _ _ _ h)
        · replace h := ifn h c8
          refine w_ci rfl ?_
          exact a_ri rfl h
      · replace h := ifp h (Classical.not_not.mp c6)
        refine w_ci rfl ?_
        exact a_ri rfl h
-- X6_lowest
set_option maxRecDepth 100000 in
theorem B_X6_lowest_6  {k6 : Int64 × Int64 × Int32 × Int64 × Int64 × SS × TT → Option (Int64 × SS × TT)} (hk6 : ∀ (x0 : Int64) (x2 : Int64) (x4 : Int32) (x5 : Int64) (x7 : Int64) (s : SS) (t : TT) (q : Int64 × SS × TT), k6 (x0, x2, x4, x5, x7, s, t) = some q → Wp pl_Kc 175 6 [some (.long x0), none, some (.long x2), none, some (.int x4), some (.long x5), none, some (.long x7), none, none, none] [] (mk s t) (Ql q)) : ∀ (x0 : Int64) (x2 : Int64) (x4 : Int32) (x5 : Int64) (x7 : Int64) (s : SS) (t : TT) (q : Int64 × SS × TT), b_X6_lowest_6 k6 x0 x2 x4 x5 x7 s t = some q → Wp pl_Kc 175 6 [some (.long x0), none, some (.long x2), none, some (.int x4), some (.long x5), none, some (.long x7), none, none, none] [] (mk s t) (Ql q) := by
  intro x0 x2 x4 x5 x7 s t q h
  unfold b_X6_lowest_6 at h
  refine w_ll rfl rfl ?_
  refine w_cl rfl ?_
  refine w_cmp rfl ?_
  refine w_if_eq rfl (fun c1 => ?_) (fun c1 => ?_)
  · replace h := ifp h c1
    refine w_li rfl rfl ?_
    refine w_if_ne rfl (fun c2 => ?_) (fun c2 => ?_)
    · replace h := ifn h c2
      refine w_ll rfl rfl ?_
      refine w_ll rfl rfl ?_
      by_cases c3 : x5 = 0
      · cases (ifp h c3)
      replace h := ifn h c3
      refine w_ldiv rfl c3 ?_
      exact a_rl rfl h
    · replace h := ifp h (Classical.not_not.mp c2)
      refine w_ll rfl rfl ?_
      refine w_ll rfl rfl ?_
      by_cases c4 : x5 = 0
      · cases (ifp h c4)
      replace h := ifn h c4
      refine w_ldiv rfl c4 ?_
      refine w_go rfl ?_
      exact a_rl rfl h
  · replace h := ifn h c1
    refine w_ll rfl rfl ?_
    refine w_ll rfl rfl ?_
    by_cases c5 : x7 = 0
    · cases (ifp h c5)
    replace h := ifn h c5
    refine w_lrem rfl c5 ?_
    refine w_sl rfl (Nat.le_of_ble_eq_true rfl) rfl ?_
    refine w_ll rfl rfl ?_
    refine w_sl rfl (Nat.le_of_ble_eq_true rfl) rfl ?_
    refine w_ll rfl rfl ?_
    refine w_sl rfl (Nat.le_of_ble_eq_true rfl) rfl ?_
    refine w_go rfl ?_
    exact Wp_fgt (fg_s (fg_n (fg_s (fg_n (fg_s (fg_s (fg_n (fg_s (fg_n (fg_n (fg_n fg_e))))))))))) (hk6 _ _ _ _ _ _ _ _ h)
theorem K_X6_lowest_6  : ∀ (n : Nat) (x0 : Int64) (x2 : Int64) (x4 : Int32) (x5 : Int64) (x7 : Int64) (s : SS) (t : TT) (q : Int64 × SS × TT), l_X6_lowest_6 n (x0, x2, x4, x5, x7, s, t) = some q → Wp pl_Kc 175 6 [some (.long x0), none, some (.long x2), none, some (.int x4), some (.long x5), none, some (.long x7), none, none, none] [] (mk s t) (Ql q)
  | 0, x0, x2, x4, x5, x7, s, t, q, h => by cases (show (none : Option (Int64 × SS × TT)) = some q from h)
  | n + 1, x0, x2, x4, x5, x7, s, t, q, h => B_X6_lowest_6 (K_X6_lowest_6 n) x0 x2 x4 x5 x7 s t q h
set_option maxRecDepth 100000 in
theorem T_X6_lowest  {x0 : Int64} {x2 : Int64} {x4 : Int32} {s : SS} {t : TT} {q : Int64 × SS × TT} (h : f_X6_lowest x0 x2 x4 s t = some q) : Wm 175 [.long x0, .long x2, .int x4] (mk s t) (Ql q) := by
  refine Wm.of pT_175 (Nat.le_of_ble_eq_true rfl) (L0 := [some (.long x0), none, some (.long x2), none, some (.int x4), none, none, none, none, none, none]) rfl ?_
  unfold f_X6_lowest at h
  refine w_ll rfl rfl ?_
  refine w_sl rfl (Nat.le_of_ble_eq_true rfl) rfl ?_
  refine w_ll rfl rfl ?_
  refine w_sl rfl (Nat.le_of_ble_eq_true rfl) rfl ?_
  exact Wp_fgt (fg_s (fg_n (fg_s (fg_n (fg_s (fg_s (fg_n (fg_s (fg_n (fg_n (fg_n fg_e))))))))))) (K_X6_lowest_6 _ _ _ _ _ _ _ _ _ h)
-- X6_powerOf
set_option maxRecDepth 100000 in
theorem B_X6_powerOf_5  {k5 : Int32 × Int32 × Int64 × Int32 × SS × TT → Option (Int64 × SS × TT)} (hk5 : ∀ (x0 : Int32) (x1 : Int32) (x2 : Int64) (x4 : Int32) (s : SS) (t : TT) (q : Int64 × SS × TT), k5 (x0, x1, x2, x4, s, t) = some q → Wp pl_Kc 176 5 [some (.int x0), some (.int x1), some (.long x2), none, some (.int x4)] [] (mk s t) (Ql q)) : ∀ (x0 : Int32) (x1 : Int32) (x2 : Int64) (x4 : Int32) (s : SS) (t : TT) (q : Int64 × SS × TT), b_X6_powerOf_5 k5 x0 x1 x2 x4 s t = some q → Wp pl_Kc 176 5 [some (.int x0), some (.int x1), some (.long x2), none, some (.int x4)] [] (mk s t) (Ql q) := by
  intro x0 x1 x2 x4 s t q h
  unfold b_X6_powerOf_5 at h
  refine w_li rfl rfl ?_
  refine w_li rfl rfl ?_
  refine w_ic_ge rfl (fun c1 => ?_) (fun c1 => ?_)
  · replace h := ifp h c1
    refine w_ll rfl rfl ?_
    exact a_rl rfl h
  · replace h := ifn h c1
    refine w_ll rfl rfl ?_
    refine w_li rfl rfl ?_
    refine w_i2l rfl ?_
    refine w_lmul rfl ?_
    refine w_sl rfl (Nat.le_of_ble_eq_true rfl) rfl ?_
    refine w_inc rfl rfl rfl ?_
    refine w_go rfl ?_
    exact Wp_fgt (fg_s (fg_s (fg_s (fg_n (fg_s fg_e))))) (hk5 _ _ _ _ _ _ _ h)
theorem K_X6_powerOf_5  : ∀ (n : Nat) (x0 : Int32) (x1 : Int32) (x2 : Int64) (x4 : Int32) (s : SS) (t : TT) (q : Int64 × SS × TT), l_X6_powerOf_5 n (x0, x1, x2, x4, s, t) = some q → Wp pl_Kc 176 5 [some (.int x0), some (.int x1), some (.long x2), none, some (.int x4)] [] (mk s t) (Ql q)
  | 0, x0, x1, x2, x4, s, t, q, h => by cases (show (none : Option (Int64 × SS × TT)) = some q from h)
  | n + 1, x0, x1, x2, x4, s, t, q, h => B_X6_powerOf_5 (K_X6_powerOf_5 n) x0 x1 x2 x4 s t q h
set_option maxRecDepth 100000 in
theorem T_X6_powerOf  {x0 : Int32} {x1 : Int32} {s : SS} {t : TT} {q : Int64 × SS × TT} (h : f_X6_powerOf x0 x1 s t = some q) : Wm 176 [.int x0, .int x1] (mk s t) (Ql q) := by
  refine Wm.of pT_176 (Nat.le_of_ble_eq_true rfl) (L0 := [some (.int x0), some (.int x1), none, none, none]) rfl ?_
  unfold f_X6_powerOf at h
  refine w_cl rfl ?_
  refine w_sl rfl (Nat.le_of_ble_eq_true rfl) rfl ?_
  refine w_ci rfl ?_
  refine w_si rfl (Nat.le_of_ble_eq_true rfl) rfl ?_
  exact Wp_fgt (fg_s (fg_s (fg_s (fg_n (fg_s fg_e))))) (K_X6_powerOf_5 _ _ _ _ _ _ _ _ h)
-- X6_odds
set_option maxRecDepth 100000 in
theorem B_X6_odds_38  {k38 : Int32 × Int32 × Int32 × Int64 × Int32 × SS × TT → Option (Int64 × SS × TT)} (hk38 : ∀ (x1 : Int32) (x2 : Int32) (x3 : Int32) (x4 : Int64) (x6 : Int32) (s : SS) (t : TT) (q : Int64 × SS × TT), k38 (x1, x2, x3, x4, x6, s, t) = some q → Wp pl_Kc 177 38 [some (.ref 51), some (.int x1), some (.int x2), some (.int x3), some (.long x4), none, some (.int x6)] [] (mk s t) (Ql q)) : ∀ (x1 : Int32) (x2 : Int32) (x3 : Int32) (x4 : Int64) (x6 : Int32) (s : SS) (t : TT) (q : Int64 × SS × TT), b_X6_odds_38 k38 x1 x2 x3 x4 x6 s t = some q → Wp pl_Kc 177 38 [some (.ref 51), some (.int x1), some (.int x2), some (.int x3), some (.long x4), none, some (.int x6)] [] (mk s t) (Ql q) := by
  intro x1 x2 x3 x4 x6 s t q h
  unfold b_X6_odds_38 at h
  refine w_li rfl rfl ?_
  refine w_li rfl rfl ?_
  refine w_ic_ge rfl (fun c1 => ?_) (fun c1 => ?_)
  · replace h := ifp h c1
    refine w_ll rfl rfl ?_
    refine w_la rfl rfl ?_
    refine w_gf rfl (mg_51 _ _) rfl ?_
    refine w_ci rfl ?_
    obtain ⟨j2, e2, h⟩ := bnd h
    refine a_ia rfl (mr_52 _ _ _) e2 ?_
    refine w_li rfl rfl ?_
    obtain ⟨q3, e3, h⟩ := bnd h
    refine a_st2l rfl (Nat.le_of_ble_eq_true rfl) (T_X6_powerOf e3) ?_
    refine w_lmul rfl ?_
    refine w_ci rfl ?_
    refine w_la rfl rfl ?_
    refine w_gf rfl (mg_51 _ _) rfl ?_
    refine w_ci rfl ?_
    obtain ⟨j4, e4, h⟩ := bnd h
    refine a_ia rfl (mr_52 _ _ _) e4 ?_
    refine w_isub rfl ?_
    refine w_li rfl rfl ?_
    refine w_li rfl rfl ?_
    refine w_isub rfl ?_
    obtain ⟨q5, e5, h⟩ := bnd h
    refine a_st2l rfl (Nat.le_of_ble_eq_true rfl) (T_X6_powerOf e5) ?_
    refine w_lmul rfl ?_
    refine w_ci rfl ?_
    refine w_li rfl rfl ?_
    obtain ⟨q6, e6, h⟩ := bnd h
    refine a_st2l rfl (Nat.le_of_ble_eq_true rfl) (T_X6_powerOf e6) ?_
    refine w_li rfl rfl ?_
    obtain ⟨q7, e7, h⟩ := bnd h
    refine a_st3l rfl (Nat.le_of_ble_eq_true rfl) (T_X6_lowest e7) ?_
    exact a_rl rfl h
  · replace h := ifn h c1
    refine w_ll rfl rfl ?_
    refine w_li rfl rfl ?_
    refine w_li rfl rfl ?_
    refine w_isub rfl ?_
    refine w_i2l rfl ?_
    refine w_lmul rfl ?_
    refine w_li rfl rfl ?_
    refine w_ci rfl ?_
    refine w_iadd rfl ?_
    refine w_i2l rfl ?_
    by_cases c8 : (Int32.toInt64 (x6 + (1 : Int32))) = 0
    · cases (ifp h c8)
    replace h := ifn h c8
    refine w_ldiv rfl c8 ?_
    refine w_sl rfl (Nat.le_of_ble_eq_true rfl) rfl ?_
    refine w_inc rfl rfl rfl ?_
    refine w_go rfl ?_
    exact Wp_fgt (fg_s (fg_s (fg_s (fg_s (fg_s (fg_n (fg_s fg_e))))))) (hk38 _ _ _ _ _ _ _ _ h)
theorem K_X6_odds_38  : ∀ (n : Nat) (x1 : Int32) (x2 : Int32) (x3 : Int32) (x4 : Int64) (x6 : Int32) (s : SS) (t : TT) (q : Int64 × SS × TT), l_X6_odds_38 n (x1, x2, x3, x4, x6, s, t) = some q → Wp pl_Kc 177 38 [some (.ref 51), some (.int x1), some (.int x2), some (.int x3), some (.long x4), none, some (.int x6)] [] (mk s t) (Ql q)
  | 0, x1, x2, x3, x4, x6, s, t, q, h => by cases (show (none : Option (Int64 × SS × TT)) = some q from h)
  | n + 1, x1, x2, x3, x4, x6, s, t, q, h => B_X6_odds_38 (K_X6_odds_38 n) x1 x2 x3 x4 x6 s t q h
set_option maxRecDepth 100000 in
theorem T_X6_odds  {x1 : Int32} {x2 : Int32} {x3 : Int32} {s : SS} {t : TT} {q : Int64 × SS × TT} (h : f_X6_odds x1 x2 x3 s t = some q) : Wm 177 [.ref 51, .int x1, .int x2, .int x3] (mk s t) (Ql q) := by
  refine Wm.of pT_177 (Nat.le_of_ble_eq_true rfl) (L0 := [some (.ref 51), some (.int x1), some (.int x2), some (.int x3), none, none, none]) rfl ?_
  unfold f_X6_odds at h
  refine w_li rfl rfl ?_
  refine w_ci rfl ?_
  refine w_ci rfl ?_
  obtain ⟨q1, e1, h⟩ := bnd h
  refine a_st3i rfl (Nat.le_of_ble_eq_true rfl) (T_X6_in e1) ?_
  refine w_if_eq rfl (fun c2 => ?_) (fun c2 => ?_)
  · replace h := ifp h c2
    refine w_cl rfl ?_
    exact a_rl rfl h
  · replace h := ifn h c2
    refine w_li rfl rfl ?_
    refine w_ci rfl ?_
    refine w_li rfl rfl ?_
    obtain ⟨q3, e3, h⟩ := bnd h
    refine a_st3i rfl (Nat.le_of_ble_eq_true rfl) (T_X6_in e3) ?_
    refine w_if_eq rfl (fun c4 => ?_) (fun c4 => ?_)
    · replace h := ifp h c4
      refine w_cl rfl ?_
      exact a_rl rfl h
    · replace h := ifn h c4
      refine w_li rfl rfl ?_
      refine w_ci rfl ?_
      refine w_ci rfl ?_
      obtain ⟨q5, e5, h⟩ := bnd h
      refine a_st3i rfl (Nat.le_of_ble_eq_true rfl) (T_X6_in e5) ?_
      refine w_if_ne rfl (fun c6 => ?_) (fun c6 => ?_)
      · replace h := ifn h c6
        refine w_cl rfl ?_
        refine w_sl rfl (Nat.le_of_ble_eq_true rfl) rfl ?_
        refine w_ci rfl ?_
        refine w_si rfl (Nat.le_of_ble_eq_true rfl) rfl ?_
        exact Wp_fgt (fg_s (fg_s (fg_s (fg_s (fg_s (fg_n (fg_s fg_e))))))) (K_X6_odds_38 _ _ _ _ _ _ _ _ _ h)
      · replace h := ifp h (Classical.not_not.mp c6)
        refine w_cl rfl ?_
        exact a_rl rfl h
-- X6_hope
set_option maxRecDepth 100000 in
theorem T_X6_hope  {x1 : Int32} {x2 : Int32} {s : SS} {t : TT} {q : Int64 × SS × TT} (h : f_X6_hope x1 x2 s t = some q) : Wm 178 [.ref 51, .int x1, .int x2] (mk s t) (Ql q) := by
  refine Wm.of pT_178 (Nat.le_of_ble_eq_true rfl) (L0 := [some (.ref 51), some (.int x1), some (.int x2)]) rfl ?_
  unfold f_X6_hope at h
  refine w_li rfl rfl ?_
  refine w_ci rfl ?_
  refine w_ci rfl ?_
  obtain ⟨q1, e1, h⟩ := bnd h
  refine a_st3i rfl (Nat.le_of_ble_eq_true rfl) (T_X6_in e1) ?_
  refine w_if_eq rfl (fun c2 => ?_) (fun c2 => ?_)
  · replace h := ifp h c2
    refine w_cl rfl ?_
    exact a_rl rfl h
  · replace h := ifn h c2
    refine w_li rfl rfl ?_
    refine w_ci rfl ?_
    refine w_ci rfl ?_
    obtain ⟨q3, e3, h⟩ := bnd h
    refine a_st3i rfl (Nat.le_of_ble_eq_true rfl) (T_X6_in e3) ?_
    refine w_if_eq rfl (fun c4 => ?_) (fun c4 => ?_)
    · replace h := ifp h c4
      refine w_cl rfl ?_
      exact a_rl rfl h
    · replace h := ifn h c4
      refine w_li rfl rfl ?_
      refine w_i2l rfl ?_
      refine w_la rfl rfl ?_
      refine w_gf rfl (mg_51 _ _) rfl ?_
      refine w_ci rfl ?_
      obtain ⟨j5, e5, h⟩ := bnd h
      refine a_ia rfl (mr_52 _ _ _) e5 ?_
      refine w_i2l rfl ?_
      refine w_lmul rfl ?_
      refine w_cl rfl ?_
      refine w_li rfl rfl ?_
      obtain ⟨q6, e6, h⟩ := bnd h
      refine a_st3l rfl (Nat.le_of_ble_eq_true rfl) (T_X6_lowest e6) ?_
      refine w_go rfl ?_
      exact a_rl rfl h
-- X6_findRows
set_option maxRecDepth 100000 in
theorem B_X6_findRows_13  {k13 : Int32 × Int32 × Int32 × SS × TT → Option (SS × TT)} (hk13 : ∀ (x1 : Int32) (x2 : Int32) (x3 : Int32) (s : SS) (t : TT) (q : SS × TT), k13 (x1, x2, x3, s, t) = some q → Wp pl_Kc 179 13 [some (.ref 51), some (.int x1), some (.int x2), some (.int x3), none] [] (mk s t) (Qv q)) : ∀ (x1 : Int32) (x2 : Int32) (x3 : Int32) (s : SS) (t : TT) (q : SS × TT), b_X6_findRows_13 k13 x1 x2 x3 s t = some q → Wp pl_Kc 179 13 [some (.ref 51), some (.int x1), some (.int x2), some (.int x3), none] [] (mk s t) (Qv q) := by
  intro x1 x2 x3 s t q h
  unfold b_X6_findRows_13 at h
  refine w_li rfl rfl ?_
  refine w_li rfl rfl ?_
  refine w_ic_ge rfl (fun c1 => ?_) (fun c1 => ?_)
  · replace h := ifp h c1
    refine w_la rfl rfl ?_
    refine w_gf rfl (mg_51 _ _) rfl ?_
    refine w_la rfl rfl ?_
    refine w_gf rfl (mg_51 _ _) rfl ?_
    obtain ⟨q2, e2, h⟩ := bnd h
    refine a_st2v rfl (Nat.le_of_ble_eq_true rfl) (T_X6_moveAll (Or.inr (Or.inr (Or.inr rfl))) (Or.inl rfl) e2) ?_
    exact a_rv rfl h
  · replace h := ifn h c1
    refine w_la rfl rfl ?_
    obtain ⟨q3, e3, h⟩ := bnd h
    refine a_vi0i rfl (mg_51 _ _) (Nat.le_of_ble_eq_true rfl) (T_X6_weekGoes e3) ?_
    refine w_si rfl (Nat.le_of_ble_eq_true rfl) rfl ?_
    refine w_la rfl rfl ?_
    refine w_gf rfl (mg_51 _ _) rfl ?_
    refine w_ci rfl ?_
    refine w_li rfl rfl ?_
    refine w_imul rfl ?_
    refine w_la rfl rfl ?_
    refine w_li rfl rfl ?_
    refine w_ci rfl ?_
    obtain ⟨q4, e4, h⟩ := bnd h
    refine a_vi2i rfl (mg_51 _ _) (Nat.le_of_ble_eq_true rfl) (T_X6_its e4) ?_
    obtain ⟨j5, e5, h⟩ := bnd h
    refine a_is rfl (mg_59 _ _) (ms_59 _ _) e5 (fun s5 w5 => ?_)
    replace h := wr_of h s5 w5
    refine w_la rfl rfl ?_
    refine w_gf rfl (mg_51 _ _) rfl ?_
    refine w_ci rfl ?_
    refine w_li rfl rfl ?_
    refine w_imul rfl ?_
    refine w_ci rfl ?_
    refine w_iadd rfl ?_
    refine w_la rfl rfl ?_
    refine w_li rfl rfl ?_
    refine w_ci rfl ?_
    obtain ⟨q6, e6, h⟩ := bnd h
    refine a_vi2i rfl (mg_51 _ _) (Nat.le_of_ble_eq_true rfl) (T_X6_its e6) ?_
    obtain ⟨j7, e7, h⟩ := bnd h
    refine a_is rfl (mg_59 _ _) (ms_59 _ _) e7 (fun s7 w7 => ?_)
    replace h := wr_of h s7 w7
    refine w_la rfl rfl ?_
    refine w_gf rfl (mg_51 _ _) rfl ?_
    refine w_ci rfl ?_
    refine w_li rfl rfl ?_
    refine w_imul rfl ?_
    refine w_ci rfl ?_
    refine w_iadd rfl ?_
    refine w_li rfl rfl ?_
    obtain ⟨j8, e8, h⟩ := bnd h
    refine a_is rfl (mg_59 _ _) (ms_59 _ _) e8 (fun s8 w8 => ?_)
    replace h := wr_of h s8 w8
    refine w_inc rfl rfl rfl ?_
    refine w_go rfl ?_
    exact Wp_fgt (fg_s (fg_s (fg_s (fg_s (fg_n fg_e))))) (hk13 _ _ _ _ _ _ h)
theorem K_X6_findRows_13  : ∀ (n : Nat) (x1 : Int32) (x2 : Int32) (x3 : Int32) (s : SS) (t : TT) (q : SS × TT), l_X6_findRows_13 n (x1, x2, x3, s, t) = some q → Wp pl_Kc 179 13 [some (.ref 51), some (.int x1), some (.int x2), some (.int x3), none] [] (mk s t) (Qv q)
  | 0, x1, x2, x3, s, t, q, h => by cases (show (none : Option (SS × TT)) = some q from h)
  | n + 1, x1, x2, x3, s, t, q, h => B_X6_findRows_13 (K_X6_findRows_13 n) x1 x2 x3 s t q h
set_option maxRecDepth 100000 in
theorem T_X6_findRows  {x1 : Int32} {x2 : Int32} {s : SS} {t : TT} {q : SS × TT} (h : f_X6_findRows x1 x2 s t = some q) : Wm 179 [.ref 51, .int x1, .int x2] (mk s t) (Qv q) := by
  refine Wm.of pT_179 (Nat.le_of_ble_eq_true rfl) (L0 := [some (.ref 51), some (.int x1), some (.int x2), none, none]) rfl ?_
  unfold f_X6_findRows at h
  refine w_la rfl rfl ?_
  refine w_gf rfl (mg_51 _ _) rfl ?_
  refine w_la rfl rfl ?_
  refine w_gf rfl (mg_51 _ _) rfl ?_
  obtain ⟨q1, e1, h⟩ := bnd h
  refine a_st2v rfl (Nat.le_of_ble_eq_true rfl) (T_X6_moveAll (Or.inl rfl) (Or.inr (Or.inr (Or.inr rfl))) e1) ?_
  refine w_ci rfl ?_
  refine w_si rfl (Nat.le_of_ble_eq_true rfl) rfl ?_
  exact Wp_fgt (fg_s (fg_s (fg_s (fg_s (fg_n fg_e))))) (K_X6_findRows_13 _ _ _ _ _ _ _ h)
-- X6_prove
set_option maxRecDepth 100000 in
theorem B_X6_prove_33  {k33 : Int32 × Int32 × SS × TT → Option (Int32 × SS × TT)} (hk33 : ∀ (x2 : Int32) (x3 : Int32) (s : SS) (t : TT) (q : Int32 × SS × TT), k33 (x2, x3, s, t) = some q → Wp pl_Kc 180 33 [some (.ref 51), none, some (.int x2), some (.int x3)] [] (mk s t) (Qi q)) : ∀ (x2 : Int32) (x3 : Int32) (s : SS) (t : TT) (q : Int32 × SS × TT), b_X6_prove_33 k33 x2 x3 s t = some q → Wp pl_Kc 180 33 [some (.ref 51), none, some (.int x2), some (.int x3)] [] (mk s t) (Qi q) := by
  intro x2 x3 s t q h
  unfold b_X6_prove_33 at h
  refine w_li rfl rfl ?_
  refine w_ci rfl ?_
  refine w_li rfl rfl ?_
  refine w_imul rfl ?_
  refine w_ic_ge rfl (fun c1 => ?_) (fun c1 => ?_)
  · replace h := ifp h c1
    refine w_li rfl rfl ?_
    exact a_ri rfl h
  · replace h := ifn h c1
    refine w_la rfl rfl ?_
    refine w_gf rfl (mg_51 _ _) rfl ?_
    refine w_li rfl rfl ?_
    refine w_la rfl rfl ?_
    refine w_gf rfl (mg_51 _ _) rfl ?_
    refine w_li rfl rfl ?_
    obtain ⟨j2, e2, h⟩ := bnd h
    refine a_ia rfl (mr_59 _ _ _) e2 ?_
    obtain ⟨j3, e3, h⟩ := bnd h
    refine a_is rfl (mg_58 _ _) (ms_58 _ _) e3 (fun s3 w3 => ?_)
    replace h := wr_of h s3 w3
    refine w_inc rfl rfl rfl ?_
    refine w_go rfl ?_
    exact Wp_fgt (fg_s (fg_n (fg_s (fg_s fg_e)))) (hk33 _ _ _ _ _ h)
theorem K_X6_prove_33  : ∀ (n : Nat) (x2 : Int32) (x3 : Int32) (s : SS) (t : TT) (q : Int32 × SS × TT), l_X6_prove_33 n (x2, x3, s, t) = some q → Wp pl_Kc 180 33 [some (.ref 51), none, some (.int x2), some (.int x3)] [] (mk s t) (Qi q)
  | 0, x2, x3, s, t, q, h => by cases (show (none : Option (Int32 × SS × TT)) = some q from h)
  | n + 1, x2, x3, s, t, q, h => B_X6_prove_33 (K_X6_prove_33 n) x2 x3 s t q h
set_option maxRecDepth 100000 in
theorem T_X6_prove  {x1 : Int32} {x2 : Int32} {s : SS} {t : TT} {q : Int32 × SS × TT} (h : f_X6_prove x1 x2 s t = some q) : Wm 180 [.ref 51, .int x1, .int x2] (mk s t) (Qi q) := by
  refine Wm.of pT_180 (Nat.le_of_ble_eq_true rfl) (L0 := [some (.ref 51), some (.int x1), some (.int x2), none]) rfl ?_
  unfold f_X6_prove at h
  refine w_la rfl rfl ?_
  refine w_li rfl rfl ?_
  obtain ⟨q1, e1, h⟩ := bnd h
  refine a_vi1i rfl (mg_51 _ _) (Nat.le_of_ble_eq_true rfl) (T_X6_isOne e1) ?_
  refine w_if_eq rfl (fun c2 => ?_) (fun c2 => ?_)
  · replace h := ifp h c2
    refine w_ci rfl ?_
    exact a_ri rfl h
  · replace h := ifn h c2
    refine w_li rfl rfl ?_
    refine w_ci rfl ?_
    refine w_ci rfl ?_
    obtain ⟨q3, e3, h⟩ := bnd h
    refine a_st3i rfl (Nat.le_of_ble_eq_true rfl) (T_X6_in e3) ?_
    refine w_if_ne rfl (fun c4 => ?_) (fun c4 => ?_)
    · replace h := ifn h c4
      refine w_la rfl rfl ?_
      refine w_li rfl rfl ?_
      refine w_li rfl rfl ?_
      obtain ⟨q5, e5, h⟩ := bnd h
      refine a_vi2v rfl (mg_51 _ _) (Nat.le_of_ble_eq_true rfl) (T_X6_findRows e5) ?_
      refine w_la rfl rfl ?_
      refine w_li rfl rfl ?_
      refine a_pf rfl rfl (mg_51 _ _) (Nat.le_of_ble_eq_true rfl) (ms_51_17 _ _) (fun s6 e6 => ?_)
      replace h := wr_of h s6 e6
      refine w_ci rfl ?_
      refine w_si rfl (Nat.le_of_ble_eq_true rfl) rfl ?_
      exact Wp_fgt (fg_s (fg_n (fg_s (fg_s fg_e)))) (K_X6_prove_33 _ _ _ _ _ _ h)
    · replace h := ifp h (Classical.not_not.mp c4)
      refine w_ci rfl ?_
      exact a_ri rfl h
-- X6_isRow
set_option maxRecDepth 100000 in
theorem T_X6_isRow  {x1 : Int32} {x2 : Int32} {s : SS} {t : TT} {q : Int32 × SS × TT} (h : f_X6_isRow x1 x2 s t = some q) : Wm 181 [.ref 51, .int x1, .int x2] (mk s t) (Qi q) := by
  refine Wm.of pT_181 (Nat.le_of_ble_eq_true rfl) (L0 := [some (.ref 51), some (.int x1), some (.int x2)]) rfl ?_
  unfold f_X6_isRow at h
  refine w_li rfl rfl ?_
  refine w_ci rfl ?_
  refine w_la rfl rfl ?_
  refine w_gf rfl (mg_51 _ _) rfl ?_
  refine w_ci rfl ?_
  refine w_isub rfl ?_
  obtain ⟨q1, e1, h⟩ := bnd h
  refine a_st3i rfl (Nat.le_of_ble_eq_true rfl) (T_X6_in e1) ?_
  refine w_if_eq rfl (fun c2 => ?_) (fun c2 => ?_)
  · replace h := ifp h c2
    refine w_ci rfl ?_
    exact a_rz rfl (by decide) h
  · replace h := ifn h c2
    refine w_li rfl rfl ?_
    refine w_ci rfl ?_
    refine w_ci rfl ?_
    obtain ⟨q3, e3, h⟩ := bnd h
    refine a_st3i rfl (Nat.le_of_ble_eq_true rfl) (T_X6_in e3) ?_
    refine w_if_eq rfl (fun c4 => ?_) (fun c4 => ?_)
    · replace h := ifp h c4
      refine w_ci rfl ?_
      exact a_rz rfl (by decide) h
    · replace h := ifn h c4
      refine w_ci rfl ?_
      refine w_go rfl ?_
      exact a_rz rfl (by decide) h
-- X6_row
set_option maxRecDepth 100000 in
theorem T_X6_row  {x1 : Int32} {x2 : Int32} {s : SS} {t : TT} {q : Int32 × SS × TT} (h : f_X6_row x1 x2 s t = some q) : Wm 182 [.ref 51, .int x1, .int x2] (mk s t) (Qi q) := by
  refine Wm.of pT_182 (Nat.le_of_ble_eq_true rfl) (L0 := [some (.ref 51), some (.int x1), some (.int x2)]) rfl ?_
  unfold f_X6_row at h
  refine w_la rfl rfl ?_
  refine w_li rfl rfl ?_
  refine w_li rfl rfl ?_
  obtain ⟨q1, e1, h⟩ := bnd h
  refine a_vi2i rfl (mg_51 _ _) (Nat.le_of_ble_eq_true rfl) (T_X6_isRow e1) ?_
  refine w_if_eq rfl (fun c2 => ?_) (fun c2 => ?_)
  · replace h := ifp h c2
    refine w_ci rfl ?_
    exact a_ri rfl h
  · replace h := ifn h c2
    refine w_la rfl rfl ?_
    refine w_gf rfl (mg_51 _ _) rfl ?_
    refine w_ci rfl ?_
    refine w_li rfl rfl ?_
    refine w_imul rfl ?_
    refine w_li rfl rfl ?_
    refine w_iadd rfl ?_
    obtain ⟨j3, e3, h⟩ := bnd h
    refine a_ia rfl (mr_58 _ _ _) e3 ?_
    refine w_go rfl ?_
    exact a_ri rfl h
-- X6_alterRow
set_option maxRecDepth 100000 in
theorem T_X6_alterRow  {x1 : Int32} {x2 : Int32} {x3 : Int32} {s : SS} {t : TT} {q : Int32 × SS × TT} (h : f_X6_alterRow x1 x2 x3 s t = some q) : Wm 183 [.ref 51, .int x1, .int x2, .int x3] (mk s t) (Qi q) := by
  refine Wm.of pT_183 (Nat.le_of_ble_eq_true rfl) (L0 := [some (.ref 51), some (.int x1), some (.int x2), some (.int x3), none]) rfl ?_
  unfold f_X6_alterRow at h
  refine w_la rfl rfl ?_
  refine w_li rfl rfl ?_
  refine w_li rfl rfl ?_
  obtain ⟨q1, e1, h⟩ := bnd h
  refine a_vi2i rfl (mg_51 _ _) (Nat.le_of_ble_eq_true rfl) (T_X6_isRow e1) ?_
  refine w_if_ne rfl (fun c2 => ?_) (fun c2 => ?_)
  · replace h := ifn h c2
    refine w_la rfl rfl ?_
    refine w_gf rfl (mg_51 _ _) rfl ?_
    refine w_ci rfl ?_
    refine w_li rfl rfl ?_
    refine w_imul rfl ?_
    refine w_li rfl rfl ?_
    refine w_iadd rfl ?_
    obtain ⟨j3, e3, h⟩ := bnd h
    refine a_ia rfl (mr_58 _ _ _) e3 ?_
    refine w_si rfl (Nat.le_of_ble_eq_true rfl) rfl ?_
    refine w_la rfl rfl ?_
    refine w_gf rfl (mg_51 _ _) rfl ?_
    refine w_ci rfl ?_
    refine w_li rfl rfl ?_
    refine w_imul rfl ?_
    refine w_li rfl rfl ?_
    refine w_iadd rfl ?_
    refine w_li rfl rfl ?_
    obtain ⟨j4, e4, h⟩ := bnd h
    refine a_is rfl (mg_58 _ _) (ms_58 _ _) e4 (fun s4 w4 => ?_)
    replace h := wr_of h s4 w4
    refine w_li rfl rfl ?_
    exact a_ri rfl h
  · replace h := ifp h (Classical.not_not.mp c2)
    refine w_ci rfl ?_
    exact a_ri rfl h
-- X6_judge
set_option maxRecDepth 100000 in
theorem B_X6_judge_21  {k21 : Int32 × SS × TT → Option (Int32 × SS × TT)} (hk21 : ∀ (x2 : Int32) (s : SS) (t : TT) (q : Int32 × SS × TT), k21 (x2, s, t) = some q → Wp pl_Kc 184 21 [some (.ref 51), none, some (.int x2)] [] (mk s t) (Qi q)) : ∀ (x2 : Int32) (s : SS) (t : TT) (q : Int32 × SS × TT), b_X6_judge_21 k21 x2 s t = some q → Wp pl_Kc 184 21 [some (.ref 51), none, some (.int x2)] [] (mk s t) (Qi q) := by
  intro x2 s t q h
  unfold b_X6_judge_21 at h
  refine w_li rfl rfl ?_
  refine w_ci rfl ?_
  refine w_la rfl rfl ?_
  refine w_gf rfl (mg_51 _ _) rfl ?_
  refine w_imul rfl ?_
  refine w_ic_ge rfl (fun c1 => ?_) (fun c1 => ?_)
  · replace h := ifp h c1
    refine w_ci rfl ?_
    exact a_ri rfl h
  · replace h := ifn h c1
    refine w_la rfl rfl ?_
    refine w_gf rfl (mg_51 _ _) rfl ?_
    refine w_li rfl rfl ?_
    obtain ⟨j2, e2, h⟩ := bnd h
    refine a_ia rfl (mr_58 _ _ _) e2 ?_
    refine w_la rfl rfl ?_
    refine w_gf rfl (mg_51 _ _) rfl ?_
    refine w_li rfl rfl ?_
    obtain ⟨j3, e3, h⟩ := bnd h
    refine a_ia rfl (mr_59 _ _ _) e3 ?_
    refine w_ic_eq rfl (fun c4 => ?_) (fun c4 => ?_)
    · replace h := ifp h c4
      refine w_inc rfl rfl rfl ?_
      refine w_go rfl ?_
      exact Wp_fgt (fg_s (fg_n (fg_s fg_e))) (hk21 _ _ _ _ h)
    · replace h := ifn h c4
      refine w_li rfl rfl ?_
      refine w_ci rfl ?_
      refine w_idiv rfl (by decide) ?_
      refine w_ci rfl ?_
      refine w_iadd rfl ?_
      exact a_ri rfl h
theorem K_X6_judge_21  : ∀ (n : Nat) (x2 : Int32) (s : SS) (t : TT) (q : Int32 × SS × TT), l_X6_judge_21 n (x2, s, t) = some q → Wp pl_Kc 184 21 [some (.ref 51), none, some (.int x2)] [] (mk s t) (Qi q)
  | 0, x2, s, t, q, h => by cases (show (none : Option (Int32 × SS × TT)) = some q from h)
  | n + 1, x2, s, t, q, h => B_X6_judge_21 (K_X6_judge_21 n) x2 s t q h
set_option maxRecDepth 100000 in
theorem T_X6_judge  {x1 : Int32} {s : SS} {t : TT} {q : Int32 × SS × TT} (h : f_X6_judge x1 s t = some q) : Wm 184 [.ref 51, .int x1] (mk s t) (Qi q) := by
  refine Wm.of pT_184 (Nat.le_of_ble_eq_true rfl) (L0 := [some (.ref 51), some (.int x1), none]) rfl ?_
  unfold f_X6_judge at h
  refine w_la rfl rfl ?_
  refine w_li rfl rfl ?_
  obtain ⟨q1, e1, h⟩ := bnd h
  refine a_vi1i rfl (mg_51 _ _) (Nat.le_of_ble_eq_true rfl) (T_X6_isOne e1) ?_
  refine w_if_ne rfl (fun c2 => ?_) (fun c2 => ?_)
  · replace h := ifn h c2
    refine w_la rfl rfl ?_
    refine w_li rfl rfl ?_
    refine w_la rfl rfl ?_
    refine w_gf rfl (mg_51 _ _) rfl ?_
    obtain ⟨q3, e3, h⟩ := bnd h
    refine a_vi2v rfl (mg_51 _ _) (Nat.le_of_ble_eq_true rfl) (T_X6_findRows e3) ?_
    refine w_ci rfl ?_
    refine w_si rfl (Nat.le_of_ble_eq_true rfl) rfl ?_
    exact Wp_fgt (fg_s (fg_n (fg_s fg_e))) (K_X6_judge_21 _ _ _ _ _ h)
  · replace h := ifp h (Classical.not_not.mp c2)
    refine w_ci rfl ?_
    exact a_ri rfl h
-- X6_lacksSort
set_option maxRecDepth 100000 in
theorem T_X6_lacksSort  {x1 : Int32} {x2 : Int32} {s : SS} {t : TT} {q : Int32 × SS × TT} (h : f_X6_lacksSort x1 x2 s t = some q) : Wm 189 [.ref 51, .int x1, .int x2] (mk s t) (Qi q) := by
  refine Wm.of pT_189 (Nat.le_of_ble_eq_true rfl) (L0 := [some (.ref 51), some (.int x1), some (.int x2)]) rfl ?_
  unfold f_X6_lacksSort at h
  refine w_la rfl rfl ?_
  refine w_gf rfl (mg_51 _ _) rfl ?_
  refine w_li rfl rfl ?_
  obtain ⟨j1, e1, h⟩ := bnd h
  refine a_ia rfl (mr_60 _ _ _) e1 ?_
  refine w_if_ge rfl (fun c2 => ?_) (fun c2 => ?_)
  · replace h := ifp h c2
    refine w_la rfl rfl ?_
    refine w_gf rfl (mg_51 _ _) rfl ?_
    refine w_li rfl rfl ?_
    obtain ⟨j3, e3, h⟩ := bnd h
    refine a_ia rfl (mr_60 _ _ _) e3 ?_
    refine w_li rfl rfl ?_
    refine w_ic_eq rfl (fun c4 => ?_) (fun c4 => ?_)
    · replace h := ifp h c4
      refine w_ci rfl ?_
      exact a_ri rfl h
    · replace h := ifn h c4
      refine w_ci rfl ?_
      refine w_go rfl ?_
      exact a_ri rfl h
  · replace h := ifn h c2
    refine w_ci rfl ?_
    refine w_go rfl ?_
    exact a_ri rfl h
-- X6_minds
set_option maxRecDepth 100000 in
theorem B_X6_minds_81  {k81 : Int32 × Int32 × Int32 × Int32 × Int32 × SS × TT → Option (Int32 × SS × TT)} (hk81 : ∀ (x1 : Int32) (x2 : Int32) (x3 : Int32) (x4 : Int32) (x6 : Int32) (s : SS) (t : TT) (q : Int32 × SS × TT), k81 (x1, x2, x3, x4, x6, s, t) = some q → Wp pl_Kc 185 81 [some (.ref 51), some (.int x1), some (.int x2), some (.int x3), some (.int x4), none, some (.int x6)] [] (mk s t) (Qi q)) : ∀ (x1 : Int32) (x2 : Int32) (x3 : Int32) (x4 : Int32) (x6 : Int32) (s : SS) (t : TT) (q : Int32 × SS × TT), b_X6_minds_81 k81 x1 x2 x3 x4 x6 s t = some q → Wp pl_Kc 185 81 [some (.ref 51), some (.int x1), some (.int x2), some (.int x3), some (.int x4), none, some (.int x6)] [] (mk s t) (Qi q) := by
  intro x1 x2 x3 x4 x6 s t q h
  unfold b_X6_minds_81 at h
  refine w_li rfl rfl ?_
  refine w_li rfl rfl ?_
  refine w_ic_ge rfl (fun c1 => ?_) (fun c1 => ?_)
  · replace h := ifp h c1
    refine w_li rfl rfl ?_
    exact a_ri rfl h
  · replace h := ifn h c1
    refine w_la rfl rfl ?_
    refine w_li rfl rfl ?_
    refine w_li rfl rfl ?_
    refine w_iadd rfl ?_
    refine w_ci rfl ?_
    refine w_la rfl rfl ?_
    refine w_gf rfl (mg_51 _ _) rfl ?_
    refine w_ci rfl ?_
    refine w_li rfl rfl ?_
    refine w_imul rfl ?_
    refine w_li rfl rfl ?_
    refine w_iadd rfl ?_
    refine w_li rfl rfl ?_
    refine w_iadd rfl ?_
    obtain ⟨j2, e2, h⟩ := bnd h
    refine a_ja rfl (mg_62 _ _) e2 ?_
    refine w_l2i rfl ?_
    refine w_ci rfl ?_
    refine w_ci rfl ?_
    obtain ⟨q3, e3, h⟩ := bnd h
    refine a_st3i rfl (Nat.le_of_ble_eq_true rfl) (T_X6_held e3) ?_
    obtain ⟨q4, e4, h⟩ := bnd h
    refine a_vi3v rfl (mg_51 _ _) (Nat.le_of_ble_eq_true rfl) (T_X6_sets e4) ?_
    refine w_inc rfl rfl rfl ?_
    refine w_go rfl ?_
    exact Wp_fgt (fg_s (fg_s (fg_s (fg_s (fg_s (fg_n (fg_s fg_e))))))) (hk81 _ _ _ _ _ _ _ _ h)
theorem K_X6_minds_81  : ∀ (n : Nat) (x1 : Int32) (x2 : Int32) (x3 : Int32) (x4 : Int32) (x6 : Int32) (s : SS) (t : TT) (q : Int32 × SS × TT), l_X6_minds_81 n (x1, x2, x3, x4, x6, s, t) = some q → Wp pl_Kc 185 81 [some (.ref 51), some (.int x1), some (.int x2), some (.int x3), some (.int x4), none, some (.int x6)] [] (mk s t) (Qi q)
  | 0, x1, x2, x3, x4, x6, s, t, q, h => by cases (show (none : Option (Int32 × SS × TT)) = some q from h)
  | n + 1, x1, x2, x3, x4, x6, s, t, q, h => B_X6_minds_81 (K_X6_minds_81 n) x1 x2 x3 x4 x6 s t q h
set_option maxRecDepth 100000 in
theorem T_X6_minds  {x1 : Int32} {x2 : Int32} {x3 : Int32} {x4 : Int32} {s : SS} {t : TT} {q : Int32 × SS × TT} (h : f_X6_minds x1 x2 x3 x4 s t = some q) : Wm 185 [.ref 51, .int x1, .int x2, .int x3, .int x4] (mk s t) (Qi q) := by
  refine Wm.of pT_185 (Nat.le_of_ble_eq_true rfl) (L0 := [some (.ref 51), some (.int x1), some (.int x2), some (.int x3), some (.int x4), none, none]) rfl ?_
  unfold f_X6_minds at h
  refine w_li rfl rfl ?_
  obtain ⟨q1, e1, h⟩ := bnd h
  refine a_st1i rfl (Nat.le_of_ble_eq_true rfl) (T_X6_isShelf e1) ?_
  refine w_if_eq rfl (fun c2 => ?_) (fun c2 => ?_)
  · replace h := ifp h c2
    refine w_ci rfl ?_
    exact a_ri rfl h
  · replace h := ifn h c2
    refine w_la rfl rfl ?_
    refine w_li rfl rfl ?_
    obtain ⟨q3, e3, h⟩ := bnd h
    refine a_vi1i rfl (mg_51 _ _) (Nat.le_of_ble_eq_true rfl) (T_X6_isOne e3) ?_
    refine w_if_eq rfl (fun c4 => ?_) (fun c4 => ?_)
    · replace h := ifp h c4
      refine w_ci rfl ?_
      exact a_ri rfl h
    · replace h := ifn h c4
      refine w_li rfl rfl ?_
      refine w_ci rfl ?_
      refine w_ci rfl ?_
      obtain ⟨q5, e5, h⟩ := bnd h
      refine a_st3i rfl (Nat.le_of_ble_eq_true rfl) (T_X6_in e5) ?_
      refine w_if_eq rfl (fun c6 => ?_) (fun c6 => ?_)
      · replace h := ifp h c6
        refine w_ci rfl ?_
        exact a_ri rfl h
      · replace h := ifn h c6
        refine w_li rfl rfl ?_
        refine w_la rfl rfl ?_
        refine w_gf rfl (mg_51 _ _) rfl ?_
        refine w_ci rfl ?_
        obtain ⟨j7, e7, h⟩ := bnd h
        refine a_ia rfl (mr_52 _ _ _) e7 ?_
        refine w_li rfl rfl ?_
        refine w_isub rfl ?_
        refine w_ic_le rfl (fun c8 => ?_) (fun c8 => ?_)
        · replace h := ifp h c8
          refine w_la rfl rfl ?_
          refine w_li rfl rfl ?_
          refine w_ci rfl ?_
          obtain ⟨q9, e9, h⟩ := bnd h
          refine a_vi2i rfl (mg_51 _ _) (Nat.le_of_ble_eq_true rfl) (T_X6_lacksSort e9) ?_
          refine w_si rfl (Nat.le_of_ble_eq_true rfl) rfl ?_
          refine w_li rfl rfl ?_
          refine w_if_eq rfl (fun c10 => ?_) (fun c10 => ?_)
          · replace h := ifp h c10
            refine w_li rfl rfl ?_
            refine w_if_lt rfl (fun c11 => ?_) (fun c11 => ?_)
            · replace h := ifp h c11
              refine w_ci rfl ?_
              exact a_ri rfl h
            · replace h := ifn h c11
              refine w_li rfl rfl ?_
              refine w_la rfl rfl ?_
              refine w_gf rfl (mg_51 _ _) rfl ?_
              refine w_li rfl rfl ?_
              obtain ⟨j12, e12, h⟩ := bnd h
              refine a_ia rfl (mr_61 _ _ _) e12 ?_
              refine w_li rfl rfl ?_
              refine w_isub rfl ?_
              refine w_ic_le rfl (fun c13 => ?_) (fun c13 => ?_)
              · replace h := ifp h c13
                refine w_ci rfl ?_
                refine w_si rfl (Nat.le_of_ble_eq_true rfl) rfl ?_
                exact Wp_fgt (fg_s (fg_s (fg_s (fg_s (fg_s (fg_n (fg_s fg_e))))))) (K_X6_minds_81 _ _ _ _ _ _ _ _ _ h)
              · replace h := ifn h c13
                refine w_ci rfl ?_
                exact a_ri rfl h
          · replace h := ifn h c10
            refine w_li rfl rfl ?_
            exact a_ri rfl h
        · replace h := ifn h c8
          refine w_ci rfl ?_
          exact a_ri rfl h
-- X6_sheet
set_option maxRecDepth 100000 in
theorem B_X6_sheet_64  {k64 : Int32 × Int32 × SS × TT → Option (Int32 × SS × TT)} (hk64 : ∀ (x1 : Int32) (x4 : Int32) (s : SS) (t : TT) (q : Int32 × SS × TT), k64 (x1, x4, s, t) = some q → Wp pl_Kc 187 64 [some (.ref 51), some (.int x1), none, none, some (.int x4)] [] (mk s t) (Qi q)) : ∀ (x1 : Int32) (x4 : Int32) (s : SS) (t : TT) (q : Int32 × SS × TT), b_X6_sheet_64 k64 x1 x4 s t = some q → Wp pl_Kc 187 64 [some (.ref 51), some (.int x1), none, none, some (.int x4)] [] (mk s t) (Qi q) := by
  intro x1 x4 s t q h
  unfold b_X6_sheet_64 at h
  refine w_li rfl rfl ?_
  refine w_ci rfl ?_
  refine w_ic_ge rfl (fun c1 => ?_) (fun c1 => ?_)
  · replace h := ifp h c1
    refine w_ci rfl ?_
    exact a_ri rfl h
  · replace h := ifn h c1
    refine w_la rfl rfl ?_
    refine w_gf rfl (mg_51 _ _) rfl ?_
    refine w_ci rfl ?_
    refine w_li rfl rfl ?_
    refine w_imul rfl ?_
    refine w_li rfl rfl ?_
    refine w_iadd rfl ?_
    refine w_cl rfl ?_
    obtain ⟨j2, e2, h⟩ := bnd h
    refine a_js rfl (mg_62 _ _) (ms_62 _ _) e2 (fun t2 w2 => ?_)
    replace h := wr_of h t2 w2
    refine w_inc rfl rfl rfl ?_
    refine w_go rfl ?_
    exact Wp_fgt (fg_s (fg_s (fg_n (fg_n (fg_s fg_e))))) (hk64 _ _ _ _ _ h)
