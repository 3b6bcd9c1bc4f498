-- X5_packed
set_option maxRecDepth 100000 in
theorem B_X5_packed_66  {k66 : Int32 × Int32 × Int32 × SS × TT → Option (Int32 × SS × TT)} (hk66 : ∀ (x1 : Int32) (x2 : Int32) (x3 : Int32) (s : SS) (t : TT) (q : Int32 × SS × TT), k66 (x1, x2, x3, s, t) = some q → Wp pl_Kc 76 66 [some (.ref 0), some (.int x1), some (.int x2), some (.int x3)] [] (mk s t) (Qi q)) : ∀ (x1 : Int32) (x2 : Int32) (x3 : Int32) (s : SS) (t : TT) (q : Int32 × SS × TT), b_X5_packed_66 k66 x1 x2 x3 s t = some q → Wp pl_Kc 76 66 [some (.ref 0), some (.int x1), some (.int x2), some (.int x3)] [] (mk s t) (Qi q) := by
  intro x1 x2 x3 s t q h
  unfold b_X5_packed_66 at h
  refine w_li rfl rfl ?_
  refine w_li rfl rfl ?_
  refine w_ic_ge rfl (fun c1 => ?_) (fun c1 => ?_)
  · replace h := ifp h c1
    refine w_la rfl rfl ?_
    refine w_gf rfl (mg_0 _ _) rfl ?_
    refine w_li rfl rfl ?_
    refine w_ci rfl ?_
    refine w_isub rfl ?_
    obtain ⟨j2, e2, h⟩ := bnd h
    refine a_ia rfl (mr_50 _ _ _) e2 ?_
    refine w_ci rfl ?_
    refine w_idiv rfl (by decide) ?_
    exact a_ri rfl h
  · replace h := ifn h c1
    refine w_la rfl rfl ?_
    refine w_gf rfl (mg_0 _ _) rfl ?_
    refine w_li rfl rfl ?_
    refine w_la rfl rfl ?_
    refine w_li rfl rfl ?_
    refine w_li rfl rfl ?_
    obtain ⟨q3, e3, h⟩ := bnd h
    refine a_vi2i rfl (mg_0 _ _) (Nat.le_of_ble_eq_true rfl) (T_X5_leastPacking e3) ?_
    obtain ⟨j4, e4, h⟩ := bnd h
    refine a_is rfl (mg_50 _ _) (ms_50 _ _) e4 (fun s4 w4 => ?_)
    replace h := wr_of h s4 w4
    refine w_inc rfl rfl rfl ?_
    refine w_go rfl ?_
    exact Wp_fgt (fg_s (fg_s (fg_s (fg_s fg_e)))) (hk66 _ _ _ _ _ _ h)
theorem K_X5_packed_66  : ∀ (n : Nat) (x1 : Int32) (x2 : Int32) (x3 : Int32) (s : SS) (t : TT) (q : Int32 × SS × TT), l_X5_packed_66 n (x1, x2, x3, s, t) = some q → Wp pl_Kc 76 66 [some (.ref 0), some (.int x1), some (.int x2), some (.int x3)] [] (mk s t) (Qi q)
  | 0, x1, x2, x3, s, t, q, h => by cases (show (none : Option (Int32 × SS × TT)) = some q from h)
  | n + 1, x1, x2, x3, s, t, q, h => B_X5_packed_66 (K_X5_packed_66 n) x1 x2 x3 s t q h
set_option maxRecDepth 100000 in
theorem B_X5_packed_14  {k14 : Int32 × Int32 × SS × TT → Option (Int32 × SS × TT)} (hk14 : ∀ (x1 : Int32) (x2 : Int32) (s : SS) (t : TT) (q : Int32 × SS × TT), k14 (x1, x2, s, t) = some q → Wp pl_Kc 76 14 [some (.ref 0), some (.int x1), some (.int x2), none] [] (mk s t) (Qi q)) : ∀ (x1 : Int32) (x2 : Int32) (s : SS) (t : TT) (q : Int32 × SS × TT), b_X5_packed_14 k14 x1 x2 s t = some q → Wp pl_Kc 76 14 [some (.ref 0), some (.int x1), some (.int x2), none] [] (mk s t) (Qi q) := by
  intro x1 x2 s t q h
  unfold b_X5_packed_14 at h
  refine w_li rfl rfl ?_
  refine w_la rfl rfl ?_
  refine w_gf rfl (mg_0 _ _) rfl ?_
  refine w_gf rfl (mg_1 _ _) rfl ?_
  refine w_ic_ge rfl (fun c1 => ?_) (fun c1 => ?_)
  · replace h := ifp h c1
    refine w_la rfl rfl ?_
    refine w_gf rfl (mg_0 _ _) rfl ?_
    refine w_ci rfl ?_
    refine w_li rfl rfl ?_
    obtain ⟨j2, e2, h⟩ := bnd h
    refine a_is rfl (mg_50 _ _) (ms_50 _ _) e2 (fun s2 w2 => ?_)
    replace h := wr_of h s2 w2
    refine w_ci rfl ?_
    refine w_la rfl rfl ?_
    refine w_gf rfl (mg_0 _ _) rfl ?_
    refine w_gf rfl (mg_1 _ _) rfl ?_
    refine w_ishl rfl ?_
    refine w_si rfl (Nat.le_of_ble_eq_true rfl) rfl ?_
    refine w_ci rfl ?_
    refine w_si rfl (Nat.le_of_ble_eq_true rfl) rfl ?_
    exact Wp_fgt (fg_s (fg_s (fg_s (fg_s fg_e)))) (K_X5_packed_66 _ _ _ _ _ _ _ h)
  · replace h := ifn h c1
    refine w_la rfl rfl ?_
    refine w_gf rfl (mg_0 _ _) rfl ?_
    refine w_gf rfl (mg_1 _ _) rfl ?_
    refine w_li rfl rfl ?_
    obtain ⟨j3, e3, h⟩ := bnd h
    refine a_ia rfl (mr_4 _ _ _) e3 ?_
    refine w_li rfl rfl ?_
    refine w_ic_le rfl (fun c4 => ?_) (fun c4 => ?_)
    · replace h := ifp h c4
      refine w_inc rfl rfl rfl ?_
      refine w_go rfl ?_
      exact Wp_fgt (fg_s (fg_s (fg_s (fg_n fg_e)))) (hk14 _ _ _ _ _ h)
    · replace h := ifn h c4
      refine w_ci rfl ?_
      exact a_ri rfl h
theorem K_X5_packed_14  : ∀ (n : Nat) (x1 : Int32) (x2 : Int32) (s : SS) (t : TT) (q : Int32 × SS × TT), l_X5_packed_14 n (x1, x2, s, t) = some q → Wp pl_Kc 76 14 [some (.ref 0), some (.int x1), some (.int x2), none] [] (mk s t) (Qi q)
  | 0, x1, x2, s, t, q, h => by cases (show (none : Option (Int32 × SS × TT)) = some q from h)
  | n + 1, x1, x2, s, t, q, h => B_X5_packed_14 (K_X5_packed_14 n) x1 x2 s t q h
set_option maxRecDepth 100000 in
theorem T_X5_packed  {x1 : Int32} {s : SS} {t : TT} {q : Int32 × SS × TT} (h : f_X5_packed x1 s t = some q) : Wm 76 [.ref 0, .int x1] (mk s t) (Qi q) := by
  refine Wm.of pT_76 (Nat.le_of_ble_eq_true rfl) (L0 := [some (.ref 0), some (.int x1), none, none]) rfl ?_
  unfold f_X5_packed at h
  refine w_li rfl rfl ?_
  refine w_ci rfl ?_
  refine w_ci rfl ?_
  obtain ⟨q1, e1, h⟩ := bnd h
  refine a_st3i rfl (Nat.le_of_ble_eq_true rfl) (T_X5_isWithin e1) ?_
  refine w_if_ne rfl (fun c2 => ?_) (fun c2 => ?_)
  · replace h := ifn h c2
    refine w_ci rfl ?_
    refine w_si rfl (Nat.le_of_ble_eq_true rfl) rfl ?_
    exact Wp_fgt (fg_s (fg_s (fg_s (fg_n fg_e)))) (K_X5_packed_14 _ _ _ _ _ _ h)
  · replace h := ifp h (Classical.not_not.mp c2)
    refine w_ci rfl ?_
    exact a_ri rfl h
