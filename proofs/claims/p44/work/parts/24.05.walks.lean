-- the walks: a program laid these rows
set_option maxRecDepth 100000 in
theorem T_X6_isUsed  {x1 : Int32} {s : SS} {t : TT} {q : Int32 × SS × TT} (h : f_X6_isUsed x1 s t = some q) : Wm 142 [.ref 51, .int x1] (mk s t) (Qi q) := by
  refine Wm.of pT_142 (Nat.le_of_ble_eq_true rfl) (L0 := [some (.ref 51), some (.int x1), none]) rfl ?_
  unfold f_X6_isUsed at h
  refine w_la rfl rfl ?_
  refine w_gf rfl (mg_51 _ _) rfl ?_
  refine w_ci rfl ?_
  obtain ⟨j1, e1, h⟩ := bnd h
  refine a_ia rfl (mr_52 _ _ _) e1 ?_
  refine w_ci rfl ?_
  refine w_irem rfl (by decide) ?_
  refine w_ci rfl ?_
  refine w_ic_ne rfl (fun c2 => ?_) (fun c2 => ?_)
  · replace h := ifn h c2
    refine w_ci rfl ?_
    exact Wp_fgt (fg_s (fg_s (fg_n fg_e))) (J_X6_isUsed_17 _ _ _ _ _ h)
  · replace h := ifp h (Classical.not_not.mp c2)
    refine w_ci rfl ?_
    refine w_go rfl ?_
    exact Wp_fgt (fg_s (fg_s (fg_n fg_e))) (J_X6_isUsed_17 _ _ _ _ _ h)
-- X6_does
set_option maxRecDepth 100000 in
theorem T_X6_does  {x1 : Int32} {x2 : Int32} {s : SS} {t : TT} {q : Int32 × SS × TT} (h : f_X6_does x1 x2 s t = some q) : Wm 143 [.ref 51, .int x1, .int x2] (mk s t) (Qi q) := by
  refine Wm.of pT_143 (Nat.le_of_ble_eq_true rfl) (L0 := [some (.ref 51), some (.int x1), some (.int x2)]) rfl ?_
  unfold f_X6_does at h
  refine w_la rfl rfl ?_
  refine w_li rfl rfl ?_
  obtain ⟨q1, e1, h⟩ := bnd h
  refine a_vi1i rfl (mg_51 _ _) (Nat.le_of_ble_eq_true rfl) (T_X6_isOne e1) ?_
  refine w_if_ne rfl (fun c2 => ?_) (fun c2 => ?_)
  · replace h := ifn h c2
    refine w_li rfl rfl ?_
    by_cases c3 : x2 = 0
    · replace h := ifp h c3
      refine w_swI rfl (tg := 40) (by rw [c3]; decide +kernel) ?_
      refine w_ci rfl ?_
      refine w_la rfl rfl ?_
      refine w_li rfl rfl ?_
      obtain ⟨q4, e4, h⟩ := bnd h
      refine a_vi1i rfl (mg_51 _ _) (Nat.le_of_ble_eq_true rfl) (T_X6_thinksOf e4) ?_
      refine w_iadd rfl ?_
      exact a_ri rfl h
    replace h := ifn h c3
    by_cases c5 : x2 = 1
    · replace h := ifp h c5
      refine w_swI rfl (tg := 50) (by rw [c5]; decide +kernel) ?_
      refine w_ci rfl ?_
      refine w_la rfl rfl ?_
      refine w_li rfl rfl ?_
      obtain ⟨q6, e6, h⟩ := bnd h
      refine a_vi1i rfl (mg_51 _ _) (Nat.le_of_ble_eq_true rfl) (T_X6_needs e6) ?_
      refine w_iadd rfl ?_
      exact a_ri rfl h
    replace h := ifn h c5
    by_cases c7 : x2 = 2
    · replace h := ifp h c7
      refine w_swI rfl (tg := 60) (by rw [c7]; decide +kernel) ?_
      refine w_ci rfl ?_
      refine w_la rfl rfl ?_
      refine w_li rfl rfl ?_
      obtain ⟨q8, e8, h⟩ := bnd h
      refine a_vi1i rfl (mg_51 _ _) (Nat.le_of_ble_eq_true rfl) (T_X6_says e8) ?_
      refine w_iadd rfl ?_
      exact a_ri rfl h
    replace h := ifn h c7
    by_cases c9 : x2 = 3
    · replace h := ifp h c9
      refine w_swI rfl (tg := 70) (by rw [c9]; decide +kernel) ?_
      refine w_la rfl rfl ?_
      refine w_li rfl rfl ?_
      obtain ⟨q10, e10, h⟩ := bnd h
      refine a_vi1i rfl (mg_51 _ _) (Nat.le_of_ble_eq_true rfl) (T_X6_isUsed e10) ?_
      refine w_if_eq rfl (fun c11 => ?_) (fun c11 => ?_)
      · replace h := ifp h c11
        refine w_ci rfl ?_
        exact a_ri rfl h
      · replace h := ifn h c11
        refine w_ci rfl ?_
        refine w_go rfl ?_
        exact a_ri rfl h
    replace h := ifn h c9
    refine w_swI rfl (tg := 88) (sw_df (zs := [0, 1, 2, 3]) (swz_c (i32ne c3 rfl) (swz_c (i32ne c5 rfl) (swz_c (i32ne c7 rfl) (swz_c (i32ne c9 rfl) swz_n)))) (by decide +kernel)) ?_
    refine w_ci rfl ?_
    exact a_ri rfl h
  · replace h := ifp h (Classical.not_not.mp c2)
    refine w_ci rfl ?_
    exact a_ri rfl h
-- X6_mind
set_option maxRecDepth 100000 in
theorem T_X6_mind  {x1 : Int32} {x2 : Int32} {x3 : Int32} {s : SS} {t : TT} {q : Int32 × SS × TT} (h : f_X6_mind x1 x2 x3 s t = some q) : Wm 144 [.ref 51, .int x1, .int x2, .int x3] (mk s t) (Qi q) := by
  refine Wm.of pT_144 (Nat.le_of_ble_eq_true rfl) (L0 := [some (.ref 51), some (.int x1), some (.int x2), some (.int x3)]) rfl ?_
  unfold f_X6_mind at h
  refine w_la rfl rfl ?_
  refine w_li rfl rfl ?_
  obtain ⟨q1, e1, h⟩ := bnd h
  refine a_vi1i rfl (mg_51 _ _) (Nat.le_of_ble_eq_true rfl) (T_X6_isOne e1) ?_
  refine w_if_eq rfl (fun c2 => ?_) (fun c2 => ?_)
  · replace h := ifp h c2
    refine w_ci rfl ?_
    exact a_ri rfl h
  · replace h := ifn h c2
    refine w_li rfl rfl ?_
    refine w_li rfl rfl ?_
    obtain ⟨q3, e3, h⟩ := bnd h
    refine a_st2i rfl (Nat.le_of_ble_eq_true rfl) (T_X6_isKind e3) ?_
    refine w_if_ne rfl (fun c4 => ?_) (fun c4 => ?_)
    · replace h := ifn h c4
      refine w_la rfl rfl ?_
      refine w_li rfl rfl ?_
      refine w_ci rfl ?_
      refine w_li rfl rfl ?_
      obtain ⟨q5, e5, h⟩ := bnd h
      refine a_vi3v rfl (mg_51 _ _) (Nat.le_of_ble_eq_true rfl) (T_X6_sets e5) ?_
      refine w_la rfl rfl ?_
      refine w_ci rfl ?_
      refine w_ci rfl ?_
      refine w_li rfl rfl ?_
      refine w_imul rfl ?_
      refine w_iadd rfl ?_
      refine w_li rfl rfl ?_
      obtain ⟨q6, e6, h⟩ := bnd h
      refine a_vi2i rfl (mg_51 _ _) (Nat.le_of_ble_eq_true rfl) (T_X6_becomes e6) ?_
      exact a_ri rfl h
    · replace h := ifp h (Classical.not_not.mp c4)
      refine w_ci rfl ?_
      exact a_ri rfl h
-- X6_thought
set_option maxRecDepth 100000 in
theorem T_X6_thought  {x1 : Int32} {x2 : Int32} {s : SS} {t : TT} {q : Int32 × SS × TT} (h : f_X6_thought x1 x2 s t = some q) : Wm 145 [.ref 51, .int x1, .int x2] (mk s t) (Qi q) := by
  refine Wm.of pT_145 (Nat.le_of_ble_eq_true rfl) (L0 := [some (.ref 51), some (.int x1), some (.int x2)]) rfl ?_
  unfold f_X6_thought at h
  refine w_la rfl rfl ?_
  refine w_li rfl rfl ?_
  obtain ⟨q1, e1, h⟩ := bnd h
  refine a_vi1i rfl (mg_51 _ _) (Nat.le_of_ble_eq_true rfl) (T_X6_isOne e1) ?_
  refine w_if_eq rfl (fun c2 => ?_) (fun c2 => ?_)
  · replace h := ifp h c2
    refine w_ci rfl ?_
    exact a_ri rfl h
  · replace h := ifn h c2
    refine w_li rfl rfl ?_
    refine w_ci rfl ?_
    refine w_ci rfl ?_
    obtain ⟨q3, e3, h⟩ := bnd h
    refine a_st3i rfl (Nat.le_of_ble_eq_true rfl) (T_X6_in e3) ?_
    refine w_if_eq rfl (fun c4 => ?_) (fun c4 => ?_)
    · replace h := ifp h c4
      refine w_ci rfl ?_
      exact a_ri rfl h
    · replace h := ifn h c4
      refine w_la rfl rfl ?_
      refine w_ci rfl ?_
      refine w_ci rfl ?_
      refine w_li rfl rfl ?_
      refine w_imul rfl ?_
      refine w_iadd rfl ?_
      refine w_ci rfl ?_
      refine w_iadd rfl ?_
      refine w_li rfl rfl ?_
      obtain ⟨q5, e5, h⟩ := bnd h
      refine a_vi2i rfl (mg_51 _ _) (Nat.le_of_ble_eq_true rfl) (T_X6_becomes e5) ?_
      refine w_go rfl ?_
      exact a_ri rfl h
-- X6_own
set_option maxRecDepth 100000 in
theorem T_X6_own  {x1 : Int32} {x2 : Int32} {s : SS} {t : TT} {q : Int32 × SS × TT} (h : f_X6_own x1 x2 s t = some q) : Wm 146 [.ref 51, .int x1, .int x2] (mk s t) (Qi q) := by
  refine Wm.of pT_146 (Nat.le_of_ble_eq_true rfl) (L0 := [some (.ref 51), some (.int x1), some (.int x2)]) rfl ?_
  unfold f_X6_own at h
  refine w_la rfl rfl ?_
  refine w_li rfl rfl ?_
  obtain ⟨q1, e1, h⟩ := bnd h
  refine a_vi1i rfl (mg_51 _ _) (Nat.le_of_ble_eq_true rfl) (T_X6_isOne e1) ?_
  refine w_if_eq rfl (fun c2 => ?_) (fun c2 => ?_)
  · replace h := ifp h c2
    refine w_ci rfl ?_
    exact a_ri rfl h
  · replace h := ifn h c2
    refine w_li rfl rfl ?_
    refine w_ci rfl ?_
    refine w_ci rfl ?_
    obtain ⟨q3, e3, h⟩ := bnd h
    refine a_st3i rfl (Nat.le_of_ble_eq_true rfl) (T_X6_in e3) ?_
    refine w_if_eq rfl (fun c4 => ?_) (fun c4 => ?_)
    · replace h := ifp h c4
      refine w_ci rfl ?_
      exact a_ri rfl h
    · replace h := ifn h c4
      refine w_la rfl rfl ?_
      refine w_ci rfl ?_
      refine w_ci rfl ?_
      refine w_li rfl rfl ?_
      refine w_imul rfl ?_
      refine w_iadd rfl ?_
      refine w_ci rfl ?_
      refine w_iadd rfl ?_
      refine w_li rfl rfl ?_
      obtain ⟨q5, e5, h⟩ := bnd h
      refine a_vi2i rfl (mg_51 _ _) (Nat.le_of_ble_eq_true rfl) (T_X6_becomes e5) ?_
      refine w_go rfl ?_
      exact a_ri rfl h
-- X6_give
set_option maxRecDepth 100000 in
theorem T_X6_give  {x1 : Int32} {x2 : Int32} {s : SS} {t : TT} {q : Int32 × SS × TT} (h : f_X6_give x1 x2 s t = some q) : Wm 147 [.ref 51, .int x1, .int x2] (mk s t) (Qi q) := by
  refine Wm.of pT_147 (Nat.le_of_ble_eq_true rfl) (L0 := [some (.ref 51), some (.int x1), some (.int x2)]) rfl ?_
  unfold f_X6_give at h
  refine w_la rfl rfl ?_
  refine w_li rfl rfl ?_
  obtain ⟨q1, e1, h⟩ := bnd h
  refine a_vi1i rfl (mg_51 _ _) (Nat.le_of_ble_eq_true rfl) (T_X6_isOne e1) ?_
  refine w_if_eq rfl (fun c2 => ?_) (fun c2 => ?_)
  · replace h := ifp h c2
    refine w_ci rfl ?_
    exact a_ri rfl h
  · replace h := ifn h c2
    refine w_la rfl rfl ?_
    refine w_li rfl rfl ?_
    obtain ⟨q3, e3, h⟩ := bnd h
    refine a_vi1i rfl (mg_51 _ _) (Nat.le_of_ble_eq_true rfl) (T_X6_isOne e3) ?_
    refine w_if_eq rfl (fun c4 => ?_) (fun c4 => ?_)
    · replace h := ifp h c4
      refine w_ci rfl ?_
      exact a_ri rfl h
    · replace h := ifn h c4
      refine w_li rfl rfl ?_
      refine w_li rfl rfl ?_
      refine w_ic_ne rfl (fun c5 => ?_) (fun c5 => ?_)
      · replace h := ifn h c5
        refine w_la rfl rfl ?_
        refine w_li rfl rfl ?_
        refine w_ci rfl ?_
        obtain ⟨q6, e6, h⟩ := bnd h
        refine a_vi2i rfl (mg_51 _ _) (Nat.le_of_ble_eq_true rfl) (T_X6_its e6) ?_
        refine w_if_eq rfl (fun c7 => ?_) (fun c7 => ?_)
        · replace h := ifp h c7
          refine w_ci rfl ?_
          exact a_ri rfl h
        · replace h := ifn h c7
          refine w_la rfl rfl ?_
          refine w_li rfl rfl ?_
          refine w_ci rfl ?_
          obtain ⟨q8, e8, h⟩ := bnd h
          refine a_vi2i rfl (mg_51 _ _) (Nat.le_of_ble_eq_true rfl) (T_X6_its e8) ?_
          refine w_ci rfl ?_
          refine w_ic_ne rfl (fun c9 => ?_) (fun c9 => ?_)
          · replace h := ifn h c9
            refine w_la rfl rfl ?_
            refine w_li rfl rfl ?_
            refine w_ci rfl ?_
            refine w_la rfl rfl ?_
            refine w_li rfl rfl ?_
            refine w_ci rfl ?_
            obtain ⟨q10, e10, h⟩ := bnd h
            refine a_vi2i rfl (mg_51 _ _) (Nat.le_of_ble_eq_true rfl) (T_X6_its e10) ?_
            refine w_ci rfl ?_
            refine w_isub rfl ?_
            obtain ⟨q11, e11, h⟩ := bnd h
            refine a_vi3v rfl (mg_51 _ _) (Nat.le_of_ble_eq_true rfl) (T_X6_sets e11) ?_
            refine w_la rfl rfl ?_
            refine w_li rfl rfl ?_
            refine w_ci rfl ?_
            refine w_la rfl rfl ?_
            refine w_li rfl rfl ?_
            refine w_ci rfl ?_
            obtain ⟨q12, e12, h⟩ := bnd h
            refine a_vi2i rfl (mg_51 _ _) (Nat.le_of_ble_eq_true rfl) (T_X6_its e12) ?_
            refine w_ci rfl ?_
            refine w_iadd rfl ?_
            obtain ⟨q13, e13, h⟩ := bnd h
            refine a_vi3v rfl (mg_51 _ _) (Nat.le_of_ble_eq_true rfl) (T_X6_sets e13) ?_
            refine w_la rfl rfl ?_
            refine w_li rfl rfl ?_
            refine w_ci rfl ?_
            obtain ⟨q14, e14, h⟩ := bnd h
            refine a_vi2i rfl (mg_51 _ _) (Nat.le_of_ble_eq_true rfl) (T_X6_its e14) ?_
            exact a_ri rfl h
          · replace h := ifp h (Classical.not_not.mp c9)
            refine w_ci rfl ?_
            exact a_ri rfl h
      · replace h := ifp h (Classical.not_not.mp c5)
        refine w_ci rfl ?_
        exact a_ri rfl h
-- X6_isReady
set_option maxRecDepth 100000 in
theorem T_X6_isReady  {x1 : Int32} {s : SS} {t : TT} {q : Int32 × SS × TT} (h : f_X6_isReady x1 s t = some q) : Wm 148 [.ref 51, .int x1] (mk s t) (Qi q) := by
  refine Wm.of pT_148 (Nat.le_of_ble_eq_true rfl) (L0 := [some (.ref 51), some (.int x1)]) rfl ?_
  unfold f_X6_isReady at h
  refine w_la rfl rfl ?_
  refine w_li rfl rfl ?_
  refine w_ci rfl ?_
  obtain ⟨q1, e1, h⟩ := bnd h
  refine a_vi2i rfl (mg_51 _ _) (Nat.le_of_ble_eq_true rfl) (T_X6_its e1) ?_
  refine w_la rfl rfl ?_
  refine w_li rfl rfl ?_
  obtain ⟨q2, e2, h⟩ := bnd h
  refine a_vi1i rfl (mg_51 _ _) (Nat.le_of_ble_eq_true rfl) (T_X6_needs e2) ?_
  refine w_ic_lt rfl (fun c3 => ?_) (fun c3 => ?_)
  · replace h := ifp h c3
    refine w_ci rfl ?_
    exact a_rz rfl (by decide) h
  · replace h := ifn h c3
    refine w_ci rfl ?_
    refine w_go rfl ?_
    exact a_rz rfl (by decide) h
-- X6_readySet
set_option maxRecDepth 100000 in
theorem J_X6_readySet_31  {k4 : Int32 × Int32 × SS × TT → Option (Int32 × SS × TT)} (hk4 : ∀ (x1 : Int32) (x2 : Int32) (s : SS) (t : TT) (q : Int32 × SS × TT), k4 (x1, x2, s, t) = some q → Wp pl_Kc 149 4 [some (.ref 51), some (.int x1), some (.int x2)] [] (mk s t) (Qi q)) : ∀ (x2 : Int32) (y0 : Int32) (y1 : Int32) (s : SS) (t : TT) (q : Int32 × SS × TT), j_X6_readySet_31 k4 x2 y0 y1 s t = some q → Wp pl_Kc 149 31 [some (.ref 51), none, some (.int x2)] [.int y0, .int y1] (mk s t) (Qi q) := by
  intro x2 y0 y1 s t q h
  unfold j_X6_readySet_31 at h
  refine w_ior rfl ?_
  refine w_si rfl (Nat.le_of_ble_eq_true rfl) rfl ?_
  refine w_inc rfl rfl rfl ?_
  refine w_go rfl ?_
  exact Wp_fgt (fg_s (fg_s (fg_s fg_e))) (hk4 _ _ _ _ _ h)
set_option maxRecDepth 100000 in
theorem B_X6_readySet_4  {k4 : Int32 × Int32 × SS × TT → Option (Int32 × SS × TT)} (hk4 : ∀ (x1 : Int32) (x2 : Int32) (s : SS) (t : TT) (q : Int32 × SS × TT), k4 (x1, x2, s, t) = some q → Wp pl_Kc 149 4 [some (.ref 51), some (.int x1), some (.int x2)] [] (mk s t) (Qi q)) : ∀ (x1 : Int32) (x2 : Int32) (s : SS) (t : TT) (q : Int32 × SS × TT), b_X6_readySet_4 k4 x1 x2 s t = some q → Wp pl_Kc 149 4 [some (.ref 51), some (.int x1), some (.int x2)] [] (mk s t) (Qi q) := by
  intro x1 x2 s t q h
  unfold b_X6_readySet_4 at h
  refine w_li rfl rfl ?_
  refine w_la rfl rfl ?_
  refine w_gf rfl (mg_51 _ _) rfl ?_
  refine w_ci rfl ?_
  obtain ⟨j1, e1, h⟩ := bnd h
  refine a_ia rfl (mr_52 _ _ _) e1 ?_
  refine w_ic_ge rfl (fun c2 => ?_) (fun c2 => ?_)
  · replace h := ifp h c2
    refine w_li rfl rfl ?_
    exact a_ri rfl h
  · replace h := ifn h c2
    refine w_li rfl rfl ?_
    refine w_la rfl rfl ?_
    refine w_li rfl rfl ?_
    obtain ⟨q3, e3, h⟩ := bnd h
    refine a_vi1i rfl (mg_51 _ _) (Nat.le_of_ble_eq_true rfl) (T_X6_isReady e3) ?_
    refine w_if_eq rfl (fun c4 => ?_) (fun c4 => ?_)
    · replace h := ifp h c4
      refine w_ci rfl ?_
      exact Wp_fgt (fg_s (fg_n (fg_s fg_e))) (J_X6_readySet_31 hk4 _ _ _ _ _ _ h)
    · replace h := ifn h c4
      refine w_ci rfl ?_
      refine w_li rfl rfl ?_
      refine w_ishl rfl ?_
      refine w_go rfl ?_
      exact Wp_fgt (fg_s (fg_n (fg_s fg_e))) (J_X6_readySet_31 hk4 _ _ _ _ _ _ h)
theorem K_X6_readySet_4  : ∀ (n : Nat) (x1 : Int32) (x2 : Int32) (s : SS) (t : TT) (q : Int32 × SS × TT), l_X6_readySet_4 n (x1, x2, s, t) = some q → Wp pl_Kc 149 4 [some (.ref 51), some (.int x1), some (.int x2)] [] (mk s t) (Qi q)
  | 0, x1, x2, s, t, q, h => by cases (show (none : Option (Int32 × SS × TT)) = some q from h)
  | n + 1, x1, x2, s, t, q, h => B_X6_readySet_4 (K_X6_readySet_4 n) x1 x2 s t q h
set_option maxRecDepth 100000 in
theorem T_X6_readySet  {s : SS} {t : TT} {q : Int32 × SS × TT} (h : f_X6_readySet s t = some q) : Wm 149 [.ref 51] (mk s t) (Qi q) := by
  refine Wm.of pT_149 (Nat.le_of_ble_eq_true rfl) (L0 := [some (.ref 51), none, none]) rfl ?_
  unfold f_X6_readySet at h
  refine w_ci rfl ?_
  refine w_si rfl (Nat.le_of_ble_eq_true rfl) rfl ?_
  refine w_ci rfl ?_
  refine w_si rfl (Nat.le_of_ble_eq_true rfl) rfl ?_
  exact Wp_fgt (fg_s (fg_s (fg_s fg_e))) (K_X6_readySet_4 _ _ _ _ _ _ h)
-- X6_next
set_option maxRecDepth 100000 in
theorem J_X6_next_86  {k4 : Int32 × Int32 × SS × TT → Option (Int32 × SS × TT)} (hk4 : ∀ (x1 : Int32) (x2 : Int32) (s : SS) (t : TT) (q : Int32 × SS × TT), k4 (x1, x2, s, t) = some q → Wp pl_Kc 150 4 [some (.ref 51), some (.int x1), some (.int x2), none] [] (mk s t) (Qi q)) : ∀ (x2 : Int32) (s : SS) (t : TT) (q : Int32 × SS × TT), j_X6_next_86 k4 x2 s t = some q → Wp pl_Kc 150 86 [some (.ref 51), none, some (.int x2), none] [] (mk s t) (Qi q) := by
  intro x2 s t q h
  unfold j_X6_next_86 at h
  refine w_li rfl rfl ?_
  refine w_si rfl (Nat.le_of_ble_eq_true rfl) rfl ?_
  refine w_inc rfl rfl rfl ?_
  refine w_go rfl ?_
  exact Wp_fgt (fg_s (fg_s (fg_s (fg_n fg_e)))) (hk4 _ _ _ _ _ h)
set_option maxRecDepth 100000 in
theorem J_X6_next_50  {k4 : Int32 × Int32 × SS × TT → Option (Int32 × SS × TT)} (hk4 : ∀ (x1 : Int32) (x2 : Int32) (s : SS) (t : TT) (q : Int32 × SS × TT), k4 (x1, x2, s, t) = some q → Wp pl_Kc 150 4 [some (.ref 51), some (.int x1), some (.int x2), none] [] (mk s t) (Qi q)) : ∀ (x1 : Int32) (x2 : Int32) (y0 : Int32) (s : SS) (t : TT) (q : Int32 × SS × TT), j_X6_next_50 k4 x1 x2 y0 s t = some q → Wp pl_Kc 150 50 [some (.ref 51), some (.int x1), some (.int x2), none] [.int y0] (mk s t) (Qi q) := by
  intro x1 x2 y0 s t q h
  unfold j_X6_next_50 at h
  refine w_si rfl (Nat.le_of_ble_eq_true rfl) rfl ?_
  refine w_li rfl rfl ?_
  refine w_if_eq rfl (fun c1 => ?_) (fun c1 => ?_)
  · replace h := ifp h c1
    refine w_inc rfl rfl rfl ?_
    refine w_go rfl ?_
    exact Wp_fgt (fg_s (fg_s (fg_s (fg_n fg_e)))) (hk4 _ _ _ _ _ h)
  · replace h := ifn h c1
    refine w_li rfl rfl ?_
    refine w_if_lt rfl (fun c2 => ?_) (fun c2 => ?_)
    · replace h := ifp h c2
      exact Wp_fgt (fg_s (fg_n (fg_s (fg_n fg_e)))) (J_X6_next_86 hk4 _ _ _ _ h)
    · replace h := ifn h c2
      refine w_la rfl rfl ?_
      refine w_li rfl rfl ?_
      refine w_ci rfl ?_
      obtain ⟨q3, e3, h⟩ := bnd h
      refine a_vi2i rfl (mg_51 _ _) (Nat.le_of_ble_eq_true rfl) (T_X6_its e3) ?_
      refine w_la rfl rfl ?_
      refine w_li rfl rfl ?_
      obtain ⟨q4, e4, h⟩ := bnd h
      refine a_vi1i rfl (mg_51 _ _) (Nat.le_of_ble_eq_true rfl) (T_X6_needs e4) ?_
      refine w_isub rfl ?_
      refine w_la rfl rfl ?_
      refine w_li rfl rfl ?_
      refine w_ci rfl ?_
      obtain ⟨q5, e5, h⟩ := bnd h
      refine a_vi2i rfl (mg_51 _ _) (Nat.le_of_ble_eq_true rfl) (T_X6_its e5) ?_
      refine w_la rfl rfl ?_
      refine w_li rfl rfl ?_
      obtain ⟨q6, e6, h⟩ := bnd h
      refine a_vi1i rfl (mg_51 _ _) (Nat.le_of_ble_eq_true rfl) (T_X6_needs e6) ?_
      refine w_isub rfl ?_
      refine w_ic_le rfl (fun c7 => ?_) (fun c7 => ?_)
      · replace h := ifp h c7
        refine w_inc rfl rfl rfl ?_
        refine w_go rfl ?_
        exact Wp_fgt (fg_s (fg_s (fg_s (fg_n fg_e)))) (hk4 _ _ _ _ _ h)
      · replace h := ifn h c7
        exact Wp_fgt (fg_s (fg_n (fg_s (fg_n fg_e)))) (J_X6_next_86 hk4 _ _ _ _ h)
set_option maxRecDepth 100000 in
theorem J_X6_next_49  {k4 : Int32 × Int32 × SS × TT → Option (Int32 × SS × TT)} (hk4 : ∀ (x1 : Int32) (x2 : Int32) (s : SS) (t : TT) (q : Int32 × SS × TT), k4 (x1, x2, s, t) = some q → Wp pl_Kc 150 4 [some (.ref 51), some (.int x1), some (.int x2), none] [] (mk s t) (Qi q)) : ∀ (x1 : Int32) (x2 : Int32) (s : SS) (t : TT) (q : Int32 × SS × TT), j_X6_next_49 k4 x1 x2 s t = some q → Wp pl_Kc 150 49 [some (.ref 51), some (.int x1), some (.int x2), none] [] (mk s t) (Qi q) := by
  intro x1 x2 s t q h
  unfold j_X6_next_49 at h
  refine w_ci rfl ?_
  exact Wp_fgt (fg_s (fg_s (fg_s (fg_n fg_e)))) (J_X6_next_50 hk4 _ _ _ _ _ _ h)
set_option maxRecDepth 100000 in
theorem B_X6_next_4  {k4 : Int32 × Int32 × SS × TT → Option (Int32 × SS × TT)} (hk4 : ∀ (x1 : Int32) (x2 : Int32) (s : SS) (t : TT) (q : Int32 × SS × TT), k4 (x1, x2, s, t) = some q → Wp pl_Kc 150 4 [some (.ref 51), some (.int x1), some (.int x2), none] [] (mk s t) (Qi q)) : ∀ (x1 : Int32) (x2 : Int32) (s : SS) (t : TT) (q : Int32 × SS × TT), b_X6_next_4 k4 x1 x2 s t = some q → Wp pl_Kc 150 4 [some (.ref 51), some (.int x1), some (.int x2), none] [] (mk s t) (Qi q) := by
  intro x1 x2 s t q h
  unfold b_X6_next_4 at h
  refine w_li rfl rfl ?_
  refine w_la rfl rfl ?_
  refine w_gf rfl (mg_51 _ _) rfl ?_
  refine w_ci rfl ?_
  obtain ⟨j1, e1, h⟩ := bnd h
  refine a_ia rfl (mr_52 _ _ _) e1 ?_
  refine w_ic_ge rfl (fun c2 => ?_) (fun c2 => ?_)
  · replace h := ifp h c2
    refine w_li rfl rfl ?_
    exact a_ri rfl h
  · replace h := ifn h c2
    refine w_la rfl rfl ?_
    refine w_li rfl rfl ?_
    obtain ⟨q3, e3, h⟩ := bnd h
    refine a_vi1i rfl (mg_51 _ _) (Nat.le_of_ble_eq_true rfl) (T_X6_isReady e3) ?_
    refine w_if_eq rfl (fun c4 => ?_) (fun c4 => ?_)
    · replace h := ifp h c4
      exact Wp_fgt (fg_s (fg_s (fg_s (fg_n fg_e)))) (J_X6_next_49 hk4 _ _ _ _ _ h)
    · replace h := ifn h c4
      refine w_la rfl rfl ?_
      refine w_li rfl rfl ?_
      refine w_ci rfl ?_
      obtain ⟨q5, e5, h⟩ := bnd h
      refine a_vi2i rfl (mg_51 _ _) (Nat.le_of_ble_eq_true rfl) (T_X6_its e5) ?_
      refine w_ci rfl ?_
      refine w_ic_ge rfl (fun c6 => ?_) (fun c6 => ?_)
      · replace h := ifp h c6
        exact Wp_fgt (fg_s (fg_s (fg_s (fg_n fg_e)))) (J_X6_next_49 hk4 _ _ _ _ _ h)
      · replace h := ifn h c6
        refine w_la rfl rfl ?_
        refine w_gf rfl (mg_51 _ _) rfl ?_
        refine w_li rfl rfl ?_
        refine w_ishr rfl ?_
        refine w_ci rfl ?_
        refine w_iand rfl ?_
        refine w_if_ne rfl (fun c7 => ?_) (fun c7 => ?_)
        · replace h := ifn h c7
          exact Wp_fgt (fg_s (fg_s (fg_s (fg_n fg_e)))) (J_X6_next_49 hk4 _ _ _ _ _ h)
        · replace h := ifp h (Classical.not_not.mp c7)
          refine w_ci rfl ?_
          refine w_go rfl ?_
          exact Wp_fgt (fg_s (fg_s (fg_s (fg_n fg_e)))) (J_X6_next_50 hk4 _ _ _ _ _ _ h)
theorem K_X6_next_4  : ∀ (n : Nat) (x1 : Int32) (x2 : Int32) (s : SS) (t : TT) (q : Int32 × SS × TT), l_X6_next_4 n (x1, x2, s, t) = some q → Wp pl_Kc 150 4 [some (.ref 51), some (.int x1), some (.int x2), none] [] (mk s t) (Qi q)
  | 0, x1, x2, s, t, q, h => by cases (show (none : Option (Int32 × SS × TT)) = some q from h)
  | n + 1, x1, x2, s, t, q, h => B_X6_next_4 (K_X6_next_4 n) x1 x2 s t q h
set_option maxRecDepth 100000 in
theorem T_X6_next  {s : SS} {t : TT} {q : Int32 × SS × TT} (h : f_X6_next s t = some q) : Wm 150 [.ref 51] (mk s t) (Qi q) := by
  refine Wm.of pT_150 (Nat.le_of_ble_eq_true rfl) (L0 := [some (.ref 51), none, none, none]) rfl ?_
  unfold f_X6_next at h
  refine w_ci rfl ?_
  refine w_si rfl (Nat.le_of_ble_eq_true rfl) rfl ?_
  refine w_ci rfl ?_
  refine w_si rfl (Nat.le_of_ble_eq_true rfl) rfl ?_
  exact Wp_fgt (fg_s (fg_s (fg_s (fg_n fg_e)))) (K_X6_next_4 _ _ _ _ _ _ h)
-- X6_pageGoes
set_option maxRecDepth 100000 in
theorem T_X6_pageGoes  {s : SS} {t : TT} {q : SS × TT} (h : f_X6_pageGoes s t = some q) : Wm 151 [.ref 51] (mk s t) (Qv q) := by
  refine Wm.of pT_151 (Nat.le_of_ble_eq_true rfl) (L0 := [some (.ref 51), none]) rfl ?_
  unfold f_X6_pageGoes at h
  refine w_la rfl rfl ?_
  obtain ⟨q1, e1, h⟩ := bnd h
  refine a_vi0i rfl (mg_51 _ _) (Nat.le_of_ble_eq_true rfl) (T_X6_next e1) ?_
  refine w_si rfl (Nat.le_of_ble_eq_true rfl) rfl ?_
  refine w_li rfl rfl ?_
  refine w_if_ge rfl (fun c2 => ?_) (fun c2 => ?_)
  · replace h := ifp h c2
    refine w_la rfl rfl ?_
    refine w_li rfl rfl ?_
    refine w_ci rfl ?_
    refine w_la rfl rfl ?_
    refine w_li rfl rfl ?_
    refine w_ci rfl ?_
    obtain ⟨q3, e3, h⟩ := bnd h
    refine a_vi2i rfl (mg_51 _ _) (Nat.le_of_ble_eq_true rfl) (T_X6_its e3) ?_
    refine w_ci rfl ?_
    refine w_iadd rfl ?_
    obtain ⟨q4, e4, h⟩ := bnd h
    refine a_vi3v rfl (mg_51 _ _) (Nat.le_of_ble_eq_true rfl) (T_X6_sets e4) ?_
    refine w_la rfl rfl ?_
    refine w_li rfl rfl ?_
    refine w_ci rfl ?_
    refine w_la rfl rfl ?_
    refine w_li rfl rfl ?_
    refine w_ci rfl ?_
    obtain ⟨q5, e5, h⟩ := bnd h
    refine a_vi2i rfl (mg_51 _ _) (Nat.le_of_ble_eq_true rfl) (T_X6_its e5) ?_
    refine w_ci rfl ?_
    refine w_iadd rfl ?_
    refine w_ci rfl ?_
    refine w_ci rfl ?_
    obtain ⟨q6, e6, h⟩ := bnd h
    refine a_st3i rfl (Nat.le_of_ble_eq_true rfl) (T_X6_held e6) ?_
    obtain ⟨q7, e7, h⟩ := bnd h
    refine a_vi3v rfl (mg_51 _ _) (Nat.le_of_ble_eq_true rfl) (T_X6_sets e7) ?_
    refine w_la rfl rfl ?_
    refine w_li rfl rfl ?_
    refine w_ci rfl ?_
    refine w_la rfl rfl ?_
    refine w_li rfl rfl ?_
    refine w_ci rfl ?_
    obtain ⟨q8, e8, h⟩ := bnd h
    refine a_vi2i rfl (mg_51 _ _) (Nat.le_of_ble_eq_true rfl) (T_X6_its e8) ?_
    refine w_la rfl rfl ?_
    refine w_li rfl rfl ?_
    obtain ⟨q9, e9, h⟩ := bnd h
    refine a_vi1i rfl (mg_51 _ _) (Nat.le_of_ble_eq_true rfl) (T_X6_needs e9) ?_
    refine w_isub rfl ?_
    obtain ⟨q10, e10, h⟩ := bnd h
    refine a_vi3v rfl (mg_51 _ _) (Nat.le_of_ble_eq_true rfl) (T_X6_sets e10) ?_
    exact a_rv rfl h
  · replace h := ifn h c2
    refine w_la rfl rfl ?_
    refine w_gf rfl (mg_51 _ _) rfl ?_
    refine w_ci rfl ?_
    refine w_la rfl rfl ?_
    refine w_gf rfl (mg_51 _ _) rfl ?_
    refine w_ci rfl ?_
    obtain ⟨j11, e11, h⟩ := bnd h
    refine a_ia rfl (mr_52 _ _ _) e11 ?_
    refine w_ci rfl ?_
    refine w_iadd rfl ?_
    refine w_ci rfl ?_
    refine w_ci rfl ?_
    obtain ⟨q12, e12, h⟩ := bnd h
    refine a_st3i rfl (Nat.le_of_ble_eq_true rfl) (T_X6_held e12) ?_
    obtain ⟨j13, e13, h⟩ := bnd h
    refine a_is rfl (mg_52 _ _) (ms_52 _ _) e13 (fun s13 w13 => ?_)
    replace h := wr_of h s13 w13
    exact a_rv rfl h
-- X6_writes
set_option maxRecDepth 100000 in
theorem J_X6_writes_54  : ∀ (x2 : Int32) (y0 : Int32) (y1 : Int32) (y2 : Int32) (s : SS) (t : TT) (q : Int32 × SS × TT), j_X6_writes_54 x2 y0 y1 y2 s t = some q → Wp pl_Kc 152 54 [none, none, some (.int x2)] [.int y0, .int y1, .int y2, .ref 51] (mk s t) (Qi q) := by
  intro x2 y0 y1 y2 s t q h
  unfold j_X6_writes_54 at h
  obtain ⟨q1, e1, h⟩ := bnd h
  refine a_vi3v rfl (mg_51 _ _) (Nat.le_of_ble_eq_true rfl) (T_X6_sets e1) ?_
  refine w_li rfl rfl ?_
  exact a_ri rfl h
set_option maxRecDepth 100000 in
theorem T_X6_writes  {x1 : Int32} {s : SS} {t : TT} {q : Int32 × SS × TT} (h : f_X6_writes x1 s t = some q) : Wm 152 [.ref 51, .int x1] (mk s t) (Qi q) := by
  refine Wm.of pT_152 (Nat.le_of_ble_eq_true rfl) (L0 := [some (.ref 51), some (.int x1), none]) rfl ?_
  unfold f_X6_writes at h
  refine w_la rfl rfl ?_
  refine w_li rfl rfl ?_
  obtain ⟨q1, e1, h⟩ := bnd h
  refine a_vi1i rfl (mg_51 _ _) (Nat.le_of_ble_eq_true rfl) (T_X6_says e1) ?_
  refine w_si rfl (Nat.le_of_ble_eq_true rfl) rfl ?_
  refine w_la rfl rfl ?_
  refine w_li rfl rfl ?_
  refine w_ci rfl ?_
  refine w_la rfl rfl ?_
  refine w_li rfl rfl ?_
  refine w_ci rfl ?_
  obtain ⟨q2, e2, h⟩ := bnd h
  refine a_vi2i rfl (mg_51 _ _) (Nat.le_of_ble_eq_true rfl) (T_X6_its e2) ?_
  refine w_li rfl rfl ?_
  refine w_iadd rfl ?_
  refine w_ci rfl ?_
  refine w_ci rfl ?_
  obtain ⟨q3, e3, h⟩ := bnd h
  refine a_st3i rfl (Nat.le_of_ble_eq_true rfl) (T_X6_held e3) ?_
  obtain ⟨q4, e4, h⟩ := bnd h
  refine a_vi3v rfl (mg_51 _ _) (Nat.le_of_ble_eq_true rfl) (T_X6_sets e4) ?_
  refine w_la rfl rfl ?_
  refine w_li rfl rfl ?_
  refine w_ci rfl ?_
  refine w_la rfl rfl ?_
  refine w_li rfl rfl ?_
  obtain ⟨q5, e5, h⟩ := bnd h
  refine a_vi1i rfl (mg_51 _ _) (Nat.le_of_ble_eq_true rfl) (T_X6_isUsed e5) ?_
  refine w_if_eq rfl (fun c6 => ?_) (fun c6 => ?_)
  · replace h := ifp h c6
    refine w_la rfl rfl ?_
    refine w_li rfl rfl ?_
    refine w_ci rfl ?_
    obtain ⟨q7, e7, h⟩ := bnd h
    refine a_vi2i rfl (mg_51 _ _) (Nat.le_of_ble_eq_true rfl) (T_X6_its e7) ?_
    exact Wp_fgt (fg_n (fg_n (fg_s fg_e))) (J_X6_writes_54 _ _ _ _ _ _ _ h)
  · replace h := ifn h c6
    refine w_la rfl rfl ?_
    refine w_li rfl rfl ?_
    refine w_ci rfl ?_
    obtain ⟨q8, e8, h⟩ := bnd h
    refine a_vi2i rfl (mg_51 _ _) (Nat.le_of_ble_eq_true rfl) (T_X6_its e8) ?_
    refine w_ci rfl ?_
    refine w_isub rfl ?_
    refine w_go rfl ?_
    exact Wp_fgt (fg_n (fg_n (fg_s fg_e))) (J_X6_writes_54 _ _ _ _ _ _ _ h)
-- X6_weekGoes
set_option maxRecDepth 100000 in
theorem J_X6_weekGoes_99  {k69 : Int32 × Int32 × SS × TT → Option (Int32 × SS × TT)} (hk69 : ∀ (x1 : Int32) (x2 : Int32) (s : SS) (t : TT) (q : Int32 × SS × TT), k69 (x1, x2, s, t) = some q → Wp pl_Kc 153 69 [some (.ref 51), some (.int x1), some (.int x2)] [] (mk s t) (Qi q)) : ∀ (x2 : Int32) (y0 : Int32) (y1 : Int32) (s : SS) (t : TT) (q : Int32 × SS × TT), j_X6_weekGoes_99 k69 x2 y0 y1 s t = some q → Wp pl_Kc 153 99 [some (.ref 51), none, some (.int x2)] [.int y0, .int y1] (mk s t) (Qi q) := by
  intro x2 y0 y1 s t q h
  unfold j_X6_weekGoes_99 at h
  refine w_iadd rfl ?_
  refine w_si rfl (Nat.le_of_ble_eq_true rfl) rfl ?_
  refine w_inc rfl rfl rfl ?_
  refine w_go rfl ?_
  exact Wp_fgt (fg_s (fg_s (fg_s fg_e))) (hk69 _ _ _ _ _ h)
set_option maxRecDepth 100000 in
theorem B_X6_weekGoes_69  {k69 : Int32 × Int32 × SS × TT → Option (Int32 × SS × TT)} (hk69 : ∀ (x1 : Int32) (x2 : Int32) (s : SS) (t : TT) (q : Int32 × SS × TT), k69 (x1, x2, s, t) = some q → Wp pl_Kc 153 69 [some (.ref 51), some (.int x1), some (.int x2)] [] (mk s t) (Qi q)) : ∀ (x1 : Int32) (x2 : Int32) (s : SS) (t : TT) (q : Int32 × SS × TT), b_X6_weekGoes_69 k69 x1 x2 s t = some q → Wp pl_Kc 153 69 [some (.ref 51), some (.int x1), some (.int x2)] [] (mk s t) (Qi q) := by
  intro x1 x2 s t q h
  unfold b_X6_weekGoes_69 at h
  refine w_li rfl rfl ?_
  refine w_la rfl rfl ?_
  refine w_gf rfl (mg_51 _ _) rfl ?_
  refine w_ci rfl ?_
  obtain ⟨j1, e1, h⟩ := bnd h
  refine a_ia rfl (mr_52 _ _ _) e1 ?_
  refine w_ic_ge rfl (fun c2 => ?_) (fun c2 => ?_)
  · replace h := ifp h c2
    refine w_la rfl rfl ?_
    refine w_gf rfl (mg_51 _ _) rfl ?_
    refine w_ci rfl ?_
    refine w_dup2 rfl rfl rfl ?_
    obtain ⟨j3, e3, h⟩ := bnd h
    refine a_ia rfl (mr_52 _ _ _) e3 ?_
    refine w_ci rfl ?_
    refine w_iadd rfl ?_
    obtain ⟨j4, e4, h⟩ := bnd h
    refine a_is rfl (mg_52 _ _) (ms_52 _ _) e4 (fun s4 w4 => ?_)
    replace h := wr_of h s4 w4
    refine w_li rfl rfl ?_
    exact a_ri rfl h
  · replace h := ifn h c2
    refine w_li rfl rfl ?_
    refine w_la rfl rfl ?_
    refine w_li rfl rfl ?_
    refine w_ci rfl ?_
    obtain ⟨q5, e5, h⟩ := bnd h
    refine a_vi2i rfl (mg_51 _ _) (Nat.le_of_ble_eq_true rfl) (T_X6_its e5) ?_
    refine w_if_le rfl (fun c6 => ?_) (fun c6 => ?_)
    · replace h := ifp h c6
      refine w_ci rfl ?_
      exact Wp_fgt (fg_s (fg_n (fg_s fg_e))) (J_X6_weekGoes_99 hk69 _ _ _ _ _ _ h)
    · replace h := ifn h c6
      refine w_la rfl rfl ?_
      refine w_li rfl rfl ?_
      obtain ⟨q7, e7, h⟩ := bnd h
      refine a_vi1i rfl (mg_51 _ _) (Nat.le_of_ble_eq_true rfl) (T_X6_writes e7) ?_
      refine w_go rfl ?_
      exact Wp_fgt (fg_s (fg_n (fg_s fg_e))) (J_X6_weekGoes_99 hk69 _ _ _ _ _ _ h)
theorem K_X6_weekGoes_69  : ∀ (n : Nat) (x1 : Int32) (x2 : Int32) (s : SS) (t : TT) (q : Int32 × SS × TT), l_X6_weekGoes_69 n (x1, x2, s, t) = some q → Wp pl_Kc 153 69 [some (.ref 51), some (.int x1), some (.int x2)] [] (mk s t) (Qi q)
  | 0, x1, x2, s, t, q, h => by cases (show (none : Option (Int32 × SS × TT)) = some q from h)
  | n + 1, x1, x2, s, t, q, h => B_X6_weekGoes_69 (K_X6_weekGoes_69 n) x1 x2 s t q h
set_option maxRecDepth 100000 in
theorem B_X6_weekGoes_45  {k45 : Int32 × SS × TT → Option (Int32 × SS × TT)} (hk45 : ∀ (x1 : Int32) (s : SS) (t : TT) (q : Int32 × SS × TT), k45 (x1, s, t) = some q → Wp pl_Kc 153 45 [some (.ref 51), some (.int x1), none] [] (mk s t) (Qi q)) : ∀ (x1 : Int32) (s : SS) (t : TT) (q : Int32 × SS × TT), b_X6_weekGoes_45 k45 x1 s t = some q → Wp pl_Kc 153 45 [some (.ref 51), some (.int x1), none] [] (mk s t) (Qi q) := by
  intro x1 s t q h
  unfold b_X6_weekGoes_45 at h
  refine w_li rfl rfl ?_
  refine w_la rfl rfl ?_
  refine w_gf rfl (mg_51 _ _) rfl ?_
  refine w_ci rfl ?_
  obtain ⟨j1, e1, h⟩ := bnd h
  refine a_ia rfl (mr_52 _ _ _) e1 ?_
  refine w_ic_ge rfl (fun c2 => ?_) (fun c2 => ?_)
  · replace h := ifp h c2
    refine w_ci rfl ?_
    refine w_si rfl (Nat.le_of_ble_eq_true rfl) rfl ?_
    refine w_ci rfl ?_
    refine w_si rfl (Nat.le_of_ble_eq_true rfl) rfl ?_
    exact Wp_fgt (fg_s (fg_s (fg_s fg_e))) (K_X6_weekGoes_69 _ _ _ _ _ _ h)
  · replace h := ifn h c2
    refine w_la rfl rfl ?_
    obtain ⟨q3, e3, h⟩ := bnd h
    refine a_vi0v rfl (mg_51 _ _) (Nat.le_of_ble_eq_true rfl) (T_X6_pageGoes e3) ?_
    refine w_inc rfl rfl rfl ?_
    refine w_go rfl ?_
    exact Wp_fgt (fg_s (fg_s (fg_n fg_e))) (hk45 _ _ _ _ h)
theorem K_X6_weekGoes_45  : ∀ (n : Nat) (x1 : Int32) (s : SS) (t : TT) (q : Int32 × SS × TT), l_X6_weekGoes_45 n (x1, s, t) = some q → Wp pl_Kc 153 45 [some (.ref 51), some (.int x1), none] [] (mk s t) (Qi q)
  | 0, x1, s, t, q, h => by cases (show (none : Option (Int32 × SS × TT)) = some q from h)
  | n + 1, x1, s, t, q, h => B_X6_weekGoes_45 (K_X6_weekGoes_45 n) x1 s t q h
set_option maxRecDepth 100000 in
theorem B_X6_weekGoes_2  {k2 : Int32 × SS × TT → Option (Int32 × SS × TT)} (hk2 : ∀ (x1 : Int32) (s : SS) (t : TT) (q : Int32 × SS × TT), k2 (x1, s, t) = some q → Wp pl_Kc 153 2 [some (.ref 51), some (.int x1), none] [] (mk s t) (Qi q)) : ∀ (x1 : Int32) (s : SS) (t : TT) (q : Int32 × SS × TT), b_X6_weekGoes_2 k2 x1 s t = some q → Wp pl_Kc 153 2 [some (.ref 51), some (.int x1), none] [] (mk s t) (Qi q) := by
  intro x1 s t q h
  unfold b_X6_weekGoes_2 at h
  refine w_li rfl rfl ?_
  refine w_la rfl rfl ?_
  refine w_gf rfl (mg_51 _ _) rfl ?_
  refine w_ci rfl ?_
  obtain ⟨j1, e1, h⟩ := bnd h
  refine a_ia rfl (mr_52 _ _ _) e1 ?_
  refine w_ic_ge rfl (fun c2 => ?_) (fun c2 => ?_)
  · replace h := ifp h c2
    refine w_ci rfl ?_
    refine w_si rfl (Nat.le_of_ble_eq_true rfl) rfl ?_
    exact Wp_fgt (fg_s (fg_s (fg_n fg_e))) (K_X6_weekGoes_45 _ _ _ _ _ h)
  · replace h := ifn h c2
    refine w_la rfl rfl ?_
    refine w_li rfl rfl ?_
    refine w_ci rfl ?_
    refine w_la rfl rfl ?_
    refine w_li rfl rfl ?_
    refine w_ci rfl ?_
    obtain ⟨q3, e3, h⟩ := bnd h
    refine a_vi2i rfl (mg_51 _ _) (Nat.le_of_ble_eq_true rfl) (T_X6_its e3) ?_
    refine w_la rfl rfl ?_
    refine w_li rfl rfl ?_
    obtain ⟨q4, e4, h⟩ := bnd h
    refine a_vi1i rfl (mg_51 _ _) (Nat.le_of_ble_eq_true rfl) (T_X6_thinksOf e4) ?_
    refine w_iadd rfl ?_
    refine w_ci rfl ?_
    refine w_ci rfl ?_
    obtain ⟨q5, e5, h⟩ := bnd h
    refine a_st3i rfl (Nat.le_of_ble_eq_true rfl) (T_X6_held e5) ?_
    obtain ⟨q6, e6, h⟩ := bnd h
    refine a_vi3v rfl (mg_51 _ _) (Nat.le_of_ble_eq_true rfl) (T_X6_sets e6) ?_
    refine w_inc rfl rfl rfl ?_
    refine w_go rfl ?_
    exact Wp_fgt (fg_s (fg_s (fg_n fg_e))) (hk2 _ _ _ _ h)
theorem K_X6_weekGoes_2  : ∀ (n : Nat) (x1 : Int32) (s : SS) (t : TT) (q : Int32 × SS × TT), l_X6_weekGoes_2 n (x1, s, t) = some q → Wp pl_Kc 153 2 [some (.ref 51), some (.int x1), none] [] (mk s t) (Qi q)
  | 0, x1, s, t, q, h => by cases (show (none : Option (Int32 × SS × TT)) = some q from h)
  | n + 1, x1, s, t, q, h => B_X6_weekGoes_2 (K_X6_weekGoes_2 n) x1 s t q h
set_option maxRecDepth 100000 in
theorem T_X6_weekGoes  {s : SS} {t : TT} {q : Int32 × SS × TT} (h : f_X6_weekGoes s t = some q) : Wm 153 [.ref 51] (mk s t) (Qi q) := by
  refine Wm.of pT_153 (Nat.le_of_ble_eq_true rfl) (L0 := [some (.ref 51), none, none]) rfl ?_
  unfold f_X6_weekGoes at h
  refine w_ci rfl ?_
  refine w_si rfl (Nat.le_of_ble_eq_true rfl) rfl ?_
  exact Wp_fgt (fg_s (fg_s (fg_n fg_e))) (K_X6_weekGoes_2 _ _ _ _ _ h)
-- X6_sumOf
set_option maxRecDepth 100000 in
theorem B_X6_sumOf_4  {k4 : Int32 × Int32 × Int32 × SS × TT → Option (Int32 × SS × TT)} (hk4 : ∀ (x1 : Int32) (x2 : Int32) (x3 : Int32) (s : SS) (t : TT) (q : Int32 × SS × TT), k4 (x1, x2, x3, s, t) = some q → Wp pl_Kc 154 4 [some (.ref 51), some (.int x1), some (.int x2), some (.int x3)] [] (mk s t) (Qi q)) : ∀ (x1 : Int32) (x2 : Int32) (x3 : Int32) (s : SS) (t : TT) (q : Int32 × SS × TT), b_X6_sumOf_4 k4 x1 x2 x3 s t = some q → Wp pl_Kc 154 4 [some (.ref 51), some (.int x1), some (.int x2), some (.int x3)] [] (mk s t) (Qi q) := by
  intro x1 x2 x3 s t q h
  unfold b_X6_sumOf_4 at h
  refine w_li rfl rfl ?_
  refine w_la rfl rfl ?_
  refine w_gf rfl (mg_51 _ _) rfl ?_
  refine w_ci rfl ?_
  obtain ⟨j1, e1, h⟩ := bnd h
  refine a_ia rfl (mr_52 _ _ _) e1 ?_
  refine w_ic_ge rfl (fun c2 => ?_) (fun c2 => ?_)
  · replace h := ifp h c2
    refine w_li rfl rfl ?_
    exact a_ri rfl h
  · replace h := ifn h c2
    refine w_li rfl rfl ?_
    refine w_la rfl rfl ?_
    refine w_li rfl rfl ?_
    refine w_li rfl rfl ?_
    obtain ⟨q3, e3, h⟩ := bnd h
    refine a_vi2i rfl (mg_51 _ _) (Nat.le_of_ble_eq_true rfl) (T_X6_its e3) ?_
    refine w_iadd rfl ?_
    refine w_si rfl (Nat.le_of_ble_eq_true rfl) rfl ?_
    refine w_inc rfl rfl rfl ?_
    refine w_go rfl ?_
    exact Wp_fgt (fg_s (fg_s (fg_s (fg_s fg_e)))) (hk4 _ _ _ _ _ _ h)
theorem K_X6_sumOf_4  : ∀ (n : Nat) (x1 : Int32) (x2 : Int32) (x3 : Int32) (s : SS) (t : TT) (q : Int32 × SS × TT), l_X6_sumOf_4 n (x1, x2, x3, s, t) = some q → Wp pl_Kc 154 4 [some (.ref 51), some (.int x1), some (.int x2), some (.int x3)] [] (mk s t) (Qi q)
  | 0, x1, x2, x3, s, t, q, h => by cases (show (none : Option (Int32 × SS × TT)) = some q from h)
  | n + 1, x1, x2, x3, s, t, q, h => B_X6_sumOf_4 (K_X6_sumOf_4 n) x1 x2 x3 s t q h
set_option maxRecDepth 100000 in
theorem T_X6_sumOf  {x1 : Int32} {s : SS} {t : TT} {q : Int32 × SS × TT} (h : f_X6_sumOf x1 s t = some q) : Wm 154 [.ref 51, .int x1] (mk s t) (Qi q) := by
  refine Wm.of pT_154 (Nat.le_of_ble_eq_true rfl) (L0 := [some (.ref 51), some (.int x1), none, none]) rfl ?_
  unfold f_X6_sumOf at h
  refine w_ci rfl ?_
  refine w_si rfl (Nat.le_of_ble_eq_true rfl) rfl ?_
  refine w_ci rfl ?_
  refine w_si rfl (Nat.le_of_ble_eq_true rfl) rfl ?_
  exact Wp_fgt (fg_s (fg_s (fg_s (fg_s fg_e)))) (K_X6_sumOf_4 _ _ _ _ _ _ _ h)
-- X6_weeks
set_option maxRecDepth 100000 in
theorem B_X6_weeks_14  {k14 : Int32 × Int32 × SS × TT → Option (Int32 × SS × TT)} (hk14 : ∀ (x1 : Int32) (x2 : Int32) (s : SS) (t : TT) (q : Int32 × SS × TT), k14 (x1, x2, s, t) = some q → Wp pl_Kc 155 14 [some (.ref 51), some (.int x1), some (.int x2)] [] (mk s t) (Qi q)) : ∀ (x1 : Int32) (x2 : Int32) (s : SS) (t : TT) (q : Int32 × SS × TT), b_X6_weeks_14 k14 x1 x2 s t = some q → Wp pl_Kc 155 14 [some (.ref 51), some (.int x1), some (.int x2)] [] (mk s t) (Qi q) := by
  intro x1 x2 s t q h
  unfold b_X6_weeks_14 at h
  refine w_li rfl rfl ?_
  refine w_li rfl rfl ?_
  refine w_ic_ge rfl (fun c1 => ?_) (fun c1 => ?_)
  · replace h := ifp h c1
    refine w_la rfl rfl ?_
    refine w_ci rfl ?_
    obtain ⟨q2, e2, h⟩ := bnd h
    refine a_vi1i rfl (mg_51 _ _) (Nat.le_of_ble_eq_true rfl) (T_X6_sumOf e2) ?_
    exact a_ri rfl h
  · replace h := ifn h c1
    refine w_la rfl rfl ?_
    obtain ⟨q3, e3, h⟩ := bnd h
    refine a_vi0i rfl (mg_51 _ _) (Nat.le_of_ble_eq_true rfl) (T_X6_weekGoes e3) ?_
    refine w_pop rfl rfl ?_
    refine w_inc rfl rfl rfl ?_
    refine w_go rfl ?_
    exact Wp_fgt (fg_s (fg_s (fg_s fg_e))) (hk14 _ _ _ _ _ h)
theorem K_X6_weeks_14  : ∀ (n : Nat) (x1 : Int32) (x2 : Int32) (s : SS) (t : TT) (q : Int32 × SS × TT), l_X6_weeks_14 n (x1, x2, s, t) = some q → Wp pl_Kc 155 14 [some (.ref 51), some (.int x1), some (.int x2)] [] (mk s t) (Qi q)
  | 0, x1, x2, s, t, q, h => by cases (show (none : Option (Int32 × SS × TT)) = some q from h)
  | n + 1, x1, x2, s, t, q, h => B_X6_weeks_14 (K_X6_weeks_14 n) x1 x2 s t q h
set_option maxRecDepth 100000 in
theorem T_X6_weeks  {x1 : Int32} {s : SS} {t : TT} {q : Int32 × SS × TT} (h : f_X6_weeks x1 s t = some q) : Wm 155 [.ref 51, .int x1] (mk s t) (Qi q) := by
  refine Wm.of pT_155 (Nat.le_of_ble_eq_true rfl) (L0 := [some (.ref 51), some (.int x1), none]) rfl ?_
  unfold f_X6_weeks at h
  refine w_li rfl rfl ?_
  refine w_ci rfl ?_
  refine w_ci rfl ?_
  obtain ⟨q1, e1, h⟩ := bnd h
  refine a_st3i rfl (Nat.le_of_ble_eq_true rfl) (T_X6_in e1) ?_
  refine w_if_ne rfl (fun c2 => ?_) (fun c2 => ?_)
  · replace h := ifn h c2
    refine w_ci rfl ?_
    refine w_si rfl (Nat.le_of_ble_eq_true rfl) rfl ?_
    exact Wp_fgt (fg_s (fg_s (fg_s fg_e))) (K_X6_weeks_14 _ _ _ _ _ _ h)
  · replace h := ifp h (Classical.not_not.mp c2)
    refine w_ci rfl ?_
    exact a_ri rfl h
-- X6_drawn
set_option maxRecDepth 100000 in
theorem T_X6_drawn  {s : SS} {t : TT} {q : Int32 × SS × TT} (h : f_X6_drawn s t = some q) : Wm 156 [.ref 51] (mk s t) (Qi q) := by
  refine Wm.of pT_156 (Nat.le_of_ble_eq_true rfl) (L0 := [some (.ref 51)]) rfl ?_
  unfold f_X6_drawn at h
  refine w_la rfl rfl ?_
  refine w_gf rfl (mg_51 _ _) rfl ?_
  refine w_ci rfl ?_
  refine w_la rfl rfl ?_
  refine w_gf rfl (mg_51 _ _) rfl ?_
  refine w_ci rfl ?_
  obtain ⟨j1, e1, h⟩ := bnd h
  refine a_ia rfl (mr_52 _ _ _) e1 ?_
  refine w_ci rfl ?_
  refine w_imul rfl ?_
  refine w_ci rfl ?_
  refine w_iadd rfl ?_
  obtain ⟨j2, e2, h⟩ := bnd h
  refine a_is rfl (mg_52 _ _) (ms_52 _ _) e2 (fun s2 w2 => ?_)
  replace h := wr_of h s2 w2
  refine w_la rfl rfl ?_
  refine w_gf rfl (mg_51 _ _) rfl ?_
  refine w_ci rfl ?_
  obtain ⟨j3, e3, h⟩ := bnd h
  refine a_ia rfl (mr_52 _ _ _) e3 ?_
  refine w_ci rfl ?_
  refine w_iushr rfl ?_
  exact a_ri rfl h
-- X6_seed
set_option maxRecDepth 100000 in
theorem T_X6_seed  {x1 : Int32} {s : SS} {t : TT} {q : Int32 × SS × TT} (h : f_X6_seed x1 s t = some q) : Wm 157 [.ref 51, .int x1] (mk s t) (Qi q) := by
  refine Wm.of pT_157 (Nat.le_of_ble_eq_true rfl) (L0 := [some (.ref 51), some (.int x1)]) rfl ?_
  unfold f_X6_seed at h
  refine w_la rfl rfl ?_
  refine w_ci rfl ?_
  refine w_li rfl rfl ?_
  obtain ⟨q1, e1, h⟩ := bnd h
  refine a_vi2i rfl (mg_51 _ _) (Nat.le_of_ble_eq_true rfl) (T_X6_becomes e1) ?_
  exact a_ri rfl h
-- X6_weekByDraws
set_option maxRecDepth 100000 in
theorem J_X6_weekByDraws_53  : ∀ (s : SS) (t : TT) (q : Int32 × SS × TT), j_X6_weekByDraws_53 s t = some q → Wp pl_Kc 158 53 [some (.ref 51), none] [] (mk s t) (Qi q) := by
  intro s t q h
  unfold j_X6_weekByDraws_53 at h
  refine w_la rfl rfl ?_
  obtain ⟨q1, e1, h⟩ := bnd h
  refine a_vi0i rfl (mg_51 _ _) (Nat.le_of_ble_eq_true rfl) (T_X6_weekGoes e1) ?_
  exact a_ri rfl h
set_option maxRecDepth 100000 in
theorem T_X6_weekByDraws  {s : SS} {t : TT} {q : Int32 × SS × TT} (h : f_X6_weekByDraws s t = some q) : Wm 158 [.ref 51] (mk s t) (Qi q) := by
  refine Wm.of pT_158 (Nat.le_of_ble_eq_true rfl) (L0 := [some (.ref 51), none]) rfl ?_
  unfold f_X6_weekByDraws at h
  refine w_la rfl rfl ?_
  refine w_gf rfl (mg_51 _ _) rfl ?_
  refine w_ci rfl ?_
  obtain ⟨j1, e1, h⟩ := bnd h
  refine a_ia rfl (mr_52 _ _ _) e1 ?_
  refine w_if_le rfl (fun c2 => ?_) (fun c2 => ?_)
  · replace h := ifp h c2
    exact Wp_fgt (fg_s (fg_n fg_e)) (J_X6_weekByDraws_53 _ _ _ h)
  · replace h := ifn h c2
    refine w_la rfl rfl ?_
    obtain ⟨q3, e3, h⟩ := bnd h
    refine a_vi0i rfl (mg_51 _ _) (Nat.le_of_ble_eq_true rfl) (T_X6_drawn e3) ?_
    refine w_la rfl rfl ?_
    refine w_gf rfl (mg_51 _ _) rfl ?_
    refine w_ci rfl ?_
    obtain ⟨j4, e4, h⟩ := bnd h
    refine a_ia rfl (mr_52 _ _ _) e4 ?_
    by_cases c5 : (q3.2.1 52 j4) = 0
    · cases (ifp h c5)
    replace h := ifn h c5
    refine w_irem rfl c5 ?_
    refine w_si rfl (Nat.le_of_ble_eq_true rfl) rfl ?_
    refine w_la rfl rfl ?_
    obtain ⟨q6, e6, h⟩ := bnd h
    refine a_vi0i rfl (mg_51 _ _) (Nat.le_of_ble_eq_true rfl) (T_X6_drawn e6) ?_
    refine w_ci rfl ?_
    refine w_irem rfl (by decide) ?_
    refine w_la rfl rfl ?_
    refine w_gf rfl (mg_51 _ _) rfl ?_
    refine w_ci rfl ?_
    obtain ⟨j7, e7, h⟩ := bnd h
    refine a_ia rfl (mr_52 _ _ _) e7 ?_
    refine w_ic_ge rfl (fun c8 => ?_) (fun c8 => ?_)
    · replace h := ifp h c8
      exact Wp_fgt (fg_s (fg_n fg_e)) (J_X6_weekByDraws_53 _ _ _ h)
    · replace h := ifn h c8
      refine w_la rfl rfl ?_
      refine w_li rfl rfl ?_
      refine w_ci rfl ?_
      refine w_la rfl rfl ?_
      refine w_li rfl rfl ?_
      refine w_ci rfl ?_
      obtain ⟨q9, e9, h⟩ := bnd h
      refine a_vi2i rfl (mg_51 _ _) (Nat.le_of_ble_eq_true rfl) (T_X6_its e9) ?_
      refine w_ci rfl ?_
      refine w_idiv rfl (by decide) ?_
      obtain ⟨q10, e10, h⟩ := bnd h
      refine a_vi3v rfl (mg_51 _ _) (Nat.le_of_ble_eq_true rfl) (T_X6_sets e10) ?_
      exact Wp_fgt (fg_s (fg_n fg_e)) (J_X6_weekByDraws_53 _ _ _ h)
-- X6_week
set_option maxRecDepth 100000 in
theorem T_X6_week  {s : SS} {t : TT} {q : Int32 × SS × TT} (h : f_X6_week s t = some q) : Wm 159 [.ref 51] (mk s t) (Qi q) := by
  refine Wm.of pT_159 (Nat.le_of_ble_eq_true rfl) (L0 := [some (.ref 51)]) rfl ?_
  unfold f_X6_week at h
  refine w_la rfl rfl ?_
  obtain ⟨q1, e1, h⟩ := bnd h
  refine a_vi0i rfl (mg_51 _ _) (Nat.le_of_ble_eq_true rfl) (T_X6_weekByDraws e1) ?_
  exact a_ri rfl h
-- X6_wordsBehind
set_option maxRecDepth 100000 in
theorem B_X6_wordsBehind_4  {k4 : Int32 × Int32 × Int32 × SS × TT → Option (Int32 × SS × TT)} (hk4 : ∀ (x1 : Int32) (x2 : Int32) (x3 : Int32) (s : SS) (t : TT) (q : Int32 × SS × TT), k4 (x1, x2, x3, s, t) = some q → Wp pl_Kc 162 4 [some (.ref 51), some (.int x1), some (.int x2), some (.int x3)] [] (mk s t) (Qi q)) : ∀ (x1 : Int32) (x2 : Int32) (x3 : Int32) (s : SS) (t : TT) (q : Int32 × SS × TT), b_X6_wordsBehind_4 k4 x1 x2 x3 s t = some q → Wp pl_Kc 162 4 [some (.ref 51), some (.int x1), some (.int x2), some (.int x3)] [] (mk s t) (Qi q) := by
  intro x1 x2 x3 s t q h
  unfold b_X6_wordsBehind_4 at h
  refine w_li rfl rfl ?_
  refine w_li rfl rfl ?_
  refine w_ic_ge rfl (fun c1 => ?_) (fun c1 => ?_)
  · replace h := ifp h c1
    refine w_la rfl rfl ?_
    refine w_gf rfl (mg_51 _ _) rfl ?_
    refine w_la rfl rfl ?_
    refine w_gf rfl (mg_51 _ _) rfl ?_
    obtain ⟨q2, e2, h⟩ := bnd h
    refine a_st2v rfl (Nat.le_of_ble_eq_true rfl) (T_X6_moveAll (Or.inr (Or.inr (Or.inr rfl))) (Or.inl rfl) e2) ?_
    refine w_li rfl rfl ?_
    exact a_ri rfl h
  · replace h := ifn h c1
    refine w_li rfl rfl ?_
    refine w_la rfl rfl ?_
    obtain ⟨q3, e3, h⟩ := bnd h
    refine a_vi0i rfl (mg_51 _ _) (Nat.le_of_ble_eq_true rfl) (T_X6_weekGoes e3) ?_
    refine w_iadd rfl ?_
    refine w_si rfl (Nat.le_of_ble_eq_true rfl) rfl ?_
    refine w_inc rfl rfl rfl ?_
    refine w_go rfl ?_
    exact Wp_fgt (fg_s (fg_s (fg_s (fg_s fg_e)))) (hk4 _ _ _ _ _ _ h)
theorem K_X6_wordsBehind_4  : ∀ (n : Nat) (x1 : Int32) (x2 : Int32) (x3 : Int32) (s : SS) (t : TT) (q : Int32 × SS × TT), l_X6_wordsBehind_4 n (x1, x2, x3, s, t) = some q → Wp pl_Kc 162 4 [some (.ref 51), some (.int x1), some (.int x2), some (.int x3)] [] (mk s t) (Qi q)
  | 0, x1, x2, x3, s, t, q, h => by cases (show (none : Option (Int32 × SS × TT)) = some q from h)
  | n + 1, x1, x2, x3, s, t, q, h => B_X6_wordsBehind_4 (K_X6_wordsBehind_4 n) x1 x2 x3 s t q h
set_option maxRecDepth 100000 in
theorem T_X6_wordsBehind  {x1 : Int32} {s : SS} {t : TT} {q : Int32 × SS × TT} (h : f_X6_wordsBehind x1 s t = some q) : Wm 162 [.ref 51, .int x1] (mk s t) (Qi q) := by
  refine Wm.of pT_162 (Nat.le_of_ble_eq_true rfl) (L0 := [some (.ref 51), some (.int x1), none, none]) rfl ?_
  unfold f_X6_wordsBehind at h
  refine w_ci rfl ?_
  refine w_si rfl (Nat.le_of_ble_eq_true rfl) rfl ?_
  refine w_ci rfl ?_
  refine w_si rfl (Nat.le_of_ble_eq_true rfl) rfl ?_
  exact Wp_fgt (fg_s (fg_s (fg_s (fg_s fg_e)))) (K_X6_wordsBehind_4 _ _ _ _ _ _ _ h)
-- X6_poor
set_option maxRecDepth 100000 in
theorem J_X6_poor_72  {k43 : Int32 × Int32 × Int32 × Int32 × Int32 × SS × TT → Option (Int32 × SS × TT)} (hk43 : ∀ (x1 : Int32) (x2 : Int32) (x3 : Int32) (x4 : Int32) (x5 : Int32) (s : SS) (t : TT) (q : Int32 × SS × TT), k43 (x1, x2, x3, x4, x5, s, t) = some q → Wp pl_Kc 160 43 [some (.ref 51), some (.int x1), some (.int x2), some (.int x3), some (.int x4), some (.int x5)] [] (mk s t) (Qi q)) : ∀ (x1 : Int32) (x2 : Int32) (x5 : Int32) (y0 : Int32) (y1 : Int32) (s : SS) (t : TT) (q : Int32 × SS × TT), j_X6_poor_72 k43 x1 x2 x5 y0 y1 s t = some q → Wp pl_Kc 160 72 [some (.ref 51), some (.int x1), some (.int x2), none, none, some (.int x5)] [.int y0, .int y1] (mk s t) (Qi q) := by
  intro x1 x2 x5 y0 y1 s t q h
  unfold j_X6_poor_72 at h
  refine w_iadd rfl ?_
  refine w_si rfl (Nat.le_of_ble_eq_true rfl) rfl ?_
  refine w_la rfl rfl ?_
  refine w_gf rfl (mg_51 _ _) rfl ?_
  refine w_ci rfl ?_
  obtain ⟨j1, e1, h⟩ := bnd h
  refine a_ia rfl (mr_52 _ _ _) e1 ?_
  refine w_si rfl (Nat.le_of_ble_eq_true rfl) rfl ?_
  refine w_la rfl rfl ?_
  refine w_gf rfl (mg_51 _ _) rfl ?_
  refine w_la rfl rfl ?_
  refine w_gf rfl (mg_51 _ _) rfl ?_
  obtain ⟨q2, e2, h⟩ := bnd h
  refine a_st2v rfl (Nat.le_of_ble_eq_true rfl) (T_X6_moveAll (Or.inr (Or.inr (Or.inr rfl))) (Or.inl rfl) e2) ?_
  refine w_inc rfl rfl rfl ?_
  refine w_go rfl ?_
  exact Wp_fgt (fg_s (fg_s (fg_s (fg_s (fg_s (fg_s fg_e)))))) (hk43 _ _ _ _ _ _ _ _ h)
set_option maxRecDepth 100000 in
theorem B_X6_poor_43  {k43 : Int32 × Int32 × Int32 × Int32 × Int32 × SS × TT → Option (Int32 × SS × TT)} (hk43 : ∀ (x1 : Int32) (x2 : Int32) (x3 : Int32) (x4 : Int32) (x5 : Int32) (s : SS) (t : TT) (q : Int32 × SS × TT), k43 (x1, x2, x3, x4, x5, s, t) = some q → Wp pl_Kc 160 43 [some (.ref 51), some (.int x1), some (.int x2), some (.int x3), some (.int x4), some (.int x5)] [] (mk s t) (Qi q)) : ∀ (x1 : Int32) (x2 : Int32) (x3 : Int32) (x4 : Int32) (x5 : Int32) (s : SS) (t : TT) (q : Int32 × SS × TT), b_X6_poor_43 k43 x1 x2 x3 x4 x5 s t = some q → Wp pl_Kc 160 43 [some (.ref 51), some (.int x1), some (.int x2), some (.int x3), some (.int x4), some (.int x5)] [] (mk s t) (Qi q) := by
  intro x1 x2 x3 x4 x5 s t q h
  unfold b_X6_poor_43 at h
  refine w_li rfl rfl ?_
  refine w_li rfl rfl ?_
  refine w_ic_ge rfl (fun c1 => ?_) (fun c1 => ?_)
  · replace h := ifp h c1
    refine w_li rfl rfl ?_
    exact a_ri rfl h
  · replace h := ifn h c1
    refine w_la rfl rfl ?_
    refine w_gf rfl (mg_51 _ _) rfl ?_
    refine w_ci rfl ?_
    refine w_li rfl rfl ?_
    obtain ⟨j2, e2, h⟩ := bnd h
    refine a_is rfl (mg_52 _ _) (ms_52 _ _) e2 (fun s2 w2 => ?_)
    replace h := wr_of h s2 w2
    refine w_li rfl rfl ?_
    refine w_la rfl rfl ?_
    obtain ⟨q3, e3, h⟩ := bnd h
    refine a_vi0i rfl (mg_51 _ _) (Nat.le_of_ble_eq_true rfl) (T_X6_weekByDraws e3) ?_
    refine w_li rfl rfl ?_
    refine w_ic_ge rfl (fun c4 => ?_) (fun c4 => ?_)
    · replace h := ifp h c4
      refine w_ci rfl ?_
      exact Wp_fgt (fg_s (fg_s (fg_s (fg_n (fg_n (fg_s fg_e)))))) (J_X6_poor_72 hk43 _ _ _ _ _ _ _ _ h)
    · replace h := ifn h c4
      refine w_ci rfl ?_
      refine w_go rfl ?_
      exact Wp_fgt (fg_s (fg_s (fg_s (fg_n (fg_n (fg_s fg_e)))))) (J_X6_poor_72 hk43 _ _ _ _ _ _ _ _ h)
theorem K_X6_poor_43  : ∀ (n : Nat) (x1 : Int32) (x2 : Int32) (x3 : Int32) (x4 : Int32) (x5 : Int32) (s : SS) (t : TT) (q : Int32 × SS × TT), l_X6_poor_43 n (x1, x2, x3, x4, x5, s, t) = some q → Wp pl_Kc 160 43 [some (.ref 51), some (.int x1), some (.int x2), some (.int x3), some (.int x4), some (.int x5)] [] (mk s t) (Qi q)
  | 0, x1, x2, x3, x4, x5, s, t, q, h => by cases (show (none : Option (Int32 × SS × TT)) = some q from h)
  | n + 1, x1, x2, x3, x4, x5, s, t, q, h => B_X6_poor_43 (K_X6_poor_43 n) x1 x2 x3 x4 x5 s t q h
set_option maxRecDepth 100000 in
theorem T_X6_poor  {x1 : Int32} {s : SS} {t : TT} {q : Int32 × SS × TT} (h : f_X6_poor x1 s t = some q) : Wm 160 [.ref 51, .int x1] (mk s t) (Qi q) := by
  refine Wm.of pT_160 (Nat.le_of_ble_eq_true rfl) (L0 := [some (.ref 51), some (.int x1), none, none, none, none]) rfl ?_
  unfold f_X6_poor at h
  refine w_li rfl rfl ?_
  refine w_ci rfl ?_
  refine w_ci rfl ?_
  obtain ⟨q1, e1, h⟩ := bnd h
  refine a_st3i rfl (Nat.le_of_ble_eq_true rfl) (T_X6_in e1) ?_
  refine w_if_ne rfl (fun c2 => ?_) (fun c2 => ?_)
  · replace h := ifn h c2
    refine w_la rfl rfl ?_
    refine w_gf rfl (mg_51 _ _) rfl ?_
    refine w_la rfl rfl ?_
    refine w_gf rfl (mg_51 _ _) rfl ?_
    obtain ⟨q3, e3, h⟩ := bnd h
    refine a_st2v rfl (Nat.le_of_ble_eq_true rfl) (T_X6_moveAll (Or.inl rfl) (Or.inr (Or.inr (Or.inr rfl))) e3) ?_
    refine w_la rfl rfl ?_
    refine w_ci rfl ?_
    obtain ⟨q4, e4, h⟩ := bnd h
    refine a_vi1i rfl (mg_51 _ _) (Nat.le_of_ble_eq_true rfl) (T_X6_wordsBehind e4) ?_
    refine w_si rfl (Nat.le_of_ble_eq_true rfl) rfl ?_
    refine w_la rfl rfl ?_
    refine w_gf rfl (mg_51 _ _) rfl ?_
    refine w_ci rfl ?_
    obtain ⟨j5, e5, h⟩ := bnd h
    refine a_ia rfl (mr_52 _ _ _) e5 ?_
    refine w_si rfl (Nat.le_of_ble_eq_true rfl) rfl ?_
    refine w_ci rfl ?_
    refine w_si rfl (Nat.le_of_ble_eq_true rfl) rfl ?_
    refine w_ci rfl ?_
    refine w_si rfl (Nat.le_of_ble_eq_true rfl) rfl ?_
    exact Wp_fgt (fg_s (fg_s (fg_s (fg_s (fg_s (fg_s fg_e)))))) (K_X6_poor_43 _ _ _ _ _ _ _ _ _ h)
  · replace h := ifp h (Classical.not_not.mp c2)
    refine w_ci rfl ?_
    exact a_ri rfl h
-- X6_state
set_option maxRecDepth 100000 in
theorem T_X6_state  {x1 : Int32} {s : SS} {t : TT} {q : Int32 × SS × TT} (h : f_X6_state x1 s t = some q) : Wm 161 [.ref 51, .int x1] (mk s t) (Qi q) := by
  refine Wm.of pT_161 (Nat.le_of_ble_eq_true rfl) (L0 := [some (.ref 51), some (.int x1)]) rfl ?_
  unfold f_X6_state at h
  refine w_li rfl rfl ?_
  by_cases c1 : x1 = 0
  · replace h := ifp h c1
    refine w_swI rfl (tg := 40) (by rw [c1]; decide +kernel) ?_
    refine w_la rfl rfl ?_
    refine w_gf rfl (mg_51 _ _) rfl ?_
    refine w_ci rfl ?_
    obtain ⟨j2, e2, h⟩ := bnd h
    refine a_ia rfl (mr_52 _ _ _) e2 ?_
    exact a_ri rfl h
  replace h := ifn h c1
  by_cases c3 : x1 = 1
  · replace h := ifp h c3
    refine w_swI rfl (tg := 47) (by rw [c3]; decide +kernel) ?_
    refine w_la rfl rfl ?_
    refine w_gf rfl (mg_51 _ _) rfl ?_
    refine w_ci rfl ?_
    obtain ⟨j4, e4, h⟩ := bnd h
    refine a_ia rfl (mr_52 _ _ _) e4 ?_
    exact a_ri rfl h
  replace h := ifn h c3
  by_cases c5 : x1 = 2
  · replace h := ifp h c5
    refine w_swI rfl (tg := 54) (by rw [c5]; decide +kernel) ?_
    refine w_la rfl rfl ?_
    refine w_ci rfl ?_
    obtain ⟨q6, e6, h⟩ := bnd h
    refine a_vi1i rfl (mg_51 _ _) (Nat.le_of_ble_eq_true rfl) (T_X6_sumOf e6) ?_
    exact a_ri rfl h
  replace h := ifn h c5
  by_cases c7 : x1 = 3
  · replace h := ifp h c7
    refine w_swI rfl (tg := 60) (by rw [c7]; decide +kernel) ?_
    refine w_la rfl rfl ?_
    refine w_ci rfl ?_
    obtain ⟨q8, e8, h⟩ := bnd h
    refine a_vi1i rfl (mg_51 _ _) (Nat.le_of_ble_eq_true rfl) (T_X6_sumOf e8) ?_
    exact a_ri rfl h
  replace h := ifn h c7
  by_cases c9 : x1 = 4
  · replace h := ifp h c9
    refine w_swI rfl (tg := 66) (by rw [c9]; decide +kernel) ?_
    refine w_la rfl rfl ?_
    refine w_ci rfl ?_
    obtain ⟨q10, e10, h⟩ := bnd h
    refine a_vi1i rfl (mg_51 _ _) (Nat.le_of_ble_eq_true rfl) (T_X6_sumOf e10) ?_
    exact a_ri rfl h
  replace h := ifn h c9
  by_cases c11 : x1 = 5
  · replace h := ifp h c11
    refine w_swI rfl (tg := 72) (by rw [c11]; decide +kernel) ?_
    refine w_la rfl rfl ?_
    obtain ⟨q12, e12, h⟩ := bnd h
    refine a_vi0i rfl (mg_51 _ _) (Nat.le_of_ble_eq_true rfl) (T_X6_readySet e12) ?_
    exact a_ri rfl h
  replace h := ifn h c11
  refine w_swI rfl (tg := 77) (sw_df (zs := [0, 1, 2, 3, 4, 5]) (swz_c (i32ne c1 rfl) (swz_c (i32ne c3 rfl) (swz_c (i32ne c5 rfl) (swz_c (i32ne c7 rfl) (swz_c (i32ne c9 rfl) (swz_c (i32ne c11 rfl) swz_n)))))) (by decide +kernel)) ?_
  refine w_ci rfl ?_
  exact a_ri rfl h
-- X6_words
set_option maxRecDepth 100000 in
theorem T_X6_words  {x1 : Int32} {s : SS} {t : TT} {q : Int32 × SS × TT} (h : f_X6_words x1 s t = some q) : Wm 163 [.ref 51, .int x1] (mk s t) (Qi q) := by
  refine Wm.of pT_163 (Nat.le_of_ble_eq_true rfl) (L0 := [some (.ref 51), some (.int x1)]) rfl ?_
  unfold f_X6_words at h
  refine w_li rfl rfl ?_
  refine w_ci rfl ?_
  refine w_ci rfl ?_
  obtain ⟨q1, e1, h⟩ := bnd h
  refine a_st3i rfl (Nat.le_of_ble_eq_true rfl) (T_X6_in e1) ?_
  refine w_if_ne rfl (fun c2 => ?_) (fun c2 => ?_)
  · replace h := ifn h c2
    refine w_la rfl rfl ?_
    refine w_gf rfl (mg_51 _ _) rfl ?_
    refine w_la rfl rfl ?_
    refine w_gf rfl (mg_51 _ _) rfl ?_
    obtain ⟨q3, e3, h⟩ := bnd h
    refine a_st2v rfl (Nat.le_of_ble_eq_true rfl) (T_X6_moveAll (Or.inl rfl) (Or.inr (Or.inr (Or.inr rfl))) e3) ?_
    refine w_la rfl rfl ?_
    refine w_li rfl rfl ?_
    obtain ⟨q4, e4, h⟩ := bnd h
    refine a_vi1i rfl (mg_51 _ _) (Nat.le_of_ble_eq_true rfl) (T_X6_wordsBehind e4) ?_
    exact a_ri rfl h
  · replace h := ifp h (Classical.not_not.mp c2)
    refine w_ci rfl ?_
    exact a_ri rfl h
-- X6_gets
set_option maxRecDepth 100000 in
theorem J_X6_gets_57  : ∀ (x3 : Int32) (s : SS) (t : TT) (q : Int32 × SS × TT), j_X6_gets_57 x3 s t = some q → Wp pl_Kc 164 57 [some (.ref 51), none, none, some (.int x3)] [] (mk s t) (Qi q) := by
  intro x3 s t q h
  unfold j_X6_gets_57 at h
  refine w_la rfl rfl ?_
  refine w_gf rfl (mg_51 _ _) rfl ?_
  refine w_la rfl rfl ?_
  refine w_gf rfl (mg_51 _ _) rfl ?_
  obtain ⟨q1, e1, h⟩ := bnd h
  refine a_st2v rfl (Nat.le_of_ble_eq_true rfl) (T_X6_moveAll (Or.inr (Or.inr (Or.inr rfl))) (Or.inl rfl) e1) ?_
  refine w_li rfl rfl ?_
  refine w_ci rfl ?_
  refine w_ic_le rfl (fun c2 => ?_) (fun c2 => ?_)
  · replace h := ifp h c2
    refine w_li rfl rfl ?_
    exact a_ri rfl h
  · replace h := ifn h c2
    refine w_ci rfl ?_
    refine w_go rfl ?_
    exact a_ri rfl h
set_option maxRecDepth 100000 in
theorem B_X6_gets_30  {k30 : Int32 × Int32 × Int32 × SS × TT → Option (Int32 × SS × TT)} (hk30 : ∀ (x1 : Int32) (x2 : Int32) (x3 : Int32) (s : SS) (t : TT) (q : Int32 × SS × TT), k30 (x1, x2, x3, s, t) = some q → Wp pl_Kc 164 30 [some (.ref 51), some (.int x1), some (.int x2), some (.int x3)] [] (mk s t) (Qi q)) : ∀ (x1 : Int32) (x2 : Int32) (x3 : Int32) (s : SS) (t : TT) (q : Int32 × SS × TT), b_X6_gets_30 k30 x1 x2 x3 s t = some q → Wp pl_Kc 164 30 [some (.ref 51), some (.int x1), some (.int x2), some (.int x3)] [] (mk s t) (Qi q) := by
  intro x1 x2 x3 s t q h
  unfold b_X6_gets_30 at h
  refine w_li rfl rfl ?_
  refine w_ci rfl ?_
  refine w_ic_gt rfl (fun c1 => ?_) (fun c1 => ?_)
  · replace h := ifp h c1
    exact Wp_fgt (fg_s (fg_n (fg_n (fg_s fg_e)))) (J_X6_gets_57 _ _ _ _ h)
  · replace h := ifn h c1
    refine w_la rfl rfl ?_
    refine w_li rfl rfl ?_
    refine w_ci rfl ?_
    obtain ⟨q2, e2, h⟩ := bnd h
    refine a_vi2i rfl (mg_51 _ _) (Nat.le_of_ble_eq_true rfl) (T_X6_its e2) ?_
    refine w_li rfl rfl ?_
    refine w_ic_ne rfl (fun c3 => ?_) (fun c3 => ?_)
    · replace h := ifn h c3
      exact Wp_fgt (fg_s (fg_n (fg_n (fg_s fg_e)))) (J_X6_gets_57 _ _ _ _ h)
    · replace h := ifp h (Classical.not_not.mp c3)
      refine w_la rfl rfl ?_
      obtain ⟨q4, e4, h⟩ := bnd h
      refine a_vi0i rfl (mg_51 _ _) (Nat.le_of_ble_eq_true rfl) (T_X6_weekGoes e4) ?_
      refine w_pop rfl rfl ?_
      refine w_inc rfl rfl rfl ?_
      refine w_go rfl ?_
      exact Wp_fgt (fg_s (fg_s (fg_s (fg_s fg_e)))) (hk30 _ _ _ _ _ _ h)
theorem K_X6_gets_30  : ∀ (n : Nat) (x1 : Int32) (x2 : Int32) (x3 : Int32) (s : SS) (t : TT) (q : Int32 × SS × TT), l_X6_gets_30 n (x1, x2, x3, s, t) = some q → Wp pl_Kc 164 30 [some (.ref 51), some (.int x1), some (.int x2), some (.int x3)] [] (mk s t) (Qi q)
  | 0, x1, x2, x3, s, t, q, h => by cases (show (none : Option (Int32 × SS × TT)) = some q from h)
  | n + 1, x1, x2, x3, s, t, q, h => B_X6_gets_30 (K_X6_gets_30 n) x1 x2 x3 s t q h
set_option maxRecDepth 100000 in
theorem T_X6_gets  {x1 : Int32} {s : SS} {t : TT} {q : Int32 × SS × TT} (h : f_X6_gets x1 s t = some q) : Wm 164 [.ref 51, .int x1] (mk s t) (Qi q) := by
  refine Wm.of pT_164 (Nat.le_of_ble_eq_true rfl) (L0 := [some (.ref 51), some (.int x1), none, none]) rfl ?_
  unfold f_X6_gets at h
  refine w_la rfl rfl ?_
  refine w_li rfl rfl ?_
  obtain ⟨q1, e1, h⟩ := bnd h
  refine a_vi1i rfl (mg_51 _ _) (Nat.le_of_ble_eq_true rfl) (T_X6_isOne e1) ?_
  refine w_if_ne rfl (fun c2 => ?_) (fun c2 => ?_)
  · replace h := ifn h c2
    refine w_la rfl rfl ?_
    refine w_gf rfl (mg_51 _ _) rfl ?_
    refine w_la rfl rfl ?_
    refine w_gf rfl (mg_51 _ _) rfl ?_
    obtain ⟨q3, e3, h⟩ := bnd h
    refine a_st2v rfl (Nat.le_of_ble_eq_true rfl) (T_X6_moveAll (Or.inl rfl) (Or.inr (Or.inr (Or.inr rfl))) e3) ?_
    refine w_la rfl rfl ?_
    refine w_li rfl rfl ?_
    refine w_ci rfl ?_
    obtain ⟨q4, e4, h⟩ := bnd h
    refine a_vi2i rfl (mg_51 _ _) (Nat.le_of_ble_eq_true rfl) (T_X6_its e4) ?_
    refine w_si rfl (Nat.le_of_ble_eq_true rfl) rfl ?_
    refine w_ci rfl ?_
    refine w_si rfl (Nat.le_of_ble_eq_true rfl) rfl ?_
    exact Wp_fgt (fg_s (fg_s (fg_s (fg_s fg_e)))) (K_X6_gets_30 _ _ _ _ _ _ _ h)
  · replace h := ifp h (Classical.not_not.mp c2)
    refine w_ci rfl ?_
    exact a_ri rfl h
-- X6_idle
set_option maxRecDepth 100000 in
theorem J_X6_idle_38  : ∀ (x1 : Int32) (s : SS) (t : TT) (q : Int32 × SS × TT), j_X6_idle_38 x1 s t = some q → Wp pl_Kc 165 38 [some (.ref 51), some (.int x1)] [] (mk s t) (Qi q) := by
  intro x1 s t q h
  unfold j_X6_idle_38 at h
  refine w_la rfl rfl ?_
  refine w_gf rfl (mg_51 _ _) rfl ?_
  refine w_la rfl rfl ?_
  refine w_gf rfl (mg_51 _ _) rfl ?_
  obtain ⟨q1, e1, h⟩ := bnd h
  refine a_st2v rfl (Nat.le_of_ble_eq_true rfl) (T_X6_moveAll (Or.inr (Or.inr (Or.inr rfl))) (Or.inl rfl) e1) ?_
  refine w_li rfl rfl ?_
  refine w_ci rfl ?_
  refine w_ic_le rfl (fun c2 => ?_) (fun c2 => ?_)
  · replace h := ifp h c2
    refine w_li rfl rfl ?_
    exact a_ri rfl h
  · replace h := ifn h c2
    refine w_ci rfl ?_
    refine w_go rfl ?_
    exact a_ri rfl h
set_option maxRecDepth 100000 in
theorem B_X6_idle_13  {k13 : Int32 × SS × TT → Option (Int32 × SS × TT)} (hk13 : ∀ (x1 : Int32) (s : SS) (t : TT) (q : Int32 × SS × TT), k13 (x1, s, t) = some q → Wp pl_Kc 165 13 [some (.ref 51), some (.int x1)] [] (mk s t) (Qi q)) : ∀ (x1 : Int32) (s : SS) (t : TT) (q : Int32 × SS × TT), b_X6_idle_13 k13 x1 s t = some q → Wp pl_Kc 165 13 [some (.ref 51), some (.int x1)] [] (mk s t) (Qi q) := by
  intro x1 s t q h
  unfold b_X6_idle_13 at h
  refine w_li rfl rfl ?_
  refine w_ci rfl ?_
  refine w_ic_gt rfl (fun c1 => ?_) (fun c1 => ?_)
  · replace h := ifp h c1
    exact Wp_fgt (fg_s (fg_s fg_e)) (J_X6_idle_38 _ _ _ _ h)
  · replace h := ifn h c1
    refine w_la rfl rfl ?_
    refine w_ci rfl ?_
    obtain ⟨q2, e2, h⟩ := bnd h
    refine a_vi1i rfl (mg_51 _ _) (Nat.le_of_ble_eq_true rfl) (T_X6_sumOf e2) ?_
    refine w_if_le rfl (fun c3 => ?_) (fun c3 => ?_)
    · replace h := ifp h c3
      exact Wp_fgt (fg_s (fg_s fg_e)) (J_X6_idle_38 _ _ _ _ h)
    · replace h := ifn h c3
      refine w_la rfl rfl ?_
      obtain ⟨q4, e4, h⟩ := bnd h
      refine a_vi0i rfl (mg_51 _ _) (Nat.le_of_ble_eq_true rfl) (T_X6_weekGoes e4) ?_
      refine w_pop rfl rfl ?_
      refine w_inc rfl rfl rfl ?_
      refine w_go rfl ?_
      exact Wp_fgt (fg_s (fg_s fg_e)) (hk13 _ _ _ _ h)
theorem K_X6_idle_13  : ∀ (n : Nat) (x1 : Int32) (s : SS) (t : TT) (q : Int32 × SS × TT), l_X6_idle_13 n (x1, s, t) = some q → Wp pl_Kc 165 13 [some (.ref 51), some (.int x1)] [] (mk s t) (Qi q)
  | 0, x1, s, t, q, h => by cases (show (none : Option (Int32 × SS × TT)) = some q from h)
  | n + 1, x1, s, t, q, h => B_X6_idle_13 (K_X6_idle_13 n) x1 s t q h
set_option maxRecDepth 100000 in
theorem T_X6_idle  {s : SS} {t : TT} {q : Int32 × SS × TT} (h : f_X6_idle s t = some q) : Wm 165 [.ref 51] (mk s t) (Qi q) := by
  refine Wm.of pT_165 (Nat.le_of_ble_eq_true rfl) (L0 := [some (.ref 51), none]) rfl ?_
  unfold f_X6_idle at h
  refine w_la rfl rfl ?_
  refine w_gf rfl (mg_51 _ _) rfl ?_
  refine w_la rfl rfl ?_
  refine w_gf rfl (mg_51 _ _) rfl ?_
  obtain ⟨q1, e1, h⟩ := bnd h
  refine a_st2v rfl (Nat.le_of_ble_eq_true rfl) (T_X6_moveAll (Or.inl rfl) (Or.inr (Or.inr (Or.inr rfl))) e1) ?_
  refine w_ci rfl ?_
  refine w_si rfl (Nat.le_of_ble_eq_true rfl) rfl ?_
  exact Wp_fgt (fg_s (fg_s fg_e)) (K_X6_idle_13 _ _ _ _ _ h)
-- X6_vanFor
set_option maxRecDepth 100000 in
theorem J_X6_vanFor_79  : ∀ (x3 : Int32) (x4 : Int32) (s : SS) (t : TT) (q : Int32 × SS × TT), j_X6_vanFor_79 x3 x4 s t = some q → Wp pl_Kc 166 79 [none, none, none, some (.int x3), some (.int x4)] [] (mk s t) (Qi q) := by
  intro x3 x4 s t q h
  unfold j_X6_vanFor_79 at h
  refine w_li rfl rfl ?_
  refine w_if_eq rfl (fun c1 => ?_) (fun c1 => ?_)
  · replace h := ifp h c1
    refine w_ci rfl ?_
    exact a_ri rfl h
  · replace h := ifn h c1
    refine w_li rfl rfl ?_
    refine w_go rfl ?_
    exact a_ri rfl h
set_option maxRecDepth 100000 in
theorem B_X6_vanFor_39  {k39 : Int32 × Int32 × Int32 × Int32 × SS × TT → Option (Int32 × SS × TT)} (hk39 : ∀ (x1 : Int32) (x2 : Int32) (x3 : Int32) (x4 : Int32) (s : SS) (t : TT) (q : Int32 × SS × TT), k39 (x1, x2, x3, x4, s, t) = some q → Wp pl_Kc 166 39 [some (.ref 51), some (.int x1), some (.int x2), some (.int x3), some (.int x4)] [] (mk s t) (Qi q)) : ∀ (x1 : Int32) (x2 : Int32) (x3 : Int32) (x4 : Int32) (s : SS) (t : TT) (q : Int32 × SS × TT), b_X6_vanFor_39 k39 x1 x2 x3 x4 s t = some q → Wp pl_Kc 166 39 [some (.ref 51), some (.int x1), some (.int x2), some (.int x3), some (.int x4)] [] (mk s t) (Qi q) := by
  intro x1 x2 x3 x4 s t q h
  unfold b_X6_vanFor_39 at h
  refine w_li rfl rfl ?_
  refine w_ci rfl ?_
  refine w_ic_ge rfl (fun c1 => ?_) (fun c1 => ?_)
  · replace h := ifp h c1
    exact Wp_fgt (fg_n (fg_n (fg_n (fg_s (fg_s fg_e))))) (J_X6_vanFor_79 _ _ _ _ _ h)
  · replace h := ifn h c1
    refine w_li rfl rfl ?_
    refine w_if_ne rfl (fun c2 => ?_) (fun c2 => ?_)
    · replace h := ifn h c2
      exact Wp_fgt (fg_n (fg_n (fg_n (fg_s (fg_s fg_e))))) (J_X6_vanFor_79 _ _ _ _ _ h)
    · replace h := ifp h (Classical.not_not.mp c2)
      refine w_inc rfl rfl rfl ?_
      refine w_la rfl rfl ?_
      refine w_gf rfl (mg_51 _ _) rfl ?_
      refine w_ci rfl ?_
      refine w_li rfl rfl ?_
      obtain ⟨j3, e3, h⟩ := bnd h
      refine a_is rfl (mg_52 _ _) (ms_52 _ _) e3 (fun s3 w3 => ?_)
      replace h := wr_of h s3 w3
      refine w_la rfl rfl ?_
      refine w_li rfl rfl ?_
      obtain ⟨q4, e4, h⟩ := bnd h
      refine a_vi1i rfl (mg_51 _ _) (Nat.le_of_ble_eq_true rfl) (T_X6_wordsBehind e4) ?_
      refine w_li rfl rfl ?_
      refine w_ic_lt rfl (fun c5 => ?_) (fun c5 => ?_)
      · replace h := ifp h c5
        refine w_ci rfl ?_
        refine w_si rfl (Nat.le_of_ble_eq_true rfl) rfl ?_
        refine w_go rfl ?_
        exact Wp_fgt (fg_s (fg_s (fg_s (fg_s (fg_s fg_e))))) (hk39 _ _ _ _ _ _ _ h)
      · replace h := ifn h c5
        refine w_ci rfl ?_
        refine w_go rfl ?_
        refine w_si rfl (Nat.le_of_ble_eq_true rfl) rfl ?_
        refine w_go rfl ?_
        exact Wp_fgt (fg_s (fg_s (fg_s (fg_s (fg_s fg_e))))) (hk39 _ _ _ _ _ _ _ h)
theorem K_X6_vanFor_39  : ∀ (n : Nat) (x1 : Int32) (x2 : Int32) (x3 : Int32) (x4 : Int32) (s : SS) (t : TT) (q : Int32 × SS × TT), l_X6_vanFor_39 n (x1, x2, x3, x4, s, t) = some q → Wp pl_Kc 166 39 [some (.ref 51), some (.int x1), some (.int x2), some (.int x3), some (.int x4)] [] (mk s t) (Qi q)
  | 0, x1, x2, x3, x4, s, t, q, h => by cases (show (none : Option (Int32 × SS × TT)) = some q from h)
  | n + 1, x1, x2, x3, x4, s, t, q, h => B_X6_vanFor_39 (K_X6_vanFor_39 n) x1 x2 x3 x4 s t q h
set_option maxRecDepth 100000 in
theorem T_X6_vanFor  {x1 : Int32} {x2 : Int32} {s : SS} {t : TT} {q : Int32 × SS × TT} (h : f_X6_vanFor x1 x2 s t = some q) : Wm 166 [.ref 51, .int x1, .int x2] (mk s t) (Qi q) := by
  refine Wm.of pT_166 (Nat.le_of_ble_eq_true rfl) (L0 := [some (.ref 51), some (.int x1), some (.int x2), none, none]) rfl ?_
  unfold f_X6_vanFor at h
  refine w_li rfl rfl ?_
  refine w_ci rfl ?_
  refine w_ci rfl ?_
  obtain ⟨q1, e1, h⟩ := bnd h
  refine a_st3i rfl (Nat.le_of_ble_eq_true rfl) (T_X6_in e1) ?_
  refine w_if_eq rfl (fun c2 => ?_) (fun c2 => ?_)
  · replace h := ifp h c2
    refine w_ci rfl ?_
    exact a_ri rfl h
  · replace h := ifn h c2
    refine w_li rfl rfl ?_
    refine w_ci rfl ?_
    refine w_ci rfl ?_
    obtain ⟨q3, e3, h⟩ := bnd h
    refine a_st3i rfl (Nat.le_of_ble_eq_true rfl) (T_X6_in e3) ?_
    refine w_if_ne rfl (fun c4 => ?_) (fun c4 => ?_)
    · replace h := ifn h c4
      refine w_la rfl rfl ?_
      refine w_gf rfl (mg_51 _ _) rfl ?_
      refine w_la rfl rfl ?_
      refine w_gf rfl (mg_51 _ _) rfl ?_
      obtain ⟨q5, e5, h⟩ := bnd h
      refine a_st2v rfl (Nat.le_of_ble_eq_true rfl) (T_X6_moveAll (Or.inl rfl) (Or.inr (Or.inr (Or.inr rfl))) e5) ?_
      refine w_ci rfl ?_
      refine w_si rfl (Nat.le_of_ble_eq_true rfl) rfl ?_
      refine w_ci rfl ?_
      refine w_si rfl (Nat.le_of_ble_eq_true rfl) rfl ?_
      exact Wp_fgt (fg_s (fg_s (fg_s (fg_s (fg_s fg_e))))) (K_X6_vanFor_39 _ _ _ _ _ _ _ _ h)
    · replace h := ifp h (Classical.not_not.mp c4)
      refine w_ci rfl ?_
      exact a_ri rfl h
-- X6_kindFor
set_option maxRecDepth 100000 in
theorem J_X6_kindFor_73  {k39 : Int32 × Int32 × Int32 × Int32 × Int32 × SS × TT → Option (Int32 × SS × TT)} (hk39 : ∀ (x1 : Int32) (x2 : Int32) (x3 : Int32) (x4 : Int32) (x5 : Int32) (s : SS) (t : TT) (q : Int32 × SS × TT), k39 (x1, x2, x3, x4, x5, s, t) = some q → Wp pl_Kc 167 39 [some (.ref 51), some (.int x1), some (.int x2), some (.int x3), some (.int x4), some (.int x5), none] [] (mk s t) (Qi q)) : ∀ (x1 : Int32) (x2 : Int32) (x4 : Int32) (x5 : Int32) (x6 : Int32) (y0 : Int32) (s : SS) (t : TT) (q : Int32 × SS × TT), j_X6_kindFor_73 k39 x1 x2 x4 x5 x6 y0 s t = some q → Wp pl_Kc 167 73 [some (.ref 51), some (.int x1), some (.int x2), none, some (.int x4), some (.int x5), some (.int x6)] [.int y0] (mk s t) (Qi q) := by
  intro x1 x2 x4 x5 x6 y0 s t q h
  unfold j_X6_kindFor_73 at h
  refine w_si rfl (Nat.le_of_ble_eq_true rfl) rfl ?_
  refine w_li rfl rfl ?_
  refine w_li rfl rfl ?_
  refine w_ic_le rfl (fun c1 => ?_) (fun c1 => ?_)
  · replace h := ifp h c1
    refine w_li rfl rfl ?_
    refine w_si rfl (Nat.le_of_ble_eq_true rfl) rfl ?_
    refine w_inc rfl rfl rfl ?_
    refine w_go rfl ?_
    exact Wp_fgt (fg_s (fg_s (fg_s (fg_s (fg_s (fg_s (fg_n fg_e))))))) (hk39 _ _ _ _ _ _ _ _ h)
  · replace h := ifn h c1
    refine w_li rfl rfl ?_
    refine w_go rfl ?_
    refine w_si rfl (Nat.le_of_ble_eq_true rfl) rfl ?_
    refine w_inc rfl rfl rfl ?_
    refine w_go rfl ?_
    exact Wp_fgt (fg_s (fg_s (fg_s (fg_s (fg_s (fg_s (fg_n fg_e))))))) (hk39 _ _ _ _ _ _ _ _ h)
set_option maxRecDepth 100000 in
theorem B_X6_kindFor_39  {k39 : Int32 × Int32 × Int32 × Int32 × Int32 × SS × TT → Option (Int32 × SS × TT)} (hk39 : ∀ (x1 : Int32) (x2 : Int32) (x3 : Int32) (x4 : Int32) (x5 : Int32) (s : SS) (t : TT) (q : Int32 × SS × TT), k39 (x1, x2, x3, x4, x5, s, t) = some q → Wp pl_Kc 167 39 [some (.ref 51), some (.int x1), some (.int x2), some (.int x3), some (.int x4), some (.int x5), none] [] (mk s t) (Qi q)) : ∀ (x1 : Int32) (x2 : Int32) (x3 : Int32) (x4 : Int32) (x5 : Int32) (s : SS) (t : TT) (q : Int32 × SS × TT), b_X6_kindFor_39 k39 x1 x2 x3 x4 x5 s t = some q → Wp pl_Kc 167 39 [some (.ref 51), some (.int x1), some (.int x2), some (.int x3), some (.int x4), some (.int x5), none] [] (mk s t) (Qi q) := by
  intro x1 x2 x3 x4 x5 s t q h
  unfold b_X6_kindFor_39 at h
  refine w_li rfl rfl ?_
  refine w_ci rfl ?_
  refine w_ic_gt rfl (fun c1 => ?_) (fun c1 => ?_)
  · replace h := ifp h c1
    refine w_li rfl rfl ?_
    exact a_ri rfl h
  · replace h := ifn h c1
    refine w_la rfl rfl ?_
    refine w_li rfl rfl ?_
    refine w_ci rfl ?_
    refine w_li rfl rfl ?_
    obtain ⟨q2, e2, h⟩ := bnd h
    refine a_vi3v rfl (mg_51 _ _) (Nat.le_of_ble_eq_true rfl) (T_X6_sets e2) ?_
    refine w_la rfl rfl ?_
    refine w_li rfl rfl ?_
    obtain ⟨q3, e3, h⟩ := bnd h
    refine a_vi1i rfl (mg_51 _ _) (Nat.le_of_ble_eq_true rfl) (T_X6_wordsBehind e3) ?_
    refine w_si rfl (Nat.le_of_ble_eq_true rfl) rfl ?_
    refine w_li rfl rfl ?_
    refine w_li rfl rfl ?_
    refine w_ic_le rfl (fun c4 => ?_) (fun c4 => ?_)
    · replace h := ifp h c4
      refine w_li rfl rfl ?_
      exact Wp_fgt (fg_s (fg_s (fg_s (fg_n (fg_s (fg_s (fg_s fg_e))))))) (J_X6_kindFor_73 hk39 _ _ _ _ _ _ _ _ _ h)
    · replace h := ifn h c4
      refine w_li rfl rfl ?_
      refine w_go rfl ?_
      exact Wp_fgt (fg_s (fg_s (fg_s (fg_n (fg_s (fg_s (fg_s fg_e))))))) (J_X6_kindFor_73 hk39 _ _ _ _ _ _ _ _ _ h)
theorem K_X6_kindFor_39  : ∀ (n : Nat) (x1 : Int32) (x2 : Int32) (x3 : Int32) (x4 : Int32) (x5 : Int32) (s : SS) (t : TT) (q : Int32 × SS × TT), l_X6_kindFor_39 n (x1, x2, x3, x4, x5, s, t) = some q → Wp pl_Kc 167 39 [some (.ref 51), some (.int x1), some (.int x2), some (.int x3), some (.int x4), some (.int x5), none] [] (mk s t) (Qi q)
  | 0, x1, x2, x3, x4, x5, s, t, q, h => by cases (show (none : Option (Int32 × SS × TT)) = some q from h)
  | n + 1, x1, x2, x3, x4, x5, s, t, q, h => B_X6_kindFor_39 (K_X6_kindFor_39 n) x1 x2 x3 x4 x5 s t q h
set_option maxRecDepth 100000 in
theorem T_X6_kindFor  {x1 : Int32} {x2 : Int32} {s : SS} {t : TT} {q : Int32 × SS × TT} (h : f_X6_kindFor x1 x2 s t = some q) : Wm 167 [.ref 51, .int x1, .int x2] (mk s t) (Qi q) := by
  refine Wm.of pT_167 (Nat.le_of_ble_eq_true rfl) (L0 := [some (.ref 51), some (.int x1), some (.int x2), none, none, none, none]) rfl ?_
  unfold f_X6_kindFor at h
  refine w_la rfl rfl ?_
  refine w_li rfl rfl ?_
  obtain ⟨q1, e1, h⟩ := bnd h
  refine a_vi1i rfl (mg_51 _ _) (Nat.le_of_ble_eq_true rfl) (T_X6_isOne e1) ?_
  refine w_if_eq rfl (fun c2 => ?_) (fun c2 => ?_)
  · replace h := ifp h c2
    refine w_ci rfl ?_
    exact a_ri rfl h
  · replace h := ifn h c2
    refine w_li rfl rfl ?_
    refine w_ci rfl ?_
    refine w_ci rfl ?_
    obtain ⟨q3, e3, h⟩ := bnd h
    refine a_st3i rfl (Nat.le_of_ble_eq_true rfl) (T_X6_in e3) ?_
    refine w_if_ne rfl (fun c4 => ?_) (fun c4 => ?_)
    · replace h := ifn h c4
      refine w_la rfl rfl ?_
      refine w_gf rfl (mg_51 _ _) rfl ?_
      refine w_la rfl rfl ?_
      refine w_gf rfl (mg_51 _ _) rfl ?_
      obtain ⟨q5, e5, h⟩ := bnd h
      refine a_st2v rfl (Nat.le_of_ble_eq_true rfl) (T_X6_moveAll (Or.inl rfl) (Or.inr (Or.inr (Or.inr rfl))) e5) ?_
      refine w_ci rfl ?_
      refine w_si rfl (Nat.le_of_ble_eq_true rfl) rfl ?_
      refine w_ci rfl ?_
      refine w_si rfl (Nat.le_of_ble_eq_true rfl) rfl ?_
      refine w_ci rfl ?_
      refine w_si rfl (Nat.le_of_ble_eq_true rfl) rfl ?_
      exact Wp_fgt (fg_s (fg_s (fg_s (fg_s (fg_s (fg_s (fg_n fg_e))))))) (K_X6_kindFor_39 _ _ _ _ _ _ _ _ _ h)
    · replace h := ifp h (Classical.not_not.mp c4)
      refine w_ci rfl ?_
      exact a_ri rfl h
-- X6_thoughtFor
set_option maxRecDepth 100000 in
theorem J_X6_thoughtFor_126  : ∀ (x3 : Int32) (x4 : Int32) (s : SS) (t : TT) (q : Int32 × SS × TT), j_X6_thoughtFor_126 x3 x4 s t = some q → Wp pl_Kc 168 126 [none, none, none, some (.int x3), some (.int x4), none] [] (mk s t) (Qi q) := by
  intro x3 x4 s t q h
  unfold j_X6_thoughtFor_126 at h
  refine w_li rfl rfl ?_
  refine w_if_eq rfl (fun c1 => ?_) (fun c1 => ?_)
  · replace h := ifp h c1
    refine w_ci rfl ?_
    exact a_ri rfl h
  · replace h := ifn h c1
    refine w_li rfl rfl ?_
    refine w_go rfl ?_
    exact a_ri rfl h
set_option maxRecDepth 100000 in
theorem J_X6_thoughtFor_112  {k36 : Int32 × Int32 × Int32 × Int32 × SS × TT → Option (Int32 × SS × TT)} (hk36 : ∀ (x1 : Int32) (x2 : Int32) (x3 : Int32) (x4 : Int32) (s : SS) (t : TT) (q : Int32 × SS × TT), k36 (x1, x2, x3, x4, s, t) = some q → Wp pl_Kc 168 36 [some (.ref 51), some (.int x1), some (.int x2), some (.int x3), some (.int x4), none] [] (mk s t) (Qi q)) : ∀ (x1 : Int32) (x2 : Int32) (x3 : Int32) (x4 : Int32) (s : SS) (t : TT) (q : Int32 × SS × TT), j_X6_thoughtFor_112 k36 x1 x2 x3 x4 s t = some q → Wp pl_Kc 168 112 [some (.ref 51), some (.int x1), some (.int x2), some (.int x3), some (.int x4), none] [] (mk s t) (Qi q) := by
  intro x1 x2 x3 x4 s t q h
  unfold j_X6_thoughtFor_112 at h
  refine w_la rfl rfl ?_
  refine w_gf rfl (mg_51 _ _) rfl ?_
  refine w_la rfl rfl ?_
  refine w_gf rfl (mg_51 _ _) rfl ?_
  obtain ⟨q1, e1, h⟩ := bnd h
  refine a_st2v rfl (Nat.le_of_ble_eq_true rfl) (T_X6_moveAll (Or.inr (Or.inr (Or.inr rfl))) (Or.inl rfl) e1) ?_
  refine w_go rfl ?_
  exact Wp_fgt (fg_s (fg_s (fg_s (fg_s (fg_s (fg_n fg_e)))))) (hk36 _ _ _ _ _ _ _ h)
