-- X6_in
set_option maxRecDepth 100000 in
theorem T_X6_in  {x0 : Int32} {x1 : Int32} {x2 : Int32} {s : SS} {t : TT} {q : Int32 × SS × TT} (h : f_X6_in x0 x1 x2 s t = some q) : Wm 110 [.int x0, .int x1, .int x2] (mk s t) (Qi q) := by
  refine Wm.of pT_110 (Nat.le_of_ble_eq_true rfl) (L0 := [some (.int x0), some (.int x1), some (.int x2)]) rfl ?_
  unfold f_X6_in at h
  refine w_li rfl rfl ?_
  refine w_li rfl rfl ?_
  refine w_ic_lt rfl (fun c1 => ?_) (fun c1 => ?_)
  · replace h := ifp h c1
    refine w_ci rfl ?_
    exact a_rz rfl (by decide) h
  · replace h := ifn h c1
    refine w_li rfl rfl ?_
    refine w_li rfl rfl ?_
    refine w_ic_gt rfl (fun c2 => ?_) (fun c2 => ?_)
    · replace h := ifp h c2
      refine w_ci rfl ?_
      exact a_rz rfl (by decide) h
    · replace h := ifn h c2
      refine w_ci rfl ?_
      refine w_go rfl ?_
      exact a_rz rfl (by decide) h
-- X6_held
set_option maxRecDepth 100000 in
theorem T_X6_held  {x0 : Int32} {x1 : Int32} {x2 : Int32} {s : SS} {t : TT} {q : Int32 × SS × TT} (h : f_X6_held x0 x1 x2 s t = some q) : Wm 111 [.int x0, .int x1, .int x2] (mk s t) (Qi q) := by
  refine Wm.of pT_111 (Nat.le_of_ble_eq_true rfl) (L0 := [some (.int x0), some (.int x1), some (.int x2)]) rfl ?_
  unfold f_X6_held at h
  refine w_li rfl rfl ?_
  refine w_li rfl rfl ?_
  refine w_ic_ge rfl (fun c1 => ?_) (fun c1 => ?_)
  · replace h := ifp h c1
    refine w_li rfl rfl ?_
    refine w_li rfl rfl ?_
    refine w_ic_le rfl (fun c2 => ?_) (fun c2 => ?_)
    · replace h := ifp h c2
      refine w_li rfl rfl ?_
      exact a_ri rfl h
    · replace h := ifn h c2
      refine w_li rfl rfl ?_
      refine w_go rfl ?_
      exact a_ri rfl h
  · replace h := ifn h c1
    refine w_li rfl rfl ?_
    refine w_go rfl ?_
    exact a_ri rfl h
-- X6_moveAll
set_option maxRecDepth 100000 in
theorem B_X6_moveAll_2 {o0 : Nat} (ho0 : isR56 o0) {o1 : Nat} (ho1 : isR56 o1) {k2 : Int32 × SS × TT → Option (SS × TT)} (hk2 : ∀ (x2 : Int32) (s : SS) (t : TT) (q : SS × TT), k2 (x2, s, t) = some q → Wp pl_Kc 112 2 [some (.ref o0), some (.ref o1), some (.int x2)] [] (mk s t) (Qv q)) : ∀ (x2 : Int32) (s : SS) (t : TT) (q : SS × TT), b_X6_moveAll_2 o0 o1 k2 x2 s t = some q → Wp pl_Kc 112 2 [some (.ref o0), some (.ref o1), some (.int x2)] [] (mk s t) (Qv q) := by
  intro x2 s t q h
  unfold b_X6_moveAll_2 at h
  refine w_li rfl rfl ?_
  refine w_ci rfl ?_
  refine w_ic_ge rfl (fun c1 => ?_) (fun c1 => ?_)
  · replace h := ifp h c1
    exact a_rv rfl h
  · replace h := ifn h c1
    refine w_la rfl rfl ?_
    refine w_li rfl rfl ?_
    refine w_la rfl rfl ?_
    refine w_li rfl rfl ?_
    obtain ⟨j2, e2, h⟩ := bnd h
    refine a_ia rfl (mrR56 ho0 _ _ _) e2 ?_
    obtain ⟨j3, e3, h⟩ := bnd h
    refine a_is rfl (mgR56 ho1 _ _) (msR56 ho1 _ _) e3 (fun s3 w3 => ?_)
    replace h := wr_of h s3 w3
    refine w_inc rfl rfl rfl ?_
    refine w_go rfl ?_
    exact Wp_fgt (fg_s (fg_s (fg_s fg_e))) (hk2 _ _ _ _ h)
theorem K_X6_moveAll_2 {o0 : Nat} (ho0 : isR56 o0) {o1 : Nat} (ho1 : isR56 o1) : ∀ (n : Nat) (x2 : Int32) (s : SS) (t : TT) (q : SS × TT), l_X6_moveAll_2 o0 o1 n (x2, s, t) = some q → Wp pl_Kc 112 2 [some (.ref o0), some (.ref o1), some (.int x2)] [] (mk s t) (Qv q)
  | 0, x2, s, t, q, h => by cases (show (none : Option (SS × TT)) = some q from h)
  | n + 1, x2, s, t, q, h => B_X6_moveAll_2 ho0 ho1 (K_X6_moveAll_2 ho0 ho1 n) x2 s t q h
set_option maxRecDepth 100000 in
theorem T_X6_moveAll {o0 : Nat} (ho0 : isR56 o0) {o1 : Nat} (ho1 : isR56 o1) {s : SS} {t : TT} {q : SS × TT} (h : f_X6_moveAll o0 o1 s t = some q) : Wm 112 [.ref o0, .ref o1] (mk s t) (Qv q) := by
  refine Wm.of pT_112 (Nat.le_of_ble_eq_true rfl) (L0 := [some (.ref o0), some (.ref o1), none]) rfl ?_
  unfold f_X6_moveAll at h
  refine w_ci rfl ?_
  refine w_si rfl (Nat.le_of_ble_eq_true rfl) rfl ?_
  exact Wp_fgt (fg_s (fg_s (fg_s fg_e))) (K_X6_moveAll_2 ho0 ho1 _ _ _ _ _ h)
