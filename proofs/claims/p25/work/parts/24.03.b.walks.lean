-- X5_commonDivisor
set_option maxRecDepth 100000 in
theorem B_X5_commonDivisor_9  {k9 : Int64 × Int64 × Int32 × SS × TT → Option (Int64 × SS × TT)} (hk9 : ∀ (x4 : Int64) (x6 : Int64) (x8 : Int32) (s : SS) (t : TT) (q : Int64 × SS × TT), k9 (x4, x6, x8, s, t) = some q → Wp pl_Kc 106 9 [none, none, none, none, some (.long x4), none, some (.long x6), none, some (.int x8), none, none] [] (mk s t) (Ql q)) : ∀ (x4 : Int64) (x6 : Int64) (x8 : Int32) (s : SS) (t : TT) (q : Int64 × SS × TT), b_X5_commonDivisor_9 k9 x4 x6 x8 s t = some q → Wp pl_Kc 106 9 [none, none, none, none, some (.long x4), none, some (.long x6), none, some (.int x8), none, none] [] (mk s t) (Ql q) := by
  intro x4 x6 x8 s t q h
  unfold b_X5_commonDivisor_9 at h
  refine w_li rfl rfl ?_
  refine w_ci rfl ?_
  refine w_ic_ge rfl (fun c1 => ?_) (fun c1 => ?_)
  · replace h := ifp h c1
    refine w_ll rfl rfl ?_
    exact a_rl rfl h
  · replace h := ifn h c1
    refine w_ll rfl rfl ?_
    refine w_cl rfl ?_
    refine w_cmp rfl ?_
    refine w_if_eq rfl (fun c2 => ?_) (fun c2 => ?_)
    · replace h := ifp h c2
      refine w_ll rfl rfl ?_
      exact a_rl rfl h
    · replace h := ifn h c2
      refine w_ll rfl rfl ?_
      refine w_ll rfl rfl ?_
      by_cases c3 : x6 = 0
      · cases (ifp h c3)
      replace h := ifn h c3
      refine w_lrem rfl c3 ?_
      refine w_sl rfl (Nat.le_of_ble_eq_true rfl) rfl ?_
      refine w_ll rfl rfl ?_
      refine w_sl rfl (Nat.le_of_ble_eq_true rfl) rfl ?_
      refine w_ll rfl rfl ?_
      refine w_sl rfl (Nat.le_of_ble_eq_true rfl) rfl ?_
      refine w_inc rfl rfl rfl ?_
      refine w_go rfl ?_
      exact Wp_fgt (fg_n (fg_n (fg_n (fg_n (fg_s (fg_n (fg_s (fg_n (fg_s (fg_n (fg_n fg_e))))))))))) (hk9 _ _ _ _ _ _ h)
