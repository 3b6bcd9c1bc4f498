-- X5_choices
set_option maxRecDepth 100000 in
theorem B_X5_choices_5  {k5 : Int32 × Int32 × Int64 × Int32 × SS × TT → Option (Int64 × SS × TT)} (hk5 : ∀ (x0 : Int32) (x1 : Int32) (x2 : Int64) (x4 : Int32) (s : SS) (t : TT) (q : Int64 × SS × TT), k5 (x0, x1, x2, x4, s, t) = some q → Wp pl_Kc 104 5 [some (.int x0), some (.int x1), some (.long x2), none, some (.int x4)] [] (mk s t) (Ql q)) : ∀ (x0 : Int32) (x1 : Int32) (x2 : Int64) (x4 : Int32) (s : SS) (t : TT) (q : Int64 × SS × TT), b_X5_choices_5 k5 x0 x1 x2 x4 s t = some q → Wp pl_Kc 104 5 [some (.int x0), some (.int x1), some (.long x2), none, some (.int x4)] [] (mk s t) (Ql q) := by
  intro x0 x1 x2 x4 s t q h
  unfold b_X5_choices_5 at h
  refine w_li rfl rfl ?_
  refine w_li rfl rfl ?_
  refine w_ic_gt rfl (fun c1 => ?_) (fun c1 => ?_)
  · replace h := ifp h c1
    refine w_ll rfl rfl ?_
    exact a_rl rfl h
  · replace h := ifn h c1
    refine w_ll rfl rfl ?_
    refine w_li rfl rfl ?_
    refine w_li rfl rfl ?_
    refine w_isub rfl ?_
    refine w_li rfl rfl ?_
    refine w_iadd rfl ?_
    refine w_i2l rfl ?_
    refine w_lmul rfl ?_
    refine w_li rfl rfl ?_
    refine w_i2l rfl ?_
    by_cases c2 : (Int32.toInt64 x4) = 0
    · cases (ifp h c2)
    replace h := ifn h c2
    refine w_ldiv rfl c2 ?_
    refine w_sl rfl (Nat.le_of_ble_eq_true rfl) rfl ?_
    refine w_inc rfl rfl rfl ?_
    refine w_go rfl ?_
    exact Wp_fgt (fg_s (fg_s (fg_s (fg_n (fg_s fg_e))))) (hk5 _ _ _ _ _ _ _ h)
