-- walks
set_option maxRecDepth 100000 in
theorem T_X5_commonDivisor  {x0 : Int64} {x2 : Int64} {s : SS} {t : TT} {q : Int64 × SS × TT} (h : f_X5_commonDivisor x0 x2 s t = some q) : Wm 106 [.long x0, .long x2] (mk s t) (Ql q) := by
  refine Wm.of pT_106 (Nat.le_of_ble_eq_true rfl) (L0 := [some (.long x0), none, some (.long x2), none, none, none, none, none, none, none, none]) rfl ?_
  unfold f_X5_commonDivisor at h
  refine w_ll rfl rfl ?_
  refine w_sl rfl (Nat.le_of_ble_eq_true rfl) rfl ?_
  refine w_ll rfl rfl ?_
  refine w_sl rfl (Nat.le_of_ble_eq_true rfl) rfl ?_
  refine w_ci rfl ?_
  refine w_si rfl (Nat.le_of_ble_eq_true rfl) rfl ?_
  exact Wp_fgt (fg_n (fg_n (fg_n (fg_n (fg_s (fg_n (fg_s (fg_n (fg_s (fg_n (fg_n fg_e))))))))))) (K_X5_commonDivisor_9 _ _ _ _ _ _ _ h)
