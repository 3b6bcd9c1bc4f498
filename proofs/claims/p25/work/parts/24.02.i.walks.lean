-- walks
set_option maxRecDepth 100000 in
theorem T_X5_leastPacking  {x1 : Int32} {x2 : Int32} {s : SS} {t : TT} {q : Int32 × SS × TT} (h : f_X5_leastPacking x1 x2 s t = some q) : Wm 103 [.ref 0, .int x1, .int x2] (mk s t) (Qi q) := by
  refine Wm.of pT_103 (Nat.le_of_ble_eq_true rfl) (L0 := [some (.ref 0), some (.int x1), some (.int x2), none, none, none, none, none, none]) rfl ?_
  unfold f_X5_leastPacking at h
  refine w_ci rfl ?_
  refine w_si rfl (Nat.le_of_ble_eq_true rfl) rfl ?_
  refine w_ci rfl ?_
  refine w_si rfl (Nat.le_of_ble_eq_true rfl) rfl ?_
  exact Wp_fgt (fg_s (fg_s (fg_s (fg_s (fg_s (fg_n (fg_n (fg_n (fg_n fg_e))))))))) (K_X5_leastPacking_7 _ _ _ _ _ _ _ _ h)
