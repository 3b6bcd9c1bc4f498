-- X5_leastPacking
set_option maxRecDepth 100000 in
theorem J_X5_leastPacking_100  {k7 : Int32 × Int32 × Int32 × Int32 × SS × TT → Option (Int32 × SS × TT)} (hk7 : ∀ (x1 : Int32) (x2 : Int32) (x3 : Int32) (x4 : Int32) (s : SS) (t : TT) (q : Int32 × SS × TT), k7 (x1, x2, x3, x4, s, t) = some q → Wp pl_Kc 103 7 [some (.ref 0), some (.int x1), some (.int x2), some (.int x3), some (.int x4), none, none, none, none] [] (mk s t) (Qi q)) : ∀ (x1 : Int32) (x2 : Int32) (x4 : Int32) (y0 : Int32) (y1 : Int32) (s : SS) (t : TT) (q : Int32 × SS × TT), j_X5_leastPacking_100 k7 x1 x2 x4 y0 y1 s t = some q → Wp pl_Kc 103 100 [some (.ref 0), some (.int x1), some (.int x2), none, some (.int x4), none, none, none, none] [.int y0, .int y1] (mk s t) (Qi q) := by
  intro x1 x2 x4 y0 y1 s t q h
  unfold j_X5_leastPacking_100 at h
  refine w_mm rfl (Nat.le_of_ble_eq_true rfl) ?_
  refine w_si rfl (Nat.le_of_ble_eq_true rfl) rfl ?_
  refine w_inc rfl rfl rfl ?_
  refine w_go rfl ?_
  exact Wp_fgt (fg_s (fg_s (fg_s (fg_s (fg_s (fg_n (fg_n (fg_n (fg_n fg_e))))))))) (hk7 _ _ _ _ _ _ _ h)
