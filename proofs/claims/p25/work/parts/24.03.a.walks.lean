-- the walks: a program laid these rows
theorem K_X5_choices_5  : ∀ (n : Nat) (x0 : Int32) (x1 : Int32) (x2 : Int64) (x4 : Int32) (s : SS) (t : TT) (q : Int64 × SS × TT), l_X5_choices_5 n (x0, x1, x2, x4, s, t) = some q → Wp pl_Kc 104 5 [some (.int x0), some (.int x1), some (.long x2), none, some (.int x4)] [] (mk s t) (Ql q)
  | 0, x0, x1, x2, x4, s, t, q, h => by cases (show (none : Option (Int64 × SS × TT)) = some q from h)
  | n + 1, x0, x1, x2, x4, s, t, q, h => B_X5_choices_5 (K_X5_choices_5 n) x0 x1 x2 x4 s t q h
set_option maxRecDepth 100000 in
theorem T_X5_choices  {x0 : Int32} {x1 : Int32} {s : SS} {t : TT} {q : Int64 × SS × TT} (h : f_X5_choices x0 x1 s t = some q) : Wm 104 [.int x0, .int x1] (mk s t) (Ql q) := by
  refine Wm.of pT_104 (Nat.le_of_ble_eq_true rfl) (L0 := [some (.int x0), some (.int x1), none, none, none]) rfl ?_
  unfold f_X5_choices at h
  refine w_cl rfl ?_
  refine w_sl rfl (Nat.le_of_ble_eq_true rfl) rfl ?_
  refine w_ci rfl ?_
  refine w_si rfl (Nat.le_of_ble_eq_true rfl) rfl ?_
  exact Wp_fgt (fg_s (fg_s (fg_s (fg_n (fg_s fg_e))))) (K_X5_choices_5 _ _ _ _ _ _ _ _ h)
