-- the walks: a program laid these rows
theorem K_X5_choices_5  : ∀ (n : Nat) (x0 : Int32) (x1 : Int32) (x2 : Int64) (x4 : Int32) (s : SS) (t : TT) (q : Int64 × SS × TT), l_X5_choices_5 n (x0, x1, x2, x4, s, t) = some q → Wp pl_Kc 104 5 [some (.int x0), some (.int x1), some (.long x2), none, some (.int x4)] [] (mk s t) (Ql q)
  | 0, x0, x1, x2, x4, s, t, q, h => by cases (show (none : Option (Int64 × SS × TT)) = some q from h)
  | n + 1, x0, x1, x2, x4, s, t, q, h => B_X5_choices_5 (K_X5_choices_5 n) x0 x1 x2 x4 s t q h
set_option maxRecDepth 100000 in
theorem T_X5_choices  {x0 : Int32} {x1 : Int32} {s : SS} {t : TT} {q : Int64 × SS × TT} (h : f_X5_choices x0 x1 s t = some q) : Wm 104 [.int x0, .int x1] (mk s t) (Ql q) := by
  refine Wm.of pT_104 (Nat.le_of_ble_eq_true rfl) (L0 := [some (.int x0), some (.int x1), none, none, none]) rfl ?_
  unfold f_X5_choices at h
  refine w_cl rfl ?_
  refine w_sl rfl (Nat.le_of_ble_eq_true rfl) rfl ?_
  refine w_ci rfl ?_
  refine w_si rfl (Nat.le_of_ble_eq_true rfl) rfl ?_
  exact Wp_fgt (fg_s (fg_s (fg_s (fg_n (fg_s fg_e))))) (K_X5_choices_5 _ _ _ _ _ _ _ _ h)
-- X5_commonDivisor
set_option maxRecDepth 100000 in
theorem B_X5_commonDivisor_9  {k9 : Int64 × Int64 × Int32 × SS × TT → Option (Int64 × SS × TT)} (hk9 : ∀ (x4 : Int64) (x6 : Int64) (x8 : Int32) (s : SS) (t : TT) (q : Int64 × SS × TT), k9 (x4, x6, x8, s, t) = some q → Wp pl_Kc 106 9 [none, none, none, none, some (.long x4), none, some (.long x6), none, some (.int x8), none, none] [] (mk s t) (Ql q)) : ∀ (x4 : Int64) (x6 : Int64) (x8 : Int32) (s : SS) (t : TT) (q : Int64 × SS × TT), b_X5_commonDivisor_9 k9 x4 x6 x8 s t = some q → Wp pl_Kc 106 9 [none, none, none, none, some (.long x4), none, some (.long x6), none, some (.int x8), none, none] [] (mk s t) (Ql q) := by
  intro x4 x6 x8 s t q h
  unfold b_X5_commonDivisor_9 at h
  refine w_li rfl rfl ?_
  refine w_ci rfl ?_
  refine w_ic_ge rfl (fun c1 => ?_) (fun c1 => ?_)
  · replace h := ifp h c1
    refine w_ll rfl rfl ?_
    exact a_rl rfl h
  · replace h := ifn h c1
    refine w_ll rfl rfl ?_
    refine w_cl rfl ?_
    refine w_cmp rfl ?_
    refine w_if_eq rfl (fun c2 => ?_) (fun c2 => ?_)
    · replace h := ifp h c2
      refine w_ll rfl rfl ?_
      exact a_rl rfl h
    · replace h := ifn h c2
      refine w_ll rfl rfl ?_
      refine w_ll rfl rfl ?_
      by_cases c3 : x6 = 0
      · cases (ifp h c3)
      replace h := ifn h c3
      refine w_lrem rfl c3 ?_
      refine w_sl rfl (Nat.le_of_ble_eq_true rfl) rfl ?_
      refine w_ll rfl rfl ?_
      refine w_sl rfl (Nat.le_of_ble_eq_true rfl) rfl ?_
      refine w_ll rfl rfl ?_
      refine w_sl rfl (Nat.le_of_ble_eq_true rfl) rfl ?_
      refine w_inc rfl rfl rfl ?_
      refine w_go rfl ?_
      exact Wp_fgt (fg_n (fg_n (fg_n (fg_n (fg_s (fg_n (fg_s (fg_n (fg_s (fg_n (fg_n fg_e))))))))))) (hk9 _ _ _ _ _ _ h)
theorem K_X5_commonDivisor_9  : ∀ (n : Nat) (x4 : Int64) (x6 : Int64) (x8 : Int32) (s : SS) (t : TT) (q : Int64 × SS × TT), l_X5_commonDivisor_9 n (x4, x6, x8, s, t) = some q → Wp pl_Kc 106 9 [none, none, none, none, some (.long x4), none, some (.long x6), none, some (.int x8), none, none] [] (mk s t) (Ql q)
  | 0, x4, x6, x8, s, t, q, h => by cases (show (none : Option (Int64 × SS × TT)) = some q from h)
  | n + 1, x4, x6, x8, s, t, q, h => B_X5_commonDivisor_9 (K_X5_commonDivisor_9 n) x4 x6 x8 s t q h
set_option maxRecDepth 100000 in
theorem T_X5_commonDivisor  {x0 : Int64} {x2 : Int64} {s : SS} {t : TT} {q : Int64 × SS × TT} (h : f_X5_commonDivisor x0 x2 s t = some q) : Wm 106 [.long x0, .long x2] (mk s t) (Ql q) := by
  refine Wm.of pT_106 (Nat.le_of_ble_eq_true rfl) (L0 := [some (.long x0), none, some (.long x2), none, none, none, none, none, none, none, none]) rfl ?_
  unfold f_X5_commonDivisor at h
  refine w_ll rfl rfl ?_
  refine w_sl rfl (Nat.le_of_ble_eq_true rfl) rfl ?_
  refine w_ll rfl rfl ?_
  refine w_sl rfl (Nat.le_of_ble_eq_true rfl) rfl ?_
  refine w_ci rfl ?_
  refine w_si rfl (Nat.le_of_ble_eq_true rfl) rfl ?_
  exact Wp_fgt (fg_n (fg_n (fg_n (fg_n (fg_s (fg_n (fg_s (fg_n (fg_s (fg_n (fg_n fg_e))))))))))) (K_X5_commonDivisor_9 _ _ _ _ _ _ _ h)
