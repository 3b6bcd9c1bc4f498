-- walks
theorem K_X5_commonDivisor_9  : ∀ (n : Nat) (x4 : Int64) (x6 : Int64) (x8 : Int32) (s : SS) (t : TT) (q : Int64 × SS × TT), l_X5_commonDivisor_9 n (x4, x6, x8, s, t) = some q → Wp pl_Kc 106 9 [none, none, none, none, some (.long x4), none, some (.long x6), none, some (.int x8), none, none] [] (mk s t) (Ql q)
  | 0, x4, x6, x8, s, t, q, h => by cases (show (none : Option (Int64 × SS × TT)) = some q from h)
  | n + 1, x4, x6, x8, s, t, q, h => B_X5_commonDivisor_9 (K_X5_commonDivisor_9 n) x4 x6 x8 s t q h
