-- walks
theorem K_X5_kindFor_31  : ∀ (n : Nat) (x1 : Int32) (x2 : Int32) (x3 : Int32) (x4 : Int32) (x5 : Int32) (s : SS) (t : TT) (q : Int32 × SS × TT), l_X5_kindFor_31 n (x1, x2, x3, x4, x5, s, t) = some q → Wp pl_Kc 72 31 [some (.ref 0), some (.int x1), some (.int x2), some (.int x3), some (.int x4), some (.int x5), none, none] [] (mk s t) (Qi q)
  | 0, x1, x2, x3, x4, x5, s, t, q, h => by cases (show (none : Option (Int32 × SS × TT)) = some q from h)
  | n + 1, x1, x2, x3, x4, x5, s, t, q, h => B_X5_kindFor_31 (K_X5_kindFor_31 n) x1 x2 x3 x4 x5 s t q h
