/-! p1: weeks with nobody: the six methods -/
theorem nJ1 {j : Nat} : nI j - 1 + 1 = nI (j + 1) - 1 := by rw [nI_pred, Int32.sub_add_cancel]
theorem nJ0 : ∀ j : Nat, j < 10 → ¬ (9 : Int32) ≤ nI j - 1 := by decide
set_option maxRecDepth 100000 in
set_option maxHeartbeats 2000000 in
theorem l_behind {n : Nat} : ∀ (m j : Nat) (s : Nat → Nat → Int32) (t : Nat → Nat → Int64), j + m = n → n < 2 ^ 31 → Wp pl_Kc 162 4 [some (.ref 51), some (.int (nI n)), some (.int 0), some (.int (nI j))] [] (mk (yS s) t) (EY t (some (.int 0))) := by
  intro m
  induction m with
  | zero =>
    intro j s t hj hn
    obtain rfl : j = n := by omega
    refine w_li rfl rfl ?_
    refine w_li rfl rfl ?_
    refine w_ic_ge rfl (fun c6_0 => ?_) (fun c6_0 => absurd (nI_le3 (by omega) hn) c6_0)
    refine w_la rfl rfl ?_
    refine w_gf rfl (mg_51 _ _) rfl ?_
    refine w_la rfl rfl ?_
    refine w_gf rfl (mg_51 _ _) rfl ?_
    refine w_st2 pl_sub_c rfl (Nat.le_of_ble_eq_true rfl) (y_move_55) (fun r2 h2 q => by obtain ⟨_, _, q⟩ := q; rw [q]; rfl) (fun r2 h2 q => ?_)
    obtain ⟨q1, s, q2⟩ := q
    rw [q1, q2]
    refine w_li rfl rfl ?_
    refine w_ri rfl ?_
    exact ⟨by first | rfl | decide, _, rfl⟩
  | succ m ih =>
    intro j s t hj hn
    refine w_li rfl rfl ?_
    refine w_li rfl rfl ?_
    refine w_ic_ge rfl (fun c6_0 => absurd c6_0 (nI_nle3 (by omega) hn)) (fun c6_0 => ?_)
    refine w_li rfl rfl ?_
    refine w_la rfl rfl ?_
    refine w_vi0 pl_sub_c rfl (mg_51 _ _) (Nat.le_of_ble_eq_true rfl) (y_weekGoes) (fun r2 h2 q => by obtain ⟨_, _, q⟩ := q; rw [q]; rfl) (fun r2 h2 q => ?_)
    obtain ⟨q1, s, q2⟩ := q
    rw [q1, q2]
    refine w_iadd rfl ?_
    refine w_si rfl (Nat.le_of_ble_eq_true rfl) rfl ?_
    refine w_inc rfl rfl rfl ?_
    refine w_go rfl ?_
    rw [nI_1]
    rw [i00]
    exact ih (j + 1) _ _ (by omega) hn
theorem y_wordsBehind {s : Nat → Nat → Int32} {t : Nat → Nat → Int64} {n : Int32} : Wm 162 [.ref 51, .int n] (mk (yS s) t) (EY t (some (.int 0))) := by
  refine Wm.of pT_162 (Nat.le_of_ble_eq_true rfl) (L0 := [some (.ref 51), some (.int n), none, none]) rfl ?_
  refine w_ci rfl ?_
  refine w_si rfl (Nat.le_of_ble_eq_true rfl) rfl ?_
  refine w_ci rfl ?_
  refine w_si rfl (Nat.le_of_ble_eq_true rfl) rfl ?_
  by_cases hn : n ≤ 0
  · refine w_li rfl rfl ?_
    refine w_li rfl rfl ?_
    refine w_ic_ge rfl (fun c6_0 => ?_) (fun c6_0 => absurd (hn) c6_0)
    refine w_la rfl rfl ?_
    refine w_gf rfl (mg_51 _ _) rfl ?_
    refine w_la rfl rfl ?_
    refine w_gf rfl (mg_51 _ _) rfl ?_
    refine w_st2 pl_sub_c rfl (Nat.le_of_ble_eq_true rfl) (y_move_55) (fun r2 h2 q => by obtain ⟨_, _, q⟩ := q; rw [q]; rfl) (fun r2 h2 q => ?_)
    obtain ⟨q1, s, q2⟩ := q
    rw [q1, q2]
    refine w_li rfl rfl ?_
    refine w_ri rfl ?_
    exact ⟨by first | rfl | decide, _, rfl⟩
  · obtain ⟨k, hk, rfl⟩ := nn0 hn
    rw [show (0 : Int32) = nI 0 from rfl]
    exact l_behind k 0 s t (by omega) hk
set_option maxRecDepth 100000 in
set_option maxHeartbeats 2000000 in
theorem ly_weeks {n : Nat} : ∀ (m j : Nat) (s : Nat → Nat → Int32) (t : Nat → Nat → Int64), j + m = n → n < 2 ^ 31 → Wp pl_Kc 155 14 [some (.ref 51), some (.int (nI n)), some (.int (nI j))] [] (mk (yS s) t) (EY t (some (.int 0))) := by
  intro m
  induction m with
  | zero =>
    intro j s t hj hn
    obtain rfl : j = n := by omega
    refine w_li rfl rfl ?_
    refine w_li rfl rfl ?_
    refine w_ic_ge rfl (fun c16_0 => ?_) (fun c16_0 => absurd (nI_le3 (by omega) hn) c16_0)
    refine w_la rfl rfl ?_
    refine w_ci rfl ?_
    refine w_vi1 pl_sub_c rfl (mg_51 _ _) (Nat.le_of_ble_eq_true rfl) (y_sumOf) (fun r2 h2 q => by obtain ⟨_, _, q⟩ := q; rw [q]; rfl) (fun r2 h2 q => ?_)
    obtain ⟨q1, s, q2⟩ := q
    rw [q1, q2]
    refine w_ri rfl ?_
    exact ⟨by first | rfl | decide, _, rfl⟩
  | succ m ih =>
    intro j s t hj hn
    refine w_li rfl rfl ?_
    refine w_li rfl rfl ?_
    refine w_ic_ge rfl (fun c16_0 => absurd c16_0 (nI_nle3 (by omega) hn)) (fun c16_0 => ?_)
    refine w_la rfl rfl ?_
    refine w_vi0 pl_sub_c rfl (mg_51 _ _) (Nat.le_of_ble_eq_true rfl) (y_weekGoes) (fun r2 h2 q => by obtain ⟨_, _, q⟩ := q; rw [q]; rfl) (fun r2 h2 q => ?_)
    obtain ⟨q1, s, q2⟩ := q
    rw [q1, q2]
    refine w_pop rfl rfl ?_
    refine w_inc rfl rfl rfl ?_
    refine w_go rfl ?_
    rw [nI_1]
    exact ih (j + 1) _ _ (by omega) hn
set_option maxRecDepth 100000 in
set_option maxHeartbeats 2000000 in
theorem ly_poor {n : Nat} : ∀ (m j : Nat) (z : Int32) (s : Nat → Nat → Int32) (t : Nat → Nat → Int64), j + m = n → n < 2 ^ 31 → Wp pl_Kc 160 43 [some (.ref 51), some (.int (nI n)), some (.int 0), some (.int z), some (.int 0), some (.int (nI j))] [] (mk (yS s) t) (EY t (some (.int 0))) := by
  intro m
  induction m with
  | zero =>
    intro j z s t hj hn
    obtain rfl : j = n := by omega
    refine w_li rfl rfl ?_
    refine w_li rfl rfl ?_
    refine w_ic_ge rfl (fun c46_0 => ?_) (fun c46_0 => absurd (nI_le3 (by omega) hn) c46_0)
    refine w_li rfl rfl ?_
    refine w_ri rfl ?_
    exact ⟨by first | rfl | decide, _, rfl⟩
  | succ m ih =>
    intro j z s t hj hn
    refine w_li rfl rfl ?_
    refine w_li rfl rfl ?_
    refine w_ic_ge rfl (fun c46_0 => absurd c46_0 (nI_nle3 (by omega) hn)) (fun c46_0 => ?_)
    refine w_la rfl rfl ?_
    refine w_gf rfl (mg_51 _ _) rfl ?_
    refine w_ci rfl ?_
    refine w_li rfl rfl ?_
    refine w_is rfl (mg_52 _ _) (show ¬ (7 : Int32) < 0 from by decide) (by rw [ar_len]; exact (show (7 : Int32).toNatClampNeg < 56 from by decide)) (ms_52 _ _ _ _) ?_
    rw [yS_up (by decide)]
    refine w_li rfl rfl ?_
    refine w_la rfl rfl ?_
    refine w_vi0 pl_sub_c rfl (mg_51 _ _) (Nat.le_of_ble_eq_true rfl) (y_weekByDraws) (fun r2 h2 q => by obtain ⟨_, _, q⟩ := q; rw [q]; rfl) (fun r2 h2 q => ?_)
    obtain ⟨q1, s, q2⟩ := q
    rw [q1, q2]
    refine w_li rfl rfl ?_
    refine w_ic_ge rfl (fun c64_0 => ?_) (fun c64_0 => absurd (show (0 : Int32) ≤ 0 from by decide) c64_0)
    refine w_ci rfl ?_
    refine w_iadd rfl ?_
    refine w_si rfl (Nat.le_of_ble_eq_true rfl) rfl ?_
    refine w_la rfl rfl ?_
    refine w_gf rfl (mg_51 _ _) rfl ?_
    refine w_ci rfl ?_
    refine w_ia rfl (mr_52 _ _ _) (show ¬ (7 : Int32) < 0 from by decide) (ar_get (show (7 : Int32).toNatClampNeg < 56 from by decide)) ?_
    refine w_si rfl (Nat.le_of_ble_eq_true rfl) rfl ?_
    refine w_la rfl rfl ?_
    refine w_gf rfl (mg_51 _ _) rfl ?_
    refine w_la rfl rfl ?_
    refine w_gf rfl (mg_51 _ _) rfl ?_
    refine w_st2 pl_sub_c rfl (Nat.le_of_ble_eq_true rfl) (y_move_55) (fun r2 h2 q => by obtain ⟨_, _, q⟩ := q; rw [q]; rfl) (fun r2 h2 q => ?_)
    obtain ⟨q1, s, q2⟩ := q
    rw [q1, q2]
    refine w_inc rfl rfl rfl ?_
    refine w_go rfl ?_
    rw [nI_1]
    rw [i00]
    exact ih (j + 1) _ _ _ (by omega) hn
set_option maxRecDepth 100000 in
set_option maxHeartbeats 2000000 in
theorem ly_vanFor {w v : Int32} (hp : 0 < v) : ∀ (m j : Nat) (s : Nat → Nat → Int32) (t : Nat → Nat → Int64), j + m = 10 → Wp pl_Kc 166 39 [some (.ref 51), some (.int w), some (.int v), some (.int (nI j - 1)), some (.int 0)] [] (mk (yS s) t) (EY t (some (.int (-3)))) := by
  intro m
  induction m with
  | zero =>
    intro j s t hj
    obtain rfl : j = 10 := by omega
    refine w_li rfl rfl ?_
    refine w_ci rfl ?_
    refine w_ic_ge rfl (fun c42_0 => ?_) (fun c42_0 => absurd (show (9 : Int32) ≤ nI 10 - 1 from by decide) c42_0)
    refine w_li rfl rfl ?_
    refine w_if_eq rfl (fun c81_0 => ?_) (fun c81_0 => absurd (show (0 : Int32) = 0 from by decide) c81_0)
    refine w_ci rfl ?_
    refine w_ri rfl ?_
    exact ⟨by first | rfl | decide, _, rfl⟩
  | succ m ih =>
    intro j s t hj
    refine w_li rfl rfl ?_
    refine w_ci rfl ?_
    refine w_ic_ge rfl (fun c42_0 => absurd c42_0 (nJ0 j (by omega))) (fun c42_0 => ?_)
    refine w_li rfl rfl ?_
    refine w_if_ne rfl (fun c47_0 => absurd c47_0 (show ¬ (¬ (0 : Int32) = 0) from by decide)) (fun c47_0 => ?_)
    refine w_inc rfl rfl rfl ?_
    refine w_la rfl rfl ?_
    refine w_gf rfl (mg_51 _ _) rfl ?_
    refine w_ci rfl ?_
    refine w_li rfl rfl ?_
    refine w_is rfl (mg_52 _ _) (show ¬ (0 : Int32) < 0 from by decide) (by rw [ar_len]; exact (show (0 : Int32).toNatClampNeg < 56 from by decide)) (ms_52 _ _ _ _) ?_
    rw [yS_up (by decide)]
    refine w_la rfl rfl ?_
    refine w_li rfl rfl ?_
    refine w_vi1 pl_sub_c rfl (mg_51 _ _) (Nat.le_of_ble_eq_true rfl) (y_wordsBehind) (fun r2 h2 q => by obtain ⟨_, _, q⟩ := q; rw [q]; rfl) (fun r2 h2 q => ?_)
    obtain ⟨q1, s, q2⟩ := q
    rw [q1, q2]
    refine w_li rfl rfl ?_
    refine w_ic_lt rfl (fun c66_0 => ?_) (fun c66_0 => absurd (hp) c66_0)
    refine w_ci rfl ?_
    refine w_si rfl (Nat.le_of_ble_eq_true rfl) rfl ?_
    refine w_go rfl ?_
    rw [nJ1]
    exact ih (j + 1) _ _ (by omega)
set_option maxRecDepth 100000 in
set_option maxHeartbeats 2000000 in
theorem y_weeks {n : Nat} {s : Nat → Nat → Int32} {t : Nat → Nat → Int64} (hb : wi (nI n) 1 60 = true) (hn : n < 2 ^ 31) : Wm 155 [.ref 51, .int (nI n)] (mk (yS s) t) (EY t (some (.int 0))) := by
  refine Wm.of pT_155 (Nat.le_of_ble_eq_true rfl) (L0 := [some (.ref 51), some (.int (nI n)), none]) rfl ?_
  refine w_li rfl rfl ?_
  refine w_ci rfl ?_
  refine w_ci rfl ?_
  refine w_st3r pl_sub_c rfl (Nat.le_of_ble_eq_true rfl) (m_in) ?_
  refine w_if_ne rfl (fun c7_0 => ?_) (fun c7_0 => absurd (b2t hb) c7_0)
  refine w_ci rfl ?_
  refine w_si rfl (Nat.le_of_ble_eq_true rfl) rfl ?_
  rw [show (0 : Int32) = nI 0 from rfl]
  exact ly_weeks n 0 s t (by omega) hn

set_option maxRecDepth 100000 in
set_option maxHeartbeats 2000000 in
theorem y_poor {n : Nat} {s : Nat → Nat → Int32} {t : Nat → Nat → Int64} (hb : wi (nI n) 1 30 = true) (hn : n < 2 ^ 31) : Wm 160 [.ref 51, .int (nI n)] (mk (yS s) t) (EY t (some (.int 0))) := by
  refine Wm.of pT_160 (Nat.le_of_ble_eq_true rfl) (L0 := [some (.ref 51), some (.int (nI n)), none, none, none, none]) rfl ?_
  refine w_li rfl rfl ?_
  refine w_ci rfl ?_
  refine w_ci rfl ?_
  refine w_st3r pl_sub_c rfl (Nat.le_of_ble_eq_true rfl) (m_in) ?_
  refine w_if_ne rfl (fun c7_0 => ?_) (fun c7_0 => absurd (b2t hb) c7_0)
  refine w_la rfl rfl ?_
  refine w_gf rfl (mg_51 _ _) rfl ?_
  refine w_la rfl rfl ?_
  refine w_gf rfl (mg_51 _ _) rfl ?_
  refine w_st2 pl_sub_c rfl (Nat.le_of_ble_eq_true rfl) (y_move_52) (fun r2 h2 q => by obtain ⟨_, _, q⟩ := q; rw [q]; rfl) (fun r2 h2 q => ?_)
  obtain ⟨q1, s, q2⟩ := q
  rw [q1, q2]
  refine w_la rfl rfl ?_
  refine w_ci rfl ?_
  refine w_vi1 pl_sub_c rfl (mg_51 _ _) (Nat.le_of_ble_eq_true rfl) (y_wordsBehind) (fun r2 h2 q => by obtain ⟨_, _, q⟩ := q; rw [q]; rfl) (fun r2 h2 q => ?_)
  obtain ⟨q1, s, q2⟩ := q
  rw [q1, q2]
  refine w_si rfl (Nat.le_of_ble_eq_true rfl) rfl ?_
  refine w_la rfl rfl ?_
  refine w_gf rfl (mg_51 _ _) rfl ?_
  refine w_ci rfl ?_
  refine w_ia rfl (mr_52 _ _ _) (show ¬ (7 : Int32) < 0 from by decide) (ar_get (show (7 : Int32).toNatClampNeg < 56 from by decide)) ?_
  refine w_si rfl (Nat.le_of_ble_eq_true rfl) rfl ?_
  refine w_ci rfl ?_
  refine w_si rfl (Nat.le_of_ble_eq_true rfl) rfl ?_
  refine w_ci rfl ?_
  refine w_si rfl (Nat.le_of_ble_eq_true rfl) rfl ?_
  exact ly_poor n 0 _ s t (by omega) hn

set_option maxRecDepth 100000 in
set_option maxHeartbeats 2000000 in
theorem y_words {w : Int32} {s : Nat → Nat → Int32} {t : Nat → Nat → Int64} (hb : wi w 0 60 = true) : Wm 163 [.ref 51, .int w] (mk (yS s) t) (EY t (some (.int 0))) := by
  refine Wm.of pT_163 (Nat.le_of_ble_eq_true rfl) (L0 := [some (.ref 51), some (.int w)]) rfl ?_
  refine w_li rfl rfl ?_
  refine w_ci rfl ?_
  refine w_ci rfl ?_
  refine w_st3r pl_sub_c rfl (Nat.le_of_ble_eq_true rfl) (m_in) ?_
  refine w_if_ne rfl (fun c7_0 => ?_) (fun c7_0 => absurd (b2t hb) c7_0)
  refine w_la rfl rfl ?_
  refine w_gf rfl (mg_51 _ _) rfl ?_
  refine w_la rfl rfl ?_
  refine w_gf rfl (mg_51 _ _) rfl ?_
  refine w_st2 pl_sub_c rfl (Nat.le_of_ble_eq_true rfl) (y_move_52) (fun r2 h2 q => by obtain ⟨_, _, q⟩ := q; rw [q]; rfl) (fun r2 h2 q => ?_)
  obtain ⟨q1, s, q2⟩ := q
  rw [q1, q2]
  refine w_la rfl rfl ?_
  refine w_li rfl rfl ?_
  refine w_vi1 pl_sub_c rfl (mg_51 _ _) (Nat.le_of_ble_eq_true rfl) (y_wordsBehind) (fun r2 h2 q => by obtain ⟨_, _, q⟩ := q; rw [q]; rfl) (fun r2 h2 q => ?_)
  obtain ⟨q1, s, q2⟩ := q
  rw [q1, q2]
  refine w_ri rfl ?_
  exact ⟨by first | rfl | decide, _, rfl⟩

set_option maxRecDepth 100000 in
set_option maxHeartbeats 2000000 in
theorem y_needed {w : Int32} {s : Nat → Nat → Int32} {t : Nat → Nat → Int64} (hb : wi w 1 20 = true) : Wm 169 [.ref 51, .int w] (mk (yS s) t) (EY t (some (.int (-3)))) := by
  refine Wm.of pT_169 (Nat.le_of_ble_eq_true rfl) (L0 := [some (.ref 51), some (.int w), none, none, none, none]) rfl ?_
  refine w_li rfl rfl ?_
  refine w_ci rfl ?_
  refine w_ci rfl ?_
  refine w_st3r pl_sub_c rfl (Nat.le_of_ble_eq_true rfl) (m_in) ?_
  refine w_if_ne rfl (fun c7_0 => ?_) (fun c7_0 => absurd (b2t hb) c7_0)
  refine w_la rfl rfl ?_
  refine w_gf rfl (mg_51 _ _) rfl ?_
  refine w_la rfl rfl ?_
  refine w_gf rfl (mg_51 _ _) rfl ?_
  refine w_st2 pl_sub_c rfl (Nat.le_of_ble_eq_true rfl) (y_move_52) (fun r2 h2 q => by obtain ⟨_, _, q⟩ := q; rw [q]; rfl) (fun r2 h2 q => ?_)
  obtain ⟨q1, s, q2⟩ := q
  rw [q1, q2]
  refine w_ci rfl ?_
  refine w_si rfl (Nat.le_of_ble_eq_true rfl) rfl ?_
  refine w_la rfl rfl ?_
  refine w_li rfl rfl ?_
  refine w_vi1 pl_sub_c rfl (mg_51 _ _) (Nat.le_of_ble_eq_true rfl) (y_wordsBehind) (fun r2 h2 q => by obtain ⟨_, _, q⟩ := q; rw [q]; rfl) (fun r2 h2 q => ?_)
  obtain ⟨q1, s, q2⟩ := q
  rw [q1, q2]
  refine w_si rfl (Nat.le_of_ble_eq_true rfl) rfl ?_
  refine w_ci rfl ?_
  refine w_si rfl (Nat.le_of_ble_eq_true rfl) rfl ?_
  refine w_li rfl rfl ?_
  refine w_la rfl rfl ?_
  refine w_gf rfl (mg_51 _ _) rfl ?_
  refine w_ci rfl ?_
  refine w_ia rfl (mr_52 _ _ _) (show ¬ (6 : Int32) < 0 from by decide) (ar_get (show (6 : Int32).toNatClampNeg < 56 from by decide)) ?_
  refine w_ic_ge rfl (fun c44_0 => ?_) (fun c44_0 => absurd (show (0 : Int32) ≤ 0 from by decide) c44_0)
  refine w_la rfl rfl ?_
  refine w_ci rfl ?_
  refine w_pf rfl rfl (mg_51 _ _) (Nat.le_of_ble_eq_true rfl) (ms_51_5 _ _ _) ?_
  rw [yS_up (by decide)]
  refine w_li rfl rfl ?_
  refine w_ri rfl ?_
  exact ⟨by first | rfl | decide, _, rfl⟩

set_option maxRecDepth 100000 in
set_option maxHeartbeats 2000000 in
theorem y_vanFor_0 {w : Int32} {s : Nat → Nat → Int32} {t : Nat → Nat → Int64} (hb : wi w 1 20 = true) : Wm 166 [.ref 51, .int w, .int 0] (mk (yS s) t) (EY t (some (.int 0))) := by
  refine Wm.of pT_166 (Nat.le_of_ble_eq_true rfl) (L0 := [some (.ref 51), some (.int w), some (.int 0), none, none]) rfl ?_
  refine w_li rfl rfl ?_
  refine w_ci rfl ?_
  refine w_ci rfl ?_
  refine w_st3r pl_sub_c rfl (Nat.le_of_ble_eq_true rfl) (m_in) ?_
  refine w_if_eq rfl (fun c7_0 => absurd c7_0 (b2t hb)) (fun c7_0 => ?_)
  refine w_li rfl rfl ?_
  refine w_ci rfl ?_
  refine w_ci rfl ?_
  refine w_st3r pl_sub_c rfl (Nat.le_of_ble_eq_true rfl) (m_in) ?_
  refine w_if_ne rfl (fun c18_0 => ?_) (fun c18_0 => absurd (b2t (show wi 0 0 9999 = true from by decide)) c18_0)
  refine w_la rfl rfl ?_
  refine w_gf rfl (mg_51 _ _) rfl ?_
  refine w_la rfl rfl ?_
  refine w_gf rfl (mg_51 _ _) rfl ?_
  refine w_st2 pl_sub_c rfl (Nat.le_of_ble_eq_true rfl) (y_move_52) (fun r2 h2 q => by obtain ⟨_, _, q⟩ := q; rw [q]; rfl) (fun r2 h2 q => ?_)
  obtain ⟨q1, s, q2⟩ := q
  rw [q1, q2]
  refine w_ci rfl ?_
  refine w_si rfl (Nat.le_of_ble_eq_true rfl) rfl ?_
  refine w_ci rfl ?_
  refine w_si rfl (Nat.le_of_ble_eq_true rfl) rfl ?_
  refine w_li rfl rfl ?_
  refine w_ci rfl ?_
  refine w_ic_ge rfl (fun c42_0 => absurd c42_0 (show ¬ ((9 : Int32) ≤ (-1)) from by decide)) (fun c42_0 => ?_)
  refine w_li rfl rfl ?_
  refine w_if_ne rfl (fun c47_0 => absurd c47_0 (show ¬ (¬ (0 : Int32) = 0) from by decide)) (fun c47_0 => ?_)
  refine w_inc rfl rfl rfl ?_
  refine w_la rfl rfl ?_
  refine w_gf rfl (mg_51 _ _) rfl ?_
  refine w_ci rfl ?_
  refine w_li rfl rfl ?_
  refine w_is rfl (mg_52 _ _) (show ¬ (0 : Int32) < 0 from by decide) (by rw [ar_len]; exact (show (0 : Int32).toNatClampNeg < 56 from by decide)) (ms_52 _ _ _ _) ?_
  rw [yS_up (by decide)]
  refine w_la rfl rfl ?_
  refine w_li rfl rfl ?_
  refine w_vi1 pl_sub_c rfl (mg_51 _ _) (Nat.le_of_ble_eq_true rfl) (y_wordsBehind) (fun r2 h2 q => by obtain ⟨_, _, q⟩ := q; rw [q]; rfl) (fun r2 h2 q => ?_)
  obtain ⟨q1, s, q2⟩ := q
  rw [q1, q2]
  refine w_li rfl rfl ?_
  refine w_ic_lt rfl (fun c66_0 => absurd c66_0 (show ¬ ((0 : Int32) < 0) from by decide)) (fun c66_0 => ?_)
  refine w_ci rfl ?_
  refine w_go rfl ?_
  refine w_si rfl (Nat.le_of_ble_eq_true rfl) rfl ?_
  refine w_go rfl ?_
  refine w_li rfl rfl ?_
  refine w_ci rfl ?_
  refine w_ic_ge rfl (fun c42_0 => absurd c42_0 (show ¬ ((9 : Int32) ≤ 0) from by decide)) (fun c42_0 => ?_)
  refine w_li rfl rfl ?_
  refine w_if_ne rfl (fun c47_0 => ?_) (fun c47_0 => absurd (show ¬ (1 : Int32) = 0 from by decide) c47_0)
  refine w_li rfl rfl ?_
  refine w_if_eq rfl (fun c81_0 => absurd c81_0 (show ¬ ((1 : Int32) = 0) from by decide)) (fun c81_0 => ?_)
  refine w_li rfl rfl ?_
  refine w_go rfl ?_
  refine w_ri rfl ?_
  exact ⟨by first | rfl | decide, _, rfl⟩

set_option maxRecDepth 100000 in
set_option maxHeartbeats 2000000 in
theorem y_vanFor_p {w v : Int32} {s : Nat → Nat → Int32} {t : Nat → Nat → Int64} (hb : wi w 1 20 = true) (hv : wi v 0 9999 = true) (hp : 0 < v) : Wm 166 [.ref 51, .int w, .int v] (mk (yS s) t) (EY t (some (.int (-3)))) := by
  refine Wm.of pT_166 (Nat.le_of_ble_eq_true rfl) (L0 := [some (.ref 51), some (.int w), some (.int v), none, none]) rfl ?_
  refine w_li rfl rfl ?_
  refine w_ci rfl ?_
  refine w_ci rfl ?_
  refine w_st3r pl_sub_c rfl (Nat.le_of_ble_eq_true rfl) (m_in) ?_
  refine w_if_eq rfl (fun c7_0 => absurd c7_0 (b2t hb)) (fun c7_0 => ?_)
  refine w_li rfl rfl ?_
  refine w_ci rfl ?_
  refine w_ci rfl ?_
  refine w_st3r pl_sub_c rfl (Nat.le_of_ble_eq_true rfl) (m_in) ?_
  refine w_if_ne rfl (fun c18_0 => ?_) (fun c18_0 => absurd (b2t hv) c18_0)
  refine w_la rfl rfl ?_
  refine w_gf rfl (mg_51 _ _) rfl ?_
  refine w_la rfl rfl ?_
  refine w_gf rfl (mg_51 _ _) rfl ?_
  refine w_st2 pl_sub_c rfl (Nat.le_of_ble_eq_true rfl) (y_move_52) (fun r2 h2 q => by obtain ⟨_, _, q⟩ := q; rw [q]; rfl) (fun r2 h2 q => ?_)
  obtain ⟨q1, s, q2⟩ := q
  rw [q1, q2]
  refine w_ci rfl ?_
  refine w_si rfl (Nat.le_of_ble_eq_true rfl) rfl ?_
  refine w_ci rfl ?_
  refine w_si rfl (Nat.le_of_ble_eq_true rfl) rfl ?_
  rw [show (-1 : Int32) = nI 0 - 1 from rfl]
  exact ly_vanFor hp 10 0 s t (by omega)

set_option maxRecDepth 100000 in
set_option maxHeartbeats 2000000 in
theorem y_fewest_0 {w : Int32} {s : Nat → Nat → Int32} {t : Nat → Nat → Int64} (hb : wi w 1 10 = true) : Wm 170 [.ref 51, .int w, .int 0] (mk (yS s) t) (EY t (some (.int 0))) := by
  refine Wm.of pT_170 (Nat.le_of_ble_eq_true rfl) (L0 := [some (.ref 51), some (.int w), some (.int 0), none, none, none]) rfl ?_
  refine w_li rfl rfl ?_
  refine w_ci rfl ?_
  refine w_ci rfl ?_
  refine w_st3r pl_sub_c rfl (Nat.le_of_ble_eq_true rfl) (m_in) ?_
  refine w_if_eq rfl (fun c7_0 => absurd c7_0 (b2t hb)) (fun c7_0 => ?_)
  refine w_li rfl rfl ?_
  refine w_ci rfl ?_
  refine w_ci rfl ?_
  refine w_st3r pl_sub_c rfl (Nat.le_of_ble_eq_true rfl) (m_in) ?_
  refine w_if_ne rfl (fun c18_0 => ?_) (fun c18_0 => absurd (b2t (show wi 0 0 9999 = true from by decide)) c18_0)
  refine w_la rfl rfl ?_
  refine w_gf rfl (mg_51 _ _) rfl ?_
  refine w_la rfl rfl ?_
  refine w_gf rfl (mg_51 _ _) rfl ?_
  refine w_st2 pl_sub_c rfl (Nat.le_of_ble_eq_true rfl) (y_move_52) (fun r2 h2 q => by obtain ⟨_, _, q⟩ := q; rw [q]; rfl) (fun r2 h2 q => ?_)
  obtain ⟨q1, s, q2⟩ := q
  rw [q1, q2]
  refine w_ci rfl ?_
  refine w_si rfl (Nat.le_of_ble_eq_true rfl) rfl ?_
  refine w_ci rfl ?_
  refine w_la rfl rfl ?_
  refine w_gf rfl (mg_51 _ _) rfl ?_
  refine w_ci rfl ?_
  refine w_ia rfl (mr_52 _ _ _) (show ¬ (6 : Int32) < 0 from by decide) (ar_get (show (6 : Int32).toNatClampNeg < 56 from by decide)) ?_
  refine w_ishl rfl ?_
  refine w_ci rfl ?_
  refine w_isub rfl ?_
  rw [show (1 : Int32) <<< (yS s 52 (Int32.toNatClampNeg 6) &&& 31) - 1 = 0 from by rw [show yS s 52 (Int32.toNatClampNeg 6) = 0 from rfl]; decide]
  refine w_si rfl (Nat.le_of_ble_eq_true rfl) rfl ?_
  refine w_ci rfl ?_
  refine w_si rfl (Nat.le_of_ble_eq_true rfl) rfl ?_
  refine w_li rfl rfl ?_
  refine w_li rfl rfl ?_
  refine w_ic_gt rfl (fun c56_0 => absurd c56_0 (show ¬ ((0 : Int32) < 0) from by decide)) (fun c56_0 => ?_)
  refine w_li rfl rfl ?_
  refine w_if_lt rfl (fun c60_0 => ?_) (fun c60_0 => absurd (show ((-1) : Int32) < 0 from by decide) c60_0)
  refine w_la rfl rfl ?_
  refine w_li rfl rfl ?_
  refine w_li rfl rfl ?_
  refine w_ci rfl ?_
  refine w_ixor rfl ?_
  refine w_iand rfl ?_
  refine w_pf rfl rfl (mg_51 _ _) (Nat.le_of_ble_eq_true rfl) (ms_51_5 _ _ _) ?_
  rw [yS_up (by decide)]
  refine w_la rfl rfl ?_
  refine w_li rfl rfl ?_
  refine w_vi1 pl_sub_c rfl (mg_51 _ _) (Nat.le_of_ble_eq_true rfl) (y_wordsBehind) (fun r2 h2 q => by obtain ⟨_, _, q⟩ := q; rw [q]; rfl) (fun r2 h2 q => ?_)
  obtain ⟨q1, s, q2⟩ := q
  rw [q1, q2]
  refine w_li rfl rfl ?_
  refine w_ic_lt rfl (fun c92_0 => absurd c92_0 (show ¬ ((0 : Int32) < 0) from by decide)) (fun c92_0 => ?_)
  refine w_li rfl rfl ?_
  refine w_go rfl ?_
  refine w_si rfl (Nat.le_of_ble_eq_true rfl) rfl ?_
  refine w_inc rfl rfl rfl ?_
  refine w_go rfl ?_
  refine w_li rfl rfl ?_
  refine w_li rfl rfl ?_
  refine w_ic_gt rfl (fun c56_0 => ?_) (fun c56_0 => absurd (show (0 : Int32) < 1 from by decide) c56_0)
  refine w_la rfl rfl ?_
  refine w_ci rfl ?_
  refine w_pf rfl rfl (mg_51 _ _) (Nat.le_of_ble_eq_true rfl) (ms_51_5 _ _ _) ?_
  rw [yS_up (by decide)]
  refine w_li rfl rfl ?_
  refine w_if_ge rfl (fun c114_0 => ?_) (fun c114_0 => absurd (show (0 : Int32) ≤ 0 from by decide) c114_0)
  refine w_li rfl rfl ?_
  refine w_ri rfl ?_
  exact ⟨by first | rfl | decide, _, rfl⟩

set_option maxRecDepth 100000 in
set_option maxHeartbeats 2000000 in
theorem y_fewest_p {w v : Int32} {s : Nat → Nat → Int32} {t : Nat → Nat → Int64} (hb : wi w 1 10 = true) (hv : wi v 0 9999 = true) (hp : 0 < v) : Wm 170 [.ref 51, .int w, .int v] (mk (yS s) t) (EY t (some (.int (-3)))) := by
  refine Wm.of pT_170 (Nat.le_of_ble_eq_true rfl) (L0 := [some (.ref 51), some (.int w), some (.int v), none, none, none]) rfl ?_
  refine w_li rfl rfl ?_
  refine w_ci rfl ?_
  refine w_ci rfl ?_
  refine w_st3r pl_sub_c rfl (Nat.le_of_ble_eq_true rfl) (m_in) ?_
  refine w_if_eq rfl (fun c7_0 => absurd c7_0 (b2t hb)) (fun c7_0 => ?_)
  refine w_li rfl rfl ?_
  refine w_ci rfl ?_
  refine w_ci rfl ?_
  refine w_st3r pl_sub_c rfl (Nat.le_of_ble_eq_true rfl) (m_in) ?_
  refine w_if_ne rfl (fun c18_0 => ?_) (fun c18_0 => absurd (b2t hv) c18_0)
  refine w_la rfl rfl ?_
  refine w_gf rfl (mg_51 _ _) rfl ?_
  refine w_la rfl rfl ?_
  refine w_gf rfl (mg_51 _ _) rfl ?_
  refine w_st2 pl_sub_c rfl (Nat.le_of_ble_eq_true rfl) (y_move_52) (fun r2 h2 q => by obtain ⟨_, _, q⟩ := q; rw [q]; rfl) (fun r2 h2 q => ?_)
  obtain ⟨q1, s, q2⟩ := q
  rw [q1, q2]
  refine w_ci rfl ?_
  refine w_si rfl (Nat.le_of_ble_eq_true rfl) rfl ?_
  refine w_ci rfl ?_
  refine w_la rfl rfl ?_
  refine w_gf rfl (mg_51 _ _) rfl ?_
  refine w_ci rfl ?_
  refine w_ia rfl (mr_52 _ _ _) (show ¬ (6 : Int32) < 0 from by decide) (ar_get (show (6 : Int32).toNatClampNeg < 56 from by decide)) ?_
  refine w_ishl rfl ?_
  refine w_ci rfl ?_
  refine w_isub rfl ?_
  rw [show (1 : Int32) <<< (yS s 52 (Int32.toNatClampNeg 6) &&& 31) - 1 = 0 from by rw [show yS s 52 (Int32.toNatClampNeg 6) = 0 from rfl]; decide]
  refine w_si rfl (Nat.le_of_ble_eq_true rfl) rfl ?_
  refine w_ci rfl ?_
  refine w_si rfl (Nat.le_of_ble_eq_true rfl) rfl ?_
  refine w_li rfl rfl ?_
  refine w_li rfl rfl ?_
  refine w_ic_gt rfl (fun c56_0 => absurd c56_0 (show ¬ ((0 : Int32) < 0) from by decide)) (fun c56_0 => ?_)
  refine w_li rfl rfl ?_
  refine w_if_lt rfl (fun c60_0 => ?_) (fun c60_0 => absurd (show ((-1) : Int32) < 0 from by decide) c60_0)
  refine w_la rfl rfl ?_
  refine w_li rfl rfl ?_
  refine w_li rfl rfl ?_
  refine w_ci rfl ?_
  refine w_ixor rfl ?_
  refine w_iand rfl ?_
  refine w_pf rfl rfl (mg_51 _ _) (Nat.le_of_ble_eq_true rfl) (ms_51_5 _ _ _) ?_
  rw [yS_up (by decide)]
  refine w_la rfl rfl ?_
  refine w_li rfl rfl ?_
  refine w_vi1 pl_sub_c rfl (mg_51 _ _) (Nat.le_of_ble_eq_true rfl) (y_wordsBehind) (fun r2 h2 q => by obtain ⟨_, _, q⟩ := q; rw [q]; rfl) (fun r2 h2 q => ?_)
  obtain ⟨q1, s, q2⟩ := q
  rw [q1, q2]
  refine w_li rfl rfl ?_
  refine w_ic_lt rfl (fun c92_0 => ?_) (fun c92_0 => absurd (hp) c92_0)
  refine w_li rfl rfl ?_
  refine w_si rfl (Nat.le_of_ble_eq_true rfl) rfl ?_
  refine w_inc rfl rfl rfl ?_
  refine w_go rfl ?_
  refine w_li rfl rfl ?_
  refine w_li rfl rfl ?_
  refine w_ic_gt rfl (fun c56_0 => ?_) (fun c56_0 => absurd (show (0 : Int32) < 1 from by decide) c56_0)
  refine w_la rfl rfl ?_
  refine w_ci rfl ?_
  refine w_pf rfl rfl (mg_51 _ _) (Nat.le_of_ble_eq_true rfl) (ms_51_5 _ _ _) ?_
  rw [yS_up (by decide)]
  refine w_li rfl rfl ?_
  refine w_if_ge rfl (fun c114_0 => absurd c114_0 (show ¬ ((0 : Int32) ≤ (-1)) from by decide)) (fun c114_0 => ?_)
  refine w_ci rfl ?_
  refine w_go rfl ?_
  refine w_ri rfl ?_
  exact ⟨by first | rfl | decide, _, rfl⟩

theorem Bth.yz {k5 k6 : Nat} {as : List Value} {v : Value} (h5 : ∀ s t, Wm k5 (.ref 0 :: as) (mk (zS s) t) (EZ t (some v))) (h6 : ∀ s t, Wm k6 (.ref 51 :: as) (mk (yS s) t) (EY t (some v))) (hk : kd k5 v = true := by rfl) : Bth k5 k6 as := by
  refine Bth.of (v := v) ?_ (fun s t => ?_) hk
  · rw [show mk s0 t0 = mk (zS s0) t0 from congrArg (fun s => mk s t0) s0_z]
    exact (h5 s0 t0).mono (fun r h q => q.pc)
  · rw [show mk (mS s) (mT t) = mk (yS (mS s)) (mT t) from congrArg (fun s => mk s (mT t)) (mS_y s)]
    exact (h6 _ _).mono (fun r h q => q.pm)
set_option maxRecDepth 100000 in
set_option maxHeartbeats 2000000 in
theorem c_weeks_out {w : Int32} (hx : wi w 1 60 = false) : Wm 63 [.ref 0, .int w] (mk s0 t0) (Pc (.int (-1))) := by
  refine Wm.of pT_63 (Nat.le_of_ble_eq_true rfl) (L0 := [some (.ref 0), some (.int w), none]) rfl ?_
  refine w_li rfl rfl ?_
  refine w_ci rfl ?_
  refine w_ci rfl ?_
  refine w_st3r pl_sub_c rfl (Nat.le_of_ble_eq_true rfl) (r_isWithin) ?_
  refine w_if_ne rfl (fun c7_0 => ?_) (fun c7_0 => ?_)
  · skip
    replace c7_0 := b2_n c7_0
    exact absurd (hx.symm.trans c7_0) (by decide)
  · skip
    replace c7_0 := b2_0 (Decidable.of_not_not c7_0)
    refine w_ci rfl ?_
    refine w_ri rfl ?_
    exact ⟨by first | rfl | (simp_all; done) | (simp_all; rfl) | (simp_all [up2_s]; done) | (simp_all [up2_s]; decide) | decide, _, _, rfl, by repeat (first | exact Mod0 | refine Mod.up ?_ (Nat.le_of_ble_eq_true rfl) | refine Mod.upl ?_ (Nat.le_of_ble_eq_true rfl))⟩

set_option maxRecDepth 100000 in
set_option maxHeartbeats 2000000 in
theorem d_weeks_out {w : Int32} (hx : wi w 1 60 = false) (s : Nat → Nat → Int32) (t : Nat → Nat → Int64) : Wm 155 [.ref 51, .int w] (mk (mS s) (mT t)) (Pm (.int (-1))) := by
  refine Wm.of pT_155 (Nat.le_of_ble_eq_true rfl) (L0 := [some (.ref 51), some (.int w), none]) rfl ?_
  refine w_li rfl rfl ?_
  refine w_ci rfl ?_
  refine w_ci rfl ?_
  refine w_st3r pl_sub_c rfl (Nat.le_of_ble_eq_true rfl) (m_in) ?_
  refine w_if_ne rfl (fun c7_0 => ?_) (fun c7_0 => ?_)
  · skip
    replace c7_0 := b2_n c7_0
    exact absurd (hx.symm.trans c7_0) (by decide)
  · skip
    replace c7_0 := b2_0 (Decidable.of_not_not c7_0)
    refine w_ci rfl ?_
    refine w_ri rfl ?_
    exact ⟨by first | rfl | (simp_all; done) | (simp_all; rfl) | decide, _, _, rfl⟩

theorem b_weeks_out {w : Int32} (hx : wi w 1 60 = false) : Bth 63 155 [.int w] := Bth.of (c_weeks_out hx) (fun s t => d_weeks_out hx s t)
set_option maxRecDepth 100000 in
set_option maxHeartbeats 2000000 in
theorem c_poor_out {w : Int32} (hx : wi w 1 30 = false) : Wm 66 [.ref 0, .int w] (mk s0 t0) (Pc (.int (-1))) := by
  refine Wm.of pT_66 (Nat.le_of_ble_eq_true rfl) (L0 := [some (.ref 0), some (.int w), none, none, none, none, none]) rfl ?_
  refine w_li rfl rfl ?_
  refine w_ci rfl ?_
  refine w_ci rfl ?_
  refine w_st3r pl_sub_c rfl (Nat.le_of_ble_eq_true rfl) (r_isWithin) ?_
  refine w_if_ne rfl (fun c7_0 => ?_) (fun c7_0 => ?_)
  · skip
    replace c7_0 := b2_n c7_0
    exact absurd (hx.symm.trans c7_0) (by decide)
  · skip
    replace c7_0 := b2_0 (Decidable.of_not_not c7_0)
    refine w_ci rfl ?_
    refine w_ri rfl ?_
    exact ⟨by first | rfl | (simp_all; done) | (simp_all; rfl) | (simp_all [up2_s]; done) | (simp_all [up2_s]; decide) | decide, _, _, rfl, by repeat (first | exact Mod0 | refine Mod.up ?_ (Nat.le_of_ble_eq_true rfl) | refine Mod.upl ?_ (Nat.le_of_ble_eq_true rfl))⟩

set_option maxRecDepth 100000 in
set_option maxHeartbeats 2000000 in
theorem d_poor_out {w : Int32} (hx : wi w 1 30 = false) (s : Nat → Nat → Int32) (t : Nat → Nat → Int64) : Wm 160 [.ref 51, .int w] (mk (mS s) (mT t)) (Pm (.int (-1))) := by
  refine Wm.of pT_160 (Nat.le_of_ble_eq_true rfl) (L0 := [some (.ref 51), some (.int w), none, none, none, none]) rfl ?_
  refine w_li rfl rfl ?_
  refine w_ci rfl ?_
  refine w_ci rfl ?_
  refine w_st3r pl_sub_c rfl (Nat.le_of_ble_eq_true rfl) (m_in) ?_
  refine w_if_ne rfl (fun c7_0 => ?_) (fun c7_0 => ?_)
  · skip
    replace c7_0 := b2_n c7_0
    exact absurd (hx.symm.trans c7_0) (by decide)
  · skip
    replace c7_0 := b2_0 (Decidable.of_not_not c7_0)
    refine w_ci rfl ?_
    refine w_ri rfl ?_
    exact ⟨by first | rfl | (simp_all; done) | (simp_all; rfl) | decide, _, _, rfl⟩

theorem b_poor_out {w : Int32} (hx : wi w 1 30 = false) : Bth 66 160 [.int w] := Bth.of (c_poor_out hx) (fun s t => d_poor_out hx s t)
set_option maxRecDepth 100000 in
set_option maxHeartbeats 2000000 in
theorem c_words_out {w : Int32} (hx : wi w 0 60 = false) : Wm 68 [.ref 0, .int w] (mk s0 t0) (Pc (.int (-1))) := by
  refine Wm.of pT_68 (Nat.le_of_ble_eq_true rfl) (L0 := [some (.ref 0), some (.int w)]) rfl ?_
  refine w_li rfl rfl ?_
  refine w_ci rfl ?_
  refine w_ci rfl ?_
  refine w_st3r pl_sub_c rfl (Nat.le_of_ble_eq_true rfl) (r_isWithin) ?_
  refine w_if_eq rfl (fun c7_0 => ?_) (fun c7_0 => ?_)
  · skip
    replace c7_0 := b2_0 c7_0
    refine w_ci rfl ?_
    refine w_ri rfl ?_
    exact ⟨by first | rfl | (simp_all; done) | (simp_all; rfl) | (simp_all [up2_s]; done) | (simp_all [up2_s]; decide) | decide, _, _, rfl, by repeat (first | exact Mod0 | refine Mod.up ?_ (Nat.le_of_ble_eq_true rfl) | refine Mod.upl ?_ (Nat.le_of_ble_eq_true rfl))⟩
  · skip
    replace c7_0 := b2_n c7_0
    exact absurd (hx.symm.trans c7_0) (by decide)

set_option maxRecDepth 100000 in
set_option maxHeartbeats 2000000 in
theorem d_words_out {w : Int32} (hx : wi w 0 60 = false) (s : Nat → Nat → Int32) (t : Nat → Nat → Int64) : Wm 163 [.ref 51, .int w] (mk (mS s) (mT t)) (Pm (.int (-1))) := by
  refine Wm.of pT_163 (Nat.le_of_ble_eq_true rfl) (L0 := [some (.ref 51), some (.int w)]) rfl ?_
  refine w_li rfl rfl ?_
  refine w_ci rfl ?_
  refine w_ci rfl ?_
  refine w_st3r pl_sub_c rfl (Nat.le_of_ble_eq_true rfl) (m_in) ?_
  refine w_if_ne rfl (fun c7_0 => ?_) (fun c7_0 => ?_)
  · skip
    replace c7_0 := b2_n c7_0
    exact absurd (hx.symm.trans c7_0) (by decide)
  · skip
    replace c7_0 := b2_0 (Decidable.of_not_not c7_0)
    refine w_ci rfl ?_
    refine w_ri rfl ?_
    exact ⟨by first | rfl | (simp_all; done) | (simp_all; rfl) | decide, _, _, rfl⟩

theorem b_words_out {w : Int32} (hx : wi w 0 60 = false) : Bth 68 163 [.int w] := Bth.of (c_words_out hx) (fun s t => d_words_out hx s t)
set_option maxRecDepth 100000 in
set_option maxHeartbeats 2000000 in
theorem c_needed_out {w : Int32} (hx : wi w 1 20 = false) : Wm 74 [.ref 0, .int w] (mk s0 t0) (Pc (.int (-1))) := by
  refine Wm.of pT_74 (Nat.le_of_ble_eq_true rfl) (L0 := [some (.ref 0), some (.int w), none, none, none, none]) rfl ?_
  refine w_li rfl rfl ?_
  refine w_ci rfl ?_
  refine w_ci rfl ?_
  refine w_st3r pl_sub_c rfl (Nat.le_of_ble_eq_true rfl) (r_isWithin) ?_
  refine w_if_ne rfl (fun c7_0 => ?_) (fun c7_0 => ?_)
  · skip
    replace c7_0 := b2_n c7_0
    exact absurd (hx.symm.trans c7_0) (by decide)
  · skip
    replace c7_0 := b2_0 (Decidable.of_not_not c7_0)
    refine w_ci rfl ?_
    refine w_ri rfl ?_
    exact ⟨by first | rfl | (simp_all; done) | (simp_all; rfl) | (simp_all [up2_s]; done) | (simp_all [up2_s]; decide) | decide, _, _, rfl, by repeat (first | exact Mod0 | refine Mod.up ?_ (Nat.le_of_ble_eq_true rfl) | refine Mod.upl ?_ (Nat.le_of_ble_eq_true rfl))⟩

set_option maxRecDepth 100000 in
set_option maxHeartbeats 2000000 in
theorem d_needed_out {w : Int32} (hx : wi w 1 20 = false) (s : Nat → Nat → Int32) (t : Nat → Nat → Int64) : Wm 169 [.ref 51, .int w] (mk (mS s) (mT t)) (Pm (.int (-1))) := by
  refine Wm.of pT_169 (Nat.le_of_ble_eq_true rfl) (L0 := [some (.ref 51), some (.int w), none, none, none, none]) rfl ?_
  refine w_li rfl rfl ?_
  refine w_ci rfl ?_
  refine w_ci rfl ?_
  refine w_st3r pl_sub_c rfl (Nat.le_of_ble_eq_true rfl) (m_in) ?_
  refine w_if_ne rfl (fun c7_0 => ?_) (fun c7_0 => ?_)
  · skip
    replace c7_0 := b2_n c7_0
    exact absurd (hx.symm.trans c7_0) (by decide)
  · skip
    replace c7_0 := b2_0 (Decidable.of_not_not c7_0)
    refine w_ci rfl ?_
    refine w_ri rfl ?_
    exact ⟨by first | rfl | (simp_all; done) | (simp_all; rfl) | decide, _, _, rfl⟩

theorem b_needed_out {w : Int32} (hx : wi w 1 20 = false) : Bth 74 169 [.int w] := Bth.of (c_needed_out hx) (fun s t => d_needed_out hx s t)
theorem B_weeks (w : Int32) : Bth 63 155 [.int w] := by
  rcases tf (wi w 1 60) with h | h
  · obtain ⟨n, hn, rfl⟩ := nn1 h
    exact Bth.yz (fun s t => z_weeks h hn) (fun s t => y_weeks h hn)
  · exact b_weeks_out h
theorem B_poor (w : Int32) : Bth 66 160 [.int w] := by
  rcases tf (wi w 1 30) with h | h
  · obtain ⟨n, hn, rfl⟩ := nn1 h
    exact Bth.yz (fun s t => z_poor h hn) (fun s t => y_poor h hn)
  · exact b_poor_out h
theorem B_words (w : Int32) : Bth 68 163 [.int w] := by
  rcases tf (wi w 0 60) with h | h
  · exact Bth.yz (fun s t => z_words h) (fun s t => y_words h)
  · exact b_words_out h
theorem B_needed (w : Int32) : Bth 74 169 [.int w] := by
  rcases tf (wi w 1 20) with h | h
  · exact Bth.yz (fun s t => z_needed h) (fun s t => y_needed h)
  · exact b_needed_out h
set_option maxRecDepth 100000 in
set_option maxHeartbeats 2000000 in
theorem c_vanFor_out {w v : Int32} (hx : wi w 1 20 = false) : Wm 71 [.ref 0, .int w, .int v] (mk s0 t0) (Pc (.int (-1))) := by
  refine Wm.of pT_71 (Nat.le_of_ble_eq_true rfl) (L0 := [some (.ref 0), some (.int w), some (.int v), none, none]) rfl ?_
  refine w_li rfl rfl ?_
  refine w_ci rfl ?_
  refine w_ci rfl ?_
  refine w_st3r pl_sub_c rfl (Nat.le_of_ble_eq_true rfl) (r_isWithin) ?_
  refine w_if_eq rfl (fun c7_0 => ?_) (fun c7_0 => ?_)
  · skip
    replace c7_0 := b2_0 c7_0
    refine w_ci rfl ?_
    refine w_ri rfl ?_
    exact ⟨by first | rfl | (simp_all; done) | (simp_all; rfl) | (simp_all [up2_s]; done) | (simp_all [up2_s]; decide) | decide, _, _, rfl, by repeat (first | exact Mod0 | refine Mod.up ?_ (Nat.le_of_ble_eq_true rfl) | refine Mod.upl ?_ (Nat.le_of_ble_eq_true rfl))⟩
  · skip
    replace c7_0 := b2_n c7_0
    exact absurd (hx.symm.trans c7_0) (by decide)

set_option maxRecDepth 100000 in
set_option maxHeartbeats 2000000 in
theorem d_vanFor_out {w v : Int32} (hx : wi w 1 20 = false) (s : Nat → Nat → Int32) (t : Nat → Nat → Int64) : Wm 166 [.ref 51, .int w, .int v] (mk (mS s) (mT t)) (Pm (.int (-1))) := by
  refine Wm.of pT_166 (Nat.le_of_ble_eq_true rfl) (L0 := [some (.ref 51), some (.int w), some (.int v), none, none]) rfl ?_
  refine w_li rfl rfl ?_
  refine w_ci rfl ?_
  refine w_ci rfl ?_
  refine w_st3r pl_sub_c rfl (Nat.le_of_ble_eq_true rfl) (m_in) ?_
  refine w_if_eq rfl (fun c7_0 => ?_) (fun c7_0 => ?_)
  · skip
    replace c7_0 := b2_0 c7_0
    refine w_ci rfl ?_
    refine w_ri rfl ?_
    exact ⟨by first | rfl | (simp_all; done) | (simp_all; rfl) | decide, _, _, rfl⟩
  · skip
    replace c7_0 := b2_n c7_0
    exact absurd (hx.symm.trans c7_0) (by decide)

theorem b_vanFor_out {w v : Int32} (hx : wi w 1 20 = false) : Bth 71 166 [.int w, .int v] := Bth.of (c_vanFor_out hx) (fun s t => d_vanFor_out hx s t)
set_option maxRecDepth 100000 in
set_option maxHeartbeats 2000000 in
theorem c_vanFor_ov {w v : Int32} (hb : wi w 1 20 = true) (hx : wi v 0 9999 = false) : Wm 71 [.ref 0, .int w, .int v] (mk s0 t0) (Pc (.int (-1))) := by
  refine Wm.of pT_71 (Nat.le_of_ble_eq_true rfl) (L0 := [some (.ref 0), some (.int w), some (.int v), none, none]) rfl ?_
  refine w_li rfl rfl ?_
  refine w_ci rfl ?_
  refine w_ci rfl ?_
  refine w_st3r pl_sub_c rfl (Nat.le_of_ble_eq_true rfl) (r_isWithin) ?_
  refine w_if_eq rfl (fun c7_0 => ?_) (fun c7_0 => ?_)
  · skip
    replace c7_0 := b2_0 c7_0
    refine w_ci rfl ?_
    refine w_ri rfl ?_
    exact ⟨by first | rfl | (simp_all; done) | (simp_all; rfl) | (simp_all [up2_s]; done) | (simp_all [up2_s]; decide) | decide, _, _, rfl, by repeat (first | exact Mod0 | refine Mod.up ?_ (Nat.le_of_ble_eq_true rfl) | refine Mod.upl ?_ (Nat.le_of_ble_eq_true rfl))⟩
  · skip
    replace c7_0 := b2_n c7_0
    refine w_li rfl rfl ?_
    refine w_ci rfl ?_
    refine w_ci rfl ?_
    refine w_st3r pl_sub_c rfl (Nat.le_of_ble_eq_true rfl) (r_isWithin) ?_
    refine w_if_ne rfl (fun c18_1 => ?_) (fun c18_1 => ?_)
    · skip
      replace c18_1 := b2_n c18_1
      exact absurd (hx.symm.trans c18_1) (by decide)
    · skip
      replace c18_1 := b2_0 (Decidable.of_not_not c18_1)
      refine w_ci rfl ?_
      refine w_ri rfl ?_
      exact ⟨by first | rfl | (simp_all; done) | (simp_all; rfl) | (simp_all [up2_s]; done) | (simp_all [up2_s]; decide) | decide, _, _, rfl, by repeat (first | exact Mod0 | refine Mod.up ?_ (Nat.le_of_ble_eq_true rfl) | refine Mod.upl ?_ (Nat.le_of_ble_eq_true rfl))⟩

set_option maxRecDepth 100000 in
set_option maxHeartbeats 2000000 in
theorem d_vanFor_ov {w v : Int32} (hb : wi w 1 20 = true) (hx : wi v 0 9999 = false) (s : Nat → Nat → Int32) (t : Nat → Nat → Int64) : Wm 166 [.ref 51, .int w, .int v] (mk (mS s) (mT t)) (Pm (.int (-1))) := by
  refine Wm.of pT_166 (Nat.le_of_ble_eq_true rfl) (L0 := [some (.ref 51), some (.int w), some (.int v), none, none]) rfl ?_
  refine w_li rfl rfl ?_
  refine w_ci rfl ?_
  refine w_ci rfl ?_
  refine w_st3r pl_sub_c rfl (Nat.le_of_ble_eq_true rfl) (m_in) ?_
  refine w_if_eq rfl (fun c7_0 => ?_) (fun c7_0 => ?_)
  · skip
    replace c7_0 := b2_0 c7_0
    refine w_ci rfl ?_
    refine w_ri rfl ?_
    exact ⟨by first | rfl | (simp_all; done) | (simp_all; rfl) | decide, _, _, rfl⟩
  · skip
    replace c7_0 := b2_n c7_0
    refine w_li rfl rfl ?_
    refine w_ci rfl ?_
    refine w_ci rfl ?_
    refine w_st3r pl_sub_c rfl (Nat.le_of_ble_eq_true rfl) (m_in) ?_
    refine w_if_ne rfl (fun c18_1 => ?_) (fun c18_1 => ?_)
    · skip
      replace c18_1 := b2_n c18_1
      exact absurd (hx.symm.trans c18_1) (by decide)
    · skip
      replace c18_1 := b2_0 (Decidable.of_not_not c18_1)
      refine w_ci rfl ?_
      refine w_ri rfl ?_
      exact ⟨by first | rfl | (simp_all; done) | (simp_all; rfl) | decide, _, _, rfl⟩

theorem b_vanFor_ov {w v : Int32} (hb : wi w 1 20 = true) (hx : wi v 0 9999 = false) : Bth 71 166 [.int w, .int v] := Bth.of (c_vanFor_ov hb hx) (fun s t => d_vanFor_ov hb hx s t)
theorem B_vanFor (w v : Int32) : Bth 71 166 [.int w, .int v] := by
  rcases tf (wi w 1 20) with h | h
  · rcases tf (wi v 0 9999) with h2 | h2
    · by_cases h0 : v = 0
      · subst h0
        exact Bth.yz (fun s t => z_vanFor_0 h) (fun s t => y_vanFor_0 h)
      · exact Bth.yz (fun s t => z_vanFor_p h h2 (v0p h2 h0)) (fun s t => y_vanFor_p h h2 (v0p h2 h0))
    · exact b_vanFor_ov h h2
  · exact b_vanFor_out h
set_option maxRecDepth 100000 in
set_option maxHeartbeats 2000000 in
theorem c_fewest_out {w v : Int32} (hx : wi w 1 10 = false) : Wm 75 [.ref 0, .int w, .int v] (mk s0 t0) (Pc (.int (-1))) := by
  refine Wm.of pT_75 (Nat.le_of_ble_eq_true rfl) (L0 := [some (.ref 0), some (.int w), some (.int v), none, none, none]) rfl ?_
  refine w_li rfl rfl ?_
  refine w_ci rfl ?_
  refine w_ci rfl ?_
  refine w_st3r pl_sub_c rfl (Nat.le_of_ble_eq_true rfl) (r_isWithin) ?_
  refine w_if_eq rfl (fun c7_0 => ?_) (fun c7_0 => ?_)
  · skip
    replace c7_0 := b2_0 c7_0
    refine w_ci rfl ?_
    refine w_ri rfl ?_
    exact ⟨by first | rfl | (simp_all; done) | (simp_all; rfl) | (simp_all [up2_s]; done) | (simp_all [up2_s]; decide) | decide, _, _, rfl, by repeat (first | exact Mod0 | refine Mod.up ?_ (Nat.le_of_ble_eq_true rfl) | refine Mod.upl ?_ (Nat.le_of_ble_eq_true rfl))⟩
  · skip
    replace c7_0 := b2_n c7_0
    exact absurd (hx.symm.trans c7_0) (by decide)

set_option maxRecDepth 100000 in
set_option maxHeartbeats 2000000 in
theorem d_fewest_out {w v : Int32} (hx : wi w 1 10 = false) (s : Nat → Nat → Int32) (t : Nat → Nat → Int64) : Wm 170 [.ref 51, .int w, .int v] (mk (mS s) (mT t)) (Pm (.int (-1))) := by
  refine Wm.of pT_170 (Nat.le_of_ble_eq_true rfl) (L0 := [some (.ref 51), some (.int w), some (.int v), none, none, none]) rfl ?_
  refine w_li rfl rfl ?_
  refine w_ci rfl ?_
  refine w_ci rfl ?_
  refine w_st3r pl_sub_c rfl (Nat.le_of_ble_eq_true rfl) (m_in) ?_
  refine w_if_eq rfl (fun c7_0 => ?_) (fun c7_0 => ?_)
  · skip
    replace c7_0 := b2_0 c7_0
    refine w_ci rfl ?_
    refine w_ri rfl ?_
    exact ⟨by first | rfl | (simp_all; done) | (simp_all; rfl) | decide, _, _, rfl⟩
  · skip
    replace c7_0 := b2_n c7_0
    exact absurd (hx.symm.trans c7_0) (by decide)

theorem b_fewest_out {w v : Int32} (hx : wi w 1 10 = false) : Bth 75 170 [.int w, .int v] := Bth.of (c_fewest_out hx) (fun s t => d_fewest_out hx s t)
set_option maxRecDepth 100000 in
set_option maxHeartbeats 2000000 in
theorem c_fewest_ov {w v : Int32} (hb : wi w 1 10 = true) (hx : wi v 0 9999 = false) : Wm 75 [.ref 0, .int w, .int v] (mk s0 t0) (Pc (.int (-1))) := by
  refine Wm.of pT_75 (Nat.le_of_ble_eq_true rfl) (L0 := [some (.ref 0), some (.int w), some (.int v), none, none, none]) rfl ?_
  refine w_li rfl rfl ?_
  refine w_ci rfl ?_
  refine w_ci rfl ?_
  refine w_st3r pl_sub_c rfl (Nat.le_of_ble_eq_true rfl) (r_isWithin) ?_
  refine w_if_eq rfl (fun c7_0 => ?_) (fun c7_0 => ?_)
  · skip
    replace c7_0 := b2_0 c7_0
    refine w_ci rfl ?_
    refine w_ri rfl ?_
    exact ⟨by first | rfl | (simp_all; done) | (simp_all; rfl) | (simp_all [up2_s]; done) | (simp_all [up2_s]; decide) | decide, _, _, rfl, by repeat (first | exact Mod0 | refine Mod.up ?_ (Nat.le_of_ble_eq_true rfl) | refine Mod.upl ?_ (Nat.le_of_ble_eq_true rfl))⟩
  · skip
    replace c7_0 := b2_n c7_0
    refine w_li rfl rfl ?_
    refine w_ci rfl ?_
    refine w_ci rfl ?_
    refine w_st3r pl_sub_c rfl (Nat.le_of_ble_eq_true rfl) (r_isWithin) ?_
    refine w_if_ne rfl (fun c18_1 => ?_) (fun c18_1 => ?_)
    · skip
      replace c18_1 := b2_n c18_1
      exact absurd (hx.symm.trans c18_1) (by decide)
    · skip
      replace c18_1 := b2_0 (Decidable.of_not_not c18_1)
      refine w_ci rfl ?_
      refine w_ri rfl ?_
      exact ⟨by first | rfl | (simp_all; done) | (simp_all; rfl) | (simp_all [up2_s]; done) | (simp_all [up2_s]; decide) | decide, _, _, rfl, by repeat (first | exact Mod0 | refine Mod.up ?_ (Nat.le_of_ble_eq_true rfl) | refine Mod.upl ?_ (Nat.le_of_ble_eq_true rfl))⟩

set_option maxRecDepth 100000 in
set_option maxHeartbeats 2000000 in
theorem d_fewest_ov {w v : Int32} (hb : wi w 1 10 = true) (hx : wi v 0 9999 = false) (s : Nat → Nat → Int32) (t : Nat → Nat → Int64) : Wm 170 [.ref 51, .int w, .int v] (mk (mS s) (mT t)) (Pm (.int (-1))) := by
  refine Wm.of pT_170 (Nat.le_of_ble_eq_true rfl) (L0 := [some (.ref 51), some (.int w), some (.int v), none, none, none]) rfl ?_
  refine w_li rfl rfl ?_
  refine w_ci rfl ?_
  refine w_ci rfl ?_
  refine w_st3r pl_sub_c rfl (Nat.le_of_ble_eq_true rfl) (m_in) ?_
  refine w_if_eq rfl (fun c7_0 => ?_) (fun c7_0 => ?_)
  · skip
    replace c7_0 := b2_0 c7_0
    refine w_ci rfl ?_
    refine w_ri rfl ?_
    exact ⟨by first | rfl | (simp_all; done) | (simp_all; rfl) | decide, _, _, rfl⟩
  · skip
    replace c7_0 := b2_n c7_0
    refine w_li rfl rfl ?_
    refine w_ci rfl ?_
    refine w_ci rfl ?_
    refine w_st3r pl_sub_c rfl (Nat.le_of_ble_eq_true rfl) (m_in) ?_
    refine w_if_ne rfl (fun c18_1 => ?_) (fun c18_1 => ?_)
    · skip
      replace c18_1 := b2_n c18_1
      exact absurd (hx.symm.trans c18_1) (by decide)
    · skip
      replace c18_1 := b2_0 (Decidable.of_not_not c18_1)
      refine w_ci rfl ?_
      refine w_ri rfl ?_
      exact ⟨by first | rfl | (simp_all; done) | (simp_all; rfl) | decide, _, _, rfl⟩

theorem b_fewest_ov {w v : Int32} (hb : wi w 1 10 = true) (hx : wi v 0 9999 = false) : Bth 75 170 [.int w, .int v] := Bth.of (c_fewest_ov hb hx) (fun s t => d_fewest_ov hb hx s t)
theorem B_fewest (w v : Int32) : Bth 75 170 [.int w, .int v] := by
  rcases tf (wi w 1 10) with h | h
  · rcases tf (wi v 0 9999) with h2 | h2
    · by_cases h0 : v = 0
      · subst h0
        exact Bth.yz (fun s t => z_fewest_0 h) (fun s t => y_fewest_0 h)
      · exact Bth.yz (fun s t => z_fewest_p h h2 (v0p h2 h0)) (fun s t => y_fewest_p h h2 (v0p h2 h0))
    · exact b_fewest_ov h h2
  · exact b_fewest_out h
