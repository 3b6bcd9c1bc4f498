/-! p1: weeks with nobody, the class: what is called -/
theorem nn1 {x m : Int32} (h : wi x 1 m = true) : ∃ k : Nat, k < 2 ^ 31 ∧ x = nI k := by
  simp only [wi, Bool.and_eq_true, decide_eq_true_eq, Int32.le_iff_toInt_le] at h
  have h1 : (1 : Int32).toInt = 1 := by decide
  rw [h1] at h
  have h2 := Int32.toInt_lt x
  refine ⟨x.toInt.toNat, by omega, ?_⟩
  apply Int32.toInt_inj.mp
  rw [nI_toInt (by omega)]
  omega
theorem nn0 {x : Int32} (h : ¬ x ≤ 0) : ∃ k : Nat, k < 2 ^ 31 ∧ x = nI k := by
  simp only [Int32.le_iff_toInt_le] at h
  have h1 : (0 : Int32).toInt = 0 := by decide
  rw [h1] at h
  have h2 := Int32.toInt_lt x
  refine ⟨x.toInt.toNat, by omega, ?_⟩
  apply Int32.toInt_inj.mp
  rw [nI_toInt (by omega)]
  omega
theorem b2t {b : Bool} (h : b = true) : ¬ b2 b = 0 := by subst h; decide
theorem v0p {v m : Int32} (h : wi v 0 m = true) (h0 : ¬ v = 0) : 0 < v := by
  simp only [wi, Bool.and_eq_true, decide_eq_true_eq, Int32.le_iff_toInt_le] at h
  have h1 : (0 : Int32).toInt = 0 := by decide
  rw [Int32.lt_iff_toInt_lt]
  have h2 : ¬ v.toInt = (0 : Int32).toInt := fun h3 => h0 (Int32.toInt_inj.mp h3)
  omega
theorem z_wordsBy {s : Nat → Nat → Int32} {t : Nat → Nat → Int64} {n g : Int32} : Wm 101 [.ref 19, .int n, .int g] (mk (zS s) t) (EZ t (some (.int 0))) := by
  refine Wm.of pT_101 (Nat.le_of_ble_eq_true rfl) (L0 := [some (.ref 19), some (.int n), some (.int g), none, none]) rfl ?_
  refine w_ci rfl ?_
  refine w_si rfl (Nat.le_of_ble_eq_true rfl) rfl ?_
  refine w_ci rfl ?_
  refine w_si rfl (Nat.le_of_ble_eq_true rfl) rfl ?_
  by_cases hn : n ≤ 0
  · refine w_li rfl rfl ?_
    refine w_li rfl rfl ?_
    refine w_ic_ge rfl (fun c => ?_) (fun c => absurd hn c)
    refine w_li rfl rfl ?_
    refine w_ri rfl ?_
    exact ⟨rfl, _, rfl⟩
  · obtain ⟨k, hk, rfl⟩ := nn0 hn
    rw [show (0 : Int32) = nI 0 from rfl]
    exact l_wordsBy k 0 s t (by omega) hk
set_option maxRecDepth 100000 in
set_option maxHeartbeats 2000000 in
theorem l_weeks {n : Nat} : ∀ (m j : Nat) (s : Nat → Nat → Int32) (t : Nat → Nat → Int64), j + m = n → n < 2 ^ 31 → Wp pl_Kc 63 14 [some (.ref 0), some (.int (nI n)), some (.int (nI j))] [] (mk (zS s) t) (EZ t (some (.int 0))) := by
  intro m
  induction m with
  | zero =>
    intro j s t hj hn
    obtain rfl : j = n := by omega
    refine w_li rfl rfl ?_
    refine w_li rfl rfl ?_
    refine w_ic_ge rfl (fun c16_0 => ?_) (fun c16_0 => absurd (nI_le3 (by omega) hn) c16_0)
    refine w_la rfl rfl ?_
    refine w_gf rfl (mg_0 _ _) rfl ?_
    refine w_la rfl rfl ?_
    refine w_gf rfl (mg_0 _ _) rfl ?_
    refine w_gf rfl (mg_1 _ _) rfl ?_
    refine w_vi1 pl_sub_c rfl (mg_1 _ _) (Nat.le_of_ble_eq_true rfl) (z_sumOf) (fun r2 h2 q => by obtain ⟨_, _, q⟩ := q; rw [q]; rfl) (fun r2 h2 q => ?_)
    obtain ⟨q1, s, q2⟩ := q
    rw [q1, q2]
    refine w_ri rfl ?_
    exact ⟨by first | rfl | decide, _, rfl⟩
  | succ m ih =>
    intro j s t hj hn
    refine w_li rfl rfl ?_
    refine w_li rfl rfl ?_
    refine w_ic_ge rfl (fun c16_0 => absurd c16_0 (nI_nle3 (by omega) hn)) (fun c16_0 => ?_)
    refine w_la rfl rfl ?_
    refine w_gf rfl (mg_0 _ _) rfl ?_
    refine w_ci rfl ?_
    refine w_vi1 pl_sub_c rfl (mg_1 _ _) (Nat.le_of_ble_eq_true rfl) (z_passWeek_1) (fun r2 h2 q => by obtain ⟨_, _, q⟩ := q; rw [q]; rfl) (fun r2 h2 q => ?_)
    obtain ⟨q1, s, q2⟩ := q
    rw [q1, q2]
    refine w_pop rfl rfl ?_
    refine w_inc rfl rfl rfl ?_
    refine w_go rfl ?_
    rw [nI_1]
    exact ih (j + 1) _ _ (by omega) hn
set_option maxRecDepth 100000 in
set_option maxHeartbeats 2000000 in
theorem l_poor {n : Nat} : ∀ (m j : Nat) (z : Int32) (oo : Option Value) (s : Nat → Nat → Int32) (t : Nat → Nat → Int64), j + m = n → n < 2 ^ 31 → Wp pl_Kc 66 38 [some (.ref 0), some (.int (nI n)), some (.int 0), some (.int z), some (.int 0), some (.int (nI j)), oo] [] (mk (zS s) t) (EZ t (some (.int 0))) := by
  intro m
  induction m with
  | zero =>
    intro j z oo s t hj hn
    obtain rfl : j = n := by omega
    refine w_li rfl rfl ?_
    refine w_li rfl rfl ?_
    refine w_ic_ge rfl (fun c41_0 => ?_) (fun c41_0 => absurd (nI_le3 (by omega) hn) c41_0)
    refine w_li rfl rfl ?_
    refine w_ri rfl ?_
    exact ⟨by first | rfl | decide, _, rfl⟩
  | succ m ih =>
    intro j z oo s t hj hn
    refine w_li rfl rfl ?_
    refine w_li rfl rfl ?_
    refine w_ic_ge rfl (fun c41_0 => absurd c41_0 (nI_nle3 (by omega) hn)) (fun c41_0 => ?_)
    refine w_la rfl rfl ?_
    refine w_vi0 pl_sub_c rfl (mg_0 _ _) (Nat.le_of_ble_eq_true rfl) (z_trial) (fun r2 h2 q => by obtain ⟨_, _, q⟩ := q; rw [q]; rfl) (fun r2 h2 q => ?_)
    obtain ⟨q1, s, q2⟩ := q
    rw [q1, q2]
    refine w_sa rfl (Nat.le_of_ble_eq_true rfl) rfl ?_
    refine w_la rfl rfl ?_
    refine w_li rfl rfl ?_
    refine w_pf rfl rfl (mg_19 _ _) (Nat.le_of_ble_eq_true rfl) (ms_19_11 _ _ _) ?_
    rw [zS_up (by decide)]
    refine w_la rfl rfl ?_
    refine w_vi0 pl_sub_c rfl (mg_19 _ _) (Nat.le_of_ble_eq_true rfl) (z_byDraws_19) (fun r2 h2 q => by obtain ⟨_, _, q⟩ := q; rw [q]; rfl) (fun r2 h2 q => ?_)
    obtain ⟨q1, s, q2⟩ := q
    rw [q1, q2]
    refine w_li rfl rfl ?_
    refine w_ic_ge rfl (fun c62_0 => ?_) (fun c62_0 => absurd (show (0 : Int32) ≤ 0 from by decide) c62_0)
    refine w_la rfl rfl ?_
    refine w_gf rfl (mg_19 _ _) rfl ?_
    refine w_si rfl (Nat.le_of_ble_eq_true rfl) rfl ?_
    refine w_inc rfl rfl rfl ?_
    refine w_go rfl ?_
    rw [nI_1]
    exact ih (j + 1) _ _ _ _ (by omega) hn
set_option maxRecDepth 100000 in
set_option maxHeartbeats 2000000 in
theorem z_bitCount {s : Nat → Nat → Int32} {t : Nat → Nat → Int64} : Wm 212 [.int 0] (mk (zS s) t) (fun r h => r = some (.int 0) ∧ h = mk (zS s) t) := by
  refine Wm.of pT_212 (Nat.le_of_ble_eq_true rfl) (L0 := [some (.int 0)]) rfl ?_
  refine w_li rfl rfl ?_
  refine w_li rfl rfl ?_
  refine w_ci rfl ?_
  refine w_iushr rfl ?_
  refine w_ci rfl ?_
  refine w_iand rfl ?_
  refine w_isub rfl ?_
  refine w_si rfl (Nat.le_of_ble_eq_true rfl) rfl ?_
  refine w_li rfl rfl ?_
  refine w_ci rfl ?_
  refine w_iand rfl ?_
  refine w_li rfl rfl ?_
  refine w_ci rfl ?_
  refine w_iushr rfl ?_
  refine w_ci rfl ?_
  refine w_iand rfl ?_
  refine w_iadd rfl ?_
  refine w_si rfl (Nat.le_of_ble_eq_true rfl) rfl ?_
  refine w_li rfl rfl ?_
  refine w_li rfl rfl ?_
  refine w_ci rfl ?_
  refine w_iushr rfl ?_
  refine w_iadd rfl ?_
  refine w_ci rfl ?_
  refine w_iand rfl ?_
  refine w_si rfl (Nat.le_of_ble_eq_true rfl) rfl ?_
  refine w_li rfl rfl ?_
  refine w_li rfl rfl ?_
  refine w_ci rfl ?_
  refine w_iushr rfl ?_
  refine w_iadd rfl ?_
  refine w_si rfl (Nat.le_of_ble_eq_true rfl) rfl ?_
  refine w_li rfl rfl ?_
  refine w_li rfl rfl ?_
  refine w_ci rfl ?_
  refine w_iushr rfl ?_
  refine w_iadd rfl ?_
  refine w_si rfl (Nat.le_of_ble_eq_true rfl) rfl ?_
  refine w_li rfl rfl ?_
  refine w_ci rfl ?_
  refine w_iand rfl ?_
  refine w_ri rfl ?_
  exact ⟨by first | rfl | decide, rfl⟩

set_option maxRecDepth 100000 in
set_option maxHeartbeats 2000000 in
theorem l_vanFor {w v : Int32} (hp : 0 < v) : ∀ (m j : Nat) (oo : Option Value) (s : Nat → Nat → Int32) (t : Nat → Nat → Int64), j + m = 10 → Wp pl_Kc 71 25 [some (.ref 0), some (.int w), some (.int v), some (.int (nI j)), oo] [] (mk (zS s) t) (EZ t (some (.int (-3)))) := by
  intro m
  induction m with
  | zero =>
    intro j oo s t hj
    obtain rfl : j = 10 := by omega
    refine w_li rfl rfl ?_
    refine w_gs rfl ?_
    refine w_ci rfl ?_
    refine w_ia rfl (mrK1 _ _) (show ¬ (0 : Int32) < 0 from by decide) (show ([9, 9, 9, 99] : List Int32)[(0 : Int32).toNatClampNeg]? = some 9 from by decide) ?_
    refine w_ic_gt rfl (fun c31_0 => ?_) (fun c31_0 => absurd (show (9 : Int32) < nI 10 from by decide) c31_0)
    refine w_ci rfl ?_
    refine w_ri rfl ?_
    exact ⟨by first | rfl | decide, _, rfl⟩
  | succ m ih =>
    intro j oo s t hj
    refine w_li rfl rfl ?_
    refine w_gs rfl ?_
    refine w_ci rfl ?_
    refine w_ia rfl (mrK1 _ _) (show ¬ (0 : Int32) < 0 from by decide) (show ([9, 9, 9, 99] : List Int32)[(0 : Int32).toNatClampNeg]? = some 9 from by decide) ?_
    refine w_ic_gt rfl (fun c31_0 => absurd c31_0 (show ¬ (nI 9 < nI j) from nI_nlt (by omega) (by omega))) (fun c31_0 => ?_)
    refine w_la rfl rfl ?_
    refine w_vi0 pl_sub_c rfl (mg_0 _ _) (Nat.le_of_ble_eq_true rfl) (z_trial) (fun r2 h2 q => by obtain ⟨_, _, q⟩ := q; rw [q]; rfl) (fun r2 h2 q => ?_)
    obtain ⟨q1, s, q2⟩ := q
    rw [q1, q2]
    refine w_sa rfl (Nat.le_of_ble_eq_true rfl) rfl ?_
    refine w_la rfl rfl ?_
    refine w_gf rfl (mg_19 _ _) rfl ?_
    refine w_ci rfl ?_
    refine w_li rfl rfl ?_
    refine w_is rfl (mg_20 _ _) (show ¬ (0 : Int32) < 0 from by decide) (by rw [ar_len]; exact (show (0 : Int32).toNatClampNeg < 4 from by decide)) (ms_20 _ _ _ _) ?_
    rw [zS_up (by decide)]
    refine w_la rfl rfl ?_
    refine w_li rfl rfl ?_
    refine w_ci rfl ?_
    refine w_st3 pl_sub_c rfl (Nat.le_of_ble_eq_true rfl) (z_wordsBy) (fun r2 h2 q => by obtain ⟨_, _, q⟩ := q; rw [q]; rfl) (fun r2 h2 q => ?_)
    obtain ⟨q1, s, q2⟩ := q
    rw [q1, q2]
    refine w_li rfl rfl ?_
    refine w_ic_lt rfl (fun c58_0 => ?_) (fun c58_0 => absurd (hp) c58_0)
    refine w_inc rfl rfl rfl ?_
    refine w_go rfl ?_
    rw [nI_1]
    exact ih (j + 1) _ _ _ (by omega)
set_option maxRecDepth 100000 in
set_option maxHeartbeats 2000000 in
theorem z_weeks {n : Nat} {s : Nat → Nat → Int32} {t : Nat → Nat → Int64} (hb : wi (nI n) 1 60 = true) (hn : n < 2 ^ 31) : Wm 63 [.ref 0, .int (nI n)] (mk (zS s) t) (EZ t (some (.int 0))) := by
  refine Wm.of pT_63 (Nat.le_of_ble_eq_true rfl) (L0 := [some (.ref 0), some (.int (nI n)), none]) rfl ?_
  refine w_li rfl rfl ?_
  refine w_ci rfl ?_
  refine w_ci rfl ?_
  refine w_st3r pl_sub_c rfl (Nat.le_of_ble_eq_true rfl) (r_isWithin) ?_
  refine w_if_ne rfl (fun c7_0 => ?_) (fun c7_0 => absurd (b2t hb) c7_0)
  refine w_ci rfl ?_
  refine w_si rfl (Nat.le_of_ble_eq_true rfl) rfl ?_
  rw [show (0 : Int32) = nI 0 from rfl]
  exact l_weeks n 0 s t (by omega) hn

set_option maxRecDepth 100000 in
set_option maxHeartbeats 2000000 in
theorem z_poor {n : Nat} {s : Nat → Nat → Int32} {t : Nat → Nat → Int64} (hb : wi (nI n) 1 30 = true) (hn : n < 2 ^ 31) : Wm 66 [.ref 0, .int (nI n)] (mk (zS s) t) (EZ t (some (.int 0))) := by
  refine Wm.of pT_66 (Nat.le_of_ble_eq_true rfl) (L0 := [some (.ref 0), some (.int (nI n)), none, none, none, none, none]) rfl ?_
  refine w_li rfl rfl ?_
  refine w_ci rfl ?_
  refine w_ci rfl ?_
  refine w_st3r pl_sub_c rfl (Nat.le_of_ble_eq_true rfl) (r_isWithin) ?_
  refine w_if_ne rfl (fun c7_0 => ?_) (fun c7_0 => absurd (b2t hb) c7_0)
  refine w_la rfl rfl ?_
  refine w_vi0 pl_sub_c rfl (mg_0 _ _) (Nat.le_of_ble_eq_true rfl) (z_trial) (fun r2 h2 q => by obtain ⟨_, _, q⟩ := q; rw [q]; rfl) (fun r2 h2 q => ?_)
  obtain ⟨q1, s, q2⟩ := q
  rw [q1, q2]
  refine w_ci rfl ?_
  refine w_ci rfl ?_
  refine w_st3 pl_sub_c rfl (Nat.le_of_ble_eq_true rfl) (z_wordsBy) (fun r2 h2 q => by obtain ⟨_, _, q⟩ := q; rw [q]; rfl) (fun r2 h2 q => ?_)
  obtain ⟨q1, s, q2⟩ := q
  rw [q1, q2]
  refine w_si rfl (Nat.le_of_ble_eq_true rfl) rfl ?_
  refine w_la rfl rfl ?_
  refine w_gf rfl (mg_0 _ _) rfl ?_
  refine w_gf rfl (mg_1 _ _) rfl ?_
  refine w_si rfl (Nat.le_of_ble_eq_true rfl) rfl ?_
  refine w_ci rfl ?_
  refine w_si rfl (Nat.le_of_ble_eq_true rfl) rfl ?_
  refine w_ci rfl ?_
  refine w_si rfl (Nat.le_of_ble_eq_true rfl) rfl ?_
  exact l_poor n 0 _ none s t (by omega) hn

set_option maxRecDepth 100000 in
set_option maxHeartbeats 2000000 in
theorem z_words {w : Int32} {s : Nat → Nat → Int32} {t : Nat → Nat → Int64} (hb : wi w 0 60 = true) : Wm 68 [.ref 0, .int w] (mk (zS s) t) (EZ t (some (.int 0))) := by
  refine Wm.of pT_68 (Nat.le_of_ble_eq_true rfl) (L0 := [some (.ref 0), some (.int w)]) rfl ?_
  refine w_li rfl rfl ?_
  refine w_ci rfl ?_
  refine w_ci rfl ?_
  refine w_st3r pl_sub_c rfl (Nat.le_of_ble_eq_true rfl) (r_isWithin) ?_
  refine w_if_eq rfl (fun c7_0 => absurd c7_0 (b2t hb)) (fun c7_0 => ?_)
  refine w_la rfl rfl ?_
  refine w_vi0 pl_sub_c rfl (mg_0 _ _) (Nat.le_of_ble_eq_true rfl) (z_trial) (fun r2 h2 q => by obtain ⟨_, _, q⟩ := q; rw [q]; rfl) (fun r2 h2 q => ?_)
  obtain ⟨q1, s, q2⟩ := q
  rw [q1, q2]
  refine w_li rfl rfl ?_
  refine w_ci rfl ?_
  refine w_st3 pl_sub_c rfl (Nat.le_of_ble_eq_true rfl) (z_wordsBy) (fun r2 h2 q => by obtain ⟨_, _, q⟩ := q; rw [q]; rfl) (fun r2 h2 q => ?_)
  obtain ⟨q1, s, q2⟩ := q
  rw [q1, q2]
  refine w_go rfl ?_
  refine w_ri rfl ?_
  exact ⟨by first | rfl | decide, _, rfl⟩

set_option maxRecDepth 100000 in
set_option maxHeartbeats 2000000 in
theorem z_needed {w : Int32} {s : Nat → Nat → Int32} {t : Nat → Nat → Int64} (hb : wi w 1 20 = true) : Wm 74 [.ref 0, .int w] (mk (zS s) t) (EZ t (some (.int (-3)))) := by
  refine Wm.of pT_74 (Nat.le_of_ble_eq_true rfl) (L0 := [some (.ref 0), some (.int w), none, none, none, none]) rfl ?_
  refine w_li rfl rfl ?_
  refine w_ci rfl ?_
  refine w_ci rfl ?_
  refine w_st3r pl_sub_c rfl (Nat.le_of_ble_eq_true rfl) (r_isWithin) ?_
  refine w_if_ne rfl (fun c7_0 => ?_) (fun c7_0 => absurd (b2t hb) c7_0)
  refine w_ci rfl ?_
  refine w_si rfl (Nat.le_of_ble_eq_true rfl) rfl ?_
  refine w_la rfl rfl ?_
  refine w_vi0 pl_sub_c rfl (mg_0 _ _) (Nat.le_of_ble_eq_true rfl) (z_trial) (fun r2 h2 q => by obtain ⟨_, _, q⟩ := q; rw [q]; rfl) (fun r2 h2 q => ?_)
  obtain ⟨q1, s, q2⟩ := q
  rw [q1, q2]
  refine w_li rfl rfl ?_
  refine w_ci rfl ?_
  refine w_st3 pl_sub_c rfl (Nat.le_of_ble_eq_true rfl) (z_wordsBy) (fun r2 h2 q => by obtain ⟨_, _, q⟩ := q; rw [q]; rfl) (fun r2 h2 q => ?_)
  obtain ⟨q1, s, q2⟩ := q
  rw [q1, q2]
  refine w_si rfl (Nat.le_of_ble_eq_true rfl) rfl ?_
  refine w_ci rfl ?_
  refine w_si rfl (Nat.le_of_ble_eq_true rfl) rfl ?_
  refine w_li rfl rfl ?_
  refine w_la rfl rfl ?_
  refine w_gf rfl (mg_0 _ _) rfl ?_
  refine w_gf rfl (mg_1 _ _) rfl ?_
  refine w_ic_ge rfl (fun c39_0 => ?_) (fun c39_0 => absurd (show (0 : Int32) ≤ 0 from by decide) c39_0)
  refine w_li rfl rfl ?_
  refine w_ri rfl ?_
  exact ⟨by first | rfl | decide, _, rfl⟩

set_option maxRecDepth 100000 in
set_option maxHeartbeats 2000000 in
theorem z_vanFor_0 {w : Int32} {s : Nat → Nat → Int32} {t : Nat → Nat → Int64} (hb : wi w 1 20 = true) : Wm 71 [.ref 0, .int w, .int 0] (mk (zS s) t) (EZ t (some (.int 0))) := by
  refine Wm.of pT_71 (Nat.le_of_ble_eq_true rfl) (L0 := [some (.ref 0), some (.int w), some (.int 0), none, none]) rfl ?_
  refine w_li rfl rfl ?_
  refine w_ci rfl ?_
  refine w_ci rfl ?_
  refine w_st3r pl_sub_c rfl (Nat.le_of_ble_eq_true rfl) (r_isWithin) ?_
  refine w_if_eq rfl (fun c7_0 => absurd c7_0 (b2t hb)) (fun c7_0 => ?_)
  refine w_li rfl rfl ?_
  refine w_ci rfl ?_
  refine w_ci rfl ?_
  refine w_st3r pl_sub_c rfl (Nat.le_of_ble_eq_true rfl) (r_isWithin) ?_
  refine w_if_ne rfl (fun c18_0 => ?_) (fun c18_0 => absurd (b2t (show wi 0 0 9999 = true from by decide)) c18_0)
  refine w_ci rfl ?_
  refine w_si rfl (Nat.le_of_ble_eq_true rfl) rfl ?_
  refine w_li rfl rfl ?_
  refine w_gs rfl ?_
  refine w_ci rfl ?_
  refine w_ia rfl (mrK1 _ _) (show ¬ (0 : Int32) < 0 from by decide) (show ([9, 9, 9, 99] : List Int32)[(0 : Int32).toNatClampNeg]? = some 9 from by decide) ?_
  refine w_ic_gt rfl (fun c31_0 => absurd c31_0 (show ¬ ((9 : Int32) < 0) from by decide)) (fun c31_0 => ?_)
  refine w_la rfl rfl ?_
  refine w_vi0 pl_sub_c rfl (mg_0 _ _) (Nat.le_of_ble_eq_true rfl) (z_trial) (fun r2 h2 q => by obtain ⟨_, _, q⟩ := q; rw [q]; rfl) (fun r2 h2 q => ?_)
  obtain ⟨q1, s, q2⟩ := q
  rw [q1, q2]
  refine w_sa rfl (Nat.le_of_ble_eq_true rfl) rfl ?_
  refine w_la rfl rfl ?_
  refine w_gf rfl (mg_19 _ _) rfl ?_
  refine w_ci rfl ?_
  refine w_li rfl rfl ?_
  refine w_is rfl (mg_20 _ _) (show ¬ (0 : Int32) < 0 from by decide) (by rw [ar_len]; exact (show (0 : Int32).toNatClampNeg < 4 from by decide)) (ms_20 _ _ _ _) ?_
  rw [zS_up (by decide)]
  refine w_la rfl rfl ?_
  refine w_li rfl rfl ?_
  refine w_ci rfl ?_
  refine w_st3 pl_sub_c rfl (Nat.le_of_ble_eq_true rfl) (z_wordsBy) (fun r2 h2 q => by obtain ⟨_, _, q⟩ := q; rw [q]; rfl) (fun r2 h2 q => ?_)
  obtain ⟨q1, s, q2⟩ := q
  rw [q1, q2]
  refine w_li rfl rfl ?_
  refine w_ic_lt rfl (fun c58_0 => absurd c58_0 (show ¬ ((0 : Int32) < 0) from by decide)) (fun c58_0 => ?_)
  refine w_li rfl rfl ?_
  refine w_ri rfl ?_
  exact ⟨by first | rfl | decide, _, rfl⟩

set_option maxRecDepth 100000 in
set_option maxHeartbeats 2000000 in
theorem z_vanFor_p {w v : Int32} {s : Nat → Nat → Int32} {t : Nat → Nat → Int64} (hb : wi w 1 20 = true) (hv : wi v 0 9999 = true) (hp : 0 < v) : Wm 71 [.ref 0, .int w, .int v] (mk (zS s) t) (EZ t (some (.int (-3)))) := by
  refine Wm.of pT_71 (Nat.le_of_ble_eq_true rfl) (L0 := [some (.ref 0), some (.int w), some (.int v), none, none]) rfl ?_
  refine w_li rfl rfl ?_
  refine w_ci rfl ?_
  refine w_ci rfl ?_
  refine w_st3r pl_sub_c rfl (Nat.le_of_ble_eq_true rfl) (r_isWithin) ?_
  refine w_if_eq rfl (fun c7_0 => absurd c7_0 (b2t hb)) (fun c7_0 => ?_)
  refine w_li rfl rfl ?_
  refine w_ci rfl ?_
  refine w_ci rfl ?_
  refine w_st3r pl_sub_c rfl (Nat.le_of_ble_eq_true rfl) (r_isWithin) ?_
  refine w_if_ne rfl (fun c18_0 => ?_) (fun c18_0 => absurd (b2t hv) c18_0)
  refine w_ci rfl ?_
  refine w_si rfl (Nat.le_of_ble_eq_true rfl) rfl ?_
  exact l_vanFor hp 10 0 none s t (by omega)

set_option maxRecDepth 100000 in
set_option maxHeartbeats 2000000 in
theorem z_fewest_0 {w : Int32} {s : Nat → Nat → Int32} {t : Nat → Nat → Int64} (hb : wi w 1 10 = true) : Wm 75 [.ref 0, .int w, .int 0] (mk (zS s) t) (EZ t (some (.int 0))) := by
  refine Wm.of pT_75 (Nat.le_of_ble_eq_true rfl) (L0 := [some (.ref 0), some (.int w), some (.int 0), none, none, none]) rfl ?_
  refine w_li rfl rfl ?_
  refine w_ci rfl ?_
  refine w_ci rfl ?_
  refine w_st3r pl_sub_c rfl (Nat.le_of_ble_eq_true rfl) (r_isWithin) ?_
  refine w_if_eq rfl (fun c7_0 => absurd c7_0 (b2t hb)) (fun c7_0 => ?_)
  refine w_li rfl rfl ?_
  refine w_ci rfl ?_
  refine w_ci rfl ?_
  refine w_st3r pl_sub_c rfl (Nat.le_of_ble_eq_true rfl) (r_isWithin) ?_
  refine w_if_ne rfl (fun c18_0 => ?_) (fun c18_0 => absurd (b2t (show wi 0 0 9999 = true from by decide)) c18_0)
  refine w_ci rfl ?_
  refine w_la rfl rfl ?_
  refine w_gf rfl (mg_0 _ _) rfl ?_
  refine w_gf rfl (mg_1 _ _) rfl ?_
  refine w_ishl rfl ?_
  rw [show (1 : Int32) <<< (zS s 1 8 &&& 31) = 1 from by rw [show zS s 1 8 = 0 from rfl]; decide]
  refine w_si rfl (Nat.le_of_ble_eq_true rfl) rfl ?_
  refine w_ci rfl ?_
  refine w_si rfl (Nat.le_of_ble_eq_true rfl) rfl ?_
  refine w_li rfl rfl ?_
  refine w_la rfl rfl ?_
  refine w_gf rfl (mg_0 _ _) rfl ?_
  refine w_gf rfl (mg_1 _ _) rfl ?_
  refine w_ic_gt rfl (fun c45_0 => absurd c45_0 (show ¬ ((0 : Int32) < 0) from by decide)) (fun c45_0 => ?_)
  refine w_ci rfl ?_
  refine w_si rfl (Nat.le_of_ble_eq_true rfl) rfl ?_
  refine w_li rfl rfl ?_
  refine w_li rfl rfl ?_
  refine w_ic_ge rfl (fun c54_0 => absurd c54_0 (show ¬ ((1 : Int32) ≤ 0) from by decide)) (fun c54_0 => ?_)
  refine w_li rfl rfl ?_
  refine w_st1 pl_sub_c rfl (Nat.le_of_ble_eq_true rfl) (z_bitCount) (fun r2 h2 q => (congrArg List.length q.2).trans rfl) (fun r2 h2 q => ?_)
  rw [q.1, q.2]
  refine w_li rfl rfl ?_
  refine w_ic_ne rfl (fun c64_0 => absurd c64_0 (show ¬ (¬ (0 : Int32) = 0) from by decide)) (fun c64_0 => ?_)
  refine w_la rfl rfl ?_
  refine w_vi0 pl_sub_c rfl (mg_0 _ _) (Nat.le_of_ble_eq_true rfl) (z_trial) (fun r2 h2 q => by obtain ⟨_, _, q⟩ := q; rw [q]; rfl) (fun r2 h2 q => ?_)
  obtain ⟨q1, s, q2⟩ := q
  rw [q1, q2]
  refine w_li rfl rfl ?_
  refine w_li rfl rfl ?_
  refine w_st3 pl_sub_c rfl (Nat.le_of_ble_eq_true rfl) (z_wordsBy) (fun r2 h2 q => by obtain ⟨_, _, q⟩ := q; rw [q]; rfl) (fun r2 h2 q => ?_)
  obtain ⟨q1, s, q2⟩ := q
  rw [q1, q2]
  refine w_li rfl rfl ?_
  refine w_ic_lt rfl (fun c78_0 => absurd c78_0 (show ¬ ((0 : Int32) < 0) from by decide)) (fun c78_0 => ?_)
  refine w_li rfl rfl ?_
  refine w_ri rfl ?_
  exact ⟨by first | rfl | decide, _, rfl⟩

set_option maxRecDepth 100000 in
set_option maxHeartbeats 2000000 in
theorem z_fewest_p {w v : Int32} {s : Nat → Nat → Int32} {t : Nat → Nat → Int64} (hb : wi w 1 10 = true) (hv : wi v 0 9999 = true) (hp : 0 < v) : Wm 75 [.ref 0, .int w, .int v] (mk (zS s) t) (EZ t (some (.int (-3)))) := by
  refine Wm.of pT_75 (Nat.le_of_ble_eq_true rfl) (L0 := [some (.ref 0), some (.int w), some (.int v), none, none, none]) rfl ?_
  refine w_li rfl rfl ?_
  refine w_ci rfl ?_
  refine w_ci rfl ?_
  refine w_st3r pl_sub_c rfl (Nat.le_of_ble_eq_true rfl) (r_isWithin) ?_
  refine w_if_eq rfl (fun c7_0 => absurd c7_0 (b2t hb)) (fun c7_0 => ?_)
  refine w_li rfl rfl ?_
  refine w_ci rfl ?_
  refine w_ci rfl ?_
  refine w_st3r pl_sub_c rfl (Nat.le_of_ble_eq_true rfl) (r_isWithin) ?_
  refine w_if_ne rfl (fun c18_0 => ?_) (fun c18_0 => absurd (b2t hv) c18_0)
  refine w_ci rfl ?_
  refine w_la rfl rfl ?_
  refine w_gf rfl (mg_0 _ _) rfl ?_
  refine w_gf rfl (mg_1 _ _) rfl ?_
  refine w_ishl rfl ?_
  rw [show (1 : Int32) <<< (zS s 1 8 &&& 31) = 1 from by rw [show zS s 1 8 = 0 from rfl]; decide]
  refine w_si rfl (Nat.le_of_ble_eq_true rfl) rfl ?_
  refine w_ci rfl ?_
  refine w_si rfl (Nat.le_of_ble_eq_true rfl) rfl ?_
  refine w_li rfl rfl ?_
  refine w_la rfl rfl ?_
  refine w_gf rfl (mg_0 _ _) rfl ?_
  refine w_gf rfl (mg_1 _ _) rfl ?_
  refine w_ic_gt rfl (fun c45_0 => absurd c45_0 (show ¬ ((0 : Int32) < 0) from by decide)) (fun c45_0 => ?_)
  refine w_ci rfl ?_
  refine w_si rfl (Nat.le_of_ble_eq_true rfl) rfl ?_
  refine w_li rfl rfl ?_
  refine w_li rfl rfl ?_
  refine w_ic_ge rfl (fun c54_0 => absurd c54_0 (show ¬ ((1 : Int32) ≤ 0) from by decide)) (fun c54_0 => ?_)
  refine w_li rfl rfl ?_
  refine w_st1 pl_sub_c rfl (Nat.le_of_ble_eq_true rfl) (z_bitCount) (fun r2 h2 q => (congrArg List.length q.2).trans rfl) (fun r2 h2 q => ?_)
  rw [q.1, q.2]
  refine w_li rfl rfl ?_
  refine w_ic_ne rfl (fun c64_0 => absurd c64_0 (show ¬ (¬ (0 : Int32) = 0) from by decide)) (fun c64_0 => ?_)
  refine w_la rfl rfl ?_
  refine w_vi0 pl_sub_c rfl (mg_0 _ _) (Nat.le_of_ble_eq_true rfl) (z_trial) (fun r2 h2 q => by obtain ⟨_, _, q⟩ := q; rw [q]; rfl) (fun r2 h2 q => ?_)
  obtain ⟨q1, s, q2⟩ := q
  rw [q1, q2]
  refine w_li rfl rfl ?_
  refine w_li rfl rfl ?_
  refine w_st3 pl_sub_c rfl (Nat.le_of_ble_eq_true rfl) (z_wordsBy) (fun r2 h2 q => by obtain ⟨_, _, q⟩ := q; rw [q]; rfl) (fun r2 h2 q => ?_)
  obtain ⟨q1, s, q2⟩ := q
  rw [q1, q2]
  refine w_li rfl rfl ?_
  refine w_ic_lt rfl (fun c78_0 => ?_) (fun c78_0 => absurd (hp) c78_0)
  refine w_inc rfl rfl rfl ?_
  refine w_go rfl ?_
  refine w_li rfl rfl ?_
  refine w_li rfl rfl ?_
  refine w_ic_ge rfl (fun c54_0 => ?_) (fun c54_0 => absurd (show (1 : Int32) ≤ 1 from by decide) c54_0)
  refine w_inc rfl rfl rfl ?_
  refine w_go rfl ?_
  refine w_li rfl rfl ?_
  refine w_la rfl rfl ?_
  refine w_gf rfl (mg_0 _ _) rfl ?_
  refine w_gf rfl (mg_1 _ _) rfl ?_
  refine w_ic_gt rfl (fun c45_0 => ?_) (fun c45_0 => absurd (show (0 : Int32) < 1 from by decide) c45_0)
  refine w_ci rfl ?_
  refine w_ri rfl ?_
  exact ⟨by first | rfl | decide, _, rfl⟩

