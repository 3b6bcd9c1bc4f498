/-! p1: more of them -/
set_option maxRecDepth 100000 in
set_option maxHeartbeats 2000000 in
theorem u_becomes_7 {s : Nat → Nat → Int32} {t : Nat → Nat → Int64} {v : Int32} : Wm 116 [.ref 51, .int 7, .int v] (mk s t) (fun r h => r = some (.int (s 52 7)) ∧ h = mk (up2 s 52 7 v) t) := by
  refine Wm.of pT_116 (Nat.le_of_ble_eq_true rfl) (L0 := [some (.ref 51), some (.int 7), some (.int v), none]) rfl ?_
  refine w_la rfl rfl ?_
  refine w_gf rfl (mg_51 _ _) rfl ?_
  refine w_li rfl rfl ?_
  refine w_ia rfl (mr_52 _ _ _) (show ¬ (7 : Int32) < 0 from by decide) (ar_get (show (7 : Int32).toNatClampNeg < 56 from by decide)) ?_
  refine w_si rfl (Nat.le_of_ble_eq_true rfl) rfl ?_
  refine w_la rfl rfl ?_
  refine w_gf rfl (mg_51 _ _) rfl ?_
  refine w_li rfl rfl ?_
  refine w_li rfl rfl ?_
  refine w_is rfl (mg_52 _ _) (show ¬ (7 : Int32) < 0 from by decide) (by rw [ar_len]; exact (show (7 : Int32).toNatClampNeg < 56 from by decide)) (ms_52 _ _ _ _) ?_
  refine w_li rfl rfl ?_
  refine w_ri rfl ?_
  exact ⟨rfl, rfl⟩

set_option maxRecDepth 100000 in
set_option maxHeartbeats 2000000 in
theorem c_seed {v : Int32}  : Wm 64 [.ref 0, .int v] (mk s0 t0) (Pc (.int 1)) := by
  refine Wm.of pT_64 (Nat.le_of_ble_eq_true rfl) (L0 := [some (.ref 0), some (.int v), none]) rfl ?_
  refine w_la rfl rfl ?_
  refine w_gf rfl (mg_0 _ _) rfl ?_
  refine w_gf rfl (mg_1 _ _) rfl ?_
  refine w_si rfl (Nat.le_of_ble_eq_true rfl) rfl ?_
  refine w_la rfl rfl ?_
  refine w_gf rfl (mg_0 _ _) rfl ?_
  refine w_li rfl rfl ?_
  refine w_pf rfl rfl (mg_1 _ _) (Nat.le_of_ble_eq_true rfl) (ms_1_11 _ _ _) ?_
  refine w_li rfl rfl ?_
  refine w_ri rfl ?_
  exact ⟨by first | rfl | (simp_all; done) | (simp_all; rfl) | (simp_all [up2_s]; done) | (simp_all [up2_s]; decide) | decide, _, _, rfl, by repeat (first | exact Mod0 | refine Mod.up ?_ (Nat.le_of_ble_eq_true rfl) | refine Mod.upl ?_ (Nat.le_of_ble_eq_true rfl))⟩

set_option maxRecDepth 100000 in
set_option maxHeartbeats 2000000 in
theorem d_seed {v : Int32} (s : Nat → Nat → Int32) (t : Nat → Nat → Int64) : Wm 157 [.ref 51, .int v] (mk (mS s) (mT t)) (Pm (.int 1)) := by
  refine Wm.of pT_157 (Nat.le_of_ble_eq_true rfl) (L0 := [some (.ref 51), some (.int v)]) rfl ?_
  refine w_la rfl rfl ?_
  refine w_ci rfl ?_
  refine w_li rfl rfl ?_
  refine w_vi2 pl_sub_c rfl (mg_51 _ _) (Nat.le_of_ble_eq_true rfl) (u_becomes_7) (fun r2 h2 q => (congrArg List.length q.2).trans rfl) (fun r2 h2 q => ?_)
  rw [q.1, q.2]
  refine w_ri rfl ?_
  exact ⟨by first | rfl | (simp_all; done) | (simp_all; rfl) | decide, _, _, rfl⟩

theorem b_seed {v : Int32} : Bth 64 157 [.int v] := Bth.of (c_seed ) (fun s t => d_seed  s t)
set_option maxRecDepth 100000 in
set_option maxHeartbeats 2000000 in
theorem u_add {kd th hd pg : Int32} : Wm 12 [.ref 1, .int kd, .int th, .int hd, .int pg] (mk s0 t0) (fun r h => r = none ∧ h = mk (up2 (up2 (up2 (up2 (up2 (up2 (up2 s0 3 0 kd) 4 0 th) 5 0 hd) 6 0 pg) 7 0 0) 8 0 0) 1 8 (s0 1 8 + 1)) t0) := by
  refine Wm.of pT_12 (Nat.le_of_ble_eq_true rfl) (L0 := [some (.ref 1), some (.int kd), some (.int th), some (.int hd), some (.int pg)]) rfl ?_
  refine w_la rfl rfl ?_
  refine w_gf rfl (mg_1 _ _) rfl ?_
  refine w_la rfl rfl ?_
  refine w_gf rfl (mg_1 _ _) rfl ?_
  refine w_li rfl rfl ?_
  refine w_is rfl (mg_3 _ _) (show ¬ (0 : Int32) < 0 from by decide) (by rw [ar_len]; exact (show (0 : Int32).toNatClampNeg < 8 from by decide)) (ms_3 _ _ _ _) ?_
  refine w_la rfl rfl ?_
  refine w_gf rfl (mg_1 _ _) rfl ?_
  refine w_la rfl rfl ?_
  refine w_gf rfl (mg_1 _ _) rfl ?_
  refine w_li rfl rfl ?_
  refine w_is rfl (mg_4 _ _) (show ¬ (0 : Int32) < 0 from by decide) (by rw [ar_len]; exact (show (0 : Int32).toNatClampNeg < 8 from by decide)) (ms_4 _ _ _ _) ?_
  refine w_la rfl rfl ?_
  refine w_gf rfl (mg_1 _ _) rfl ?_
  refine w_la rfl rfl ?_
  refine w_gf rfl (mg_1 _ _) rfl ?_
  refine w_li rfl rfl ?_
  refine w_is rfl (mg_5 _ _) (show ¬ (0 : Int32) < 0 from by decide) (by rw [ar_len]; exact (show (0 : Int32).toNatClampNeg < 8 from by decide)) (ms_5 _ _ _ _) ?_
  refine w_la rfl rfl ?_
  refine w_gf rfl (mg_1 _ _) rfl ?_
  refine w_la rfl rfl ?_
  refine w_gf rfl (mg_1 _ _) rfl ?_
  refine w_li rfl rfl ?_
  refine w_is rfl (mg_6 _ _) (show ¬ (0 : Int32) < 0 from by decide) (by rw [ar_len]; exact (show (0 : Int32).toNatClampNeg < 8 from by decide)) (ms_6 _ _ _ _) ?_
  refine w_la rfl rfl ?_
  refine w_gf rfl (mg_1 _ _) rfl ?_
  refine w_la rfl rfl ?_
  refine w_gf rfl (mg_1 _ _) rfl ?_
  refine w_ci rfl ?_
  refine w_is rfl (mg_7 _ _) (show ¬ (0 : Int32) < 0 from by decide) (by rw [ar_len]; exact (show (0 : Int32).toNatClampNeg < 8 from by decide)) (ms_7 _ _ _ _) ?_
  refine w_la rfl rfl ?_
  refine w_gf rfl (mg_1 _ _) rfl ?_
  refine w_la rfl rfl ?_
  refine w_gf rfl (mg_1 _ _) rfl ?_
  refine w_ci rfl ?_
  refine w_is rfl (mg_8 _ _) (show ¬ (0 : Int32) < 0 from by decide) (by rw [ar_len]; exact (show (0 : Int32).toNatClampNeg < 8 from by decide)) (ms_8 _ _ _ _) ?_
  refine w_la rfl rfl ?_
  refine w_dup rfl rfl ?_
  refine w_gf rfl (mg_1 _ _) rfl ?_
  refine w_ci rfl ?_
  refine w_iadd rfl ?_
  refine w_pf rfl rfl (mg_1 _ _) (Nat.le_of_ble_eq_true rfl) (ms_1_8 _ _ _) ?_
  refine w_rv rfl ?_
  exact ⟨rfl, rfl⟩

set_option maxRecDepth 100000 in
set_option maxHeartbeats 2000000 in
theorem u_sets_0 {s : Nat → Nat → Int32} {t : Nat → Nat → Int64} {v : Int32} : Wm 115 [.ref 51, .int 0, .int 0, .int v] (mk s t) (fun r h => r = none ∧ h = mk (up2 s 52 8 v) t) := by
  refine Wm.of pT_115 (Nat.le_of_ble_eq_true rfl) (L0 := [some (.ref 51), some (.int 0), some (.int 0), some (.int v)]) rfl ?_
  refine w_la rfl rfl ?_
  refine w_gf rfl (mg_51 _ _) rfl ?_
  refine w_ci rfl ?_
  refine w_ci rfl ?_
  refine w_li rfl rfl ?_
  refine w_imul rfl ?_
  refine w_iadd rfl ?_
  refine w_li rfl rfl ?_
  refine w_iadd rfl ?_
  refine w_li rfl rfl ?_
  refine w_is rfl (mg_52 _ _) (show ¬ (8 : Int32) < 0 from by decide) (by rw [ar_len]; exact (show (8 : Int32).toNatClampNeg < 56 from by decide)) (ms_52 _ _ _ _) ?_
  refine w_rv rfl ?_
  exact ⟨rfl, rfl⟩

set_option maxRecDepth 100000 in
set_option maxHeartbeats 2000000 in
theorem u_sets_1 {s : Nat → Nat → Int32} {t : Nat → Nat → Int64} {v : Int32} : Wm 115 [.ref 51, .int 0, .int 1, .int v] (mk s t) (fun r h => r = none ∧ h = mk (up2 s 52 9 v) t) := by
  refine Wm.of pT_115 (Nat.le_of_ble_eq_true rfl) (L0 := [some (.ref 51), some (.int 0), some (.int 1), some (.int v)]) rfl ?_
  refine w_la rfl rfl ?_
  refine w_gf rfl (mg_51 _ _) rfl ?_
  refine w_ci rfl ?_
  refine w_ci rfl ?_
  refine w_li rfl rfl ?_
  refine w_imul rfl ?_
  refine w_iadd rfl ?_
  refine w_li rfl rfl ?_
  refine w_iadd rfl ?_
  refine w_li rfl rfl ?_
  refine w_is rfl (mg_52 _ _) (show ¬ (9 : Int32) < 0 from by decide) (by rw [ar_len]; exact (show (9 : Int32).toNatClampNeg < 56 from by decide)) (ms_52 _ _ _ _) ?_
  refine w_rv rfl ?_
  exact ⟨rfl, rfl⟩

set_option maxRecDepth 100000 in
set_option maxHeartbeats 2000000 in
theorem u_sets_2 {s : Nat → Nat → Int32} {t : Nat → Nat → Int64} {v : Int32} : Wm 115 [.ref 51, .int 0, .int 2, .int v] (mk s t) (fun r h => r = none ∧ h = mk (up2 s 52 10 v) t) := by
  refine Wm.of pT_115 (Nat.le_of_ble_eq_true rfl) (L0 := [some (.ref 51), some (.int 0), some (.int 2), some (.int v)]) rfl ?_
  refine w_la rfl rfl ?_
  refine w_gf rfl (mg_51 _ _) rfl ?_
  refine w_ci rfl ?_
  refine w_ci rfl ?_
  refine w_li rfl rfl ?_
  refine w_imul rfl ?_
  refine w_iadd rfl ?_
  refine w_li rfl rfl ?_
  refine w_iadd rfl ?_
  refine w_li rfl rfl ?_
  refine w_is rfl (mg_52 _ _) (show ¬ (10 : Int32) < 0 from by decide) (by rw [ar_len]; exact (show (10 : Int32).toNatClampNeg < 56 from by decide)) (ms_52 _ _ _ _) ?_
  refine w_rv rfl ?_
  exact ⟨rfl, rfl⟩

set_option maxRecDepth 100000 in
set_option maxHeartbeats 2000000 in
theorem u_sets_3 {s : Nat → Nat → Int32} {t : Nat → Nat → Int64} {v : Int32} : Wm 115 [.ref 51, .int 0, .int 3, .int v] (mk s t) (fun r h => r = none ∧ h = mk (up2 s 52 11 v) t) := by
  refine Wm.of pT_115 (Nat.le_of_ble_eq_true rfl) (L0 := [some (.ref 51), some (.int 0), some (.int 3), some (.int v)]) rfl ?_
  refine w_la rfl rfl ?_
  refine w_gf rfl (mg_51 _ _) rfl ?_
  refine w_ci rfl ?_
  refine w_ci rfl ?_
  refine w_li rfl rfl ?_
  refine w_imul rfl ?_
  refine w_iadd rfl ?_
  refine w_li rfl rfl ?_
  refine w_iadd rfl ?_
  refine w_li rfl rfl ?_
  refine w_is rfl (mg_52 _ _) (show ¬ (11 : Int32) < 0 from by decide) (by rw [ar_len]; exact (show (11 : Int32).toNatClampNeg < 56 from by decide)) (ms_52 _ _ _ _) ?_
  refine w_rv rfl ?_
  exact ⟨rfl, rfl⟩

set_option maxRecDepth 100000 in
set_option maxHeartbeats 2000000 in
theorem u_sets_4 {s : Nat → Nat → Int32} {t : Nat → Nat → Int64} {v : Int32} : Wm 115 [.ref 51, .int 0, .int 4, .int v] (mk s t) (fun r h => r = none ∧ h = mk (up2 s 52 12 v) t) := by
  refine Wm.of pT_115 (Nat.le_of_ble_eq_true rfl) (L0 := [some (.ref 51), some (.int 0), some (.int 4), some (.int v)]) rfl ?_
  refine w_la rfl rfl ?_
  refine w_gf rfl (mg_51 _ _) rfl ?_
  refine w_ci rfl ?_
  refine w_ci rfl ?_
  refine w_li rfl rfl ?_
  refine w_imul rfl ?_
  refine w_iadd rfl ?_
  refine w_li rfl rfl ?_
  refine w_iadd rfl ?_
  refine w_li rfl rfl ?_
  refine w_is rfl (mg_52 _ _) (show ¬ (12 : Int32) < 0 from by decide) (by rw [ar_len]; exact (show (12 : Int32).toNatClampNeg < 56 from by decide)) (ms_52 _ _ _ _) ?_
  refine w_rv rfl ?_
  exact ⟨rfl, rfl⟩

set_option maxRecDepth 100000 in
set_option maxHeartbeats 2000000 in
theorem u_sets_5 {s : Nat → Nat → Int32} {t : Nat → Nat → Int64} {v : Int32} : Wm 115 [.ref 51, .int 0, .int 5, .int v] (mk s t) (fun r h => r = none ∧ h = mk (up2 s 52 13 v) t) := by
  refine Wm.of pT_115 (Nat.le_of_ble_eq_true rfl) (L0 := [some (.ref 51), some (.int 0), some (.int 5), some (.int v)]) rfl ?_
  refine w_la rfl rfl ?_
  refine w_gf rfl (mg_51 _ _) rfl ?_
  refine w_ci rfl ?_
  refine w_ci rfl ?_
  refine w_li rfl rfl ?_
  refine w_imul rfl ?_
  refine w_iadd rfl ?_
  refine w_li rfl rfl ?_
  refine w_iadd rfl ?_
  refine w_li rfl rfl ?_
  refine w_is rfl (mg_52 _ _) (show ¬ (13 : Int32) < 0 from by decide) (by rw [ar_len]; exact (show (13 : Int32).toNatClampNeg < 56 from by decide)) (ms_52 _ _ _ _) ?_
  refine w_rv rfl ?_
  exact ⟨rfl, rfl⟩

set_option maxRecDepth 100000 in
set_option maxHeartbeats 2000000 in
theorem c_person {kd th hd pg : Int32}  : Wm 56 [.ref 0, .int kd, .int th, .int hd, .int pg] (mk s0 t0) (Pc (.int (if (wi kd 0 5 && wi th 0 99 && wi hd 0 9 && wi pg 0 99) = true then 0 else -1))) := by
  refine Wm.of pT_56 (Nat.le_of_ble_eq_true rfl) (L0 := [some (.ref 0), some (.int kd), some (.int th), some (.int hd), some (.int pg)]) rfl ?_
  refine w_li rfl rfl ?_
  refine w_st1r pl_sub_c rfl (Nat.le_of_ble_eq_true rfl) (r_isKind) ?_
  refine w_if_eq rfl (fun c4_0 => ?_) (fun c4_0 => ?_)
  · skip
    replace c4_0 := b2_0 c4_0
    refine w_ci rfl ?_
    refine w_ri rfl ?_
    exact ⟨by first | rfl | (simp_all; done) | (simp_all; rfl) | (simp_all [up2_s]; done) | (simp_all [up2_s]; decide) | decide, _, _, rfl, by repeat (first | exact Mod0 | refine Mod.up ?_ (Nat.le_of_ble_eq_true rfl) | refine Mod.upl ?_ (Nat.le_of_ble_eq_true rfl))⟩
  · skip
    replace c4_0 := b2_n c4_0
    refine w_li rfl rfl ?_
    refine w_ci rfl ?_
    refine w_ci rfl ?_
    refine w_st3r pl_sub_c rfl (Nat.le_of_ble_eq_true rfl) (r_isWithin) ?_
    refine w_if_eq rfl (fun c14_1 => ?_) (fun c14_1 => ?_)
    · skip
      replace c14_1 := b2_0 c14_1
      refine w_ci rfl ?_
      refine w_ri rfl ?_
      exact ⟨by first | rfl | (simp_all; done) | (simp_all; rfl) | (simp_all [up2_s]; done) | (simp_all [up2_s]; decide) | decide, _, _, rfl, by repeat (first | exact Mod0 | refine Mod.up ?_ (Nat.le_of_ble_eq_true rfl) | refine Mod.upl ?_ (Nat.le_of_ble_eq_true rfl))⟩
    · skip
      replace c14_1 := b2_n c14_1
      refine w_li rfl rfl ?_
      refine w_ci rfl ?_
      refine w_ci rfl ?_
      refine w_st3r pl_sub_c rfl (Nat.le_of_ble_eq_true rfl) (r_isWithin) ?_
      refine w_if_eq rfl (fun c24_2 => ?_) (fun c24_2 => ?_)
      · skip
        replace c24_2 := b2_0 c24_2
        refine w_ci rfl ?_
        refine w_ri rfl ?_
        exact ⟨by first | rfl | (simp_all; done) | (simp_all; rfl) | (simp_all [up2_s]; done) | (simp_all [up2_s]; decide) | decide, _, _, rfl, by repeat (first | exact Mod0 | refine Mod.up ?_ (Nat.le_of_ble_eq_true rfl) | refine Mod.upl ?_ (Nat.le_of_ble_eq_true rfl))⟩
      · skip
        replace c24_2 := b2_n c24_2
        refine w_li rfl rfl ?_
        refine w_ci rfl ?_
        refine w_ci rfl ?_
        refine w_st3r pl_sub_c rfl (Nat.le_of_ble_eq_true rfl) (r_isWithin) ?_
        refine w_if_ne rfl (fun c35_3 => ?_) (fun c35_3 => ?_)
        · skip
          replace c35_3 := b2_n c35_3
          refine w_la rfl rfl ?_
          refine w_gf rfl (mg_0 _ _) rfl ?_
          refine w_gf rfl (mg_1 _ _) rfl ?_
          refine w_ci rfl ?_
          refine w_ic_lt rfl (fun c49_4 => ?_) (fun c49_4 => absurd (show (0 : Int32) < 8 from by decide) c49_4)
          refine w_la rfl rfl ?_
          refine w_gf rfl (mg_0 _ _) rfl ?_
          refine w_li rfl rfl ?_
          refine w_li rfl rfl ?_
          refine w_li rfl rfl ?_
          refine w_li rfl rfl ?_
          refine w_vi4 pl_sub_c rfl (mg_1 _ _) (Nat.le_of_ble_eq_true rfl) (u_add) (fun r2 h2 q => (congrArg List.length q.2).trans rfl) (fun r2 h2 q => ?_)
          rw [q.1, q.2]
          refine w_la rfl rfl ?_
          refine w_gf rfl (mg_0 _ _) rfl ?_
          refine w_gf rfl (mg_1 _ _) rfl ?_
          refine w_ci rfl ?_
          refine w_isub rfl ?_
          refine w_ri rfl ?_
          exact ⟨by first | rfl | (simp_all; done) | (simp_all; rfl) | (simp_all [up2_s]; done) | (simp_all [up2_s]; decide) | decide, _, _, rfl, by repeat (first | exact Mod0 | refine Mod.up ?_ (Nat.le_of_ble_eq_true rfl) | refine Mod.upl ?_ (Nat.le_of_ble_eq_true rfl))⟩
        · skip
          replace c35_3 := b2_0 (Decidable.of_not_not c35_3)
          refine w_ci rfl ?_
          refine w_ri rfl ?_
          exact ⟨by first | rfl | (simp_all; done) | (simp_all; rfl) | (simp_all [up2_s]; done) | (simp_all [up2_s]; decide) | decide, _, _, rfl, by repeat (first | exact Mod0 | refine Mod.up ?_ (Nat.le_of_ble_eq_true rfl) | refine Mod.upl ?_ (Nat.le_of_ble_eq_true rfl))⟩

set_option maxRecDepth 100000 in
set_option maxHeartbeats 2000000 in
theorem d_person {kd th hd pg : Int32} (s : Nat → Nat → Int32) (t : Nat → Nat → Int64) : Wm 137 [.ref 51, .int kd, .int th, .int hd, .int pg] (mk (mS s) (mT t)) (Pm (.int (if (wi kd 0 5 && wi th 0 99 && wi hd 0 9 && wi pg 0 99) = true then 0 else -1))) := by
  refine Wm.of pT_137 (Nat.le_of_ble_eq_true rfl) (L0 := [some (.ref 51), some (.int kd), some (.int th), some (.int hd), some (.int pg), none]) rfl ?_
  refine w_li rfl rfl ?_
  refine w_li rfl rfl ?_
  refine w_st2r pl_sub_c rfl (Nat.le_of_ble_eq_true rfl) (m_isKind) ?_
  refine w_if_eq rfl (fun c5_0 => ?_) (fun c5_0 => ?_)
  · skip
    replace c5_0 := b2_0 c5_0
    refine w_ci rfl ?_
    refine w_ri rfl ?_
    exact ⟨by first | rfl | (simp_all; done) | (simp_all; rfl) | decide, _, _, rfl⟩
  · skip
    replace c5_0 := b2_n c5_0
    refine w_li rfl rfl ?_
    refine w_ci rfl ?_
    refine w_ci rfl ?_
    refine w_st3r pl_sub_c rfl (Nat.le_of_ble_eq_true rfl) (m_in) ?_
    refine w_if_eq rfl (fun c15_1 => ?_) (fun c15_1 => ?_)
    · skip
      replace c15_1 := b2_0 c15_1
      refine w_ci rfl ?_
      refine w_ri rfl ?_
      exact ⟨by first | rfl | (simp_all; done) | (simp_all; rfl) | decide, _, _, rfl⟩
    · skip
      replace c15_1 := b2_n c15_1
      refine w_li rfl rfl ?_
      refine w_ci rfl ?_
      refine w_ci rfl ?_
      refine w_st3r pl_sub_c rfl (Nat.le_of_ble_eq_true rfl) (m_in) ?_
      refine w_if_ne rfl (fun c26_2 => ?_) (fun c26_2 => ?_)
      · skip
        replace c26_2 := b2_n c26_2
        refine w_la rfl rfl ?_
        refine w_gf rfl (mg_51 _ _) rfl ?_
        refine w_ci rfl ?_
        refine w_ia rfl (mr_52 _ _ _) (show ¬ (6 : Int32) < 0 from by decide) (ar_get (show (6 : Int32).toNatClampNeg < 56 from by decide)) ?_
        refine w_ci rfl ?_
        refine w_ic_ne rfl (fun c40_3 => ?_) (fun c40_3 => absurd (show ¬ (0 : Int32) = 8 from by decide) c40_3)
        refine w_la rfl rfl ?_
        refine w_gf rfl (mg_51 _ _) rfl ?_
        refine w_ci rfl ?_
        refine w_ia rfl (mr_52 _ _ _) (show ¬ (6 : Int32) < 0 from by decide) (ar_get (show (6 : Int32).toNatClampNeg < 56 from by decide)) ?_
        refine w_si rfl (Nat.le_of_ble_eq_true rfl) rfl ?_
        refine w_la rfl rfl ?_
        refine w_li rfl rfl ?_
        refine w_ci rfl ?_
        refine w_li rfl rfl ?_
        refine w_vi3 pl_sub_c rfl (mg_51 _ _) (Nat.le_of_ble_eq_true rfl) (u_sets_0) (fun r2 h2 q => (congrArg List.length q.2).trans rfl) (fun r2 h2 q => ?_)
        rw [q.1, q.2]
        refine w_la rfl rfl ?_
        refine w_li rfl rfl ?_
        refine w_ci rfl ?_
        refine w_li rfl rfl ?_
        refine w_vi3 pl_sub_c rfl (mg_51 _ _) (Nat.le_of_ble_eq_true rfl) (u_sets_1) (fun r2 h2 q => (congrArg List.length q.2).trans rfl) (fun r2 h2 q => ?_)
        rw [q.1, q.2]
        refine w_la rfl rfl ?_
        refine w_li rfl rfl ?_
        refine w_ci rfl ?_
        refine w_li rfl rfl ?_
        refine w_vi3 pl_sub_c rfl (mg_51 _ _) (Nat.le_of_ble_eq_true rfl) (u_sets_2) (fun r2 h2 q => (congrArg List.length q.2).trans rfl) (fun r2 h2 q => ?_)
        rw [q.1, q.2]
        refine w_la rfl rfl ?_
        refine w_li rfl rfl ?_
        refine w_ci rfl ?_
        refine w_li rfl rfl ?_
        refine w_vi3 pl_sub_c rfl (mg_51 _ _) (Nat.le_of_ble_eq_true rfl) (u_sets_3) (fun r2 h2 q => (congrArg List.length q.2).trans rfl) (fun r2 h2 q => ?_)
        rw [q.1, q.2]
        refine w_la rfl rfl ?_
        refine w_li rfl rfl ?_
        refine w_ci rfl ?_
        refine w_ci rfl ?_
        refine w_vi3 pl_sub_c rfl (mg_51 _ _) (Nat.le_of_ble_eq_true rfl) (u_sets_4) (fun r2 h2 q => (congrArg List.length q.2).trans rfl) (fun r2 h2 q => ?_)
        rw [q.1, q.2]
        refine w_la rfl rfl ?_
        refine w_li rfl rfl ?_
        refine w_ci rfl ?_
        refine w_ci rfl ?_
        refine w_vi3 pl_sub_c rfl (mg_51 _ _) (Nat.le_of_ble_eq_true rfl) (u_sets_5) (fun r2 h2 q => (congrArg List.length q.2).trans rfl) (fun r2 h2 q => ?_)
        rw [q.1, q.2]
        refine w_la rfl rfl ?_
        refine w_gf rfl (mg_51 _ _) rfl ?_
        refine w_ci rfl ?_
        refine w_dup2 rfl rfl rfl ?_
        refine w_ia rfl (mr_52 _ _ _) (show ¬ (6 : Int32) < 0 from by decide) (ar_get (show (6 : Int32).toNatClampNeg < 56 from by decide)) ?_
        refine w_ci rfl ?_
        refine w_iadd rfl ?_
        refine w_is rfl (mg_52 _ _) (show ¬ (6 : Int32) < 0 from by decide) (by rw [ar_len]; exact (show (6 : Int32).toNatClampNeg < 56 from by decide)) (ms_52 _ _ _ _) ?_
        refine w_li rfl rfl ?_
        refine w_ri rfl ?_
        exact ⟨by first | rfl | (simp_all; done) | (simp_all; rfl) | decide, _, _, rfl⟩
      · skip
        replace c26_2 := b2_0 (Decidable.of_not_not c26_2)
        refine w_ci rfl ?_
        refine w_ri rfl ?_
        exact ⟨by first | rfl | (simp_all; done) | (simp_all; rfl) | decide, _, _, rfl⟩

theorem b_person {kd th hd pg : Int32} : Bth 56 137 [.int kd, .int th, .int hd, .int pg] := Bth.of (c_person ) (fun s t => d_person  s t)
theorem sw_out {x : Int32} {ts : List Nat} {d m : Nat} (hl : ts.length = m + 1) (hm : m < 2 ^ 31) (hx : wi x 0 (nI m) = false) : (if x.toInt < 0 then d else (ts[(x.toInt - 0).toNat]?).getD d) = d := by
  by_cases h : x.toInt < 0
  · rw [if_pos h]
  · rw [if_neg h]
    have h2 : ts[(x.toInt - 0).toNat]? = none := by
      apply List.getElem?_eq_none
      have h3 : ¬ x ≤ nI m := by
        intro h4
        have h5 : (0 : Int32) ≤ x := by
          rw [Int32.le_iff_toInt_le]
          have h0 : (0 : Int32).toInt = 0 := by decide
          rw [h0]; omega
        simp [wi, h5, h4] at hx
      rw [Int32.le_iff_toInt_le, nI_toInt hm] at h3
      omega
    rw [h2]
    rfl
set_option maxRecDepth 100000 in
set_option maxHeartbeats 2000000 in
theorem c_state_out {x : Int32} (hx : wi x 0 (nI 5) = false) : Wm 67 [.ref 0, .int x] (mk s0 t0) (Pc (.int (-1))) := by
  refine Wm.of pT_67 (Nat.le_of_ble_eq_true rfl) (L0 := [some (.ref 0), some (.int x)]) rfl ?_
  refine w_li rfl rfl ?_
  refine w_swI rfl (sw_out (m := 5) rfl (by decide) hx) ?_
  refine w_ci rfl ?_
  refine w_ri rfl ?_
  exact ⟨by first | rfl | (simp_all; done) | (simp_all; rfl) | (simp_all [up2_s]; done) | (simp_all [up2_s]; decide) | decide, _, _, rfl, by repeat (first | exact Mod0 | refine Mod.up ?_ (Nat.le_of_ble_eq_true rfl) | refine Mod.upl ?_ (Nat.le_of_ble_eq_true rfl))⟩

set_option maxRecDepth 100000 in
set_option maxHeartbeats 2000000 in
theorem d_state_out {x : Int32} (hx : wi x 0 (nI 5) = false) (s : Nat → Nat → Int32) (t : Nat → Nat → Int64) : Wm 161 [.ref 51, .int x] (mk (mS s) (mT t)) (Pm (.int (-1))) := by
  refine Wm.of pT_161 (Nat.le_of_ble_eq_true rfl) (L0 := [some (.ref 51), some (.int x)]) rfl ?_
  refine w_li rfl rfl ?_
  refine w_swI rfl (sw_out (m := 5) rfl (by decide) hx) ?_
  refine w_ci rfl ?_
  refine w_ri rfl ?_
  exact ⟨by first | rfl | (simp_all; done) | (simp_all; rfl) | decide, _, _, rfl⟩

theorem b_state_out {x : Int32} (hx : wi x 0 (nI 5) = false) : Bth 67 161 [.int x] := Bth.of (c_state_out hx) (fun s t => d_state_out hx s t)
theorem q_state : ∀ j : Nat, j < 6 → chk 2000 67 161 [.int (nI j)] = true := by decide +kernel
theorem B_state (x : Int32) : Bth 67 161 [.int x] := by
  rcases tf (wi x 0 (nI 5)) with h | h
  · obtain ⟨j, hj, rfl⟩ := en (n := 5) (by decide) h
    exact Bth.of_chk (q_state j (by omega))
  · exact b_state_out h
set_option maxRecDepth 100000 in
set_option maxHeartbeats 2000000 in
theorem c_many_out {x : Int32} (hx : wi x 0 (nI 6) = false) : Wm 92 [.ref 0, .int x] (mk s0 t0) (Pc (.int (-1))) := by
  refine Wm.of pT_92 (Nat.le_of_ble_eq_true rfl) (L0 := [some (.ref 0), some (.int x)]) rfl ?_
  refine w_li rfl rfl ?_
  refine w_swI rfl (sw_out (m := 6) rfl (by decide) hx) ?_
  refine w_ci rfl ?_
  refine w_ri rfl ?_
  exact ⟨by first | rfl | (simp_all; done) | (simp_all; rfl) | (simp_all [up2_s]; done) | (simp_all [up2_s]; decide) | decide, _, _, rfl, by repeat (first | exact Mod0 | refine Mod.up ?_ (Nat.le_of_ble_eq_true rfl) | refine Mod.upl ?_ (Nat.le_of_ble_eq_true rfl))⟩

set_option maxRecDepth 100000 in
set_option maxHeartbeats 2000000 in
theorem d_many_out {x : Int32} (hx : wi x 0 (nI 6) = false) (s : Nat → Nat → Int32) (t : Nat → Nat → Int64) : Wm 209 [.ref 51, .int x] (mk (mS s) (mT t)) (Pm (.int (-1))) := by
  refine Wm.of pT_209 (Nat.le_of_ble_eq_true rfl) (L0 := [some (.ref 51), some (.int x)]) rfl ?_
  refine w_li rfl rfl ?_
  refine w_swI rfl (sw_out (m := 6) rfl (by decide) hx) ?_
  refine w_ci rfl ?_
  refine w_ri rfl ?_
  exact ⟨by first | rfl | (simp_all; done) | (simp_all; rfl) | decide, _, _, rfl⟩

theorem b_many_out {x : Int32} (hx : wi x 0 (nI 6) = false) : Bth 92 209 [.int x] := Bth.of (c_many_out hx) (fun s t => d_many_out hx s t)
theorem q_many : ∀ j : Nat, j < 7 → chk 2000 92 209 [.int (nI j)] = true := by decide +kernel
theorem B_many (x : Int32) : Bth 92 209 [.int x] := by
  rcases tf (wi x 0 (nI 6)) with h | h
  · obtain ⟨j, hj, rfl⟩ := en (n := 6) (by decide) h
    exact Bth.of_chk (q_many j (by omega))
  · exact b_many_out h
set_option maxRecDepth 100000 in
set_option maxHeartbeats 2000000 in
theorem c_put_0 {i v : Int32}  : Wm 86 [.ref 0, .int 0, .int i, .int v] (mk s0 t0) (Pc (.int (-11))) := by
  refine Wm.of pT_86 (Nat.le_of_ble_eq_true rfl) (L0 := [some (.ref 0), some (.int 0), some (.int i), some (.int v), none]) rfl ?_
  refine w_li rfl rfl ?_
  refine w_st1r pl_sub_c rfl (Nat.le_of_ble_eq_true rfl) (r_isPlace) ?_
  refine w_if_ne rfl (fun c4_0 => ?_) (fun c4_0 => absurd ((show ¬ b2 (wi 0 0 3) = 0 from by decide)) c4_0)
  refine w_la rfl rfl ?_
  refine w_gf rfl (mg_0 _ _) rfl ?_
  refine w_li rfl rfl ?_
  refine w_aa rfl (mg_35 _ _) (show ¬ (0 : Int32) < 0 from by decide) (q := 37) rfl ?_
  refine w_sa rfl (Nat.le_of_ble_eq_true rfl) rfl ?_
  refine w_la rfl rfl ?_
  refine w_gf rfl (mg_37 _ _) rfl ?_
  refine w_ci rfl ?_
  refine w_ic_ne rfl (fun c23_0 => absurd c23_0 (show ¬ (¬ ((-1) : Int32) = (-1)) from by decide)) (fun c23_0 => ?_)
  refine w_ci rfl ?_
  refine w_ri rfl ?_
  exact ⟨by first | rfl | (simp_all; done) | (simp_all; rfl) | (simp_all [up2_s]; done) | (simp_all [up2_s]; decide) | decide, _, _, rfl, by repeat (first | exact Mod0 | refine Mod.up ?_ (Nat.le_of_ble_eq_true rfl) | refine Mod.upl ?_ (Nat.le_of_ble_eq_true rfl))⟩

set_option maxRecDepth 100000 in
set_option maxHeartbeats 2000000 in
theorem d_put_0 {i v : Int32} (s : Nat → Nat → Int32) (t : Nat → Nat → Int64) : Wm 188 [.ref 51, .int 0, .int i, .int v] (mk (mS s) (mT t)) (Pm (.int (-11))) := by
  refine Wm.of pT_188 (Nat.le_of_ble_eq_true rfl) (L0 := [some (.ref 51), some (.int 0), some (.int i), some (.int v)]) rfl ?_
  refine w_li rfl rfl ?_
  refine w_st1r pl_sub_c rfl (Nat.le_of_ble_eq_true rfl) (m_isShelf) ?_
  refine w_if_ne rfl (fun c4_0 => ?_) (fun c4_0 => absurd ((show ¬ b2 (wi 0 0 3) = 0 from by decide)) c4_0)
  refine w_la rfl rfl ?_
  refine w_gf rfl (mg_51 _ _) rfl ?_
  refine w_li rfl rfl ?_
  refine w_ia rfl (mr_60 _ _ _) (show ¬ (0 : Int32) < 0 from by decide) (ar_get (show (0 : Int32).toNatClampNeg < 4 from by decide)) ?_
  refine w_if_ge rfl (fun c15_0 => absurd c15_0 (show ¬ ((0 : Int32) ≤ (-1)) from by decide)) (fun c15_0 => ?_)
  refine w_ci rfl ?_
  refine w_ri rfl ?_
  exact ⟨by first | rfl | (simp_all; done) | (simp_all; rfl) | decide, _, _, rfl⟩

theorem b_put_0 {i v : Int32} : Bth 86 188 [.int 0, .int i, .int v] := Bth.of (c_put_0 ) (fun s t => d_put_0  s t)
set_option maxRecDepth 100000 in
set_option maxHeartbeats 2000000 in
theorem c_put_1 {i v : Int32}  : Wm 86 [.ref 0, .int 1, .int i, .int v] (mk s0 t0) (Pc (.int (-11))) := by
  refine Wm.of pT_86 (Nat.le_of_ble_eq_true rfl) (L0 := [some (.ref 0), some (.int 1), some (.int i), some (.int v), none]) rfl ?_
  refine w_li rfl rfl ?_
  refine w_st1r pl_sub_c rfl (Nat.le_of_ble_eq_true rfl) (r_isPlace) ?_
  refine w_if_ne rfl (fun c4_0 => ?_) (fun c4_0 => absurd ((show ¬ b2 (wi 1 0 3) = 0 from by decide)) c4_0)
  refine w_la rfl rfl ?_
  refine w_gf rfl (mg_0 _ _) rfl ?_
  refine w_li rfl rfl ?_
  refine w_aa rfl (mg_35 _ _) (show ¬ (1 : Int32) < 0 from by decide) (q := 40) rfl ?_
  refine w_sa rfl (Nat.le_of_ble_eq_true rfl) rfl ?_
  refine w_la rfl rfl ?_
  refine w_gf rfl (mg_40 _ _) rfl ?_
  refine w_ci rfl ?_
  refine w_ic_ne rfl (fun c23_0 => absurd c23_0 (show ¬ (¬ ((-1) : Int32) = (-1)) from by decide)) (fun c23_0 => ?_)
  refine w_ci rfl ?_
  refine w_ri rfl ?_
  exact ⟨by first | rfl | (simp_all; done) | (simp_all; rfl) | (simp_all [up2_s]; done) | (simp_all [up2_s]; decide) | decide, _, _, rfl, by repeat (first | exact Mod0 | refine Mod.up ?_ (Nat.le_of_ble_eq_true rfl) | refine Mod.upl ?_ (Nat.le_of_ble_eq_true rfl))⟩

set_option maxRecDepth 100000 in
set_option maxHeartbeats 2000000 in
theorem d_put_1 {i v : Int32} (s : Nat → Nat → Int32) (t : Nat → Nat → Int64) : Wm 188 [.ref 51, .int 1, .int i, .int v] (mk (mS s) (mT t)) (Pm (.int (-11))) := by
  refine Wm.of pT_188 (Nat.le_of_ble_eq_true rfl) (L0 := [some (.ref 51), some (.int 1), some (.int i), some (.int v)]) rfl ?_
  refine w_li rfl rfl ?_
  refine w_st1r pl_sub_c rfl (Nat.le_of_ble_eq_true rfl) (m_isShelf) ?_
  refine w_if_ne rfl (fun c4_0 => ?_) (fun c4_0 => absurd ((show ¬ b2 (wi 1 0 3) = 0 from by decide)) c4_0)
  refine w_la rfl rfl ?_
  refine w_gf rfl (mg_51 _ _) rfl ?_
  refine w_li rfl rfl ?_
  refine w_ia rfl (mr_60 _ _ _) (show ¬ (1 : Int32) < 0 from by decide) (ar_get (show (1 : Int32).toNatClampNeg < 4 from by decide)) ?_
  refine w_if_ge rfl (fun c15_0 => absurd c15_0 (show ¬ ((0 : Int32) ≤ (-1)) from by decide)) (fun c15_0 => ?_)
  refine w_ci rfl ?_
  refine w_ri rfl ?_
  exact ⟨by first | rfl | (simp_all; done) | (simp_all; rfl) | decide, _, _, rfl⟩

theorem b_put_1 {i v : Int32} : Bth 86 188 [.int 1, .int i, .int v] := Bth.of (c_put_1 ) (fun s t => d_put_1  s t)
set_option maxRecDepth 100000 in
set_option maxHeartbeats 2000000 in
theorem c_put_2 {i v : Int32}  : Wm 86 [.ref 0, .int 2, .int i, .int v] (mk s0 t0) (Pc (.int (-11))) := by
  refine Wm.of pT_86 (Nat.le_of_ble_eq_true rfl) (L0 := [some (.ref 0), some (.int 2), some (.int i), some (.int v), none]) rfl ?_
  refine w_li rfl rfl ?_
  refine w_st1r pl_sub_c rfl (Nat.le_of_ble_eq_true rfl) (r_isPlace) ?_
  refine w_if_ne rfl (fun c4_0 => ?_) (fun c4_0 => absurd ((show ¬ b2 (wi 2 0 3) = 0 from by decide)) c4_0)
  refine w_la rfl rfl ?_
  refine w_gf rfl (mg_0 _ _) rfl ?_
  refine w_li rfl rfl ?_
  refine w_aa rfl (mg_35 _ _) (show ¬ (2 : Int32) < 0 from by decide) (q := 43) rfl ?_
  refine w_sa rfl (Nat.le_of_ble_eq_true rfl) rfl ?_
  refine w_la rfl rfl ?_
  refine w_gf rfl (mg_43 _ _) rfl ?_
  refine w_ci rfl ?_
  refine w_ic_ne rfl (fun c23_0 => absurd c23_0 (show ¬ (¬ ((-1) : Int32) = (-1)) from by decide)) (fun c23_0 => ?_)
  refine w_ci rfl ?_
  refine w_ri rfl ?_
  exact ⟨by first | rfl | (simp_all; done) | (simp_all; rfl) | (simp_all [up2_s]; done) | (simp_all [up2_s]; decide) | decide, _, _, rfl, by repeat (first | exact Mod0 | refine Mod.up ?_ (Nat.le_of_ble_eq_true rfl) | refine Mod.upl ?_ (Nat.le_of_ble_eq_true rfl))⟩

set_option maxRecDepth 100000 in
set_option maxHeartbeats 2000000 in
theorem d_put_2 {i v : Int32} (s : Nat → Nat → Int32) (t : Nat → Nat → Int64) : Wm 188 [.ref 51, .int 2, .int i, .int v] (mk (mS s) (mT t)) (Pm (.int (-11))) := by
  refine Wm.of pT_188 (Nat.le_of_ble_eq_true rfl) (L0 := [some (.ref 51), some (.int 2), some (.int i), some (.int v)]) rfl ?_
  refine w_li rfl rfl ?_
  refine w_st1r pl_sub_c rfl (Nat.le_of_ble_eq_true rfl) (m_isShelf) ?_
  refine w_if_ne rfl (fun c4_0 => ?_) (fun c4_0 => absurd ((show ¬ b2 (wi 2 0 3) = 0 from by decide)) c4_0)
  refine w_la rfl rfl ?_
  refine w_gf rfl (mg_51 _ _) rfl ?_
  refine w_li rfl rfl ?_
  refine w_ia rfl (mr_60 _ _ _) (show ¬ (2 : Int32) < 0 from by decide) (ar_get (show (2 : Int32).toNatClampNeg < 4 from by decide)) ?_
  refine w_if_ge rfl (fun c15_0 => absurd c15_0 (show ¬ ((0 : Int32) ≤ (-1)) from by decide)) (fun c15_0 => ?_)
  refine w_ci rfl ?_
  refine w_ri rfl ?_
  exact ⟨by first | rfl | (simp_all; done) | (simp_all; rfl) | decide, _, _, rfl⟩

theorem b_put_2 {i v : Int32} : Bth 86 188 [.int 2, .int i, .int v] := Bth.of (c_put_2 ) (fun s t => d_put_2  s t)
set_option maxRecDepth 100000 in
set_option maxHeartbeats 2000000 in
theorem c_put_3 {i v : Int32}  : Wm 86 [.ref 0, .int 3, .int i, .int v] (mk s0 t0) (Pc (.int (-11))) := by
  refine Wm.of pT_86 (Nat.le_of_ble_eq_true rfl) (L0 := [some (.ref 0), some (.int 3), some (.int i), some (.int v), none]) rfl ?_
  refine w_li rfl rfl ?_
  refine w_st1r pl_sub_c rfl (Nat.le_of_ble_eq_true rfl) (r_isPlace) ?_
  refine w_if_ne rfl (fun c4_0 => ?_) (fun c4_0 => absurd ((show ¬ b2 (wi 3 0 3) = 0 from by decide)) c4_0)
  refine w_la rfl rfl ?_
  refine w_gf rfl (mg_0 _ _) rfl ?_
  refine w_li rfl rfl ?_
  refine w_aa rfl (mg_35 _ _) (show ¬ (3 : Int32) < 0 from by decide) (q := 46) rfl ?_
  refine w_sa rfl (Nat.le_of_ble_eq_true rfl) rfl ?_
  refine w_la rfl rfl ?_
  refine w_gf rfl (mg_46 _ _) rfl ?_
  refine w_ci rfl ?_
  refine w_ic_ne rfl (fun c23_0 => absurd c23_0 (show ¬ (¬ ((-1) : Int32) = (-1)) from by decide)) (fun c23_0 => ?_)
  refine w_ci rfl ?_
  refine w_ri rfl ?_
  exact ⟨by first | rfl | (simp_all; done) | (simp_all; rfl) | (simp_all [up2_s]; done) | (simp_all [up2_s]; decide) | decide, _, _, rfl, by repeat (first | exact Mod0 | refine Mod.up ?_ (Nat.le_of_ble_eq_true rfl) | refine Mod.upl ?_ (Nat.le_of_ble_eq_true rfl))⟩

set_option maxRecDepth 100000 in
set_option maxHeartbeats 2000000 in
theorem d_put_3 {i v : Int32} (s : Nat → Nat → Int32) (t : Nat → Nat → Int64) : Wm 188 [.ref 51, .int 3, .int i, .int v] (mk (mS s) (mT t)) (Pm (.int (-11))) := by
  refine Wm.of pT_188 (Nat.le_of_ble_eq_true rfl) (L0 := [some (.ref 51), some (.int 3), some (.int i), some (.int v)]) rfl ?_
  refine w_li rfl rfl ?_
  refine w_st1r pl_sub_c rfl (Nat.le_of_ble_eq_true rfl) (m_isShelf) ?_
  refine w_if_ne rfl (fun c4_0 => ?_) (fun c4_0 => absurd ((show ¬ b2 (wi 3 0 3) = 0 from by decide)) c4_0)
  refine w_la rfl rfl ?_
  refine w_gf rfl (mg_51 _ _) rfl ?_
  refine w_li rfl rfl ?_
  refine w_ia rfl (mr_60 _ _ _) (show ¬ (3 : Int32) < 0 from by decide) (ar_get (show (3 : Int32).toNatClampNeg < 4 from by decide)) ?_
  refine w_if_ge rfl (fun c15_0 => absurd c15_0 (show ¬ ((0 : Int32) ≤ (-1)) from by decide)) (fun c15_0 => ?_)
  refine w_ci rfl ?_
  refine w_ri rfl ?_
  exact ⟨by first | rfl | (simp_all; done) | (simp_all; rfl) | decide, _, _, rfl⟩

theorem b_put_3 {i v : Int32} : Bth 86 188 [.int 3, .int i, .int v] := Bth.of (c_put_3 ) (fun s t => d_put_3  s t)
set_option maxRecDepth 100000 in
set_option maxHeartbeats 2000000 in
theorem c_put_out {z i v : Int32} (hx : wi z 0 3 = false) : Wm 86 [.ref 0, .int z, .int i, .int v] (mk s0 t0) (Pc (.int (-1))) := by
  refine Wm.of pT_86 (Nat.le_of_ble_eq_true rfl) (L0 := [some (.ref 0), some (.int z), some (.int i), some (.int v), none]) rfl ?_
  refine w_li rfl rfl ?_
  refine w_st1r pl_sub_c rfl (Nat.le_of_ble_eq_true rfl) (r_isPlace) ?_
  refine w_if_ne rfl (fun c4_0 => ?_) (fun c4_0 => ?_)
  · skip
    replace c4_0 := b2_n c4_0
    exact absurd (hx.symm.trans c4_0) (by decide)
  · skip
    replace c4_0 := b2_0 (Decidable.of_not_not c4_0)
    refine w_ci rfl ?_
    refine w_ri rfl ?_
    exact ⟨by first | rfl | (simp_all; done) | (simp_all; rfl) | (simp_all [up2_s]; done) | (simp_all [up2_s]; decide) | decide, _, _, rfl, by repeat (first | exact Mod0 | refine Mod.up ?_ (Nat.le_of_ble_eq_true rfl) | refine Mod.upl ?_ (Nat.le_of_ble_eq_true rfl))⟩

set_option maxRecDepth 100000 in
set_option maxHeartbeats 2000000 in
theorem d_put_out {z i v : Int32} (hx : wi z 0 3 = false) (s : Nat → Nat → Int32) (t : Nat → Nat → Int64) : Wm 188 [.ref 51, .int z, .int i, .int v] (mk (mS s) (mT t)) (Pm (.int (-1))) := by
  refine Wm.of pT_188 (Nat.le_of_ble_eq_true rfl) (L0 := [some (.ref 51), some (.int z), some (.int i), some (.int v)]) rfl ?_
  refine w_li rfl rfl ?_
  refine w_st1r pl_sub_c rfl (Nat.le_of_ble_eq_true rfl) (m_isShelf) ?_
  refine w_if_ne rfl (fun c4_0 => ?_) (fun c4_0 => ?_)
  · skip
    replace c4_0 := b2_n c4_0
    exact absurd (hx.symm.trans c4_0) (by decide)
  · skip
    replace c4_0 := b2_0 (Decidable.of_not_not c4_0)
    refine w_ci rfl ?_
    refine w_ri rfl ?_
    exact ⟨by first | rfl | (simp_all; done) | (simp_all; rfl) | decide, _, _, rfl⟩

theorem b_put_out {z i v : Int32} (hx : wi z 0 3 = false) : Bth 86 188 [.int z, .int i, .int v] := Bth.of (c_put_out hx) (fun s t => d_put_out hx s t)
theorem B_put (z i v : Int32) : Bth 86 188 [.int z, .int i, .int v] := by
  rcases tf (wi z 0 3) with h | h
  · rcases en3 h with rfl | rfl | rfl | rfl
    · exact b_put_0
    · exact b_put_1
    · exact b_put_2
    · exact b_put_3
  · exact b_put_out h
set_option maxRecDepth 100000 in
set_option maxHeartbeats 2000000 in
theorem u_lacks_0 {s : Nat → Nat → Int32} {t : Nat → Nat → Int64} {v : Int32} : Wm 189 [.ref 51, .int 0, .int v] (mk (mS s) (mT t)) (fun r h => r = some (.int (-11)) ∧ h = mk (mS s) (mT t)) := by
  refine Wm.of pT_189 (Nat.le_of_ble_eq_true rfl) (L0 := [some (.ref 51), some (.int 0), some (.int v)]) rfl ?_
  refine w_la rfl rfl ?_
  refine w_gf rfl (mg_51 _ _) rfl ?_
  refine w_li rfl rfl ?_
  refine w_ia rfl (mr_60 _ _ _) (show ¬ (0 : Int32) < 0 from by decide) (ar_get (show (0 : Int32).toNatClampNeg < 4 from by decide)) ?_
  refine w_if_ge rfl (fun c6_0 => absurd c6_0 (show ¬ ((0 : Int32) ≤ (-1)) from by decide)) (fun c6_0 => ?_)
  refine w_ci rfl ?_
  refine w_go rfl ?_
  refine w_ri rfl ?_
  exact ⟨rfl, rfl⟩

set_option maxRecDepth 100000 in
set_option maxHeartbeats 2000000 in
theorem u_kindOn_0 {s : Nat → Nat → Int32} {t : Nat → Nat → Int64} : Wm 193 [.ref 51, .int 0] (mk (mS s) (mT t)) (fun r h => r = some (.int (-1)) ∧ h = mk (mS s) (mT t)) := by
  refine Wm.of pT_193 (Nat.le_of_ble_eq_true rfl) (L0 := [some (.ref 51), some (.int 0)]) rfl ?_
  refine w_la rfl rfl ?_
  refine w_gf rfl (mg_51 _ _) rfl ?_
  refine w_li rfl rfl ?_
  refine w_ia rfl (mr_63 _ _ _) (show ¬ (0 : Int32) < 0 from by decide) (ar_get (show (0 : Int32).toNatClampNeg < 4 from by decide)) ?_
  refine w_if_eq rfl (fun c6_0 => absurd c6_0 (show ¬ (((-1) : Int32) = 0) from by decide)) (fun c6_0 => ?_)
  refine w_la rfl rfl ?_
  refine w_gf rfl (mg_51 _ _) rfl ?_
  refine w_li rfl rfl ?_
  refine w_ia rfl (mr_63 _ _ _) (show ¬ (0 : Int32) < 0 from by decide) (ar_get (show (0 : Int32).toNatClampNeg < 4 from by decide)) ?_
  refine w_if_ge rfl (fun c15_0 => absurd c15_0 (show ¬ ((0 : Int32) ≤ (-1)) from by decide)) (fun c15_0 => ?_)
  refine w_ci rfl ?_
  refine w_go rfl ?_
  refine w_ri rfl ?_
  exact ⟨rfl, rfl⟩

set_option maxRecDepth 100000 in
set_option maxHeartbeats 2000000 in
theorem u_kindOnA_0 {s : Nat → Nat → Int32} {t : Nat → Nat → Int64} : Wm 193 [.ref 51, .int 0] (mk (up2 (mS s) 51 28 0) (mT t)) (fun r h => r = some (.int (-1)) ∧ h = mk (up2 (mS s) 51 28 0) (mT t)) := by
  refine Wm.of pT_193 (Nat.le_of_ble_eq_true rfl) (L0 := [some (.ref 51), some (.int 0)]) rfl ?_
  refine w_la rfl rfl ?_
  refine w_gf rfl (mg_51 _ _) rfl ?_
  refine w_li rfl rfl ?_
  refine w_ia rfl (mr_63 _ _ _) (show ¬ (0 : Int32) < 0 from by decide) (ar_get (show (0 : Int32).toNatClampNeg < 4 from by decide)) ?_
  refine w_if_eq rfl (fun c6_0 => absurd c6_0 (show ¬ (((-1) : Int32) = 0) from by decide)) (fun c6_0 => ?_)
  refine w_la rfl rfl ?_
  refine w_gf rfl (mg_51 _ _) rfl ?_
  refine w_li rfl rfl ?_
  refine w_ia rfl (mr_63 _ _ _) (show ¬ (0 : Int32) < 0 from by decide) (ar_get (show (0 : Int32).toNatClampNeg < 4 from by decide)) ?_
  refine w_if_ge rfl (fun c15_0 => absurd c15_0 (show ¬ ((0 : Int32) ≤ (-1)) from by decide)) (fun c15_0 => ?_)
  refine w_ci rfl ?_
  refine w_go rfl ?_
  refine w_ri rfl ?_
  exact ⟨rfl, rfl⟩

set_option maxRecDepth 100000 in
set_option maxHeartbeats 2000000 in
theorem u_lacks_1 {s : Nat → Nat → Int32} {t : Nat → Nat → Int64} {v : Int32} : Wm 189 [.ref 51, .int 1, .int v] (mk (mS s) (mT t)) (fun r h => r = some (.int (-11)) ∧ h = mk (mS s) (mT t)) := by
  refine Wm.of pT_189 (Nat.le_of_ble_eq_true rfl) (L0 := [some (.ref 51), some (.int 1), some (.int v)]) rfl ?_
  refine w_la rfl rfl ?_
  refine w_gf rfl (mg_51 _ _) rfl ?_
  refine w_li rfl rfl ?_
  refine w_ia rfl (mr_60 _ _ _) (show ¬ (1 : Int32) < 0 from by decide) (ar_get (show (1 : Int32).toNatClampNeg < 4 from by decide)) ?_
  refine w_if_ge rfl (fun c6_0 => absurd c6_0 (show ¬ ((0 : Int32) ≤ (-1)) from by decide)) (fun c6_0 => ?_)
  refine w_ci rfl ?_
  refine w_go rfl ?_
  refine w_ri rfl ?_
  exact ⟨rfl, rfl⟩

set_option maxRecDepth 100000 in
set_option maxHeartbeats 2000000 in
theorem u_kindOn_1 {s : Nat → Nat → Int32} {t : Nat → Nat → Int64} : Wm 193 [.ref 51, .int 1] (mk (mS s) (mT t)) (fun r h => r = some (.int (-1)) ∧ h = mk (mS s) (mT t)) := by
  refine Wm.of pT_193 (Nat.le_of_ble_eq_true rfl) (L0 := [some (.ref 51), some (.int 1)]) rfl ?_
  refine w_la rfl rfl ?_
  refine w_gf rfl (mg_51 _ _) rfl ?_
  refine w_li rfl rfl ?_
  refine w_ia rfl (mr_63 _ _ _) (show ¬ (1 : Int32) < 0 from by decide) (ar_get (show (1 : Int32).toNatClampNeg < 4 from by decide)) ?_
  refine w_if_eq rfl (fun c6_0 => absurd c6_0 (show ¬ (((-1) : Int32) = 0) from by decide)) (fun c6_0 => ?_)
  refine w_la rfl rfl ?_
  refine w_gf rfl (mg_51 _ _) rfl ?_
  refine w_li rfl rfl ?_
  refine w_ia rfl (mr_63 _ _ _) (show ¬ (1 : Int32) < 0 from by decide) (ar_get (show (1 : Int32).toNatClampNeg < 4 from by decide)) ?_
  refine w_if_ge rfl (fun c15_0 => absurd c15_0 (show ¬ ((0 : Int32) ≤ (-1)) from by decide)) (fun c15_0 => ?_)
  refine w_ci rfl ?_
  refine w_go rfl ?_
  refine w_ri rfl ?_
  exact ⟨rfl, rfl⟩

set_option maxRecDepth 100000 in
set_option maxHeartbeats 2000000 in
theorem u_kindOnA_1 {s : Nat → Nat → Int32} {t : Nat → Nat → Int64} : Wm 193 [.ref 51, .int 1] (mk (up2 (mS s) 51 28 0) (mT t)) (fun r h => r = some (.int (-1)) ∧ h = mk (up2 (mS s) 51 28 0) (mT t)) := by
  refine Wm.of pT_193 (Nat.le_of_ble_eq_true rfl) (L0 := [some (.ref 51), some (.int 1)]) rfl ?_
  refine w_la rfl rfl ?_
  refine w_gf rfl (mg_51 _ _) rfl ?_
  refine w_li rfl rfl ?_
  refine w_ia rfl (mr_63 _ _ _) (show ¬ (1 : Int32) < 0 from by decide) (ar_get (show (1 : Int32).toNatClampNeg < 4 from by decide)) ?_
  refine w_if_eq rfl (fun c6_0 => absurd c6_0 (show ¬ (((-1) : Int32) = 0) from by decide)) (fun c6_0 => ?_)
  refine w_la rfl rfl ?_
  refine w_gf rfl (mg_51 _ _) rfl ?_
  refine w_li rfl rfl ?_
  refine w_ia rfl (mr_63 _ _ _) (show ¬ (1 : Int32) < 0 from by decide) (ar_get (show (1 : Int32).toNatClampNeg < 4 from by decide)) ?_
  refine w_if_ge rfl (fun c15_0 => absurd c15_0 (show ¬ ((0 : Int32) ≤ (-1)) from by decide)) (fun c15_0 => ?_)
  refine w_ci rfl ?_
  refine w_go rfl ?_
  refine w_ri rfl ?_
  exact ⟨rfl, rfl⟩

set_option maxRecDepth 100000 in
set_option maxHeartbeats 2000000 in
theorem u_lacks_2 {s : Nat → Nat → Int32} {t : Nat → Nat → Int64} {v : Int32} : Wm 189 [.ref 51, .int 2, .int v] (mk (mS s) (mT t)) (fun r h => r = some (.int (-11)) ∧ h = mk (mS s) (mT t)) := by
  refine Wm.of pT_189 (Nat.le_of_ble_eq_true rfl) (L0 := [some (.ref 51), some (.int 2), some (.int v)]) rfl ?_
  refine w_la rfl rfl ?_
  refine w_gf rfl (mg_51 _ _) rfl ?_
  refine w_li rfl rfl ?_
  refine w_ia rfl (mr_60 _ _ _) (show ¬ (2 : Int32) < 0 from by decide) (ar_get (show (2 : Int32).toNatClampNeg < 4 from by decide)) ?_
  refine w_if_ge rfl (fun c6_0 => absurd c6_0 (show ¬ ((0 : Int32) ≤ (-1)) from by decide)) (fun c6_0 => ?_)
  refine w_ci rfl ?_
  refine w_go rfl ?_
  refine w_ri rfl ?_
  exact ⟨rfl, rfl⟩

set_option maxRecDepth 100000 in
set_option maxHeartbeats 2000000 in
theorem u_kindOn_2 {s : Nat → Nat → Int32} {t : Nat → Nat → Int64} : Wm 193 [.ref 51, .int 2] (mk (mS s) (mT t)) (fun r h => r = some (.int (-1)) ∧ h = mk (mS s) (mT t)) := by
  refine Wm.of pT_193 (Nat.le_of_ble_eq_true rfl) (L0 := [some (.ref 51), some (.int 2)]) rfl ?_
  refine w_la rfl rfl ?_
  refine w_gf rfl (mg_51 _ _) rfl ?_
  refine w_li rfl rfl ?_
  refine w_ia rfl (mr_63 _ _ _) (show ¬ (2 : Int32) < 0 from by decide) (ar_get (show (2 : Int32).toNatClampNeg < 4 from by decide)) ?_
  refine w_if_eq rfl (fun c6_0 => absurd c6_0 (show ¬ (((-1) : Int32) = 0) from by decide)) (fun c6_0 => ?_)
  refine w_la rfl rfl ?_
  refine w_gf rfl (mg_51 _ _) rfl ?_
  refine w_li rfl rfl ?_
  refine w_ia rfl (mr_63 _ _ _) (show ¬ (2 : Int32) < 0 from by decide) (ar_get (show (2 : Int32).toNatClampNeg < 4 from by decide)) ?_
  refine w_if_ge rfl (fun c15_0 => absurd c15_0 (show ¬ ((0 : Int32) ≤ (-1)) from by decide)) (fun c15_0 => ?_)
  refine w_ci rfl ?_
  refine w_go rfl ?_
  refine w_ri rfl ?_
  exact ⟨rfl, rfl⟩

set_option maxRecDepth 100000 in
set_option maxHeartbeats 2000000 in
theorem u_kindOnA_2 {s : Nat → Nat → Int32} {t : Nat → Nat → Int64} : Wm 193 [.ref 51, .int 2] (mk (up2 (mS s) 51 28 0) (mT t)) (fun r h => r = some (.int (-1)) ∧ h = mk (up2 (mS s) 51 28 0) (mT t)) := by
  refine Wm.of pT_193 (Nat.le_of_ble_eq_true rfl) (L0 := [some (.ref 51), some (.int 2)]) rfl ?_
  refine w_la rfl rfl ?_
  refine w_gf rfl (mg_51 _ _) rfl ?_
  refine w_li rfl rfl ?_
  refine w_ia rfl (mr_63 _ _ _) (show ¬ (2 : Int32) < 0 from by decide) (ar_get (show (2 : Int32).toNatClampNeg < 4 from by decide)) ?_
  refine w_if_eq rfl (fun c6_0 => absurd c6_0 (show ¬ (((-1) : Int32) = 0) from by decide)) (fun c6_0 => ?_)
  refine w_la rfl rfl ?_
  refine w_gf rfl (mg_51 _ _) rfl ?_
  refine w_li rfl rfl ?_
  refine w_ia rfl (mr_63 _ _ _) (show ¬ (2 : Int32) < 0 from by decide) (ar_get (show (2 : Int32).toNatClampNeg < 4 from by decide)) ?_
  refine w_if_ge rfl (fun c15_0 => absurd c15_0 (show ¬ ((0 : Int32) ≤ (-1)) from by decide)) (fun c15_0 => ?_)
  refine w_ci rfl ?_
  refine w_go rfl ?_
  refine w_ri rfl ?_
  exact ⟨rfl, rfl⟩

set_option maxRecDepth 100000 in
set_option maxHeartbeats 2000000 in
theorem u_lacks_3 {s : Nat → Nat → Int32} {t : Nat → Nat → Int64} {v : Int32} : Wm 189 [.ref 51, .int 3, .int v] (mk (mS s) (mT t)) (fun r h => r = some (.int (-11)) ∧ h = mk (mS s) (mT t)) := by
  refine Wm.of pT_189 (Nat.le_of_ble_eq_true rfl) (L0 := [some (.ref 51), some (.int 3), some (.int v)]) rfl ?_
  refine w_la rfl rfl ?_
  refine w_gf rfl (mg_51 _ _) rfl ?_
  refine w_li rfl rfl ?_
  refine w_ia rfl (mr_60 _ _ _) (show ¬ (3 : Int32) < 0 from by decide) (ar_get (show (3 : Int32).toNatClampNeg < 4 from by decide)) ?_
  refine w_if_ge rfl (fun c6_0 => absurd c6_0 (show ¬ ((0 : Int32) ≤ (-1)) from by decide)) (fun c6_0 => ?_)
  refine w_ci rfl ?_
  refine w_go rfl ?_
  refine w_ri rfl ?_
  exact ⟨rfl, rfl⟩

set_option maxRecDepth 100000 in
set_option maxHeartbeats 2000000 in
theorem u_kindOn_3 {s : Nat → Nat → Int32} {t : Nat → Nat → Int64} : Wm 193 [.ref 51, .int 3] (mk (mS s) (mT t)) (fun r h => r = some (.int (-1)) ∧ h = mk (mS s) (mT t)) := by
  refine Wm.of pT_193 (Nat.le_of_ble_eq_true rfl) (L0 := [some (.ref 51), some (.int 3)]) rfl ?_
  refine w_la rfl rfl ?_
  refine w_gf rfl (mg_51 _ _) rfl ?_
  refine w_li rfl rfl ?_
  refine w_ia rfl (mr_63 _ _ _) (show ¬ (3 : Int32) < 0 from by decide) (ar_get (show (3 : Int32).toNatClampNeg < 4 from by decide)) ?_
  refine w_if_eq rfl (fun c6_0 => absurd c6_0 (show ¬ (((-1) : Int32) = 0) from by decide)) (fun c6_0 => ?_)
  refine w_la rfl rfl ?_
  refine w_gf rfl (mg_51 _ _) rfl ?_
  refine w_li rfl rfl ?_
  refine w_ia rfl (mr_63 _ _ _) (show ¬ (3 : Int32) < 0 from by decide) (ar_get (show (3 : Int32).toNatClampNeg < 4 from by decide)) ?_
  refine w_if_ge rfl (fun c15_0 => absurd c15_0 (show ¬ ((0 : Int32) ≤ (-1)) from by decide)) (fun c15_0 => ?_)
  refine w_ci rfl ?_
  refine w_go rfl ?_
  refine w_ri rfl ?_
  exact ⟨rfl, rfl⟩

set_option maxRecDepth 100000 in
set_option maxHeartbeats 2000000 in
theorem u_kindOnA_3 {s : Nat → Nat → Int32} {t : Nat → Nat → Int64} : Wm 193 [.ref 51, .int 3] (mk (up2 (mS s) 51 28 0) (mT t)) (fun r h => r = some (.int (-1)) ∧ h = mk (up2 (mS s) 51 28 0) (mT t)) := by
  refine Wm.of pT_193 (Nat.le_of_ble_eq_true rfl) (L0 := [some (.ref 51), some (.int 3)]) rfl ?_
  refine w_la rfl rfl ?_
  refine w_gf rfl (mg_51 _ _) rfl ?_
  refine w_li rfl rfl ?_
  refine w_ia rfl (mr_63 _ _ _) (show ¬ (3 : Int32) < 0 from by decide) (ar_get (show (3 : Int32).toNatClampNeg < 4 from by decide)) ?_
  refine w_if_eq rfl (fun c6_0 => absurd c6_0 (show ¬ (((-1) : Int32) = 0) from by decide)) (fun c6_0 => ?_)
  refine w_la rfl rfl ?_
  refine w_gf rfl (mg_51 _ _) rfl ?_
  refine w_li rfl rfl ?_
  refine w_ia rfl (mr_63 _ _ _) (show ¬ (3 : Int32) < 0 from by decide) (ar_get (show (3 : Int32).toNatClampNeg < 4 from by decide)) ?_
  refine w_if_ge rfl (fun c15_0 => absurd c15_0 (show ¬ ((0 : Int32) ≤ (-1)) from by decide)) (fun c15_0 => ?_)
  refine w_ci rfl ?_
  refine w_go rfl ?_
  refine w_ri rfl ?_
  exact ⟨rfl, rfl⟩

set_option maxRecDepth 100000 in
set_option maxHeartbeats 2000000 in
theorem c_item_0 {st i : Int32}  : Wm 87 [.ref 0, .int 0, .int st, .int i] (mk s0 t0) (Pc (.int (if wi st 0 3 = true then -11 else -1))) := by
  refine Wm.of pT_87 (Nat.le_of_ble_eq_true rfl) (L0 := [some (.ref 0), some (.int 0), some (.int st), some (.int i), none]) rfl ?_
  refine w_li rfl rfl ?_
  refine w_st1r pl_sub_c rfl (Nat.le_of_ble_eq_true rfl) (r_isPlace) ?_
  refine w_if_eq rfl (fun c4_0 => absurd c4_0 ((show ¬ b2 (wi 0 0 3) = 0 from by decide))) (fun c4_0 => ?_)
  refine w_li rfl rfl ?_
  refine w_ci rfl ?_
  refine w_ci rfl ?_
  refine w_st3r pl_sub_c rfl (Nat.le_of_ble_eq_true rfl) (r_isWithin) ?_
  refine w_if_ne rfl (fun c13_0 => ?_) (fun c13_0 => ?_)
  · skip
    replace c13_0 := b2_n c13_0
    refine w_la rfl rfl ?_
    refine w_gf rfl (mg_0 _ _) rfl ?_
    refine w_li rfl rfl ?_
    refine w_aa rfl (mg_35 _ _) (show ¬ (0 : Int32) < 0 from by decide) (q := 37) rfl ?_
    refine w_sa rfl (Nat.le_of_ble_eq_true rfl) rfl ?_
    refine w_la rfl rfl ?_
    refine w_gf rfl (mg_37 _ _) rfl ?_
    refine w_ci rfl ?_
    refine w_ic_ne rfl (fun c32_1 => absurd c32_1 (show ¬ (¬ ((-1) : Int32) = (-1)) from by decide)) (fun c32_1 => ?_)
    refine w_ci rfl ?_
    refine w_ri rfl ?_
    exact ⟨by first | rfl | (simp_all; done) | (simp_all; rfl) | (simp_all [up2_s]; done) | (simp_all [up2_s]; decide) | decide, _, _, rfl, by repeat (first | exact Mod0 | refine Mod.up ?_ (Nat.le_of_ble_eq_true rfl) | refine Mod.upl ?_ (Nat.le_of_ble_eq_true rfl))⟩
  · skip
    replace c13_0 := b2_0 (Decidable.of_not_not c13_0)
    refine w_ci rfl ?_
    refine w_ri rfl ?_
    exact ⟨by first | rfl | (simp_all; done) | (simp_all; rfl) | (simp_all [up2_s]; done) | (simp_all [up2_s]; decide) | decide, _, _, rfl, by repeat (first | exact Mod0 | refine Mod.up ?_ (Nat.le_of_ble_eq_true rfl) | refine Mod.upl ?_ (Nat.le_of_ble_eq_true rfl))⟩

set_option maxRecDepth 100000 in
set_option maxHeartbeats 2000000 in
theorem d_item_0 {st i : Int32} (s : Nat → Nat → Int32) (t : Nat → Nat → Int64) : Wm 190 [.ref 51, .int 0, .int st, .int i] (mk (mS s) (mT t)) (Pm (.int (if wi st 0 3 = true then -11 else -1))) := by
  refine Wm.of pT_190 (Nat.le_of_ble_eq_true rfl) (L0 := [some (.ref 51), some (.int 0), some (.int st), some (.int i), none]) rfl ?_
  refine w_li rfl rfl ?_
  refine w_st1r pl_sub_c rfl (Nat.le_of_ble_eq_true rfl) (m_isShelf) ?_
  refine w_if_eq rfl (fun c4_0 => absurd c4_0 ((show ¬ b2 (wi 0 0 3) = 0 from by decide))) (fun c4_0 => ?_)
  refine w_li rfl rfl ?_
  refine w_ci rfl ?_
  refine w_ci rfl ?_
  refine w_st3r pl_sub_c rfl (Nat.le_of_ble_eq_true rfl) (m_in) ?_
  refine w_if_ne rfl (fun c13_0 => ?_) (fun c13_0 => ?_)
  · skip
    replace c13_0 := b2_n c13_0
    refine w_la rfl rfl ?_
    refine w_li rfl rfl ?_
    refine w_li rfl rfl ?_
    refine w_vi2 pl_sub_c rfl (mg_51 _ _) (Nat.le_of_ble_eq_true rfl) (u_lacks_0) (fun r2 h2 q => (congrArg List.length q.2).trans rfl) (fun r2 h2 q => ?_)
    rw [q.1, q.2]
    refine w_si rfl (Nat.le_of_ble_eq_true rfl) rfl ?_
    refine w_li rfl rfl ?_
    refine w_if_eq rfl (fun c28_1 => absurd c28_1 (show ¬ (((-11) : Int32) = 0) from by decide)) (fun c28_1 => ?_)
    refine w_li rfl rfl ?_
    refine w_ri rfl ?_
    exact ⟨by first | rfl | (simp_all; done) | (simp_all; rfl) | decide, _, _, rfl⟩
  · skip
    replace c13_0 := b2_0 (Decidable.of_not_not c13_0)
    refine w_ci rfl ?_
    refine w_ri rfl ?_
    exact ⟨by first | rfl | (simp_all; done) | (simp_all; rfl) | decide, _, _, rfl⟩

theorem b_item_0 {st i : Int32} : Bth 87 190 [.int 0, .int st, .int i] := Bth.of (c_item_0 ) (fun s t => d_item_0  s t)
set_option maxRecDepth 100000 in
set_option maxHeartbeats 2000000 in
theorem c_item_1 {st i : Int32}  : Wm 87 [.ref 0, .int 1, .int st, .int i] (mk s0 t0) (Pc (.int (if wi st 0 3 = true then -11 else -1))) := by
  refine Wm.of pT_87 (Nat.le_of_ble_eq_true rfl) (L0 := [some (.ref 0), some (.int 1), some (.int st), some (.int i), none]) rfl ?_
  refine w_li rfl rfl ?_
  refine w_st1r pl_sub_c rfl (Nat.le_of_ble_eq_true rfl) (r_isPlace) ?_
  refine w_if_eq rfl (fun c4_0 => absurd c4_0 ((show ¬ b2 (wi 1 0 3) = 0 from by decide))) (fun c4_0 => ?_)
  refine w_li rfl rfl ?_
  refine w_ci rfl ?_
  refine w_ci rfl ?_
  refine w_st3r pl_sub_c rfl (Nat.le_of_ble_eq_true rfl) (r_isWithin) ?_
  refine w_if_ne rfl (fun c13_0 => ?_) (fun c13_0 => ?_)
  · skip
    replace c13_0 := b2_n c13_0
    refine w_la rfl rfl ?_
    refine w_gf rfl (mg_0 _ _) rfl ?_
    refine w_li rfl rfl ?_
    refine w_aa rfl (mg_35 _ _) (show ¬ (1 : Int32) < 0 from by decide) (q := 40) rfl ?_
    refine w_sa rfl (Nat.le_of_ble_eq_true rfl) rfl ?_
    refine w_la rfl rfl ?_
    refine w_gf rfl (mg_40 _ _) rfl ?_
    refine w_ci rfl ?_
    refine w_ic_ne rfl (fun c32_1 => absurd c32_1 (show ¬ (¬ ((-1) : Int32) = (-1)) from by decide)) (fun c32_1 => ?_)
    refine w_ci rfl ?_
    refine w_ri rfl ?_
    exact ⟨by first | rfl | (simp_all; done) | (simp_all; rfl) | (simp_all [up2_s]; done) | (simp_all [up2_s]; decide) | decide, _, _, rfl, by repeat (first | exact Mod0 | refine Mod.up ?_ (Nat.le_of_ble_eq_true rfl) | refine Mod.upl ?_ (Nat.le_of_ble_eq_true rfl))⟩
  · skip
    replace c13_0 := b2_0 (Decidable.of_not_not c13_0)
    refine w_ci rfl ?_
    refine w_ri rfl ?_
    exact ⟨by first | rfl | (simp_all; done) | (simp_all; rfl) | (simp_all [up2_s]; done) | (simp_all [up2_s]; decide) | decide, _, _, rfl, by repeat (first | exact Mod0 | refine Mod.up ?_ (Nat.le_of_ble_eq_true rfl) | refine Mod.upl ?_ (Nat.le_of_ble_eq_true rfl))⟩

set_option maxRecDepth 100000 in
set_option maxHeartbeats 2000000 in
theorem d_item_1 {st i : Int32} (s : Nat → Nat → Int32) (t : Nat → Nat → Int64) : Wm 190 [.ref 51, .int 1, .int st, .int i] (mk (mS s) (mT t)) (Pm (.int (if wi st 0 3 = true then -11 else -1))) := by
  refine Wm.of pT_190 (Nat.le_of_ble_eq_true rfl) (L0 := [some (.ref 51), some (.int 1), some (.int st), some (.int i), none]) rfl ?_
  refine w_li rfl rfl ?_
  refine w_st1r pl_sub_c rfl (Nat.le_of_ble_eq_true rfl) (m_isShelf) ?_
  refine w_if_eq rfl (fun c4_0 => absurd c4_0 ((show ¬ b2 (wi 1 0 3) = 0 from by decide))) (fun c4_0 => ?_)
  refine w_li rfl rfl ?_
  refine w_ci rfl ?_
  refine w_ci rfl ?_
  refine w_st3r pl_sub_c rfl (Nat.le_of_ble_eq_true rfl) (m_in) ?_
  refine w_if_ne rfl (fun c13_0 => ?_) (fun c13_0 => ?_)
  · skip
    replace c13_0 := b2_n c13_0
    refine w_la rfl rfl ?_
    refine w_li rfl rfl ?_
    refine w_li rfl rfl ?_
    refine w_vi2 pl_sub_c rfl (mg_51 _ _) (Nat.le_of_ble_eq_true rfl) (u_lacks_1) (fun r2 h2 q => (congrArg List.length q.2).trans rfl) (fun r2 h2 q => ?_)
    rw [q.1, q.2]
    refine w_si rfl (Nat.le_of_ble_eq_true rfl) rfl ?_
    refine w_li rfl rfl ?_
    refine w_if_eq rfl (fun c28_1 => absurd c28_1 (show ¬ (((-11) : Int32) = 0) from by decide)) (fun c28_1 => ?_)
    refine w_li rfl rfl ?_
    refine w_ri rfl ?_
    exact ⟨by first | rfl | (simp_all; done) | (simp_all; rfl) | decide, _, _, rfl⟩
  · skip
    replace c13_0 := b2_0 (Decidable.of_not_not c13_0)
    refine w_ci rfl ?_
    refine w_ri rfl ?_
    exact ⟨by first | rfl | (simp_all; done) | (simp_all; rfl) | decide, _, _, rfl⟩

theorem b_item_1 {st i : Int32} : Bth 87 190 [.int 1, .int st, .int i] := Bth.of (c_item_1 ) (fun s t => d_item_1  s t)
set_option maxRecDepth 100000 in
set_option maxHeartbeats 2000000 in
theorem c_item_2 {st i : Int32}  : Wm 87 [.ref 0, .int 2, .int st, .int i] (mk s0 t0) (Pc (.int (if wi st 0 3 = true then -11 else -1))) := by
  refine Wm.of pT_87 (Nat.le_of_ble_eq_true rfl) (L0 := [some (.ref 0), some (.int 2), some (.int st), some (.int i), none]) rfl ?_
  refine w_li rfl rfl ?_
  refine w_st1r pl_sub_c rfl (Nat.le_of_ble_eq_true rfl) (r_isPlace) ?_
  refine w_if_eq rfl (fun c4_0 => absurd c4_0 ((show ¬ b2 (wi 2 0 3) = 0 from by decide))) (fun c4_0 => ?_)
  refine w_li rfl rfl ?_
  refine w_ci rfl ?_
  refine w_ci rfl ?_
  refine w_st3r pl_sub_c rfl (Nat.le_of_ble_eq_true rfl) (r_isWithin) ?_
  refine w_if_ne rfl (fun c13_0 => ?_) (fun c13_0 => ?_)
  · skip
    replace c13_0 := b2_n c13_0
    refine w_la rfl rfl ?_
    refine w_gf rfl (mg_0 _ _) rfl ?_
    refine w_li rfl rfl ?_
    refine w_aa rfl (mg_35 _ _) (show ¬ (2 : Int32) < 0 from by decide) (q := 43) rfl ?_
    refine w_sa rfl (Nat.le_of_ble_eq_true rfl) rfl ?_
    refine w_la rfl rfl ?_
    refine w_gf rfl (mg_43 _ _) rfl ?_
    refine w_ci rfl ?_
    refine w_ic_ne rfl (fun c32_1 => absurd c32_1 (show ¬ (¬ ((-1) : Int32) = (-1)) from by decide)) (fun c32_1 => ?_)
    refine w_ci rfl ?_
    refine w_ri rfl ?_
    exact ⟨by first | rfl | (simp_all; done) | (simp_all; rfl) | (simp_all [up2_s]; done) | (simp_all [up2_s]; decide) | decide, _, _, rfl, by repeat (first | exact Mod0 | refine Mod.up ?_ (Nat.le_of_ble_eq_true rfl) | refine Mod.upl ?_ (Nat.le_of_ble_eq_true rfl))⟩
  · skip
    replace c13_0 := b2_0 (Decidable.of_not_not c13_0)
    refine w_ci rfl ?_
    refine w_ri rfl ?_
    exact ⟨by first | rfl | (simp_all; done) | (simp_all; rfl) | (simp_all [up2_s]; done) | (simp_all [up2_s]; decide) | decide, _, _, rfl, by repeat (first | exact Mod0 | refine Mod.up ?_ (Nat.le_of_ble_eq_true rfl) | refine Mod.upl ?_ (Nat.le_of_ble_eq_true rfl))⟩

set_option maxRecDepth 100000 in
set_option maxHeartbeats 2000000 in
theorem d_item_2 {st i : Int32} (s : Nat → Nat → Int32) (t : Nat → Nat → Int64) : Wm 190 [.ref 51, .int 2, .int st, .int i] (mk (mS s) (mT t)) (Pm (.int (if wi st 0 3 = true then -11 else -1))) := by
  refine Wm.of pT_190 (Nat.le_of_ble_eq_true rfl) (L0 := [some (.ref 51), some (.int 2), some (.int st), some (.int i), none]) rfl ?_
  refine w_li rfl rfl ?_
  refine w_st1r pl_sub_c rfl (Nat.le_of_ble_eq_true rfl) (m_isShelf) ?_
  refine w_if_eq rfl (fun c4_0 => absurd c4_0 ((show ¬ b2 (wi 2 0 3) = 0 from by decide))) (fun c4_0 => ?_)
  refine w_li rfl rfl ?_
  refine w_ci rfl ?_
  refine w_ci rfl ?_
  refine w_st3r pl_sub_c rfl (Nat.le_of_ble_eq_true rfl) (m_in) ?_
  refine w_if_ne rfl (fun c13_0 => ?_) (fun c13_0 => ?_)
  · skip
    replace c13_0 := b2_n c13_0
    refine w_la rfl rfl ?_
    refine w_li rfl rfl ?_
    refine w_li rfl rfl ?_
    refine w_vi2 pl_sub_c rfl (mg_51 _ _) (Nat.le_of_ble_eq_true rfl) (u_lacks_2) (fun r2 h2 q => (congrArg List.length q.2).trans rfl) (fun r2 h2 q => ?_)
    rw [q.1, q.2]
    refine w_si rfl (Nat.le_of_ble_eq_true rfl) rfl ?_
    refine w_li rfl rfl ?_
    refine w_if_eq rfl (fun c28_1 => absurd c28_1 (show ¬ (((-11) : Int32) = 0) from by decide)) (fun c28_1 => ?_)
    refine w_li rfl rfl ?_
    refine w_ri rfl ?_
    exact ⟨by first | rfl | (simp_all; done) | (simp_all; rfl) | decide, _, _, rfl⟩
  · skip
    replace c13_0 := b2_0 (Decidable.of_not_not c13_0)
    refine w_ci rfl ?_
    refine w_ri rfl ?_
    exact ⟨by first | rfl | (simp_all; done) | (simp_all; rfl) | decide, _, _, rfl⟩

theorem b_item_2 {st i : Int32} : Bth 87 190 [.int 2, .int st, .int i] := Bth.of (c_item_2 ) (fun s t => d_item_2  s t)
set_option maxRecDepth 100000 in
set_option maxHeartbeats 2000000 in
theorem c_item_3 {st i : Int32}  : Wm 87 [.ref 0, .int 3, .int st, .int i] (mk s0 t0) (Pc (.int (if wi st 0 3 = true then -11 else -1))) := by
  refine Wm.of pT_87 (Nat.le_of_ble_eq_true rfl) (L0 := [some (.ref 0), some (.int 3), some (.int st), some (.int i), none]) rfl ?_
  refine w_li rfl rfl ?_
  refine w_st1r pl_sub_c rfl (Nat.le_of_ble_eq_true rfl) (r_isPlace) ?_
  refine w_if_eq rfl (fun c4_0 => absurd c4_0 ((show ¬ b2 (wi 3 0 3) = 0 from by decide))) (fun c4_0 => ?_)
  refine w_li rfl rfl ?_
  refine w_ci rfl ?_
  refine w_ci rfl ?_
  refine w_st3r pl_sub_c rfl (Nat.le_of_ble_eq_true rfl) (r_isWithin) ?_
  refine w_if_ne rfl (fun c13_0 => ?_) (fun c13_0 => ?_)
  · skip
    replace c13_0 := b2_n c13_0
    refine w_la rfl rfl ?_
    refine w_gf rfl (mg_0 _ _) rfl ?_
    refine w_li rfl rfl ?_
    refine w_aa rfl (mg_35 _ _) (show ¬ (3 : Int32) < 0 from by decide) (q := 46) rfl ?_
    refine w_sa rfl (Nat.le_of_ble_eq_true rfl) rfl ?_
    refine w_la rfl rfl ?_
    refine w_gf rfl (mg_46 _ _) rfl ?_
    refine w_ci rfl ?_
    refine w_ic_ne rfl (fun c32_1 => absurd c32_1 (show ¬ (¬ ((-1) : Int32) = (-1)) from by decide)) (fun c32_1 => ?_)
    refine w_ci rfl ?_
    refine w_ri rfl ?_
    exact ⟨by first | rfl | (simp_all; done) | (simp_all; rfl) | (simp_all [up2_s]; done) | (simp_all [up2_s]; decide) | decide, _, _, rfl, by repeat (first | exact Mod0 | refine Mod.up ?_ (Nat.le_of_ble_eq_true rfl) | refine Mod.upl ?_ (Nat.le_of_ble_eq_true rfl))⟩
  · skip
    replace c13_0 := b2_0 (Decidable.of_not_not c13_0)
    refine w_ci rfl ?_
    refine w_ri rfl ?_
    exact ⟨by first | rfl | (simp_all; done) | (simp_all; rfl) | (simp_all [up2_s]; done) | (simp_all [up2_s]; decide) | decide, _, _, rfl, by repeat (first | exact Mod0 | refine Mod.up ?_ (Nat.le_of_ble_eq_true rfl) | refine Mod.upl ?_ (Nat.le_of_ble_eq_true rfl))⟩

set_option maxRecDepth 100000 in
set_option maxHeartbeats 2000000 in
theorem d_item_3 {st i : Int32} (s : Nat → Nat → Int32) (t : Nat → Nat → Int64) : Wm 190 [.ref 51, .int 3, .int st, .int i] (mk (mS s) (mT t)) (Pm (.int (if wi st 0 3 = true then -11 else -1))) := by
  refine Wm.of pT_190 (Nat.le_of_ble_eq_true rfl) (L0 := [some (.ref 51), some (.int 3), some (.int st), some (.int i), none]) rfl ?_
  refine w_li rfl rfl ?_
  refine w_st1r pl_sub_c rfl (Nat.le_of_ble_eq_true rfl) (m_isShelf) ?_
  refine w_if_eq rfl (fun c4_0 => absurd c4_0 ((show ¬ b2 (wi 3 0 3) = 0 from by decide))) (fun c4_0 => ?_)
  refine w_li rfl rfl ?_
  refine w_ci rfl ?_
  refine w_ci rfl ?_
  refine w_st3r pl_sub_c rfl (Nat.le_of_ble_eq_true rfl) (m_in) ?_
  refine w_if_ne rfl (fun c13_0 => ?_) (fun c13_0 => ?_)
  · skip
    replace c13_0 := b2_n c13_0
    refine w_la rfl rfl ?_
    refine w_li rfl rfl ?_
    refine w_li rfl rfl ?_
    refine w_vi2 pl_sub_c rfl (mg_51 _ _) (Nat.le_of_ble_eq_true rfl) (u_lacks_3) (fun r2 h2 q => (congrArg List.length q.2).trans rfl) (fun r2 h2 q => ?_)
    rw [q.1, q.2]
    refine w_si rfl (Nat.le_of_ble_eq_true rfl) rfl ?_
    refine w_li rfl rfl ?_
    refine w_if_eq rfl (fun c28_1 => absurd c28_1 (show ¬ (((-11) : Int32) = 0) from by decide)) (fun c28_1 => ?_)
    refine w_li rfl rfl ?_
    refine w_ri rfl ?_
    exact ⟨by first | rfl | (simp_all; done) | (simp_all; rfl) | decide, _, _, rfl⟩
  · skip
    replace c13_0 := b2_0 (Decidable.of_not_not c13_0)
    refine w_ci rfl ?_
    refine w_ri rfl ?_
    exact ⟨by first | rfl | (simp_all; done) | (simp_all; rfl) | decide, _, _, rfl⟩

theorem b_item_3 {st i : Int32} : Bth 87 190 [.int 3, .int st, .int i] := Bth.of (c_item_3 ) (fun s t => d_item_3  s t)
set_option maxRecDepth 100000 in
set_option maxHeartbeats 2000000 in
theorem c_item_out {z st i : Int32} (hx : wi z 0 3 = false) : Wm 87 [.ref 0, .int z, .int st, .int i] (mk s0 t0) (Pc (.int (-1))) := by
  refine Wm.of pT_87 (Nat.le_of_ble_eq_true rfl) (L0 := [some (.ref 0), some (.int z), some (.int st), some (.int i), none]) rfl ?_
  refine w_li rfl rfl ?_
  refine w_st1r pl_sub_c rfl (Nat.le_of_ble_eq_true rfl) (r_isPlace) ?_
  refine w_if_eq rfl (fun c4_0 => ?_) (fun c4_0 => ?_)
  · skip
    replace c4_0 := b2_0 c4_0
    refine w_ci rfl ?_
    refine w_ri rfl ?_
    exact ⟨by first | rfl | (simp_all; done) | (simp_all; rfl) | (simp_all [up2_s]; done) | (simp_all [up2_s]; decide) | decide, _, _, rfl, by repeat (first | exact Mod0 | refine Mod.up ?_ (Nat.le_of_ble_eq_true rfl) | refine Mod.upl ?_ (Nat.le_of_ble_eq_true rfl))⟩
  · skip
    replace c4_0 := b2_n c4_0
    exact absurd (hx.symm.trans c4_0) (by decide)

set_option maxRecDepth 100000 in
set_option maxHeartbeats 2000000 in
theorem d_item_out {z st i : Int32} (hx : wi z 0 3 = false) (s : Nat → Nat → Int32) (t : Nat → Nat → Int64) : Wm 190 [.ref 51, .int z, .int st, .int i] (mk (mS s) (mT t)) (Pm (.int (-1))) := by
  refine Wm.of pT_190 (Nat.le_of_ble_eq_true rfl) (L0 := [some (.ref 51), some (.int z), some (.int st), some (.int i), none]) rfl ?_
  refine w_li rfl rfl ?_
  refine w_st1r pl_sub_c rfl (Nat.le_of_ble_eq_true rfl) (m_isShelf) ?_
  refine w_if_eq rfl (fun c4_0 => ?_) (fun c4_0 => ?_)
  · skip
    replace c4_0 := b2_0 c4_0
    refine w_ci rfl ?_
    refine w_ri rfl ?_
    exact ⟨by first | rfl | (simp_all; done) | (simp_all; rfl) | decide, _, _, rfl⟩
  · skip
    replace c4_0 := b2_n c4_0
    exact absurd (hx.symm.trans c4_0) (by decide)

theorem b_item_out {z st i : Int32} (hx : wi z 0 3 = false) : Bth 87 190 [.int z, .int st, .int i] := Bth.of (c_item_out hx) (fun s t => d_item_out hx s t)
theorem B_item (z st i : Int32) : Bth 87 190 [.int z, .int st, .int i] := by
  rcases tf (wi z 0 3) with h | h
  · rcases en3 h with rfl | rfl | rfl | rfl
    · exact b_item_0
    · exact b_item_1
    · exact b_item_2
    · exact b_item_3
  · exact b_item_out h
set_option maxRecDepth 100000 in
set_option maxHeartbeats 2000000 in
theorem c_taken_0 {tk : Int32}  : Wm 89 [.ref 0, .int 0, .int tk] (mk s0 t0) (Pc (.int (if (wi tk 0 5 || wi tk 10 13) = true then -11 else -1))) := by
  refine Wm.of pT_89 (Nat.le_of_ble_eq_true rfl) (L0 := [some (.ref 0), some (.int 0), some (.int tk), none, none, none]) rfl ?_
  refine w_li rfl rfl ?_
  refine w_ci rfl ?_
  refine w_ci rfl ?_
  refine w_st3r pl_sub_c rfl (Nat.le_of_ble_eq_true rfl) (r_isWithin) ?_
  refine w_si rfl (Nat.le_of_ble_eq_true rfl) rfl ?_
  refine w_li rfl rfl ?_
  refine w_st1r pl_sub_c rfl (Nat.le_of_ble_eq_true rfl) (r_isPlace) ?_
  refine w_if_eq rfl (fun c13_0 => absurd c13_0 ((show ¬ b2 (wi 0 0 3) = 0 from by decide))) (fun c13_0 => ?_)
  refine w_li rfl rfl ?_
  refine w_st1r pl_sub_c rfl (Nat.le_of_ble_eq_true rfl) (r_isKind) ?_
  refine w_if_ne rfl (fun c20_0 => ?_) (fun c20_0 => ?_)
  · skip
    replace c20_0 := b2_n c20_0
    refine w_la rfl rfl ?_
    refine w_gf rfl (mg_0 _ _) rfl ?_
    refine w_li rfl rfl ?_
    refine w_aa rfl (mg_36 _ _) (show ¬ (0 : Int32) < 0 from by decide) (q := 39) rfl ?_
    refine w_sa rfl (Nat.le_of_ble_eq_true rfl) rfl ?_
    refine w_la rfl rfl ?_
    refine w_gf rfl (mg_39 _ _) rfl ?_
    refine w_ci rfl ?_
    refine w_ic_ne rfl (fun c43_1 => ?_) (fun c43_1 => absurd (show ¬ (2 : Int32) = 1 from by decide) c43_1)
    refine w_la rfl rfl ?_
    refine w_gf rfl (mg_39 _ _) rfl ?_
    refine w_ci rfl ?_
    refine w_ic_eq rfl (fun c75_1 => ?_) (fun c75_1 => absurd (show (2 : Int32) = 2 from by decide) c75_1)
    refine w_ci rfl ?_
    refine w_ri rfl ?_
    exact ⟨by first | rfl | (simp_all; done) | (simp_all; rfl) | (simp_all [up2_s]; done) | (simp_all [up2_s]; decide) | decide, _, _, rfl, by repeat (first | exact Mod0 | refine Mod.up ?_ (Nat.le_of_ble_eq_true rfl) | refine Mod.upl ?_ (Nat.le_of_ble_eq_true rfl))⟩
  · skip
    replace c20_0 := b2_0 (Decidable.of_not_not c20_0)
    refine w_li rfl rfl ?_
    refine w_if_ne rfl (fun c24_1 => ?_) (fun c24_1 => ?_)
    · skip
      replace c24_1 := b2_n c24_1
      refine w_la rfl rfl ?_
      refine w_gf rfl (mg_0 _ _) rfl ?_
      refine w_li rfl rfl ?_
      refine w_aa rfl (mg_36 _ _) (show ¬ (0 : Int32) < 0 from by decide) (q := 39) rfl ?_
      refine w_sa rfl (Nat.le_of_ble_eq_true rfl) rfl ?_
      refine w_la rfl rfl ?_
      refine w_gf rfl (mg_39 _ _) rfl ?_
      refine w_ci rfl ?_
      refine w_ic_ne rfl (fun c43_2 => ?_) (fun c43_2 => absurd (show ¬ (2 : Int32) = 1 from by decide) c43_2)
      refine w_la rfl rfl ?_
      refine w_gf rfl (mg_39 _ _) rfl ?_
      refine w_ci rfl ?_
      refine w_ic_eq rfl (fun c75_2 => ?_) (fun c75_2 => absurd (show (2 : Int32) = 2 from by decide) c75_2)
      refine w_ci rfl ?_
      refine w_ri rfl ?_
      exact ⟨by first | rfl | (simp_all; done) | (simp_all; rfl) | (simp_all [up2_s]; done) | (simp_all [up2_s]; decide) | decide, _, _, rfl, by repeat (first | exact Mod0 | refine Mod.up ?_ (Nat.le_of_ble_eq_true rfl) | refine Mod.upl ?_ (Nat.le_of_ble_eq_true rfl))⟩
    · skip
      replace c24_1 := b2_0 (Decidable.of_not_not c24_1)
      refine w_ci rfl ?_
      refine w_ri rfl ?_
      exact ⟨by first | rfl | (simp_all; done) | (simp_all; rfl) | (simp_all [up2_s]; done) | (simp_all [up2_s]; decide) | decide, _, _, rfl, by repeat (first | exact Mod0 | refine Mod.up ?_ (Nat.le_of_ble_eq_true rfl) | refine Mod.upl ?_ (Nat.le_of_ble_eq_true rfl))⟩

set_option maxRecDepth 100000 in
set_option maxHeartbeats 2000000 in
theorem d_taken_0 {tk : Int32} (s : Nat → Nat → Int32) (t : Nat → Nat → Int64) : Wm 195 [.ref 51, .int 0, .int tk] (mk (mS s) (mT t)) (Pm (.int (if (wi tk 0 5 || wi tk 10 13) = true then -11 else -1))) := by
  refine Wm.of pT_195 (Nat.le_of_ble_eq_true rfl) (L0 := [some (.ref 51), some (.int 0), some (.int tk), none]) rfl ?_
  refine w_li rfl rfl ?_
  refine w_st1r pl_sub_c rfl (Nat.le_of_ble_eq_true rfl) (m_isShelf) ?_
  refine w_if_eq rfl (fun c4_0 => absurd c4_0 ((show ¬ b2 (wi 0 0 3) = 0 from by decide))) (fun c4_0 => ?_)
  refine w_li rfl rfl ?_
  refine w_ci rfl ?_
  refine w_ci rfl ?_
  refine w_st3r pl_sub_c rfl (Nat.le_of_ble_eq_true rfl) (m_in) ?_
  refine w_if_ne rfl (fun c13_0 => ?_) (fun c13_0 => ?_)
  · skip
    replace c13_0 := b2_n c13_0
    refine w_la rfl rfl ?_
    refine w_li rfl rfl ?_
    refine w_vi1 pl_sub_c rfl (mg_51 _ _) (Nat.le_of_ble_eq_true rfl) (u_kindOn_0) (fun r2 h2 q => (congrArg List.length q.2).trans rfl) (fun r2 h2 q => ?_)
    rw [q.1, q.2]
    refine w_si rfl (Nat.le_of_ble_eq_true rfl) rfl ?_
    refine w_li rfl rfl ?_
    refine w_if_ge rfl (fun c36_1 => absurd c36_1 (show ¬ ((0 : Int32) ≤ (-1)) from by decide)) (fun c36_1 => ?_)
    refine w_ci rfl ?_
    refine w_ri rfl ?_
    exact ⟨by first | rfl | (simp_all; done) | (simp_all; rfl) | decide, _, _, rfl⟩
  · skip
    replace c13_0 := b2_0 (Decidable.of_not_not c13_0)
    refine w_li rfl rfl ?_
    refine w_ci rfl ?_
    refine w_ci rfl ?_
    refine w_st3r pl_sub_c rfl (Nat.le_of_ble_eq_true rfl) (m_in) ?_
    refine w_if_ne rfl (fun c24_1 => ?_) (fun c24_1 => ?_)
    · skip
      replace c24_1 := b2_n c24_1
      refine w_la rfl rfl ?_
      refine w_li rfl rfl ?_
      refine w_vi1 pl_sub_c rfl (mg_51 _ _) (Nat.le_of_ble_eq_true rfl) (u_kindOn_0) (fun r2 h2 q => (congrArg List.length q.2).trans rfl) (fun r2 h2 q => ?_)
      rw [q.1, q.2]
      refine w_si rfl (Nat.le_of_ble_eq_true rfl) rfl ?_
      refine w_li rfl rfl ?_
      refine w_if_ge rfl (fun c36_2 => absurd c36_2 (show ¬ ((0 : Int32) ≤ (-1)) from by decide)) (fun c36_2 => ?_)
      refine w_ci rfl ?_
      refine w_ri rfl ?_
      exact ⟨by first | rfl | (simp_all; done) | (simp_all; rfl) | decide, _, _, rfl⟩
    · skip
      replace c24_1 := b2_0 (Decidable.of_not_not c24_1)
      refine w_ci rfl ?_
      refine w_ri rfl ?_
      exact ⟨by first | rfl | (simp_all; done) | (simp_all; rfl) | decide, _, _, rfl⟩

theorem b_taken_0 {tk : Int32} : Bth 89 195 [.int 0, .int tk] := Bth.of (c_taken_0 ) (fun s t => d_taken_0  s t)
set_option maxRecDepth 100000 in
set_option maxHeartbeats 2000000 in
theorem c_taken_1 {tk : Int32}  : Wm 89 [.ref 0, .int 1, .int tk] (mk s0 t0) (Pc (.int (if (wi tk 0 5 || wi tk 10 13) = true then -11 else -1))) := by
  refine Wm.of pT_89 (Nat.le_of_ble_eq_true rfl) (L0 := [some (.ref 0), some (.int 1), some (.int tk), none, none, none]) rfl ?_
  refine w_li rfl rfl ?_
  refine w_ci rfl ?_
  refine w_ci rfl ?_
  refine w_st3r pl_sub_c rfl (Nat.le_of_ble_eq_true rfl) (r_isWithin) ?_
  refine w_si rfl (Nat.le_of_ble_eq_true rfl) rfl ?_
  refine w_li rfl rfl ?_
  refine w_st1r pl_sub_c rfl (Nat.le_of_ble_eq_true rfl) (r_isPlace) ?_
  refine w_if_eq rfl (fun c13_0 => absurd c13_0 ((show ¬ b2 (wi 1 0 3) = 0 from by decide))) (fun c13_0 => ?_)
  refine w_li rfl rfl ?_
  refine w_st1r pl_sub_c rfl (Nat.le_of_ble_eq_true rfl) (r_isKind) ?_
  refine w_if_ne rfl (fun c20_0 => ?_) (fun c20_0 => ?_)
  · skip
    replace c20_0 := b2_n c20_0
    refine w_la rfl rfl ?_
    refine w_gf rfl (mg_0 _ _) rfl ?_
    refine w_li rfl rfl ?_
    refine w_aa rfl (mg_36 _ _) (show ¬ (1 : Int32) < 0 from by decide) (q := 42) rfl ?_
    refine w_sa rfl (Nat.le_of_ble_eq_true rfl) rfl ?_
    refine w_la rfl rfl ?_
    refine w_gf rfl (mg_42 _ _) rfl ?_
    refine w_ci rfl ?_
    refine w_ic_ne rfl (fun c43_1 => ?_) (fun c43_1 => absurd (show ¬ (2 : Int32) = 1 from by decide) c43_1)
    refine w_la rfl rfl ?_
    refine w_gf rfl (mg_42 _ _) rfl ?_
    refine w_ci rfl ?_
    refine w_ic_eq rfl (fun c75_1 => ?_) (fun c75_1 => absurd (show (2 : Int32) = 2 from by decide) c75_1)
    refine w_ci rfl ?_
    refine w_ri rfl ?_
    exact ⟨by first | rfl | (simp_all; done) | (simp_all; rfl) | (simp_all [up2_s]; done) | (simp_all [up2_s]; decide) | decide, _, _, rfl, by repeat (first | exact Mod0 | refine Mod.up ?_ (Nat.le_of_ble_eq_true rfl) | refine Mod.upl ?_ (Nat.le_of_ble_eq_true rfl))⟩
  · skip
    replace c20_0 := b2_0 (Decidable.of_not_not c20_0)
    refine w_li rfl rfl ?_
    refine w_if_ne rfl (fun c24_1 => ?_) (fun c24_1 => ?_)
    · skip
      replace c24_1 := b2_n c24_1
      refine w_la rfl rfl ?_
      refine w_gf rfl (mg_0 _ _) rfl ?_
      refine w_li rfl rfl ?_
      refine w_aa rfl (mg_36 _ _) (show ¬ (1 : Int32) < 0 from by decide) (q := 42) rfl ?_
      refine w_sa rfl (Nat.le_of_ble_eq_true rfl) rfl ?_
      refine w_la rfl rfl ?_
      refine w_gf rfl (mg_42 _ _) rfl ?_
      refine w_ci rfl ?_
      refine w_ic_ne rfl (fun c43_2 => ?_) (fun c43_2 => absurd (show ¬ (2 : Int32) = 1 from by decide) c43_2)
      refine w_la rfl rfl ?_
      refine w_gf rfl (mg_42 _ _) rfl ?_
      refine w_ci rfl ?_
      refine w_ic_eq rfl (fun c75_2 => ?_) (fun c75_2 => absurd (show (2 : Int32) = 2 from by decide) c75_2)
      refine w_ci rfl ?_
      refine w_ri rfl ?_
      exact ⟨by first | rfl | (simp_all; done) | (simp_all; rfl) | (simp_all [up2_s]; done) | (simp_all [up2_s]; decide) | decide, _, _, rfl, by repeat (first | exact Mod0 | refine Mod.up ?_ (Nat.le_of_ble_eq_true rfl) | refine Mod.upl ?_ (Nat.le_of_ble_eq_true rfl))⟩
    · skip
      replace c24_1 := b2_0 (Decidable.of_not_not c24_1)
      refine w_ci rfl ?_
      refine w_ri rfl ?_
      exact ⟨by first | rfl | (simp_all; done) | (simp_all; rfl) | (simp_all [up2_s]; done) | (simp_all [up2_s]; decide) | decide, _, _, rfl, by repeat (first | exact Mod0 | refine Mod.up ?_ (Nat.le_of_ble_eq_true rfl) | refine Mod.upl ?_ (Nat.le_of_ble_eq_true rfl))⟩

set_option maxRecDepth 100000 in
set_option maxHeartbeats 2000000 in
theorem d_taken_1 {tk : Int32} (s : Nat → Nat → Int32) (t : Nat → Nat → Int64) : Wm 195 [.ref 51, .int 1, .int tk] (mk (mS s) (mT t)) (Pm (.int (if (wi tk 0 5 || wi tk 10 13) = true then -11 else -1))) := by
  refine Wm.of pT_195 (Nat.le_of_ble_eq_true rfl) (L0 := [some (.ref 51), some (.int 1), some (.int tk), none]) rfl ?_
  refine w_li rfl rfl ?_
  refine w_st1r pl_sub_c rfl (Nat.le_of_ble_eq_true rfl) (m_isShelf) ?_
  refine w_if_eq rfl (fun c4_0 => absurd c4_0 ((show ¬ b2 (wi 1 0 3) = 0 from by decide))) (fun c4_0 => ?_)
  refine w_li rfl rfl ?_
  refine w_ci rfl ?_
  refine w_ci rfl ?_
  refine w_st3r pl_sub_c rfl (Nat.le_of_ble_eq_true rfl) (m_in) ?_
  refine w_if_ne rfl (fun c13_0 => ?_) (fun c13_0 => ?_)
  · skip
    replace c13_0 := b2_n c13_0
    refine w_la rfl rfl ?_
    refine w_li rfl rfl ?_
    refine w_vi1 pl_sub_c rfl (mg_51 _ _) (Nat.le_of_ble_eq_true rfl) (u_kindOn_1) (fun r2 h2 q => (congrArg List.length q.2).trans rfl) (fun r2 h2 q => ?_)
    rw [q.1, q.2]
    refine w_si rfl (Nat.le_of_ble_eq_true rfl) rfl ?_
    refine w_li rfl rfl ?_
    refine w_if_ge rfl (fun c36_1 => absurd c36_1 (show ¬ ((0 : Int32) ≤ (-1)) from by decide)) (fun c36_1 => ?_)
    refine w_ci rfl ?_
    refine w_ri rfl ?_
    exact ⟨by first | rfl | (simp_all; done) | (simp_all; rfl) | decide, _, _, rfl⟩
  · skip
    replace c13_0 := b2_0 (Decidable.of_not_not c13_0)
    refine w_li rfl rfl ?_
    refine w_ci rfl ?_
    refine w_ci rfl ?_
    refine w_st3r pl_sub_c rfl (Nat.le_of_ble_eq_true rfl) (m_in) ?_
    refine w_if_ne rfl (fun c24_1 => ?_) (fun c24_1 => ?_)
    · skip
      replace c24_1 := b2_n c24_1
      refine w_la rfl rfl ?_
      refine w_li rfl rfl ?_
      refine w_vi1 pl_sub_c rfl (mg_51 _ _) (Nat.le_of_ble_eq_true rfl) (u_kindOn_1) (fun r2 h2 q => (congrArg List.length q.2).trans rfl) (fun r2 h2 q => ?_)
      rw [q.1, q.2]
      refine w_si rfl (Nat.le_of_ble_eq_true rfl) rfl ?_
      refine w_li rfl rfl ?_
      refine w_if_ge rfl (fun c36_2 => absurd c36_2 (show ¬ ((0 : Int32) ≤ (-1)) from by decide)) (fun c36_2 => ?_)
      refine w_ci rfl ?_
      refine w_ri rfl ?_
      exact ⟨by first | rfl | (simp_all; done) | (simp_all; rfl) | decide, _, _, rfl⟩
    · skip
      replace c24_1 := b2_0 (Decidable.of_not_not c24_1)
      refine w_ci rfl ?_
      refine w_ri rfl ?_
      exact ⟨by first | rfl | (simp_all; done) | (simp_all; rfl) | decide, _, _, rfl⟩

theorem b_taken_1 {tk : Int32} : Bth 89 195 [.int 1, .int tk] := Bth.of (c_taken_1 ) (fun s t => d_taken_1  s t)
set_option maxRecDepth 100000 in
set_option maxHeartbeats 2000000 in
theorem c_taken_2 {tk : Int32}  : Wm 89 [.ref 0, .int 2, .int tk] (mk s0 t0) (Pc (.int (if (wi tk 0 5 || wi tk 10 13) = true then -11 else -1))) := by
  refine Wm.of pT_89 (Nat.le_of_ble_eq_true rfl) (L0 := [some (.ref 0), some (.int 2), some (.int tk), none, none, none]) rfl ?_
  refine w_li rfl rfl ?_
  refine w_ci rfl ?_
  refine w_ci rfl ?_
  refine w_st3r pl_sub_c rfl (Nat.le_of_ble_eq_true rfl) (r_isWithin) ?_
  refine w_si rfl (Nat.le_of_ble_eq_true rfl) rfl ?_
  refine w_li rfl rfl ?_
  refine w_st1r pl_sub_c rfl (Nat.le_of_ble_eq_true rfl) (r_isPlace) ?_
  refine w_if_eq rfl (fun c13_0 => absurd c13_0 ((show ¬ b2 (wi 2 0 3) = 0 from by decide))) (fun c13_0 => ?_)
  refine w_li rfl rfl ?_
  refine w_st1r pl_sub_c rfl (Nat.le_of_ble_eq_true rfl) (r_isKind) ?_
  refine w_if_ne rfl (fun c20_0 => ?_) (fun c20_0 => ?_)
  · skip
    replace c20_0 := b2_n c20_0
    refine w_la rfl rfl ?_
    refine w_gf rfl (mg_0 _ _) rfl ?_
    refine w_li rfl rfl ?_
    refine w_aa rfl (mg_36 _ _) (show ¬ (2 : Int32) < 0 from by decide) (q := 45) rfl ?_
    refine w_sa rfl (Nat.le_of_ble_eq_true rfl) rfl ?_
    refine w_la rfl rfl ?_
    refine w_gf rfl (mg_45 _ _) rfl ?_
    refine w_ci rfl ?_
    refine w_ic_ne rfl (fun c43_1 => ?_) (fun c43_1 => absurd (show ¬ (2 : Int32) = 1 from by decide) c43_1)
    refine w_la rfl rfl ?_
    refine w_gf rfl (mg_45 _ _) rfl ?_
    refine w_ci rfl ?_
    refine w_ic_eq rfl (fun c75_1 => ?_) (fun c75_1 => absurd (show (2 : Int32) = 2 from by decide) c75_1)
    refine w_ci rfl ?_
    refine w_ri rfl ?_
    exact ⟨by first | rfl | (simp_all; done) | (simp_all; rfl) | (simp_all [up2_s]; done) | (simp_all [up2_s]; decide) | decide, _, _, rfl, by repeat (first | exact Mod0 | refine Mod.up ?_ (Nat.le_of_ble_eq_true rfl) | refine Mod.upl ?_ (Nat.le_of_ble_eq_true rfl))⟩
  · skip
    replace c20_0 := b2_0 (Decidable.of_not_not c20_0)
    refine w_li rfl rfl ?_
    refine w_if_ne rfl (fun c24_1 => ?_) (fun c24_1 => ?_)
    · skip
      replace c24_1 := b2_n c24_1
      refine w_la rfl rfl ?_
      refine w_gf rfl (mg_0 _ _) rfl ?_
      refine w_li rfl rfl ?_
      refine w_aa rfl (mg_36 _ _) (show ¬ (2 : Int32) < 0 from by decide) (q := 45) rfl ?_
      refine w_sa rfl (Nat.le_of_ble_eq_true rfl) rfl ?_
      refine w_la rfl rfl ?_
      refine w_gf rfl (mg_45 _ _) rfl ?_
      refine w_ci rfl ?_
      refine w_ic_ne rfl (fun c43_2 => ?_) (fun c43_2 => absurd (show ¬ (2 : Int32) = 1 from by decide) c43_2)
      refine w_la rfl rfl ?_
      refine w_gf rfl (mg_45 _ _) rfl ?_
      refine w_ci rfl ?_
      refine w_ic_eq rfl (fun c75_2 => ?_) (fun c75_2 => absurd (show (2 : Int32) = 2 from by decide) c75_2)
      refine w_ci rfl ?_
      refine w_ri rfl ?_
      exact ⟨by first | rfl | (simp_all; done) | (simp_all; rfl) | (simp_all [up2_s]; done) | (simp_all [up2_s]; decide) | decide, _, _, rfl, by repeat (first | exact Mod0 | refine Mod.up ?_ (Nat.le_of_ble_eq_true rfl) | refine Mod.upl ?_ (Nat.le_of_ble_eq_true rfl))⟩
    · skip
      replace c24_1 := b2_0 (Decidable.of_not_not c24_1)
      refine w_ci rfl ?_
      refine w_ri rfl ?_
      exact ⟨by first | rfl | (simp_all; done) | (simp_all; rfl) | (simp_all [up2_s]; done) | (simp_all [up2_s]; decide) | decide, _, _, rfl, by repeat (first | exact Mod0 | refine Mod.up ?_ (Nat.le_of_ble_eq_true rfl) | refine Mod.upl ?_ (Nat.le_of_ble_eq_true rfl))⟩

set_option maxRecDepth 100000 in
set_option maxHeartbeats 2000000 in
theorem d_taken_2 {tk : Int32} (s : Nat → Nat → Int32) (t : Nat → Nat → Int64) : Wm 195 [.ref 51, .int 2, .int tk] (mk (mS s) (mT t)) (Pm (.int (if (wi tk 0 5 || wi tk 10 13) = true then -11 else -1))) := by
  refine Wm.of pT_195 (Nat.le_of_ble_eq_true rfl) (L0 := [some (.ref 51), some (.int 2), some (.int tk), none]) rfl ?_
  refine w_li rfl rfl ?_
  refine w_st1r pl_sub_c rfl (Nat.le_of_ble_eq_true rfl) (m_isShelf) ?_
  refine w_if_eq rfl (fun c4_0 => absurd c4_0 ((show ¬ b2 (wi 2 0 3) = 0 from by decide))) (fun c4_0 => ?_)
  refine w_li rfl rfl ?_
  refine w_ci rfl ?_
  refine w_ci rfl ?_
  refine w_st3r pl_sub_c rfl (Nat.le_of_ble_eq_true rfl) (m_in) ?_
  refine w_if_ne rfl (fun c13_0 => ?_) (fun c13_0 => ?_)
  · skip
    replace c13_0 := b2_n c13_0
    refine w_la rfl rfl ?_
    refine w_li rfl rfl ?_
    refine w_vi1 pl_sub_c rfl (mg_51 _ _) (Nat.le_of_ble_eq_true rfl) (u_kindOn_2) (fun r2 h2 q => (congrArg List.length q.2).trans rfl) (fun r2 h2 q => ?_)
    rw [q.1, q.2]
    refine w_si rfl (Nat.le_of_ble_eq_true rfl) rfl ?_
    refine w_li rfl rfl ?_
    refine w_if_ge rfl (fun c36_1 => absurd c36_1 (show ¬ ((0 : Int32) ≤ (-1)) from by decide)) (fun c36_1 => ?_)
    refine w_ci rfl ?_
    refine w_ri rfl ?_
    exact ⟨by first | rfl | (simp_all; done) | (simp_all; rfl) | decide, _, _, rfl⟩
  · skip
    replace c13_0 := b2_0 (Decidable.of_not_not c13_0)
    refine w_li rfl rfl ?_
    refine w_ci rfl ?_
    refine w_ci rfl ?_
    refine w_st3r pl_sub_c rfl (Nat.le_of_ble_eq_true rfl) (m_in) ?_
    refine w_if_ne rfl (fun c24_1 => ?_) (fun c24_1 => ?_)
    · skip
      replace c24_1 := b2_n c24_1
      refine w_la rfl rfl ?_
      refine w_li rfl rfl ?_
      refine w_vi1 pl_sub_c rfl (mg_51 _ _) (Nat.le_of_ble_eq_true rfl) (u_kindOn_2) (fun r2 h2 q => (congrArg List.length q.2).trans rfl) (fun r2 h2 q => ?_)
      rw [q.1, q.2]
      refine w_si rfl (Nat.le_of_ble_eq_true rfl) rfl ?_
      refine w_li rfl rfl ?_
      refine w_if_ge rfl (fun c36_2 => absurd c36_2 (show ¬ ((0 : Int32) ≤ (-1)) from by decide)) (fun c36_2 => ?_)
      refine w_ci rfl ?_
      refine w_ri rfl ?_
      exact ⟨by first | rfl | (simp_all; done) | (simp_all; rfl) | decide, _, _, rfl⟩
    · skip
      replace c24_1 := b2_0 (Decidable.of_not_not c24_1)
      refine w_ci rfl ?_
      refine w_ri rfl ?_
      exact ⟨by first | rfl | (simp_all; done) | (simp_all; rfl) | decide, _, _, rfl⟩

theorem b_taken_2 {tk : Int32} : Bth 89 195 [.int 2, .int tk] := Bth.of (c_taken_2 ) (fun s t => d_taken_2  s t)
set_option maxRecDepth 100000 in
set_option maxHeartbeats 2000000 in
theorem c_taken_3 {tk : Int32}  : Wm 89 [.ref 0, .int 3, .int tk] (mk s0 t0) (Pc (.int (if (wi tk 0 5 || wi tk 10 13) = true then -11 else -1))) := by
  refine Wm.of pT_89 (Nat.le_of_ble_eq_true rfl) (L0 := [some (.ref 0), some (.int 3), some (.int tk), none, none, none]) rfl ?_
  refine w_li rfl rfl ?_
  refine w_ci rfl ?_
  refine w_ci rfl ?_
  refine w_st3r pl_sub_c rfl (Nat.le_of_ble_eq_true rfl) (r_isWithin) ?_
  refine w_si rfl (Nat.le_of_ble_eq_true rfl) rfl ?_
  refine w_li rfl rfl ?_
  refine w_st1r pl_sub_c rfl (Nat.le_of_ble_eq_true rfl) (r_isPlace) ?_
  refine w_if_eq rfl (fun c13_0 => absurd c13_0 ((show ¬ b2 (wi 3 0 3) = 0 from by decide))) (fun c13_0 => ?_)
  refine w_li rfl rfl ?_
  refine w_st1r pl_sub_c rfl (Nat.le_of_ble_eq_true rfl) (r_isKind) ?_
  refine w_if_ne rfl (fun c20_0 => ?_) (fun c20_0 => ?_)
  · skip
    replace c20_0 := b2_n c20_0
    refine w_la rfl rfl ?_
    refine w_gf rfl (mg_0 _ _) rfl ?_
    refine w_li rfl rfl ?_
    refine w_aa rfl (mg_36 _ _) (show ¬ (3 : Int32) < 0 from by decide) (q := 48) rfl ?_
    refine w_sa rfl (Nat.le_of_ble_eq_true rfl) rfl ?_
    refine w_la rfl rfl ?_
    refine w_gf rfl (mg_48 _ _) rfl ?_
    refine w_ci rfl ?_
    refine w_ic_ne rfl (fun c43_1 => ?_) (fun c43_1 => absurd (show ¬ (2 : Int32) = 1 from by decide) c43_1)
    refine w_la rfl rfl ?_
    refine w_gf rfl (mg_48 _ _) rfl ?_
    refine w_ci rfl ?_
    refine w_ic_eq rfl (fun c75_1 => ?_) (fun c75_1 => absurd (show (2 : Int32) = 2 from by decide) c75_1)
    refine w_ci rfl ?_
    refine w_ri rfl ?_
    exact ⟨by first | rfl | (simp_all; done) | (simp_all; rfl) | (simp_all [up2_s]; done) | (simp_all [up2_s]; decide) | decide, _, _, rfl, by repeat (first | exact Mod0 | refine Mod.up ?_ (Nat.le_of_ble_eq_true rfl) | refine Mod.upl ?_ (Nat.le_of_ble_eq_true rfl))⟩
  · skip
    replace c20_0 := b2_0 (Decidable.of_not_not c20_0)
    refine w_li rfl rfl ?_
    refine w_if_ne rfl (fun c24_1 => ?_) (fun c24_1 => ?_)
    · skip
      replace c24_1 := b2_n c24_1
      refine w_la rfl rfl ?_
      refine w_gf rfl (mg_0 _ _) rfl ?_
      refine w_li rfl rfl ?_
      refine w_aa rfl (mg_36 _ _) (show ¬ (3 : Int32) < 0 from by decide) (q := 48) rfl ?_
      refine w_sa rfl (Nat.le_of_ble_eq_true rfl) rfl ?_
      refine w_la rfl rfl ?_
      refine w_gf rfl (mg_48 _ _) rfl ?_
      refine w_ci rfl ?_
      refine w_ic_ne rfl (fun c43_2 => ?_) (fun c43_2 => absurd (show ¬ (2 : Int32) = 1 from by decide) c43_2)
      refine w_la rfl rfl ?_
      refine w_gf rfl (mg_48 _ _) rfl ?_
      refine w_ci rfl ?_
      refine w_ic_eq rfl (fun c75_2 => ?_) (fun c75_2 => absurd (show (2 : Int32) = 2 from by decide) c75_2)
      refine w_ci rfl ?_
      refine w_ri rfl ?_
      exact ⟨by first | rfl | (simp_all; done) | (simp_all; rfl) | (simp_all [up2_s]; done) | (simp_all [up2_s]; decide) | decide, _, _, rfl, by repeat (first | exact Mod0 | refine Mod.up ?_ (Nat.le_of_ble_eq_true rfl) | refine Mod.upl ?_ (Nat.le_of_ble_eq_true rfl))⟩
    · skip
      replace c24_1 := b2_0 (Decidable.of_not_not c24_1)
      refine w_ci rfl ?_
      refine w_ri rfl ?_
      exact ⟨by first | rfl | (simp_all; done) | (simp_all; rfl) | (simp_all [up2_s]; done) | (simp_all [up2_s]; decide) | decide, _, _, rfl, by repeat (first | exact Mod0 | refine Mod.up ?_ (Nat.le_of_ble_eq_true rfl) | refine Mod.upl ?_ (Nat.le_of_ble_eq_true rfl))⟩

set_option maxRecDepth 100000 in
set_option maxHeartbeats 2000000 in
theorem d_taken_3 {tk : Int32} (s : Nat → Nat → Int32) (t : Nat → Nat → Int64) : Wm 195 [.ref 51, .int 3, .int tk] (mk (mS s) (mT t)) (Pm (.int (if (wi tk 0 5 || wi tk 10 13) = true then -11 else -1))) := by
  refine Wm.of pT_195 (Nat.le_of_ble_eq_true rfl) (L0 := [some (.ref 51), some (.int 3), some (.int tk), none]) rfl ?_
  refine w_li rfl rfl ?_
  refine w_st1r pl_sub_c rfl (Nat.le_of_ble_eq_true rfl) (m_isShelf) ?_
  refine w_if_eq rfl (fun c4_0 => absurd c4_0 ((show ¬ b2 (wi 3 0 3) = 0 from by decide))) (fun c4_0 => ?_)
  refine w_li rfl rfl ?_
  refine w_ci rfl ?_
  refine w_ci rfl ?_
  refine w_st3r pl_sub_c rfl (Nat.le_of_ble_eq_true rfl) (m_in) ?_
  refine w_if_ne rfl (fun c13_0 => ?_) (fun c13_0 => ?_)
  · skip
    replace c13_0 := b2_n c13_0
    refine w_la rfl rfl ?_
    refine w_li rfl rfl ?_
    refine w_vi1 pl_sub_c rfl (mg_51 _ _) (Nat.le_of_ble_eq_true rfl) (u_kindOn_3) (fun r2 h2 q => (congrArg List.length q.2).trans rfl) (fun r2 h2 q => ?_)
    rw [q.1, q.2]
    refine w_si rfl (Nat.le_of_ble_eq_true rfl) rfl ?_
    refine w_li rfl rfl ?_
    refine w_if_ge rfl (fun c36_1 => absurd c36_1 (show ¬ ((0 : Int32) ≤ (-1)) from by decide)) (fun c36_1 => ?_)
    refine w_ci rfl ?_
    refine w_ri rfl ?_
    exact ⟨by first | rfl | (simp_all; done) | (simp_all; rfl) | decide, _, _, rfl⟩
  · skip
    replace c13_0 := b2_0 (Decidable.of_not_not c13_0)
    refine w_li rfl rfl ?_
    refine w_ci rfl ?_
    refine w_ci rfl ?_
    refine w_st3r pl_sub_c rfl (Nat.le_of_ble_eq_true rfl) (m_in) ?_
    refine w_if_ne rfl (fun c24_1 => ?_) (fun c24_1 => ?_)
    · skip
      replace c24_1 := b2_n c24_1
      refine w_la rfl rfl ?_
      refine w_li rfl rfl ?_
      refine w_vi1 pl_sub_c rfl (mg_51 _ _) (Nat.le_of_ble_eq_true rfl) (u_kindOn_3) (fun r2 h2 q => (congrArg List.length q.2).trans rfl) (fun r2 h2 q => ?_)
      rw [q.1, q.2]
      refine w_si rfl (Nat.le_of_ble_eq_true rfl) rfl ?_
      refine w_li rfl rfl ?_
      refine w_if_ge rfl (fun c36_2 => absurd c36_2 (show ¬ ((0 : Int32) ≤ (-1)) from by decide)) (fun c36_2 => ?_)
      refine w_ci rfl ?_
      refine w_ri rfl ?_
      exact ⟨by first | rfl | (simp_all; done) | (simp_all; rfl) | decide, _, _, rfl⟩
    · skip
      replace c24_1 := b2_0 (Decidable.of_not_not c24_1)
      refine w_ci rfl ?_
      refine w_ri rfl ?_
      exact ⟨by first | rfl | (simp_all; done) | (simp_all; rfl) | decide, _, _, rfl⟩

theorem b_taken_3 {tk : Int32} : Bth 89 195 [.int 3, .int tk] := Bth.of (c_taken_3 ) (fun s t => d_taken_3  s t)
set_option maxRecDepth 100000 in
set_option maxHeartbeats 2000000 in
theorem c_taken_out {z tk : Int32} (hx : wi z 0 3 = false) : Wm 89 [.ref 0, .int z, .int tk] (mk s0 t0) (Pc (.int (-1))) := by
  refine Wm.of pT_89 (Nat.le_of_ble_eq_true rfl) (L0 := [some (.ref 0), some (.int z), some (.int tk), none, none, none]) rfl ?_
  refine w_li rfl rfl ?_
  refine w_ci rfl ?_
  refine w_ci rfl ?_
  refine w_st3r pl_sub_c rfl (Nat.le_of_ble_eq_true rfl) (r_isWithin) ?_
  refine w_si rfl (Nat.le_of_ble_eq_true rfl) rfl ?_
  refine w_li rfl rfl ?_
  refine w_st1r pl_sub_c rfl (Nat.le_of_ble_eq_true rfl) (r_isPlace) ?_
  refine w_if_eq rfl (fun c13_0 => ?_) (fun c13_0 => ?_)
  · skip
    replace c13_0 := b2_0 c13_0
    refine w_ci rfl ?_
    refine w_ri rfl ?_
    exact ⟨by first | rfl | (simp_all; done) | (simp_all; rfl) | (simp_all [up2_s]; done) | (simp_all [up2_s]; decide) | decide, _, _, rfl, by repeat (first | exact Mod0 | refine Mod.up ?_ (Nat.le_of_ble_eq_true rfl) | refine Mod.upl ?_ (Nat.le_of_ble_eq_true rfl))⟩
  · skip
    replace c13_0 := b2_n c13_0
    exact absurd (hx.symm.trans c13_0) (by decide)

set_option maxRecDepth 100000 in
set_option maxHeartbeats 2000000 in
theorem d_taken_out {z tk : Int32} (hx : wi z 0 3 = false) (s : Nat → Nat → Int32) (t : Nat → Nat → Int64) : Wm 195 [.ref 51, .int z, .int tk] (mk (mS s) (mT t)) (Pm (.int (-1))) := by
  refine Wm.of pT_195 (Nat.le_of_ble_eq_true rfl) (L0 := [some (.ref 51), some (.int z), some (.int tk), none]) rfl ?_
  refine w_li rfl rfl ?_
  refine w_st1r pl_sub_c rfl (Nat.le_of_ble_eq_true rfl) (m_isShelf) ?_
  refine w_if_eq rfl (fun c4_0 => ?_) (fun c4_0 => ?_)
  · skip
    replace c4_0 := b2_0 c4_0
    refine w_ci rfl ?_
    refine w_ri rfl ?_
    exact ⟨by first | rfl | (simp_all; done) | (simp_all; rfl) | decide, _, _, rfl⟩
  · skip
    replace c4_0 := b2_n c4_0
    exact absurd (hx.symm.trans c4_0) (by decide)

theorem b_taken_out {z tk : Int32} (hx : wi z 0 3 = false) : Bth 89 195 [.int z, .int tk] := Bth.of (c_taken_out hx) (fun s t => d_taken_out hx s t)
theorem B_taken (z tk : Int32) : Bth 89 195 [.int z, .int tk] := by
  rcases tf (wi z 0 3) with h | h
  · rcases en3 h with rfl | rfl | rfl | rfl
    · exact b_taken_0
    · exact b_taken_1
    · exact b_taken_2
    · exact b_taken_3
  · exact b_taken_out h
set_option maxRecDepth 100000 in
set_option maxHeartbeats 2000000 in
theorem u_forget {s : Nat → Nat → Int32} {t : Nat → Nat → Int64} : Wm 1 [.ref 33] (mk s t) (fun r h => r = none ∧ h = mk (up2 (up2 s 33 1 0) 33 2 0) t) := by
  refine Wm.of pT_1 (Nat.le_of_ble_eq_true rfl) (L0 := [some (.ref 33)]) rfl ?_
  refine w_la rfl rfl ?_
  refine w_ci rfl ?_
  refine w_pf rfl rfl (mg_33 _ _) (Nat.le_of_ble_eq_true rfl) (ms_33_1 _ _ _) ?_
  refine w_la rfl rfl ?_
  refine w_ci rfl ?_
  refine w_pf rfl rfl (mg_33 _ _) (Nat.le_of_ble_eq_true rfl) (ms_33_2 _ _ _) ?_
  refine w_rv rfl ?_
  exact ⟨rfl, rfl⟩

set_option maxRecDepth 100000 in
set_option maxHeartbeats 2000000 in
theorem c_act_0 {a x : Int32}  : Wm 90 [.ref 0, .int 0, .int a, .int x] (mk s0 t0) (Pc (.int 0)) := by
  refine Wm.of pT_90 (Nat.le_of_ble_eq_true rfl) (L0 := [some (.ref 0), some (.int 0), some (.int a), some (.int x), none, none, none]) rfl ?_
  refine w_la rfl rfl ?_
  refine w_gf rfl (mg_0 _ _) rfl ?_
  refine w_vi0 pl_sub_c rfl (mg_33 _ _) (Nat.le_of_ble_eq_true rfl) (u_forget) (fun r2 h2 q => (congrArg List.length q.2).trans rfl) (fun r2 h2 q => ?_)
  rw [q.1, q.2]
  refine w_li rfl rfl ?_
  refine w_st1r pl_sub_c rfl (Nat.le_of_ble_eq_true rfl) (r_isPlace) ?_
  refine w_if_eq rfl (fun c11_0 => absurd c11_0 ((show ¬ b2 (wi 0 0 3) = 0 from by decide))) (fun c11_0 => ?_)
  refine w_li rfl rfl ?_
  refine w_ci rfl ?_
  refine w_ci rfl ?_
  refine w_st3r pl_sub_c rfl (Nat.le_of_ble_eq_true rfl) (r_isWithin) ?_
  refine w_if_ne rfl (fun c20_0 => ?_) (fun c20_0 => ?_)
  · skip
    replace c20_0 := b2_n c20_0
    refine w_la rfl rfl ?_
    refine w_gf rfl (mg_0 _ _) rfl ?_
    refine w_li rfl rfl ?_
    refine w_aa rfl (mg_36 _ _) (show ¬ (0 : Int32) < 0 from by decide) (q := 39) rfl ?_
    refine w_sa rfl (Nat.le_of_ble_eq_true rfl) rfl ?_
    refine w_la rfl rfl ?_
    refine w_gf rfl (mg_39 _ _) rfl ?_
    refine w_if_ne rfl (fun c38_1 => ?_) (fun c38_1 => absurd (show ¬ (2 : Int32) = 0 from by decide) c38_1)
    refine w_ci rfl ?_
    refine w_ri rfl ?_
    exact ⟨by first | rfl | (simp_all; done) | (simp_all; rfl) | (simp_all [up2_s]; done) | (simp_all [up2_s]; decide) | decide, _, _, rfl, by repeat (first | exact Mod0 | refine Mod.up ?_ (Nat.le_of_ble_eq_true rfl) | refine Mod.upl ?_ (Nat.le_of_ble_eq_true rfl))⟩
  · skip
    replace c20_0 := b2_0 (Decidable.of_not_not c20_0)
    refine w_ci rfl ?_
    refine w_ri rfl ?_
    exact ⟨by first | rfl | (simp_all; done) | (simp_all; rfl) | (simp_all [up2_s]; done) | (simp_all [up2_s]; decide) | decide, _, _, rfl, by repeat (first | exact Mod0 | refine Mod.up ?_ (Nat.le_of_ble_eq_true rfl) | refine Mod.upl ?_ (Nat.le_of_ble_eq_true rfl))⟩

set_option maxRecDepth 100000 in
set_option maxHeartbeats 2000000 in
theorem d_act_0 {a x : Int32} (s : Nat → Nat → Int32) (t : Nat → Nat → Int64) : Wm 206 [.ref 51, .int 0, .int a, .int x] (mk (mS s) (mT t)) (Pm (.int 0)) := by
  refine Wm.of pT_206 (Nat.le_of_ble_eq_true rfl) (L0 := [some (.ref 51), some (.int 0), some (.int a), some (.int x), none, none]) rfl ?_
  refine w_la rfl rfl ?_
  refine w_ci rfl ?_
  refine w_pf rfl rfl (mg_51 _ _) (Nat.le_of_ble_eq_true rfl) (ms_51_28 _ _ _) ?_
  refine w_li rfl rfl ?_
  refine w_st1r pl_sub_c rfl (Nat.le_of_ble_eq_true rfl) (m_isShelf) ?_
  refine w_if_eq rfl (fun c9_0 => absurd c9_0 ((show ¬ b2 (wi 0 0 3) = 0 from by decide))) (fun c9_0 => ?_)
  refine w_la rfl rfl ?_
  refine w_li rfl rfl ?_
  refine w_vi1 pl_sub_c rfl (mg_51 _ _) (Nat.le_of_ble_eq_true rfl) (u_kindOnA_0) (fun r2 h2 q => (congrArg List.length q.2).trans rfl) (fun r2 h2 q => ?_)
  rw [q.1, q.2]
  refine w_go rfl ?_
  refine w_si rfl (Nat.le_of_ble_eq_true rfl) rfl ?_
  refine w_li rfl rfl ?_
  refine w_ci rfl ?_
  refine w_ci rfl ?_
  refine w_st3r pl_sub_c rfl (Nat.le_of_ble_eq_true rfl) (m_in) ?_
  refine w_if_eq rfl (fun c29_0 => ?_) (fun c29_0 => ?_)
  · skip
    replace c29_0 := b2_0 c29_0
    refine w_ci rfl ?_
    refine w_ri rfl ?_
    exact ⟨by first | rfl | (simp_all; done) | (simp_all; rfl) | decide, _, _, rfl⟩
  · skip
    replace c29_0 := b2_n c29_0
    refine w_li rfl rfl ?_
    refine w_ci rfl ?_
    refine w_ci rfl ?_
    refine w_st3r pl_sub_c rfl (Nat.le_of_ble_eq_true rfl) (m_in) ?_
    refine w_if_ne rfl (fun c39_1 => absurd c39_1 (fun z => z (show b2 (wi (-1) 0 5) = 0 from by decide))) (fun c39_1 => ?_)
    refine w_ci rfl ?_
    refine w_ri rfl ?_
    exact ⟨by first | rfl | (simp_all; done) | (simp_all; rfl) | decide, _, _, rfl⟩

theorem b_act_0 {a x : Int32} : Bth 90 206 [.int 0, .int a, .int x] := Bth.of (c_act_0 ) (fun s t => d_act_0  s t)
set_option maxRecDepth 100000 in
set_option maxHeartbeats 2000000 in
theorem c_act_1 {a x : Int32}  : Wm 90 [.ref 0, .int 1, .int a, .int x] (mk s0 t0) (Pc (.int 0)) := by
  refine Wm.of pT_90 (Nat.le_of_ble_eq_true rfl) (L0 := [some (.ref 0), some (.int 1), some (.int a), some (.int x), none, none, none]) rfl ?_
  refine w_la rfl rfl ?_
  refine w_gf rfl (mg_0 _ _) rfl ?_
  refine w_vi0 pl_sub_c rfl (mg_33 _ _) (Nat.le_of_ble_eq_true rfl) (u_forget) (fun r2 h2 q => (congrArg List.length q.2).trans rfl) (fun r2 h2 q => ?_)
  rw [q.1, q.2]
  refine w_li rfl rfl ?_
  refine w_st1r pl_sub_c rfl (Nat.le_of_ble_eq_true rfl) (r_isPlace) ?_
  refine w_if_eq rfl (fun c11_0 => absurd c11_0 ((show ¬ b2 (wi 1 0 3) = 0 from by decide))) (fun c11_0 => ?_)
  refine w_li rfl rfl ?_
  refine w_ci rfl ?_
  refine w_ci rfl ?_
  refine w_st3r pl_sub_c rfl (Nat.le_of_ble_eq_true rfl) (r_isWithin) ?_
  refine w_if_ne rfl (fun c20_0 => ?_) (fun c20_0 => ?_)
  · skip
    replace c20_0 := b2_n c20_0
    refine w_la rfl rfl ?_
    refine w_gf rfl (mg_0 _ _) rfl ?_
    refine w_li rfl rfl ?_
    refine w_aa rfl (mg_36 _ _) (show ¬ (1 : Int32) < 0 from by decide) (q := 42) rfl ?_
    refine w_sa rfl (Nat.le_of_ble_eq_true rfl) rfl ?_
    refine w_la rfl rfl ?_
    refine w_gf rfl (mg_42 _ _) rfl ?_
    refine w_if_ne rfl (fun c38_1 => ?_) (fun c38_1 => absurd (show ¬ (2 : Int32) = 0 from by decide) c38_1)
    refine w_ci rfl ?_
    refine w_ri rfl ?_
    exact ⟨by first | rfl | (simp_all; done) | (simp_all; rfl) | (simp_all [up2_s]; done) | (simp_all [up2_s]; decide) | decide, _, _, rfl, by repeat (first | exact Mod0 | refine Mod.up ?_ (Nat.le_of_ble_eq_true rfl) | refine Mod.upl ?_ (Nat.le_of_ble_eq_true rfl))⟩
  · skip
    replace c20_0 := b2_0 (Decidable.of_not_not c20_0)
    refine w_ci rfl ?_
    refine w_ri rfl ?_
    exact ⟨by first | rfl | (simp_all; done) | (simp_all; rfl) | (simp_all [up2_s]; done) | (simp_all [up2_s]; decide) | decide, _, _, rfl, by repeat (first | exact Mod0 | refine Mod.up ?_ (Nat.le_of_ble_eq_true rfl) | refine Mod.upl ?_ (Nat.le_of_ble_eq_true rfl))⟩

set_option maxRecDepth 100000 in
set_option maxHeartbeats 2000000 in
theorem d_act_1 {a x : Int32} (s : Nat → Nat → Int32) (t : Nat → Nat → Int64) : Wm 206 [.ref 51, .int 1, .int a, .int x] (mk (mS s) (mT t)) (Pm (.int 0)) := by
  refine Wm.of pT_206 (Nat.le_of_ble_eq_true rfl) (L0 := [some (.ref 51), some (.int 1), some (.int a), some (.int x), none, none]) rfl ?_
  refine w_la rfl rfl ?_
  refine w_ci rfl ?_
  refine w_pf rfl rfl (mg_51 _ _) (Nat.le_of_ble_eq_true rfl) (ms_51_28 _ _ _) ?_
  refine w_li rfl rfl ?_
  refine w_st1r pl_sub_c rfl (Nat.le_of_ble_eq_true rfl) (m_isShelf) ?_
  refine w_if_eq rfl (fun c9_0 => absurd c9_0 ((show ¬ b2 (wi 1 0 3) = 0 from by decide))) (fun c9_0 => ?_)
  refine w_la rfl rfl ?_
  refine w_li rfl rfl ?_
  refine w_vi1 pl_sub_c rfl (mg_51 _ _) (Nat.le_of_ble_eq_true rfl) (u_kindOnA_1) (fun r2 h2 q => (congrArg List.length q.2).trans rfl) (fun r2 h2 q => ?_)
  rw [q.1, q.2]
  refine w_go rfl ?_
  refine w_si rfl (Nat.le_of_ble_eq_true rfl) rfl ?_
  refine w_li rfl rfl ?_
  refine w_ci rfl ?_
  refine w_ci rfl ?_
  refine w_st3r pl_sub_c rfl (Nat.le_of_ble_eq_true rfl) (m_in) ?_
  refine w_if_eq rfl (fun c29_0 => ?_) (fun c29_0 => ?_)
  · skip
    replace c29_0 := b2_0 c29_0
    refine w_ci rfl ?_
    refine w_ri rfl ?_
    exact ⟨by first | rfl | (simp_all; done) | (simp_all; rfl) | decide, _, _, rfl⟩
  · skip
    replace c29_0 := b2_n c29_0
    refine w_li rfl rfl ?_
    refine w_ci rfl ?_
    refine w_ci rfl ?_
    refine w_st3r pl_sub_c rfl (Nat.le_of_ble_eq_true rfl) (m_in) ?_
    refine w_if_ne rfl (fun c39_1 => absurd c39_1 (fun z => z (show b2 (wi (-1) 0 5) = 0 from by decide))) (fun c39_1 => ?_)
    refine w_ci rfl ?_
    refine w_ri rfl ?_
    exact ⟨by first | rfl | (simp_all; done) | (simp_all; rfl) | decide, _, _, rfl⟩

theorem b_act_1 {a x : Int32} : Bth 90 206 [.int 1, .int a, .int x] := Bth.of (c_act_1 ) (fun s t => d_act_1  s t)
set_option maxRecDepth 100000 in
set_option maxHeartbeats 2000000 in
theorem c_act_2 {a x : Int32}  : Wm 90 [.ref 0, .int 2, .int a, .int x] (mk s0 t0) (Pc (.int 0)) := by
  refine Wm.of pT_90 (Nat.le_of_ble_eq_true rfl) (L0 := [some (.ref 0), some (.int 2), some (.int a), some (.int x), none, none, none]) rfl ?_
  refine w_la rfl rfl ?_
  refine w_gf rfl (mg_0 _ _) rfl ?_
  refine w_vi0 pl_sub_c rfl (mg_33 _ _) (Nat.le_of_ble_eq_true rfl) (u_forget) (fun r2 h2 q => (congrArg List.length q.2).trans rfl) (fun r2 h2 q => ?_)
  rw [q.1, q.2]
  refine w_li rfl rfl ?_
  refine w_st1r pl_sub_c rfl (Nat.le_of_ble_eq_true rfl) (r_isPlace) ?_
  refine w_if_eq rfl (fun c11_0 => absurd c11_0 ((show ¬ b2 (wi 2 0 3) = 0 from by decide))) (fun c11_0 => ?_)
  refine w_li rfl rfl ?_
  refine w_ci rfl ?_
  refine w_ci rfl ?_
  refine w_st3r pl_sub_c rfl (Nat.le_of_ble_eq_true rfl) (r_isWithin) ?_
  refine w_if_ne rfl (fun c20_0 => ?_) (fun c20_0 => ?_)
  · skip
    replace c20_0 := b2_n c20_0
    refine w_la rfl rfl ?_
    refine w_gf rfl (mg_0 _ _) rfl ?_
    refine w_li rfl rfl ?_
    refine w_aa rfl (mg_36 _ _) (show ¬ (2 : Int32) < 0 from by decide) (q := 45) rfl ?_
    refine w_sa rfl (Nat.le_of_ble_eq_true rfl) rfl ?_
    refine w_la rfl rfl ?_
    refine w_gf rfl (mg_45 _ _) rfl ?_
    refine w_if_ne rfl (fun c38_1 => ?_) (fun c38_1 => absurd (show ¬ (2 : Int32) = 0 from by decide) c38_1)
    refine w_ci rfl ?_
    refine w_ri rfl ?_
    exact ⟨by first | rfl | (simp_all; done) | (simp_all; rfl) | (simp_all [up2_s]; done) | (simp_all [up2_s]; decide) | decide, _, _, rfl, by repeat (first | exact Mod0 | refine Mod.up ?_ (Nat.le_of_ble_eq_true rfl) | refine Mod.upl ?_ (Nat.le_of_ble_eq_true rfl))⟩
  · skip
    replace c20_0 := b2_0 (Decidable.of_not_not c20_0)
    refine w_ci rfl ?_
    refine w_ri rfl ?_
    exact ⟨by first | rfl | (simp_all; done) | (simp_all; rfl) | (simp_all [up2_s]; done) | (simp_all [up2_s]; decide) | decide, _, _, rfl, by repeat (first | exact Mod0 | refine Mod.up ?_ (Nat.le_of_ble_eq_true rfl) | refine Mod.upl ?_ (Nat.le_of_ble_eq_true rfl))⟩

set_option maxRecDepth 100000 in
set_option maxHeartbeats 2000000 in
theorem d_act_2 {a x : Int32} (s : Nat → Nat → Int32) (t : Nat → Nat → Int64) : Wm 206 [.ref 51, .int 2, .int a, .int x] (mk (mS s) (mT t)) (Pm (.int 0)) := by
  refine Wm.of pT_206 (Nat.le_of_ble_eq_true rfl) (L0 := [some (.ref 51), some (.int 2), some (.int a), some (.int x), none, none]) rfl ?_
  refine w_la rfl rfl ?_
  refine w_ci rfl ?_
  refine w_pf rfl rfl (mg_51 _ _) (Nat.le_of_ble_eq_true rfl) (ms_51_28 _ _ _) ?_
  refine w_li rfl rfl ?_
  refine w_st1r pl_sub_c rfl (Nat.le_of_ble_eq_true rfl) (m_isShelf) ?_
  refine w_if_eq rfl (fun c9_0 => absurd c9_0 ((show ¬ b2 (wi 2 0 3) = 0 from by decide))) (fun c9_0 => ?_)
  refine w_la rfl rfl ?_
  refine w_li rfl rfl ?_
  refine w_vi1 pl_sub_c rfl (mg_51 _ _) (Nat.le_of_ble_eq_true rfl) (u_kindOnA_2) (fun r2 h2 q => (congrArg List.length q.2).trans rfl) (fun r2 h2 q => ?_)
  rw [q.1, q.2]
  refine w_go rfl ?_
  refine w_si rfl (Nat.le_of_ble_eq_true rfl) rfl ?_
  refine w_li rfl rfl ?_
  refine w_ci rfl ?_
  refine w_ci rfl ?_
  refine w_st3r pl_sub_c rfl (Nat.le_of_ble_eq_true rfl) (m_in) ?_
  refine w_if_eq rfl (fun c29_0 => ?_) (fun c29_0 => ?_)
  · skip
    replace c29_0 := b2_0 c29_0
    refine w_ci rfl ?_
    refine w_ri rfl ?_
    exact ⟨by first | rfl | (simp_all; done) | (simp_all; rfl) | decide, _, _, rfl⟩
  · skip
    replace c29_0 := b2_n c29_0
    refine w_li rfl rfl ?_
    refine w_ci rfl ?_
    refine w_ci rfl ?_
    refine w_st3r pl_sub_c rfl (Nat.le_of_ble_eq_true rfl) (m_in) ?_
    refine w_if_ne rfl (fun c39_1 => absurd c39_1 (fun z => z (show b2 (wi (-1) 0 5) = 0 from by decide))) (fun c39_1 => ?_)
    refine w_ci rfl ?_
    refine w_ri rfl ?_
    exact ⟨by first | rfl | (simp_all; done) | (simp_all; rfl) | decide, _, _, rfl⟩

theorem b_act_2 {a x : Int32} : Bth 90 206 [.int 2, .int a, .int x] := Bth.of (c_act_2 ) (fun s t => d_act_2  s t)
set_option maxRecDepth 100000 in
set_option maxHeartbeats 2000000 in
theorem c_act_3 {a x : Int32}  : Wm 90 [.ref 0, .int 3, .int a, .int x] (mk s0 t0) (Pc (.int 0)) := by
  refine Wm.of pT_90 (Nat.le_of_ble_eq_true rfl) (L0 := [some (.ref 0), some (.int 3), some (.int a), some (.int x), none, none, none]) rfl ?_
  refine w_la rfl rfl ?_
  refine w_gf rfl (mg_0 _ _) rfl ?_
  refine w_vi0 pl_sub_c rfl (mg_33 _ _) (Nat.le_of_ble_eq_true rfl) (u_forget) (fun r2 h2 q => (congrArg List.length q.2).trans rfl) (fun r2 h2 q => ?_)
  rw [q.1, q.2]
  refine w_li rfl rfl ?_
  refine w_st1r pl_sub_c rfl (Nat.le_of_ble_eq_true rfl) (r_isPlace) ?_
  refine w_if_eq rfl (fun c11_0 => absurd c11_0 ((show ¬ b2 (wi 3 0 3) = 0 from by decide))) (fun c11_0 => ?_)
  refine w_li rfl rfl ?_
  refine w_ci rfl ?_
  refine w_ci rfl ?_
  refine w_st3r pl_sub_c rfl (Nat.le_of_ble_eq_true rfl) (r_isWithin) ?_
  refine w_if_ne rfl (fun c20_0 => ?_) (fun c20_0 => ?_)
  · skip
    replace c20_0 := b2_n c20_0
    refine w_la rfl rfl ?_
    refine w_gf rfl (mg_0 _ _) rfl ?_
    refine w_li rfl rfl ?_
    refine w_aa rfl (mg_36 _ _) (show ¬ (3 : Int32) < 0 from by decide) (q := 48) rfl ?_
    refine w_sa rfl (Nat.le_of_ble_eq_true rfl) rfl ?_
    refine w_la rfl rfl ?_
    refine w_gf rfl (mg_48 _ _) rfl ?_
    refine w_if_ne rfl (fun c38_1 => ?_) (fun c38_1 => absurd (show ¬ (2 : Int32) = 0 from by decide) c38_1)
    refine w_ci rfl ?_
    refine w_ri rfl ?_
    exact ⟨by first | rfl | (simp_all; done) | (simp_all; rfl) | (simp_all [up2_s]; done) | (simp_all [up2_s]; decide) | decide, _, _, rfl, by repeat (first | exact Mod0 | refine Mod.up ?_ (Nat.le_of_ble_eq_true rfl) | refine Mod.upl ?_ (Nat.le_of_ble_eq_true rfl))⟩
  · skip
    replace c20_0 := b2_0 (Decidable.of_not_not c20_0)
    refine w_ci rfl ?_
    refine w_ri rfl ?_
    exact ⟨by first | rfl | (simp_all; done) | (simp_all; rfl) | (simp_all [up2_s]; done) | (simp_all [up2_s]; decide) | decide, _, _, rfl, by repeat (first | exact Mod0 | refine Mod.up ?_ (Nat.le_of_ble_eq_true rfl) | refine Mod.upl ?_ (Nat.le_of_ble_eq_true rfl))⟩

set_option maxRecDepth 100000 in
set_option maxHeartbeats 2000000 in
theorem d_act_3 {a x : Int32} (s : Nat → Nat → Int32) (t : Nat → Nat → Int64) : Wm 206 [.ref 51, .int 3, .int a, .int x] (mk (mS s) (mT t)) (Pm (.int 0)) := by
  refine Wm.of pT_206 (Nat.le_of_ble_eq_true rfl) (L0 := [some (.ref 51), some (.int 3), some (.int a), some (.int x), none, none]) rfl ?_
  refine w_la rfl rfl ?_
  refine w_ci rfl ?_
  refine w_pf rfl rfl (mg_51 _ _) (Nat.le_of_ble_eq_true rfl) (ms_51_28 _ _ _) ?_
  refine w_li rfl rfl ?_
  refine w_st1r pl_sub_c rfl (Nat.le_of_ble_eq_true rfl) (m_isShelf) ?_
  refine w_if_eq rfl (fun c9_0 => absurd c9_0 ((show ¬ b2 (wi 3 0 3) = 0 from by decide))) (fun c9_0 => ?_)
  refine w_la rfl rfl ?_
  refine w_li rfl rfl ?_
  refine w_vi1 pl_sub_c rfl (mg_51 _ _) (Nat.le_of_ble_eq_true rfl) (u_kindOnA_3) (fun r2 h2 q => (congrArg List.length q.2).trans rfl) (fun r2 h2 q => ?_)
  rw [q.1, q.2]
  refine w_go rfl ?_
  refine w_si rfl (Nat.le_of_ble_eq_true rfl) rfl ?_
  refine w_li rfl rfl ?_
  refine w_ci rfl ?_
  refine w_ci rfl ?_
  refine w_st3r pl_sub_c rfl (Nat.le_of_ble_eq_true rfl) (m_in) ?_
  refine w_if_eq rfl (fun c29_0 => ?_) (fun c29_0 => ?_)
  · skip
    replace c29_0 := b2_0 c29_0
    refine w_ci rfl ?_
    refine w_ri rfl ?_
    exact ⟨by first | rfl | (simp_all; done) | (simp_all; rfl) | decide, _, _, rfl⟩
  · skip
    replace c29_0 := b2_n c29_0
    refine w_li rfl rfl ?_
    refine w_ci rfl ?_
    refine w_ci rfl ?_
    refine w_st3r pl_sub_c rfl (Nat.le_of_ble_eq_true rfl) (m_in) ?_
    refine w_if_ne rfl (fun c39_1 => absurd c39_1 (fun z => z (show b2 (wi (-1) 0 5) = 0 from by decide))) (fun c39_1 => ?_)
    refine w_ci rfl ?_
    refine w_ri rfl ?_
    exact ⟨by first | rfl | (simp_all; done) | (simp_all; rfl) | decide, _, _, rfl⟩

theorem b_act_3 {a x : Int32} : Bth 90 206 [.int 3, .int a, .int x] := Bth.of (c_act_3 ) (fun s t => d_act_3  s t)
set_option maxRecDepth 100000 in
set_option maxHeartbeats 2000000 in
theorem c_act_out {z a x : Int32} (hx : wi z 0 3 = false) : Wm 90 [.ref 0, .int z, .int a, .int x] (mk s0 t0) (Pc (.int 0)) := by
  refine Wm.of pT_90 (Nat.le_of_ble_eq_true rfl) (L0 := [some (.ref 0), some (.int z), some (.int a), some (.int x), none, none, none]) rfl ?_
  refine w_la rfl rfl ?_
  refine w_gf rfl (mg_0 _ _) rfl ?_
  refine w_vi0 pl_sub_c rfl (mg_33 _ _) (Nat.le_of_ble_eq_true rfl) (u_forget) (fun r2 h2 q => (congrArg List.length q.2).trans rfl) (fun r2 h2 q => ?_)
  rw [q.1, q.2]
  refine w_li rfl rfl ?_
  refine w_st1r pl_sub_c rfl (Nat.le_of_ble_eq_true rfl) (r_isPlace) ?_
  refine w_if_eq rfl (fun c11_0 => ?_) (fun c11_0 => ?_)
  · skip
    replace c11_0 := b2_0 c11_0
    refine w_ci rfl ?_
    refine w_ri rfl ?_
    exact ⟨by first | rfl | (simp_all; done) | (simp_all; rfl) | (simp_all [up2_s]; done) | (simp_all [up2_s]; decide) | decide, _, _, rfl, by repeat (first | exact Mod0 | refine Mod.up ?_ (Nat.le_of_ble_eq_true rfl) | refine Mod.upl ?_ (Nat.le_of_ble_eq_true rfl))⟩
  · skip
    replace c11_0 := b2_n c11_0
    exact absurd (hx.symm.trans c11_0) (by decide)

set_option maxRecDepth 100000 in
set_option maxHeartbeats 2000000 in
theorem d_act_out {z a x : Int32} (hx : wi z 0 3 = false) (s : Nat → Nat → Int32) (t : Nat → Nat → Int64) : Wm 206 [.ref 51, .int z, .int a, .int x] (mk (mS s) (mT t)) (Pm (.int 0)) := by
  refine Wm.of pT_206 (Nat.le_of_ble_eq_true rfl) (L0 := [some (.ref 51), some (.int z), some (.int a), some (.int x), none, none]) rfl ?_
  refine w_la rfl rfl ?_
  refine w_ci rfl ?_
  refine w_pf rfl rfl (mg_51 _ _) (Nat.le_of_ble_eq_true rfl) (ms_51_28 _ _ _) ?_
  refine w_li rfl rfl ?_
  refine w_st1r pl_sub_c rfl (Nat.le_of_ble_eq_true rfl) (m_isShelf) ?_
  refine w_if_eq rfl (fun c9_0 => ?_) (fun c9_0 => ?_)
  · skip
    replace c9_0 := b2_0 c9_0
    refine w_ci rfl ?_
    refine w_si rfl (Nat.le_of_ble_eq_true rfl) rfl ?_
    refine w_li rfl rfl ?_
    refine w_ci rfl ?_
    refine w_ci rfl ?_
    refine w_st3r pl_sub_c rfl (Nat.le_of_ble_eq_true rfl) (m_in) ?_
    refine w_if_eq rfl (fun c29_1 => ?_) (fun c29_1 => ?_)
    · skip
      replace c29_1 := b2_0 c29_1
      refine w_ci rfl ?_
      refine w_ri rfl ?_
      exact ⟨by first | rfl | (simp_all; done) | (simp_all; rfl) | decide, _, _, rfl⟩
    · skip
      replace c29_1 := b2_n c29_1
      refine w_li rfl rfl ?_
      refine w_ci rfl ?_
      refine w_ci rfl ?_
      refine w_st3r pl_sub_c rfl (Nat.le_of_ble_eq_true rfl) (m_in) ?_
      refine w_if_ne rfl (fun c39_2 => absurd c39_2 (fun z => z (show b2 (wi (-1) 0 5) = 0 from by decide))) (fun c39_2 => ?_)
      refine w_ci rfl ?_
      refine w_ri rfl ?_
      exact ⟨by first | rfl | (simp_all; done) | (simp_all; rfl) | decide, _, _, rfl⟩
  · skip
    replace c9_0 := b2_n c9_0
    exact absurd (hx.symm.trans c9_0) (by decide)

theorem b_act_out {z a x : Int32} (hx : wi z 0 3 = false) : Bth 90 206 [.int z, .int a, .int x] := Bth.of (c_act_out hx) (fun s t => d_act_out hx s t)
theorem B_act (z a x : Int32) : Bth 90 206 [.int z, .int a, .int x] := by
  rcases tf (wi z 0 3) with h | h
  · rcases en3 h with rfl | rfl | rfl | rfl
    · exact b_act_0
    · exact b_act_1
    · exact b_act_2
    · exact b_act_3
  · exact b_act_out h
