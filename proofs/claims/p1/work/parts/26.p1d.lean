/-! p1: closed runs, and the rest of the short ones -/
theorem B_keep : Bth 93 210 [] := Bth.of_chk (n := 3000) (by decide +kernel)
theorem B_again : Bth 94 211 [] := Bth.of_chk (n := 3000) (by decide +kernel)
theorem B_idle : Bth 70 165 [] := Bth.of_chk (n := 3000) (by decide +kernel)
theorem B_week : Bth 65 159 [] := Bth.of_chk (n := 3000) (by decide +kernel)
theorem B_post : Bth 53 132 [] := Bth.of_chk (n := 3000) (by decide +kernel)
set_option maxRecDepth 100000 in
set_option maxHeartbeats 2000000 in
theorem u_isHeld {s : Nat → Nat → Int32} {t : Nat → Nat → Int64} {w n : Int32} : Wm 191 [.ref 51, .int w, .int n] (mk (mS s) (mT t)) (fun r h => r = some (.int (b2 ((decide (w = 1) && wi n 0 3) || decide (w = 2)))) ∧ h = mk (mS s) (mT t)) := by
  have hz : wi n 0 (mS s 52 6 - 1) = false := by rw [show mS s 52 6 - 1 = -1 from (by show s0 52 6 - 1 = -1; decide), wi_m1]
  refine Wm.of pT_191 (Nat.le_of_ble_eq_true rfl) (L0 := [some (.ref 51), some (.int w), some (.int n)]) rfl ?_
  refine w_li rfl rfl ?_
  refine w_if_ne rfl (fun c1_0 => ?_) (fun c1_0 => ?_)
  · skip
    refine w_li rfl rfl ?_
    refine w_ci rfl ?_
    refine w_ic_ne rfl (fun c14_1 => ?_) (fun c14_1 => ?_)
    · skip
      refine w_li rfl rfl ?_
      refine w_ci rfl ?_
      refine w_ic_ne rfl (fun c26_2 => ?_) (fun c26_2 => ?_)
      · skip
        refine w_ci rfl ?_
        refine w_rz rfl (by decide) ?_
        exact ⟨by first | rfl | (simp_all [b2]; done), rfl⟩
      · skip
        refine w_ci rfl ?_
        refine w_go rfl ?_
        refine w_rz rfl (by decide) ?_
        exact ⟨by first | rfl | (simp_all [b2]; done), rfl⟩
    · skip
      refine w_li rfl rfl ?_
      refine w_st1r pl_sub_c rfl (Nat.le_of_ble_eq_true rfl) (m_isShelf) ?_
      refine w_go rfl ?_
      refine w_rz rfl (b2_ok _) ?_
      exact ⟨by first | rfl | (simp_all [b2]; done), rfl⟩
  · skip
    refine w_la rfl rfl ?_
    refine w_li rfl rfl ?_
    refine w_vi1r pl_sub_c rfl (mg_51 _ _) (Nat.le_of_ble_eq_true rfl) (m_isOne) ?_
    refine w_go rfl ?_
    refine w_rz rfl (b2_ok _) ?_
    exact ⟨by first | rfl | (simp_all [b2]; done), rfl⟩

set_option maxRecDepth 100000 in
set_option maxHeartbeats 2000000 in
theorem c_shelf_0 {w n : Int32} (hn : ¬ (w = 1 ∧ wi n 0 3 = true)) : Wm 88 [.ref 0, .int 0, .int w, .int n] (mk s0 t0) (Pc (.int (if w = 2 then 1 else -1))) := by
  refine Wm.of pT_88 (Nat.le_of_ble_eq_true rfl) (L0 := [some (.ref 0), some (.int 0), some (.int w), some (.int n)]) rfl ?_
  refine w_li rfl rfl ?_
  refine w_st1r pl_sub_c rfl (Nat.le_of_ble_eq_true rfl) (r_isPlace) ?_
  refine w_if_ne rfl (fun c4_0 => ?_) (fun c4_0 => absurd ((show ¬ b2 (wi 0 0 3) = 0 from by decide)) c4_0)
  refine w_li rfl rfl ?_
  refine w_if_ne rfl (fun c10_0 => ?_) (fun c10_0 => ?_)
  · skip
    refine w_li rfl rfl ?_
    refine w_ci rfl ?_
    refine w_ic_ne rfl (fun c38_1 => ?_) (fun c38_1 => ?_)
    · skip
      refine w_li rfl rfl ?_
      refine w_ci rfl ?_
      refine w_ic_ne rfl (fun c67_2 => ?_) (fun c67_2 => ?_)
      · skip
        refine w_ci rfl ?_
        refine w_ri rfl ?_
        exact ⟨by first | rfl | (simp_all; done) | (exfalso; simp_all; done), _, _, rfl, by repeat (first | exact Mod0 | refine Mod.up ?_ (Nat.le_of_ble_eq_true rfl))⟩
      · skip
        refine w_la rfl rfl ?_
        refine w_gf rfl (mg_0 _ _) rfl ?_
        refine w_li rfl rfl ?_
        refine w_aa rfl (mg_36 _ _) (show ¬ (0 : Int32) < 0 from by decide) (q := 39) rfl ?_
        refine w_ci rfl ?_
        refine w_pf rfl rfl (mg_39 _ _) (Nat.le_of_ble_eq_true rfl) (ms_39_0 _ _ _) ?_
        refine w_ci rfl ?_
        refine w_ri rfl ?_
        exact ⟨by first | rfl | (simp_all; done) | (exfalso; simp_all; done), _, _, rfl, by repeat (first | exact Mod0 | refine Mod.up ?_ (Nat.le_of_ble_eq_true rfl))⟩
    · skip
      refine w_li rfl rfl ?_
      refine w_st1r pl_sub_c rfl (Nat.le_of_ble_eq_true rfl) (r_isPlace) ?_
      refine w_if_eq rfl (fun c45_2 => ?_) (fun c45_2 => ?_)
      · skip
        replace c45_2 := b2_0 c45_2
        refine w_li rfl rfl ?_
        refine w_ci rfl ?_
        refine w_ic_ne rfl (fun c67_3 => ?_) (fun c67_3 => ?_)
        · skip
          refine w_ci rfl ?_
          refine w_ri rfl ?_
          exact ⟨by first | rfl | (simp_all; done) | (exfalso; simp_all; done), _, _, rfl, by repeat (first | exact Mod0 | refine Mod.up ?_ (Nat.le_of_ble_eq_true rfl))⟩
        · skip
          refine w_la rfl rfl ?_
          refine w_gf rfl (mg_0 _ _) rfl ?_
          refine w_li rfl rfl ?_
          refine w_aa rfl (mg_36 _ _) (show ¬ (0 : Int32) < 0 from by decide) (q := 39) rfl ?_
          refine w_ci rfl ?_
          refine w_pf rfl rfl (mg_39 _ _) (Nat.le_of_ble_eq_true rfl) (ms_39_0 _ _ _) ?_
          refine w_ci rfl ?_
          refine w_ri rfl ?_
          exact ⟨by first | rfl | (simp_all; done) | (exfalso; simp_all; done), _, _, rfl, by repeat (first | exact Mod0 | refine Mod.up ?_ (Nat.le_of_ble_eq_true rfl))⟩
      · skip
        replace c45_2 := b2_n c45_2
        exfalso; simp_all
  · skip
    refine w_la rfl rfl ?_
    refine w_gf rfl (mg_0 _ _) rfl ?_
    refine w_li rfl rfl ?_
    refine w_vi1r pl_sub_c rfl (mg_1 _ _) (Nat.le_of_ble_eq_true rfl) (r_has_1) ?_
    refine w_if_eq rfl (fun c21_1 => ?_) (fun c21_1 => absurd ((show b2 (wi n 0 (-1)) = 0 from by rw [wi_m1]; rfl)) c21_1)
    refine w_li rfl rfl ?_
    refine w_ci rfl ?_
    refine w_ic_ne rfl (fun c38_1 => ?_) (fun c38_1 => ?_)
    · skip
      refine w_li rfl rfl ?_
      refine w_ci rfl ?_
      refine w_ic_ne rfl (fun c67_2 => ?_) (fun c67_2 => ?_)
      · skip
        refine w_ci rfl ?_
        refine w_ri rfl ?_
        exact ⟨by first | rfl | (simp_all; done) | (exfalso; simp_all; done), _, _, rfl, by repeat (first | exact Mod0 | refine Mod.up ?_ (Nat.le_of_ble_eq_true rfl))⟩
      · skip
        refine w_la rfl rfl ?_
        refine w_gf rfl (mg_0 _ _) rfl ?_
        refine w_li rfl rfl ?_
        refine w_aa rfl (mg_36 _ _) (show ¬ (0 : Int32) < 0 from by decide) (q := 39) rfl ?_
        refine w_ci rfl ?_
        refine w_pf rfl rfl (mg_39 _ _) (Nat.le_of_ble_eq_true rfl) (ms_39_0 _ _ _) ?_
        refine w_ci rfl ?_
        refine w_ri rfl ?_
        exact ⟨by first | rfl | (simp_all; done) | (exfalso; simp_all; done), _, _, rfl, by repeat (first | exact Mod0 | refine Mod.up ?_ (Nat.le_of_ble_eq_true rfl))⟩
    · skip
      refine w_li rfl rfl ?_
      refine w_st1r pl_sub_c rfl (Nat.le_of_ble_eq_true rfl) (r_isPlace) ?_
      refine w_if_eq rfl (fun c45_2 => ?_) (fun c45_2 => ?_)
      · skip
        replace c45_2 := b2_0 c45_2
        refine w_li rfl rfl ?_
        refine w_ci rfl ?_
        refine w_ic_ne rfl (fun c67_3 => ?_) (fun c67_3 => ?_)
        · skip
          refine w_ci rfl ?_
          refine w_ri rfl ?_
          exact ⟨by first | rfl | (simp_all; done) | (exfalso; simp_all; done), _, _, rfl, by repeat (first | exact Mod0 | refine Mod.up ?_ (Nat.le_of_ble_eq_true rfl))⟩
        · skip
          refine w_la rfl rfl ?_
          refine w_gf rfl (mg_0 _ _) rfl ?_
          refine w_li rfl rfl ?_
          refine w_aa rfl (mg_36 _ _) (show ¬ (0 : Int32) < 0 from by decide) (q := 39) rfl ?_
          refine w_ci rfl ?_
          refine w_pf rfl rfl (mg_39 _ _) (Nat.le_of_ble_eq_true rfl) (ms_39_0 _ _ _) ?_
          refine w_ci rfl ?_
          refine w_ri rfl ?_
          exact ⟨by first | rfl | (simp_all; done) | (exfalso; simp_all; done), _, _, rfl, by repeat (first | exact Mod0 | refine Mod.up ?_ (Nat.le_of_ble_eq_true rfl))⟩
      · skip
        replace c45_2 := b2_n c45_2
        exfalso; simp_all

set_option maxRecDepth 100000 in
set_option maxHeartbeats 2000000 in
theorem d_shelf_0 {w n : Int32} (hn : ¬ (w = 1 ∧ wi n 0 3 = true)) (s : Nat → Nat → Int32) (t : Nat → Nat → Int64) : Wm 192 [.ref 51, .int 0, .int w, .int n] (mk (mS s) (mT t)) (Pm (.int (if w = 2 then 1 else -1))) := by
  refine Wm.of pT_192 (Nat.le_of_ble_eq_true rfl) (L0 := [some (.ref 51), some (.int 0), some (.int w), some (.int n)]) rfl ?_
  refine w_li rfl rfl ?_
  refine w_st1r pl_sub_c rfl (Nat.le_of_ble_eq_true rfl) (m_isShelf) ?_
  refine w_if_eq rfl (fun c4_0 => absurd c4_0 ((show ¬ b2 (wi 0 0 3) = 0 from by decide))) (fun c4_0 => ?_)
  refine w_la rfl rfl ?_
  refine w_li rfl rfl ?_
  refine w_li rfl rfl ?_
  refine w_vi2 pl_sub_c rfl (mg_51 _ _) (Nat.le_of_ble_eq_true rfl) (u_isHeld) (fun r2 h2 q => (congrArg List.length q.2).trans rfl) (fun r2 h2 q => ?_)
  rw [q.1, q.2]
  refine w_if_ne rfl (fun c13_0 => ?_) (fun c13_0 => ?_)
  · skip
    replace c13_0 := b2_n c13_0
    refine w_la rfl rfl ?_
    refine w_gf rfl (mg_51 _ _) rfl ?_
    refine w_li rfl rfl ?_
    refine w_li rfl rfl ?_
    refine w_ci rfl ?_
    refine w_ic_eq rfl (fun c25_1 => ?_) (fun c25_1 => ?_)
    · skip
      refine w_ci rfl ?_
      refine w_go rfl ?_
      refine w_is rfl (mg_63 _ _) (show ¬ (0 : Int32) < 0 from by decide) (by rw [ar_len]; exact (show (0 : Int32).toNatClampNeg < 4 from by decide)) (ms_63 _ _ _ _) ?_
      refine w_la rfl rfl ?_
      refine w_gf rfl (mg_51 _ _) rfl ?_
      refine w_li rfl rfl ?_
      refine w_li rfl rfl ?_
      refine w_ci rfl ?_
      refine w_ic_ne rfl (fun c55_2 => ?_) (fun c55_2 => ?_)
      · skip
        refine w_li rfl rfl ?_
        refine w_is rfl (mg_64 _ _) (show ¬ (0 : Int32) < 0 from by decide) (by rw [ar_len]; exact (show (0 : Int32).toNatClampNeg < 4 from by decide)) (ms_64 _ _ _ _) ?_
        refine w_la rfl rfl ?_
        refine w_gf rfl (mg_51 _ _) rfl ?_
        refine w_li rfl rfl ?_
        refine w_li rfl rfl ?_
        refine w_ci rfl ?_
        refine w_ic_ne rfl (fun c76_3 => ?_) (fun c76_3 => ?_)
        · skip
          refine w_ci rfl ?_
          refine w_is rfl (mg_65 _ _) (show ¬ (0 : Int32) < 0 from by decide) (by rw [ar_len]; exact (show (0 : Int32).toNatClampNeg < 4 from by decide)) (ms_65 _ _ _ _) ?_
          refine w_ci rfl ?_
          refine w_ri rfl ?_
          exact ⟨by first | rfl | (simp_all; done) | (exfalso; simp_all; done), _, _, rfl⟩
        · skip
          exfalso; simp_all
      · skip
        exfalso; simp_all
    · skip
      refine w_li rfl rfl ?_
      refine w_ci rfl ?_
      refine w_ic_ne rfl (fun c30_2 => ?_) (fun c30_2 => ?_)
      · skip
        refine w_li rfl rfl ?_
        refine w_is rfl (mg_63 _ _) (show ¬ (0 : Int32) < 0 from by decide) (by rw [ar_len]; exact (show (0 : Int32).toNatClampNeg < 4 from by decide)) (ms_63 _ _ _ _) ?_
        refine w_la rfl rfl ?_
        refine w_gf rfl (mg_51 _ _) rfl ?_
        refine w_li rfl rfl ?_
        refine w_li rfl rfl ?_
        refine w_ci rfl ?_
        refine w_ic_ne rfl (fun c55_3 => ?_) (fun c55_3 => ?_)
        · skip
          refine w_li rfl rfl ?_
          refine w_is rfl (mg_64 _ _) (show ¬ (0 : Int32) < 0 from by decide) (by rw [ar_len]; exact (show (0 : Int32).toNatClampNeg < 4 from by decide)) (ms_64 _ _ _ _) ?_
          refine w_la rfl rfl ?_
          refine w_gf rfl (mg_51 _ _) rfl ?_
          refine w_li rfl rfl ?_
          refine w_li rfl rfl ?_
          refine w_ci rfl ?_
          refine w_ic_ne rfl (fun c76_4 => ?_) (fun c76_4 => ?_)
          · skip
            refine w_ci rfl ?_
            refine w_is rfl (mg_65 _ _) (show ¬ (0 : Int32) < 0 from by decide) (by rw [ar_len]; exact (show (0 : Int32).toNatClampNeg < 4 from by decide)) (ms_65 _ _ _ _) ?_
            refine w_ci rfl ?_
            refine w_ri rfl ?_
            exact ⟨by first | rfl | (simp_all; done) | (exfalso; simp_all; done), _, _, rfl⟩
          · skip
            exfalso; simp_all
        · skip
          exfalso; simp_all
      · skip
        exfalso; simp_all
  · skip
    replace c13_0 := b2_0 (Decidable.of_not_not c13_0)
    refine w_ci rfl ?_
    refine w_ri rfl ?_
    exact ⟨by first | rfl | (simp_all; done) | (exfalso; simp_all; done), _, _, rfl⟩

theorem b_shelf_0 {w n : Int32} (hn : ¬ (w = 1 ∧ wi n 0 3 = true)) : Bth 88 192 [.int 0, .int w, .int n] := Bth.of (c_shelf_0 hn) (fun s t => d_shelf_0 hn s t)
set_option maxRecDepth 100000 in
set_option maxHeartbeats 2000000 in
theorem c_shelf_1 {w n : Int32} (hn : ¬ (w = 1 ∧ wi n 0 3 = true)) : Wm 88 [.ref 0, .int 1, .int w, .int n] (mk s0 t0) (Pc (.int (if w = 2 then 1 else -1))) := by
  refine Wm.of pT_88 (Nat.le_of_ble_eq_true rfl) (L0 := [some (.ref 0), some (.int 1), some (.int w), some (.int n)]) rfl ?_
  refine w_li rfl rfl ?_
  refine w_st1r pl_sub_c rfl (Nat.le_of_ble_eq_true rfl) (r_isPlace) ?_
  refine w_if_ne rfl (fun c4_0 => ?_) (fun c4_0 => absurd ((show ¬ b2 (wi 1 0 3) = 0 from by decide)) c4_0)
  refine w_li rfl rfl ?_
  refine w_if_ne rfl (fun c10_0 => ?_) (fun c10_0 => ?_)
  · skip
    refine w_li rfl rfl ?_
    refine w_ci rfl ?_
    refine w_ic_ne rfl (fun c38_1 => ?_) (fun c38_1 => ?_)
    · skip
      refine w_li rfl rfl ?_
      refine w_ci rfl ?_
      refine w_ic_ne rfl (fun c67_2 => ?_) (fun c67_2 => ?_)
      · skip
        refine w_ci rfl ?_
        refine w_ri rfl ?_
        exact ⟨by first | rfl | (simp_all; done) | (exfalso; simp_all; done), _, _, rfl, by repeat (first | exact Mod0 | refine Mod.up ?_ (Nat.le_of_ble_eq_true rfl))⟩
      · skip
        refine w_la rfl rfl ?_
        refine w_gf rfl (mg_0 _ _) rfl ?_
        refine w_li rfl rfl ?_
        refine w_aa rfl (mg_36 _ _) (show ¬ (1 : Int32) < 0 from by decide) (q := 42) rfl ?_
        refine w_ci rfl ?_
        refine w_pf rfl rfl (mg_42 _ _) (Nat.le_of_ble_eq_true rfl) (ms_42_0 _ _ _) ?_
        refine w_ci rfl ?_
        refine w_ri rfl ?_
        exact ⟨by first | rfl | (simp_all; done) | (exfalso; simp_all; done), _, _, rfl, by repeat (first | exact Mod0 | refine Mod.up ?_ (Nat.le_of_ble_eq_true rfl))⟩
    · skip
      refine w_li rfl rfl ?_
      refine w_st1r pl_sub_c rfl (Nat.le_of_ble_eq_true rfl) (r_isPlace) ?_
      refine w_if_eq rfl (fun c45_2 => ?_) (fun c45_2 => ?_)
      · skip
        replace c45_2 := b2_0 c45_2
        refine w_li rfl rfl ?_
        refine w_ci rfl ?_
        refine w_ic_ne rfl (fun c67_3 => ?_) (fun c67_3 => ?_)
        · skip
          refine w_ci rfl ?_
          refine w_ri rfl ?_
          exact ⟨by first | rfl | (simp_all; done) | (exfalso; simp_all; done), _, _, rfl, by repeat (first | exact Mod0 | refine Mod.up ?_ (Nat.le_of_ble_eq_true rfl))⟩
        · skip
          refine w_la rfl rfl ?_
          refine w_gf rfl (mg_0 _ _) rfl ?_
          refine w_li rfl rfl ?_
          refine w_aa rfl (mg_36 _ _) (show ¬ (1 : Int32) < 0 from by decide) (q := 42) rfl ?_
          refine w_ci rfl ?_
          refine w_pf rfl rfl (mg_42 _ _) (Nat.le_of_ble_eq_true rfl) (ms_42_0 _ _ _) ?_
          refine w_ci rfl ?_
          refine w_ri rfl ?_
          exact ⟨by first | rfl | (simp_all; done) | (exfalso; simp_all; done), _, _, rfl, by repeat (first | exact Mod0 | refine Mod.up ?_ (Nat.le_of_ble_eq_true rfl))⟩
      · skip
        replace c45_2 := b2_n c45_2
        exfalso; simp_all
  · skip
    refine w_la rfl rfl ?_
    refine w_gf rfl (mg_0 _ _) rfl ?_
    refine w_li rfl rfl ?_
    refine w_vi1r pl_sub_c rfl (mg_1 _ _) (Nat.le_of_ble_eq_true rfl) (r_has_1) ?_
    refine w_if_eq rfl (fun c21_1 => ?_) (fun c21_1 => absurd ((show b2 (wi n 0 (-1)) = 0 from by rw [wi_m1]; rfl)) c21_1)
    refine w_li rfl rfl ?_
    refine w_ci rfl ?_
    refine w_ic_ne rfl (fun c38_1 => ?_) (fun c38_1 => ?_)
    · skip
      refine w_li rfl rfl ?_
      refine w_ci rfl ?_
      refine w_ic_ne rfl (fun c67_2 => ?_) (fun c67_2 => ?_)
      · skip
        refine w_ci rfl ?_
        refine w_ri rfl ?_
        exact ⟨by first | rfl | (simp_all; done) | (exfalso; simp_all; done), _, _, rfl, by repeat (first | exact Mod0 | refine Mod.up ?_ (Nat.le_of_ble_eq_true rfl))⟩
      · skip
        refine w_la rfl rfl ?_
        refine w_gf rfl (mg_0 _ _) rfl ?_
        refine w_li rfl rfl ?_
        refine w_aa rfl (mg_36 _ _) (show ¬ (1 : Int32) < 0 from by decide) (q := 42) rfl ?_
        refine w_ci rfl ?_
        refine w_pf rfl rfl (mg_42 _ _) (Nat.le_of_ble_eq_true rfl) (ms_42_0 _ _ _) ?_
        refine w_ci rfl ?_
        refine w_ri rfl ?_
        exact ⟨by first | rfl | (simp_all; done) | (exfalso; simp_all; done), _, _, rfl, by repeat (first | exact Mod0 | refine Mod.up ?_ (Nat.le_of_ble_eq_true rfl))⟩
    · skip
      refine w_li rfl rfl ?_
      refine w_st1r pl_sub_c rfl (Nat.le_of_ble_eq_true rfl) (r_isPlace) ?_
      refine w_if_eq rfl (fun c45_2 => ?_) (fun c45_2 => ?_)
      · skip
        replace c45_2 := b2_0 c45_2
        refine w_li rfl rfl ?_
        refine w_ci rfl ?_
        refine w_ic_ne rfl (fun c67_3 => ?_) (fun c67_3 => ?_)
        · skip
          refine w_ci rfl ?_
          refine w_ri rfl ?_
          exact ⟨by first | rfl | (simp_all; done) | (exfalso; simp_all; done), _, _, rfl, by repeat (first | exact Mod0 | refine Mod.up ?_ (Nat.le_of_ble_eq_true rfl))⟩
        · skip
          refine w_la rfl rfl ?_
          refine w_gf rfl (mg_0 _ _) rfl ?_
          refine w_li rfl rfl ?_
          refine w_aa rfl (mg_36 _ _) (show ¬ (1 : Int32) < 0 from by decide) (q := 42) rfl ?_
          refine w_ci rfl ?_
          refine w_pf rfl rfl (mg_42 _ _) (Nat.le_of_ble_eq_true rfl) (ms_42_0 _ _ _) ?_
          refine w_ci rfl ?_
          refine w_ri rfl ?_
          exact ⟨by first | rfl | (simp_all; done) | (exfalso; simp_all; done), _, _, rfl, by repeat (first | exact Mod0 | refine Mod.up ?_ (Nat.le_of_ble_eq_true rfl))⟩
      · skip
        replace c45_2 := b2_n c45_2
        exfalso; simp_all

set_option maxRecDepth 100000 in
set_option maxHeartbeats 2000000 in
theorem d_shelf_1 {w n : Int32} (hn : ¬ (w = 1 ∧ wi n 0 3 = true)) (s : Nat → Nat → Int32) (t : Nat → Nat → Int64) : Wm 192 [.ref 51, .int 1, .int w, .int n] (mk (mS s) (mT t)) (Pm (.int (if w = 2 then 1 else -1))) := by
  refine Wm.of pT_192 (Nat.le_of_ble_eq_true rfl) (L0 := [some (.ref 51), some (.int 1), some (.int w), some (.int n)]) rfl ?_
  refine w_li rfl rfl ?_
  refine w_st1r pl_sub_c rfl (Nat.le_of_ble_eq_true rfl) (m_isShelf) ?_
  refine w_if_eq rfl (fun c4_0 => absurd c4_0 ((show ¬ b2 (wi 1 0 3) = 0 from by decide))) (fun c4_0 => ?_)
  refine w_la rfl rfl ?_
  refine w_li rfl rfl ?_
  refine w_li rfl rfl ?_
  refine w_vi2 pl_sub_c rfl (mg_51 _ _) (Nat.le_of_ble_eq_true rfl) (u_isHeld) (fun r2 h2 q => (congrArg List.length q.2).trans rfl) (fun r2 h2 q => ?_)
  rw [q.1, q.2]
  refine w_if_ne rfl (fun c13_0 => ?_) (fun c13_0 => ?_)
  · skip
    replace c13_0 := b2_n c13_0
    refine w_la rfl rfl ?_
    refine w_gf rfl (mg_51 _ _) rfl ?_
    refine w_li rfl rfl ?_
    refine w_li rfl rfl ?_
    refine w_ci rfl ?_
    refine w_ic_eq rfl (fun c25_1 => ?_) (fun c25_1 => ?_)
    · skip
      refine w_ci rfl ?_
      refine w_go rfl ?_
      refine w_is rfl (mg_63 _ _) (show ¬ (1 : Int32) < 0 from by decide) (by rw [ar_len]; exact (show (1 : Int32).toNatClampNeg < 4 from by decide)) (ms_63 _ _ _ _) ?_
      refine w_la rfl rfl ?_
      refine w_gf rfl (mg_51 _ _) rfl ?_
      refine w_li rfl rfl ?_
      refine w_li rfl rfl ?_
      refine w_ci rfl ?_
      refine w_ic_ne rfl (fun c55_2 => ?_) (fun c55_2 => ?_)
      · skip
        refine w_li rfl rfl ?_
        refine w_is rfl (mg_64 _ _) (show ¬ (1 : Int32) < 0 from by decide) (by rw [ar_len]; exact (show (1 : Int32).toNatClampNeg < 4 from by decide)) (ms_64 _ _ _ _) ?_
        refine w_la rfl rfl ?_
        refine w_gf rfl (mg_51 _ _) rfl ?_
        refine w_li rfl rfl ?_
        refine w_li rfl rfl ?_
        refine w_ci rfl ?_
        refine w_ic_ne rfl (fun c76_3 => ?_) (fun c76_3 => ?_)
        · skip
          refine w_ci rfl ?_
          refine w_is rfl (mg_65 _ _) (show ¬ (1 : Int32) < 0 from by decide) (by rw [ar_len]; exact (show (1 : Int32).toNatClampNeg < 4 from by decide)) (ms_65 _ _ _ _) ?_
          refine w_ci rfl ?_
          refine w_ri rfl ?_
          exact ⟨by first | rfl | (simp_all; done) | (exfalso; simp_all; done), _, _, rfl⟩
        · skip
          exfalso; simp_all
      · skip
        exfalso; simp_all
    · skip
      refine w_li rfl rfl ?_
      refine w_ci rfl ?_
      refine w_ic_ne rfl (fun c30_2 => ?_) (fun c30_2 => ?_)
      · skip
        refine w_li rfl rfl ?_
        refine w_is rfl (mg_63 _ _) (show ¬ (1 : Int32) < 0 from by decide) (by rw [ar_len]; exact (show (1 : Int32).toNatClampNeg < 4 from by decide)) (ms_63 _ _ _ _) ?_
        refine w_la rfl rfl ?_
        refine w_gf rfl (mg_51 _ _) rfl ?_
        refine w_li rfl rfl ?_
        refine w_li rfl rfl ?_
        refine w_ci rfl ?_
        refine w_ic_ne rfl (fun c55_3 => ?_) (fun c55_3 => ?_)
        · skip
          refine w_li rfl rfl ?_
          refine w_is rfl (mg_64 _ _) (show ¬ (1 : Int32) < 0 from by decide) (by rw [ar_len]; exact (show (1 : Int32).toNatClampNeg < 4 from by decide)) (ms_64 _ _ _ _) ?_
          refine w_la rfl rfl ?_
          refine w_gf rfl (mg_51 _ _) rfl ?_
          refine w_li rfl rfl ?_
          refine w_li rfl rfl ?_
          refine w_ci rfl ?_
          refine w_ic_ne rfl (fun c76_4 => ?_) (fun c76_4 => ?_)
          · skip
            refine w_ci rfl ?_
            refine w_is rfl (mg_65 _ _) (show ¬ (1 : Int32) < 0 from by decide) (by rw [ar_len]; exact (show (1 : Int32).toNatClampNeg < 4 from by decide)) (ms_65 _ _ _ _) ?_
            refine w_ci rfl ?_
            refine w_ri rfl ?_
            exact ⟨by first | rfl | (simp_all; done) | (exfalso; simp_all; done), _, _, rfl⟩
          · skip
            exfalso; simp_all
        · skip
          exfalso; simp_all
      · skip
        exfalso; simp_all
  · skip
    replace c13_0 := b2_0 (Decidable.of_not_not c13_0)
    refine w_ci rfl ?_
    refine w_ri rfl ?_
    exact ⟨by first | rfl | (simp_all; done) | (exfalso; simp_all; done), _, _, rfl⟩

theorem b_shelf_1 {w n : Int32} (hn : ¬ (w = 1 ∧ wi n 0 3 = true)) : Bth 88 192 [.int 1, .int w, .int n] := Bth.of (c_shelf_1 hn) (fun s t => d_shelf_1 hn s t)
set_option maxRecDepth 100000 in
set_option maxHeartbeats 2000000 in
theorem c_shelf_2 {w n : Int32} (hn : ¬ (w = 1 ∧ wi n 0 3 = true)) : Wm 88 [.ref 0, .int 2, .int w, .int n] (mk s0 t0) (Pc (.int (if w = 2 then 1 else -1))) := by
  refine Wm.of pT_88 (Nat.le_of_ble_eq_true rfl) (L0 := [some (.ref 0), some (.int 2), some (.int w), some (.int n)]) rfl ?_
  refine w_li rfl rfl ?_
  refine w_st1r pl_sub_c rfl (Nat.le_of_ble_eq_true rfl) (r_isPlace) ?_
  refine w_if_ne rfl (fun c4_0 => ?_) (fun c4_0 => absurd ((show ¬ b2 (wi 2 0 3) = 0 from by decide)) c4_0)
  refine w_li rfl rfl ?_
  refine w_if_ne rfl (fun c10_0 => ?_) (fun c10_0 => ?_)
  · skip
    refine w_li rfl rfl ?_
    refine w_ci rfl ?_
    refine w_ic_ne rfl (fun c38_1 => ?_) (fun c38_1 => ?_)
    · skip
      refine w_li rfl rfl ?_
      refine w_ci rfl ?_
      refine w_ic_ne rfl (fun c67_2 => ?_) (fun c67_2 => ?_)
      · skip
        refine w_ci rfl ?_
        refine w_ri rfl ?_
        exact ⟨by first | rfl | (simp_all; done) | (exfalso; simp_all; done), _, _, rfl, by repeat (first | exact Mod0 | refine Mod.up ?_ (Nat.le_of_ble_eq_true rfl))⟩
      · skip
        refine w_la rfl rfl ?_
        refine w_gf rfl (mg_0 _ _) rfl ?_
        refine w_li rfl rfl ?_
        refine w_aa rfl (mg_36 _ _) (show ¬ (2 : Int32) < 0 from by decide) (q := 45) rfl ?_
        refine w_ci rfl ?_
        refine w_pf rfl rfl (mg_45 _ _) (Nat.le_of_ble_eq_true rfl) (ms_45_0 _ _ _) ?_
        refine w_ci rfl ?_
        refine w_ri rfl ?_
        exact ⟨by first | rfl | (simp_all; done) | (exfalso; simp_all; done), _, _, rfl, by repeat (first | exact Mod0 | refine Mod.up ?_ (Nat.le_of_ble_eq_true rfl))⟩
    · skip
      refine w_li rfl rfl ?_
      refine w_st1r pl_sub_c rfl (Nat.le_of_ble_eq_true rfl) (r_isPlace) ?_
      refine w_if_eq rfl (fun c45_2 => ?_) (fun c45_2 => ?_)
      · skip
        replace c45_2 := b2_0 c45_2
        refine w_li rfl rfl ?_
        refine w_ci rfl ?_
        refine w_ic_ne rfl (fun c67_3 => ?_) (fun c67_3 => ?_)
        · skip
          refine w_ci rfl ?_
          refine w_ri rfl ?_
          exact ⟨by first | rfl | (simp_all; done) | (exfalso; simp_all; done), _, _, rfl, by repeat (first | exact Mod0 | refine Mod.up ?_ (Nat.le_of_ble_eq_true rfl))⟩
        · skip
          refine w_la rfl rfl ?_
          refine w_gf rfl (mg_0 _ _) rfl ?_
          refine w_li rfl rfl ?_
          refine w_aa rfl (mg_36 _ _) (show ¬ (2 : Int32) < 0 from by decide) (q := 45) rfl ?_
          refine w_ci rfl ?_
          refine w_pf rfl rfl (mg_45 _ _) (Nat.le_of_ble_eq_true rfl) (ms_45_0 _ _ _) ?_
          refine w_ci rfl ?_
          refine w_ri rfl ?_
          exact ⟨by first | rfl | (simp_all; done) | (exfalso; simp_all; done), _, _, rfl, by repeat (first | exact Mod0 | refine Mod.up ?_ (Nat.le_of_ble_eq_true rfl))⟩
      · skip
        replace c45_2 := b2_n c45_2
        exfalso; simp_all
  · skip
    refine w_la rfl rfl ?_
    refine w_gf rfl (mg_0 _ _) rfl ?_
    refine w_li rfl rfl ?_
    refine w_vi1r pl_sub_c rfl (mg_1 _ _) (Nat.le_of_ble_eq_true rfl) (r_has_1) ?_
    refine w_if_eq rfl (fun c21_1 => ?_) (fun c21_1 => absurd ((show b2 (wi n 0 (-1)) = 0 from by rw [wi_m1]; rfl)) c21_1)
    refine w_li rfl rfl ?_
    refine w_ci rfl ?_
    refine w_ic_ne rfl (fun c38_1 => ?_) (fun c38_1 => ?_)
    · skip
      refine w_li rfl rfl ?_
      refine w_ci rfl ?_
      refine w_ic_ne rfl (fun c67_2 => ?_) (fun c67_2 => ?_)
      · skip
        refine w_ci rfl ?_
        refine w_ri rfl ?_
        exact ⟨by first | rfl | (simp_all; done) | (exfalso; simp_all; done), _, _, rfl, by repeat (first | exact Mod0 | refine Mod.up ?_ (Nat.le_of_ble_eq_true rfl))⟩
      · skip
        refine w_la rfl rfl ?_
        refine w_gf rfl (mg_0 _ _) rfl ?_
        refine w_li rfl rfl ?_
        refine w_aa rfl (mg_36 _ _) (show ¬ (2 : Int32) < 0 from by decide) (q := 45) rfl ?_
        refine w_ci rfl ?_
        refine w_pf rfl rfl (mg_45 _ _) (Nat.le_of_ble_eq_true rfl) (ms_45_0 _ _ _) ?_
        refine w_ci rfl ?_
        refine w_ri rfl ?_
        exact ⟨by first | rfl | (simp_all; done) | (exfalso; simp_all; done), _, _, rfl, by repeat (first | exact Mod0 | refine Mod.up ?_ (Nat.le_of_ble_eq_true rfl))⟩
    · skip
      refine w_li rfl rfl ?_
      refine w_st1r pl_sub_c rfl (Nat.le_of_ble_eq_true rfl) (r_isPlace) ?_
      refine w_if_eq rfl (fun c45_2 => ?_) (fun c45_2 => ?_)
      · skip
        replace c45_2 := b2_0 c45_2
        refine w_li rfl rfl ?_
        refine w_ci rfl ?_
        refine w_ic_ne rfl (fun c67_3 => ?_) (fun c67_3 => ?_)
        · skip
          refine w_ci rfl ?_
          refine w_ri rfl ?_
          exact ⟨by first | rfl | (simp_all; done) | (exfalso; simp_all; done), _, _, rfl, by repeat (first | exact Mod0 | refine Mod.up ?_ (Nat.le_of_ble_eq_true rfl))⟩
        · skip
          refine w_la rfl rfl ?_
          refine w_gf rfl (mg_0 _ _) rfl ?_
          refine w_li rfl rfl ?_
          refine w_aa rfl (mg_36 _ _) (show ¬ (2 : Int32) < 0 from by decide) (q := 45) rfl ?_
          refine w_ci rfl ?_
          refine w_pf rfl rfl (mg_45 _ _) (Nat.le_of_ble_eq_true rfl) (ms_45_0 _ _ _) ?_
          refine w_ci rfl ?_
          refine w_ri rfl ?_
          exact ⟨by first | rfl | (simp_all; done) | (exfalso; simp_all; done), _, _, rfl, by repeat (first | exact Mod0 | refine Mod.up ?_ (Nat.le_of_ble_eq_true rfl))⟩
      · skip
        replace c45_2 := b2_n c45_2
        exfalso; simp_all

set_option maxRecDepth 100000 in
set_option maxHeartbeats 2000000 in
theorem d_shelf_2 {w n : Int32} (hn : ¬ (w = 1 ∧ wi n 0 3 = true)) (s : Nat → Nat → Int32) (t : Nat → Nat → Int64) : Wm 192 [.ref 51, .int 2, .int w, .int n] (mk (mS s) (mT t)) (Pm (.int (if w = 2 then 1 else -1))) := by
  refine Wm.of pT_192 (Nat.le_of_ble_eq_true rfl) (L0 := [some (.ref 51), some (.int 2), some (.int w), some (.int n)]) rfl ?_
  refine w_li rfl rfl ?_
  refine w_st1r pl_sub_c rfl (Nat.le_of_ble_eq_true rfl) (m_isShelf) ?_
  refine w_if_eq rfl (fun c4_0 => absurd c4_0 ((show ¬ b2 (wi 2 0 3) = 0 from by decide))) (fun c4_0 => ?_)
  refine w_la rfl rfl ?_
  refine w_li rfl rfl ?_
  refine w_li rfl rfl ?_
  refine w_vi2 pl_sub_c rfl (mg_51 _ _) (Nat.le_of_ble_eq_true rfl) (u_isHeld) (fun r2 h2 q => (congrArg List.length q.2).trans rfl) (fun r2 h2 q => ?_)
  rw [q.1, q.2]
  refine w_if_ne rfl (fun c13_0 => ?_) (fun c13_0 => ?_)
  · skip
    replace c13_0 := b2_n c13_0
    refine w_la rfl rfl ?_
    refine w_gf rfl (mg_51 _ _) rfl ?_
    refine w_li rfl rfl ?_
    refine w_li rfl rfl ?_
    refine w_ci rfl ?_
    refine w_ic_eq rfl (fun c25_1 => ?_) (fun c25_1 => ?_)
    · skip
      refine w_ci rfl ?_
      refine w_go rfl ?_
      refine w_is rfl (mg_63 _ _) (show ¬ (2 : Int32) < 0 from by decide) (by rw [ar_len]; exact (show (2 : Int32).toNatClampNeg < 4 from by decide)) (ms_63 _ _ _ _) ?_
      refine w_la rfl rfl ?_
      refine w_gf rfl (mg_51 _ _) rfl ?_
      refine w_li rfl rfl ?_
      refine w_li rfl rfl ?_
      refine w_ci rfl ?_
      refine w_ic_ne rfl (fun c55_2 => ?_) (fun c55_2 => ?_)
      · skip
        refine w_li rfl rfl ?_
        refine w_is rfl (mg_64 _ _) (show ¬ (2 : Int32) < 0 from by decide) (by rw [ar_len]; exact (show (2 : Int32).toNatClampNeg < 4 from by decide)) (ms_64 _ _ _ _) ?_
        refine w_la rfl rfl ?_
        refine w_gf rfl (mg_51 _ _) rfl ?_
        refine w_li rfl rfl ?_
        refine w_li rfl rfl ?_
        refine w_ci rfl ?_
        refine w_ic_ne rfl (fun c76_3 => ?_) (fun c76_3 => ?_)
        · skip
          refine w_ci rfl ?_
          refine w_is rfl (mg_65 _ _) (show ¬ (2 : Int32) < 0 from by decide) (by rw [ar_len]; exact (show (2 : Int32).toNatClampNeg < 4 from by decide)) (ms_65 _ _ _ _) ?_
          refine w_ci rfl ?_
          refine w_ri rfl ?_
          exact ⟨by first | rfl | (simp_all; done) | (exfalso; simp_all; done), _, _, rfl⟩
        · skip
          exfalso; simp_all
      · skip
        exfalso; simp_all
    · skip
      refine w_li rfl rfl ?_
      refine w_ci rfl ?_
      refine w_ic_ne rfl (fun c30_2 => ?_) (fun c30_2 => ?_)
      · skip
        refine w_li rfl rfl ?_
        refine w_is rfl (mg_63 _ _) (show ¬ (2 : Int32) < 0 from by decide) (by rw [ar_len]; exact (show (2 : Int32).toNatClampNeg < 4 from by decide)) (ms_63 _ _ _ _) ?_
        refine w_la rfl rfl ?_
        refine w_gf rfl (mg_51 _ _) rfl ?_
        refine w_li rfl rfl ?_
        refine w_li rfl rfl ?_
        refine w_ci rfl ?_
        refine w_ic_ne rfl (fun c55_3 => ?_) (fun c55_3 => ?_)
        · skip
          refine w_li rfl rfl ?_
          refine w_is rfl (mg_64 _ _) (show ¬ (2 : Int32) < 0 from by decide) (by rw [ar_len]; exact (show (2 : Int32).toNatClampNeg < 4 from by decide)) (ms_64 _ _ _ _) ?_
          refine w_la rfl rfl ?_
          refine w_gf rfl (mg_51 _ _) rfl ?_
          refine w_li rfl rfl ?_
          refine w_li rfl rfl ?_
          refine w_ci rfl ?_
          refine w_ic_ne rfl (fun c76_4 => ?_) (fun c76_4 => ?_)
          · skip
            refine w_ci rfl ?_
            refine w_is rfl (mg_65 _ _) (show ¬ (2 : Int32) < 0 from by decide) (by rw [ar_len]; exact (show (2 : Int32).toNatClampNeg < 4 from by decide)) (ms_65 _ _ _ _) ?_
            refine w_ci rfl ?_
            refine w_ri rfl ?_
            exact ⟨by first | rfl | (simp_all; done) | (exfalso; simp_all; done), _, _, rfl⟩
          · skip
            exfalso; simp_all
        · skip
          exfalso; simp_all
      · skip
        exfalso; simp_all
  · skip
    replace c13_0 := b2_0 (Decidable.of_not_not c13_0)
    refine w_ci rfl ?_
    refine w_ri rfl ?_
    exact ⟨by first | rfl | (simp_all; done) | (exfalso; simp_all; done), _, _, rfl⟩

theorem b_shelf_2 {w n : Int32} (hn : ¬ (w = 1 ∧ wi n 0 3 = true)) : Bth 88 192 [.int 2, .int w, .int n] := Bth.of (c_shelf_2 hn) (fun s t => d_shelf_2 hn s t)
set_option maxRecDepth 100000 in
set_option maxHeartbeats 2000000 in
theorem c_shelf_3 {w n : Int32} (hn : ¬ (w = 1 ∧ wi n 0 3 = true)) : Wm 88 [.ref 0, .int 3, .int w, .int n] (mk s0 t0) (Pc (.int (if w = 2 then 1 else -1))) := by
  refine Wm.of pT_88 (Nat.le_of_ble_eq_true rfl) (L0 := [some (.ref 0), some (.int 3), some (.int w), some (.int n)]) rfl ?_
  refine w_li rfl rfl ?_
  refine w_st1r pl_sub_c rfl (Nat.le_of_ble_eq_true rfl) (r_isPlace) ?_
  refine w_if_ne rfl (fun c4_0 => ?_) (fun c4_0 => absurd ((show ¬ b2 (wi 3 0 3) = 0 from by decide)) c4_0)
  refine w_li rfl rfl ?_
  refine w_if_ne rfl (fun c10_0 => ?_) (fun c10_0 => ?_)
  · skip
    refine w_li rfl rfl ?_
    refine w_ci rfl ?_
    refine w_ic_ne rfl (fun c38_1 => ?_) (fun c38_1 => ?_)
    · skip
      refine w_li rfl rfl ?_
      refine w_ci rfl ?_
      refine w_ic_ne rfl (fun c67_2 => ?_) (fun c67_2 => ?_)
      · skip
        refine w_ci rfl ?_
        refine w_ri rfl ?_
        exact ⟨by first | rfl | (simp_all; done) | (exfalso; simp_all; done), _, _, rfl, by repeat (first | exact Mod0 | refine Mod.up ?_ (Nat.le_of_ble_eq_true rfl))⟩
      · skip
        refine w_la rfl rfl ?_
        refine w_gf rfl (mg_0 _ _) rfl ?_
        refine w_li rfl rfl ?_
        refine w_aa rfl (mg_36 _ _) (show ¬ (3 : Int32) < 0 from by decide) (q := 48) rfl ?_
        refine w_ci rfl ?_
        refine w_pf rfl rfl (mg_48 _ _) (Nat.le_of_ble_eq_true rfl) (ms_48_0 _ _ _) ?_
        refine w_ci rfl ?_
        refine w_ri rfl ?_
        exact ⟨by first | rfl | (simp_all; done) | (exfalso; simp_all; done), _, _, rfl, by repeat (first | exact Mod0 | refine Mod.up ?_ (Nat.le_of_ble_eq_true rfl))⟩
    · skip
      refine w_li rfl rfl ?_
      refine w_st1r pl_sub_c rfl (Nat.le_of_ble_eq_true rfl) (r_isPlace) ?_
      refine w_if_eq rfl (fun c45_2 => ?_) (fun c45_2 => ?_)
      · skip
        replace c45_2 := b2_0 c45_2
        refine w_li rfl rfl ?_
        refine w_ci rfl ?_
        refine w_ic_ne rfl (fun c67_3 => ?_) (fun c67_3 => ?_)
        · skip
          refine w_ci rfl ?_
          refine w_ri rfl ?_
          exact ⟨by first | rfl | (simp_all; done) | (exfalso; simp_all; done), _, _, rfl, by repeat (first | exact Mod0 | refine Mod.up ?_ (Nat.le_of_ble_eq_true rfl))⟩
        · skip
          refine w_la rfl rfl ?_
          refine w_gf rfl (mg_0 _ _) rfl ?_
          refine w_li rfl rfl ?_
          refine w_aa rfl (mg_36 _ _) (show ¬ (3 : Int32) < 0 from by decide) (q := 48) rfl ?_
          refine w_ci rfl ?_
          refine w_pf rfl rfl (mg_48 _ _) (Nat.le_of_ble_eq_true rfl) (ms_48_0 _ _ _) ?_
          refine w_ci rfl ?_
          refine w_ri rfl ?_
          exact ⟨by first | rfl | (simp_all; done) | (exfalso; simp_all; done), _, _, rfl, by repeat (first | exact Mod0 | refine Mod.up ?_ (Nat.le_of_ble_eq_true rfl))⟩
      · skip
        replace c45_2 := b2_n c45_2
        exfalso; simp_all
  · skip
    refine w_la rfl rfl ?_
    refine w_gf rfl (mg_0 _ _) rfl ?_
    refine w_li rfl rfl ?_
    refine w_vi1r pl_sub_c rfl (mg_1 _ _) (Nat.le_of_ble_eq_true rfl) (r_has_1) ?_
    refine w_if_eq rfl (fun c21_1 => ?_) (fun c21_1 => absurd ((show b2 (wi n 0 (-1)) = 0 from by rw [wi_m1]; rfl)) c21_1)
    refine w_li rfl rfl ?_
    refine w_ci rfl ?_
    refine w_ic_ne rfl (fun c38_1 => ?_) (fun c38_1 => ?_)
    · skip
      refine w_li rfl rfl ?_
      refine w_ci rfl ?_
      refine w_ic_ne rfl (fun c67_2 => ?_) (fun c67_2 => ?_)
      · skip
        refine w_ci rfl ?_
        refine w_ri rfl ?_
        exact ⟨by first | rfl | (simp_all; done) | (exfalso; simp_all; done), _, _, rfl, by repeat (first | exact Mod0 | refine Mod.up ?_ (Nat.le_of_ble_eq_true rfl))⟩
      · skip
        refine w_la rfl rfl ?_
        refine w_gf rfl (mg_0 _ _) rfl ?_
        refine w_li rfl rfl ?_
        refine w_aa rfl (mg_36 _ _) (show ¬ (3 : Int32) < 0 from by decide) (q := 48) rfl ?_
        refine w_ci rfl ?_
        refine w_pf rfl rfl (mg_48 _ _) (Nat.le_of_ble_eq_true rfl) (ms_48_0 _ _ _) ?_
        refine w_ci rfl ?_
        refine w_ri rfl ?_
        exact ⟨by first | rfl | (simp_all; done) | (exfalso; simp_all; done), _, _, rfl, by repeat (first | exact Mod0 | refine Mod.up ?_ (Nat.le_of_ble_eq_true rfl))⟩
    · skip
      refine w_li rfl rfl ?_
      refine w_st1r pl_sub_c rfl (Nat.le_of_ble_eq_true rfl) (r_isPlace) ?_
      refine w_if_eq rfl (fun c45_2 => ?_) (fun c45_2 => ?_)
      · skip
        replace c45_2 := b2_0 c45_2
        refine w_li rfl rfl ?_
        refine w_ci rfl ?_
        refine w_ic_ne rfl (fun c67_3 => ?_) (fun c67_3 => ?_)
        · skip
          refine w_ci rfl ?_
          refine w_ri rfl ?_
          exact ⟨by first | rfl | (simp_all; done) | (exfalso; simp_all; done), _, _, rfl, by repeat (first | exact Mod0 | refine Mod.up ?_ (Nat.le_of_ble_eq_true rfl))⟩
        · skip
          refine w_la rfl rfl ?_
          refine w_gf rfl (mg_0 _ _) rfl ?_
          refine w_li rfl rfl ?_
          refine w_aa rfl (mg_36 _ _) (show ¬ (3 : Int32) < 0 from by decide) (q := 48) rfl ?_
          refine w_ci rfl ?_
          refine w_pf rfl rfl (mg_48 _ _) (Nat.le_of_ble_eq_true rfl) (ms_48_0 _ _ _) ?_
          refine w_ci rfl ?_
          refine w_ri rfl ?_
          exact ⟨by first | rfl | (simp_all; done) | (exfalso; simp_all; done), _, _, rfl, by repeat (first | exact Mod0 | refine Mod.up ?_ (Nat.le_of_ble_eq_true rfl))⟩
      · skip
        replace c45_2 := b2_n c45_2
        exfalso; simp_all

set_option maxRecDepth 100000 in
set_option maxHeartbeats 2000000 in
theorem d_shelf_3 {w n : Int32} (hn : ¬ (w = 1 ∧ wi n 0 3 = true)) (s : Nat → Nat → Int32) (t : Nat → Nat → Int64) : Wm 192 [.ref 51, .int 3, .int w, .int n] (mk (mS s) (mT t)) (Pm (.int (if w = 2 then 1 else -1))) := by
  refine Wm.of pT_192 (Nat.le_of_ble_eq_true rfl) (L0 := [some (.ref 51), some (.int 3), some (.int w), some (.int n)]) rfl ?_
  refine w_li rfl rfl ?_
  refine w_st1r pl_sub_c rfl (Nat.le_of_ble_eq_true rfl) (m_isShelf) ?_
  refine w_if_eq rfl (fun c4_0 => absurd c4_0 ((show ¬ b2 (wi 3 0 3) = 0 from by decide))) (fun c4_0 => ?_)
  refine w_la rfl rfl ?_
  refine w_li rfl rfl ?_
  refine w_li rfl rfl ?_
  refine w_vi2 pl_sub_c rfl (mg_51 _ _) (Nat.le_of_ble_eq_true rfl) (u_isHeld) (fun r2 h2 q => (congrArg List.length q.2).trans rfl) (fun r2 h2 q => ?_)
  rw [q.1, q.2]
  refine w_if_ne rfl (fun c13_0 => ?_) (fun c13_0 => ?_)
  · skip
    replace c13_0 := b2_n c13_0
    refine w_la rfl rfl ?_
    refine w_gf rfl (mg_51 _ _) rfl ?_
    refine w_li rfl rfl ?_
    refine w_li rfl rfl ?_
    refine w_ci rfl ?_
    refine w_ic_eq rfl (fun c25_1 => ?_) (fun c25_1 => ?_)
    · skip
      refine w_ci rfl ?_
      refine w_go rfl ?_
      refine w_is rfl (mg_63 _ _) (show ¬ (3 : Int32) < 0 from by decide) (by rw [ar_len]; exact (show (3 : Int32).toNatClampNeg < 4 from by decide)) (ms_63 _ _ _ _) ?_
      refine w_la rfl rfl ?_
      refine w_gf rfl (mg_51 _ _) rfl ?_
      refine w_li rfl rfl ?_
      refine w_li rfl rfl ?_
      refine w_ci rfl ?_
      refine w_ic_ne rfl (fun c55_2 => ?_) (fun c55_2 => ?_)
      · skip
        refine w_li rfl rfl ?_
        refine w_is rfl (mg_64 _ _) (show ¬ (3 : Int32) < 0 from by decide) (by rw [ar_len]; exact (show (3 : Int32).toNatClampNeg < 4 from by decide)) (ms_64 _ _ _ _) ?_
        refine w_la rfl rfl ?_
        refine w_gf rfl (mg_51 _ _) rfl ?_
        refine w_li rfl rfl ?_
        refine w_li rfl rfl ?_
        refine w_ci rfl ?_
        refine w_ic_ne rfl (fun c76_3 => ?_) (fun c76_3 => ?_)
        · skip
          refine w_ci rfl ?_
          refine w_is rfl (mg_65 _ _) (show ¬ (3 : Int32) < 0 from by decide) (by rw [ar_len]; exact (show (3 : Int32).toNatClampNeg < 4 from by decide)) (ms_65 _ _ _ _) ?_
          refine w_ci rfl ?_
          refine w_ri rfl ?_
          exact ⟨by first | rfl | (simp_all; done) | (exfalso; simp_all; done), _, _, rfl⟩
        · skip
          exfalso; simp_all
      · skip
        exfalso; simp_all
    · skip
      refine w_li rfl rfl ?_
      refine w_ci rfl ?_
      refine w_ic_ne rfl (fun c30_2 => ?_) (fun c30_2 => ?_)
      · skip
        refine w_li rfl rfl ?_
        refine w_is rfl (mg_63 _ _) (show ¬ (3 : Int32) < 0 from by decide) (by rw [ar_len]; exact (show (3 : Int32).toNatClampNeg < 4 from by decide)) (ms_63 _ _ _ _) ?_
        refine w_la rfl rfl ?_
        refine w_gf rfl (mg_51 _ _) rfl ?_
        refine w_li rfl rfl ?_
        refine w_li rfl rfl ?_
        refine w_ci rfl ?_
        refine w_ic_ne rfl (fun c55_3 => ?_) (fun c55_3 => ?_)
        · skip
          refine w_li rfl rfl ?_
          refine w_is rfl (mg_64 _ _) (show ¬ (3 : Int32) < 0 from by decide) (by rw [ar_len]; exact (show (3 : Int32).toNatClampNeg < 4 from by decide)) (ms_64 _ _ _ _) ?_
          refine w_la rfl rfl ?_
          refine w_gf rfl (mg_51 _ _) rfl ?_
          refine w_li rfl rfl ?_
          refine w_li rfl rfl ?_
          refine w_ci rfl ?_
          refine w_ic_ne rfl (fun c76_4 => ?_) (fun c76_4 => ?_)
          · skip
            refine w_ci rfl ?_
            refine w_is rfl (mg_65 _ _) (show ¬ (3 : Int32) < 0 from by decide) (by rw [ar_len]; exact (show (3 : Int32).toNatClampNeg < 4 from by decide)) (ms_65 _ _ _ _) ?_
            refine w_ci rfl ?_
            refine w_ri rfl ?_
            exact ⟨by first | rfl | (simp_all; done) | (exfalso; simp_all; done), _, _, rfl⟩
          · skip
            exfalso; simp_all
        · skip
          exfalso; simp_all
      · skip
        exfalso; simp_all
  · skip
    replace c13_0 := b2_0 (Decidable.of_not_not c13_0)
    refine w_ci rfl ?_
    refine w_ri rfl ?_
    exact ⟨by first | rfl | (simp_all; done) | (exfalso; simp_all; done), _, _, rfl⟩

theorem b_shelf_3 {w n : Int32} (hn : ¬ (w = 1 ∧ wi n 0 3 = true)) : Bth 88 192 [.int 3, .int w, .int n] := Bth.of (c_shelf_3 hn) (fun s t => d_shelf_3 hn s t)
set_option maxRecDepth 100000 in
set_option maxHeartbeats 2000000 in
theorem c_shelf_out {z w n : Int32} (hx : wi z 0 3 = false) : Wm 88 [.ref 0, .int z, .int w, .int n] (mk s0 t0) (Pc (.int (-1))) := by
  refine Wm.of pT_88 (Nat.le_of_ble_eq_true rfl) (L0 := [some (.ref 0), some (.int z), some (.int w), some (.int n)]) rfl ?_
  refine w_li rfl rfl ?_
  refine w_st1r pl_sub_c rfl (Nat.le_of_ble_eq_true rfl) (r_isPlace) ?_
  refine w_if_ne rfl (fun c4_0 => ?_) (fun c4_0 => ?_)
  · skip
    replace c4_0 := b2_n c4_0
    exact absurd (hx.symm.trans c4_0) (by decide)
  · skip
    replace c4_0 := b2_0 (Decidable.of_not_not c4_0)
    refine w_ci rfl ?_
    refine w_ri rfl ?_
    exact ⟨by first | rfl | (simp_all; done) | (simp_all; rfl) | (simp_all [up2_s]; done) | (simp_all [up2_s]; decide) | decide, _, _, rfl, by repeat (first | exact Mod0 | refine Mod.up ?_ (Nat.le_of_ble_eq_true rfl) | refine Mod.upl ?_ (Nat.le_of_ble_eq_true rfl))⟩

set_option maxRecDepth 100000 in
set_option maxHeartbeats 2000000 in
theorem d_shelf_out {z w n : Int32} (hx : wi z 0 3 = false) (s : Nat → Nat → Int32) (t : Nat → Nat → Int64) : Wm 192 [.ref 51, .int z, .int w, .int n] (mk (mS s) (mT t)) (Pm (.int (-1))) := by
  refine Wm.of pT_192 (Nat.le_of_ble_eq_true rfl) (L0 := [some (.ref 51), some (.int z), some (.int w), some (.int n)]) rfl ?_
  refine w_li rfl rfl ?_
  refine w_st1r pl_sub_c rfl (Nat.le_of_ble_eq_true rfl) (m_isShelf) ?_
  refine w_if_eq rfl (fun c4_0 => ?_) (fun c4_0 => ?_)
  · skip
    replace c4_0 := b2_0 c4_0
    refine w_ci rfl ?_
    refine w_ri rfl ?_
    exact ⟨by first | rfl | (simp_all; done) | (simp_all; rfl) | decide, _, _, rfl⟩
  · skip
    replace c4_0 := b2_n c4_0
    exact absurd (hx.symm.trans c4_0) (by decide)

theorem b_shelf_out {z w n : Int32} (hx : wi z 0 3 = false) : Bth 88 192 [.int z, .int w, .int n] := Bth.of (c_shelf_out hx) (fun s t => d_shelf_out hx s t)
theorem q_shelf : ∀ j : Nat, j < 4 → ∀ i : Nat, i < 4 → chk 2000 88 192 [.int (nI j), .int 1, .int (nI i)] = true := by decide +kernel
theorem B_shelf (z w n : Int32) : Bth 88 192 [.int z, .int w, .int n] := by
  rcases tf (wi z 0 3) with h | h
  · by_cases hn : w = 1 ∧ wi n 0 3 = true
    · obtain ⟨rfl, hn⟩ := hn
      obtain ⟨j, hj, rfl⟩ := en (n := 3) (by decide) h
      obtain ⟨i, hi, rfl⟩ := en (n := 3) (by decide) hn
      exact Bth.of_chk (q_shelf j (by omega) i (by omega))
    · rcases en3 h with rfl | rfl | rfl | rfl
      · exact b_shelf_0 hn
      · exact b_shelf_1 hn
      · exact b_shelf_2 hn
      · exact b_shelf_3 hn
  · exact b_shelf_out h
set_option maxRecDepth 100000 in
set_option maxHeartbeats 2000000 in
theorem c_packed_out {n : Int32} (hx : wi n 1 99 = false) : Wm 76 [.ref 0, .int n] (mk s0 t0) (Pc (.int (-1))) := by
  refine Wm.of pT_76 (Nat.le_of_ble_eq_true rfl) (L0 := [some (.ref 0), some (.int n), none, none]) rfl ?_
  refine w_li rfl rfl ?_
  refine w_ci rfl ?_
  refine w_ci rfl ?_
  refine w_st3r pl_sub_c rfl (Nat.le_of_ble_eq_true rfl) (r_isWithin) ?_
  refine w_if_ne rfl (fun c7_0 => ?_) (fun c7_0 => ?_)
  · skip
    replace c7_0 := b2_n c7_0
    exact absurd (hx.symm.trans c7_0) (by decide)
  · skip
    replace c7_0 := b2_0 (Decidable.of_not_not c7_0)
    refine w_ci rfl ?_
    refine w_ri rfl ?_
    exact ⟨by first | rfl | (simp_all; done) | (simp_all; rfl) | (simp_all [up2_s]; done) | (simp_all [up2_s]; decide) | decide, _, _, rfl, by repeat (first | exact Mod0 | refine Mod.up ?_ (Nat.le_of_ble_eq_true rfl) | refine Mod.upl ?_ (Nat.le_of_ble_eq_true rfl))⟩

set_option maxRecDepth 100000 in
set_option maxHeartbeats 2000000 in
theorem d_packed_out {n : Int32} (hx : wi n 1 99 = false) (s : Nat → Nat → Int32) (t : Nat → Nat → Int64) : Wm 172 [.ref 51, .int n] (mk (mS s) (mT t)) (Pm (.int (-1))) := by
  refine Wm.of pT_172 (Nat.le_of_ble_eq_true rfl) (L0 := [some (.ref 51), some (.int n), none, none, none]) rfl ?_
  refine w_li rfl rfl ?_
  refine w_ci rfl ?_
  refine w_ci rfl ?_
  refine w_st3r pl_sub_c rfl (Nat.le_of_ble_eq_true rfl) (m_in) ?_
  refine w_if_ne rfl (fun c7_0 => ?_) (fun c7_0 => ?_)
  · skip
    replace c7_0 := b2_n c7_0
    exact absurd (hx.symm.trans c7_0) (by decide)
  · skip
    replace c7_0 := b2_0 (Decidable.of_not_not c7_0)
    refine w_ci rfl ?_
    refine w_ri rfl ?_
    exact ⟨by first | rfl | (simp_all; done) | (simp_all; rfl) | decide, _, _, rfl⟩

theorem b_packed_out {n : Int32} (hx : wi n 1 99 = false) : Bth 76 172 [.int n] := Bth.of (c_packed_out hx) (fun s t => d_packed_out hx s t)
set_option maxRecDepth 100000 in
set_option maxHeartbeats 2000000 in
theorem c_hope_out {n pt : Int32} (hx : (wi n 0 99 && wi pt 0 1) = false) : Wm 79 [.ref 0, .int n, .int pt] (mk s0 t0) (Pc (.long (-1))) := by
  refine Wm.of pT_79 (Nat.le_of_ble_eq_true rfl) (L0 := [some (.ref 0), some (.int n), some (.int pt)]) rfl ?_
  refine w_li rfl rfl ?_
  refine w_ci rfl ?_
  refine w_ci rfl ?_
  refine w_st3r pl_sub_c rfl (Nat.le_of_ble_eq_true rfl) (r_isWithin) ?_
  refine w_if_eq rfl (fun c7_0 => ?_) (fun c7_0 => ?_)
  · skip
    replace c7_0 := b2_0 c7_0
    refine w_cl rfl ?_
    refine w_rl rfl ?_
    exact ⟨rfl, _, _, rfl, Mod0⟩
  · skip
    replace c7_0 := b2_n c7_0
    refine w_li rfl rfl ?_
    refine w_ci rfl ?_
    refine w_ci rfl ?_
    refine w_st3r pl_sub_c rfl (Nat.le_of_ble_eq_true rfl) (r_isWithin) ?_
    refine w_if_ne rfl (fun c16_1 => ?_) (fun c16_1 => ?_)
    · skip
      replace c16_1 := b2_n c16_1
      exfalso; simp_all
    · skip
      replace c16_1 := b2_0 (Decidable.of_not_not c16_1)
      refine w_cl rfl ?_
      refine w_rl rfl ?_
      exact ⟨rfl, _, _, rfl, Mod0⟩

set_option maxRecDepth 100000 in
set_option maxHeartbeats 2000000 in
theorem d_hope_out {n pt : Int32} (hx : (wi n 0 99 && wi pt 0 1) = false) (s : Nat → Nat → Int32) (t : Nat → Nat → Int64) : Wm 178 [.ref 51, .int n, .int pt] (mk (mS s) (mT t)) (Pm (.long (-1))) := by
  refine Wm.of pT_178 (Nat.le_of_ble_eq_true rfl) (L0 := [some (.ref 51), some (.int n), some (.int pt)]) rfl ?_
  refine w_li rfl rfl ?_
  refine w_ci rfl ?_
  refine w_ci rfl ?_
  refine w_st3r pl_sub_c rfl (Nat.le_of_ble_eq_true rfl) (m_in) ?_
  refine w_if_eq rfl (fun c7_0 => ?_) (fun c7_0 => ?_)
  · skip
    replace c7_0 := b2_0 c7_0
    refine w_cl rfl ?_
    refine w_rl rfl ?_
    exact ⟨rfl, _, _, rfl⟩
  · skip
    replace c7_0 := b2_n c7_0
    refine w_li rfl rfl ?_
    refine w_ci rfl ?_
    refine w_ci rfl ?_
    refine w_st3r pl_sub_c rfl (Nat.le_of_ble_eq_true rfl) (m_in) ?_
    refine w_if_eq rfl (fun c16_1 => ?_) (fun c16_1 => ?_)
    · skip
      replace c16_1 := b2_0 c16_1
      refine w_cl rfl ?_
      refine w_rl rfl ?_
      exact ⟨rfl, _, _, rfl⟩
    · skip
      replace c16_1 := b2_n c16_1
      exfalso; simp_all

theorem b_hope_out {n pt : Int32} (hx : (wi n 0 99 && wi pt 0 1) = false) : Bth 79 178 [.int n, .int pt] := Bth.of (c_hope_out hx) (fun s t => d_hope_out hx s t)
set_option maxRecDepth 100000 in
set_option maxHeartbeats 2000000 in
theorem c_odds_out {n k pt : Int32} (hx : (wi n 0 8 && (wi k 0 n && wi pt 0 1)) = false) : Wm 78 [.ref 0, .int n, .int k, .int pt] (mk s0 t0) (Pc (.long (-1))) := by
  refine Wm.of pT_78 (Nat.le_of_ble_eq_true rfl) (L0 := [some (.ref 0), some (.int n), some (.int k), some (.int pt), none, none, none, none, none, none]) rfl ?_
  refine w_li rfl rfl ?_
  refine w_ci rfl ?_
  refine w_ci rfl ?_
  refine w_st3r pl_sub_c rfl (Nat.le_of_ble_eq_true rfl) (r_isWithin) ?_
  refine w_if_eq rfl (fun c7_0 => ?_) (fun c7_0 => ?_)
  · skip
    replace c7_0 := b2_0 c7_0
    refine w_cl rfl ?_
    refine w_rl rfl ?_
    exact ⟨rfl, _, _, rfl, Mod0⟩
  · skip
    replace c7_0 := b2_n c7_0
    refine w_li rfl rfl ?_
    refine w_ci rfl ?_
    refine w_li rfl rfl ?_
    refine w_st3r pl_sub_c rfl (Nat.le_of_ble_eq_true rfl) (r_isWithin) ?_
    refine w_if_eq rfl (fun c16_1 => ?_) (fun c16_1 => ?_)
    · skip
      replace c16_1 := b2_0 c16_1
      refine w_cl rfl ?_
      refine w_rl rfl ?_
      exact ⟨rfl, _, _, rfl, Mod0⟩
    · skip
      replace c16_1 := b2_n c16_1
      refine w_li rfl rfl ?_
      refine w_ci rfl ?_
      refine w_ci rfl ?_
      refine w_st3r pl_sub_c rfl (Nat.le_of_ble_eq_true rfl) (r_isWithin) ?_
      refine w_if_ne rfl (fun c25_2 => ?_) (fun c25_2 => ?_)
      · skip
        replace c25_2 := b2_n c25_2
        exfalso; simp_all
      · skip
        replace c25_2 := b2_0 (Decidable.of_not_not c25_2)
        refine w_cl rfl ?_
        refine w_rl rfl ?_
        exact ⟨rfl, _, _, rfl, Mod0⟩

set_option maxRecDepth 100000 in
set_option maxHeartbeats 2000000 in
theorem d_odds_out {n k pt : Int32} (hx : (wi n 0 8 && (wi k 0 n && wi pt 0 1)) = false) (s : Nat → Nat → Int32) (t : Nat → Nat → Int64) : Wm 177 [.ref 51, .int n, .int k, .int pt] (mk (mS s) (mT t)) (Pm (.long (-1))) := by
  refine Wm.of pT_177 (Nat.le_of_ble_eq_true rfl) (L0 := [some (.ref 51), some (.int n), some (.int k), some (.int pt), none, none, none]) rfl ?_
  refine w_li rfl rfl ?_
  refine w_ci rfl ?_
  refine w_ci rfl ?_
  refine w_st3r pl_sub_c rfl (Nat.le_of_ble_eq_true rfl) (m_in) ?_
  refine w_if_eq rfl (fun c7_0 => ?_) (fun c7_0 => ?_)
  · skip
    replace c7_0 := b2_0 c7_0
    refine w_cl rfl ?_
    refine w_rl rfl ?_
    exact ⟨rfl, _, _, rfl⟩
  · skip
    replace c7_0 := b2_n c7_0
    refine w_li rfl rfl ?_
    refine w_ci rfl ?_
    refine w_li rfl rfl ?_
    refine w_st3r pl_sub_c rfl (Nat.le_of_ble_eq_true rfl) (m_in) ?_
    refine w_if_eq rfl (fun c16_1 => ?_) (fun c16_1 => ?_)
    · skip
      replace c16_1 := b2_0 c16_1
      refine w_cl rfl ?_
      refine w_rl rfl ?_
      exact ⟨rfl, _, _, rfl⟩
    · skip
      replace c16_1 := b2_n c16_1
      refine w_li rfl rfl ?_
      refine w_ci rfl ?_
      refine w_ci rfl ?_
      refine w_st3r pl_sub_c rfl (Nat.le_of_ble_eq_true rfl) (m_in) ?_
      refine w_if_ne rfl (fun c25_2 => ?_) (fun c25_2 => ?_)
      · skip
        replace c25_2 := b2_n c25_2
        exfalso; simp_all
      · skip
        replace c25_2 := b2_0 (Decidable.of_not_not c25_2)
        refine w_cl rfl ?_
        refine w_rl rfl ?_
        exact ⟨rfl, _, _, rfl⟩

theorem b_odds_out {n k pt : Int32} (hx : (wi n 0 8 && (wi k 0 n && wi pt 0 1)) = false) : Bth 78 177 [.int n, .int k, .int pt] := Bth.of (c_odds_out hx) (fun s t => d_odds_out hx s t)
