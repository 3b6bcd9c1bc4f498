/-! p1: methods whose answers hang on their arguments -/
theorem mrK1 (s : Nat → Nat → Int32) (t : Nat → Nat → Int64) : pm_row pl_Kc (mk s t) (pm_B + 1) = some [9, 9, 9, 99] := rfl
theorem nI_lit (j : Nat) : nI j = Int32.ofNat j := rfl
theorem en {x : Int32} {n : Nat} (hn : n < 2 ^ 31) (h : wi x 0 (nI n) = true) : ∃ j : Nat, j ≤ n ∧ x = nI j := by
  simp only [wi, Bool.and_eq_true, decide_eq_true_eq, Int32.le_iff_toInt_le, nI_toInt hn] at h
  have h0 : (0 : Int32).toInt = 0 := by decide
  rw [h0] at h
  refine ⟨x.toInt.toNat, by omega, ?_⟩
  apply Int32.toInt_inj.mp
  rw [nI_toInt (by omega)]
  omega
theorem en3 {x : Int32} (h : wi x 0 3 = true) : x = 0 ∨ x = 1 ∨ x = 2 ∨ x = 3 := by
  obtain ⟨j, hj, rfl⟩ := en (n := 3) (by decide) h
  match j, hj with
  | 0, _ => exact Or.inl rfl
  | 1, _ => exact Or.inr (Or.inl rfl)
  | 2, _ => exact Or.inr (Or.inr (Or.inl rfl))
  | 3, _ => exact Or.inr (Or.inr (Or.inr rfl))
theorem tf (b : Bool) : b = true ∨ b = false := by cases b <;> simp
theorem q_lawOf : ∀ j : Nat, j < 4 → chk 2000 55 135 [.int (nI j)] = true := by decide +kernel
theorem B_lawOf (x : Int32) : Bth 55 135 [.int x] := by
  rcases tf (wi x 0 3) with h | h
  · obtain ⟨j, hj, rfl⟩ := en (n := 3) (by decide) h
    exact Bth.of_chk (q_lawOf j (by omega))
  · exact b_lawOf_out h
theorem u_becomes_0 {s : Nat → Nat → Int32} {t : Nat → Nat → Int64} {v : Int32} : Wm 116 [.ref 51, .int 0, .int v] (mk s t) (fun r h => r = some (.int (s 52 0)) ∧ h = mk (up2 s 52 0 v) t) := by
  refine Wm.of pT_116 (Nat.le_of_ble_eq_true rfl) (L0 := [some (.ref 51), some (.int 0), some (.int v), none]) rfl ?_
  refine w_la rfl rfl ?_
  refine w_gf rfl (mg_51 _ _) rfl ?_
  refine w_li rfl rfl ?_
  refine w_ia rfl (mr_52 _ _ _) (show ¬ (0 : Int32) < 0 from by decide) (ar_get (show (0 : Int32).toNatClampNeg < 56 from by decide)) ?_
  refine w_si rfl (Nat.le_of_ble_eq_true rfl) rfl ?_
  refine w_la rfl rfl ?_
  refine w_gf rfl (mg_51 _ _) rfl ?_
  refine w_li rfl rfl ?_
  refine w_li rfl rfl ?_
  refine w_is rfl (mg_52 _ _) (show ¬ (0 : Int32) < 0 from by decide) (by rw [ar_len]; exact (show (0 : Int32).toNatClampNeg < 56 from by decide)) (ms_52 _ _ _ _) ?_
  refine w_li rfl rfl ?_
  refine w_ri rfl ?_
  exact ⟨rfl, rfl⟩
set_option maxRecDepth 100000 in
set_option maxHeartbeats 2000000 in
theorem c_set_0 {v : Int32}  : Wm 54 [.ref 0, .int 0, .int v] (mk s0 t0) (Pc (.int (if wi v 0 9 = true then 3 else -1))) := by
  refine Wm.of pT_54 (Nat.le_of_ble_eq_true rfl) (L0 := [some (.ref 0), some (.int 0), some (.int v), none]) rfl ?_
  refine w_li rfl rfl ?_
  refine w_ci rfl ?_
  refine w_ci rfl ?_
  refine w_st3r pl_sub_c rfl (Nat.le_of_ble_eq_true rfl) (r_isWithin) ?_
  refine w_if_eq rfl (fun c6_0 => absurd c6_0 ((show ¬ b2 (wi 0 0 3) = 0 from by decide))) (fun c6_0 => ?_)
  refine w_li rfl rfl ?_
  refine w_ci rfl ?_
  refine w_gs rfl ?_
  refine w_li rfl rfl ?_
  refine w_ia rfl (mrK1 _ _) (show ¬ (0 : Int32) < 0 from by decide) (show ([9, 9, 9, 99] : List Int32)[(0 : Int32).toNatClampNeg]? = some 9 from by decide) ?_
  refine w_st3r pl_sub_c rfl (Nat.le_of_ble_eq_true rfl) (r_isWithin) ?_
  refine w_if_ne rfl (fun c19_0 => ?_) (fun c19_0 => ?_)
  · skip
    replace c19_0 := b2_n c19_0
    refine w_la rfl rfl ?_
    refine w_gf rfl (mg_0 _ _) rfl ?_
    refine w_gf rfl (mg_1 _ _) rfl ?_
    refine w_li rfl rfl ?_
    refine w_ia rfl (mr_2 _ _ _) (show ¬ (0 : Int32) < 0 from by decide) (ar_get (show (0 : Int32).toNatClampNeg < 4 from by decide)) ?_
    refine w_si rfl (Nat.le_of_ble_eq_true rfl) rfl ?_
    refine w_la rfl rfl ?_
    refine w_gf rfl (mg_0 _ _) rfl ?_
    refine w_gf rfl (mg_1 _ _) rfl ?_
    refine w_li rfl rfl ?_
    refine w_li rfl rfl ?_
    refine w_is rfl (mg_2 _ _) (show ¬ (0 : Int32) < 0 from by decide) (by rw [ar_len]; exact (show (0 : Int32).toNatClampNeg < 4 from by decide)) (ms_2 _ _ _ _) ?_
    refine w_li rfl rfl ?_
    refine w_ri rfl ?_
    exact ⟨by first | rfl | (simp_all; done) | (simp_all; rfl) | decide, _, _, rfl, by first | exact Mod0 | exact ((Mod0).up (Nat.le_of_ble_eq_true rfl)) | exact (((Mod0).up (Nat.le_of_ble_eq_true rfl)).up (Nat.le_of_ble_eq_true rfl)) | exact ((((Mod0).up (Nat.le_of_ble_eq_true rfl)).up (Nat.le_of_ble_eq_true rfl)).up (Nat.le_of_ble_eq_true rfl))⟩
  · skip
    replace c19_0 := b2_0 (Decidable.of_not_not c19_0)
    refine w_ci rfl ?_
    refine w_ri rfl ?_
    exact ⟨by first | rfl | (simp_all; done) | (simp_all; rfl) | decide, _, _, rfl, by first | exact Mod0 | exact ((Mod0).up (Nat.le_of_ble_eq_true rfl)) | exact (((Mod0).up (Nat.le_of_ble_eq_true rfl)).up (Nat.le_of_ble_eq_true rfl)) | exact ((((Mod0).up (Nat.le_of_ble_eq_true rfl)).up (Nat.le_of_ble_eq_true rfl)).up (Nat.le_of_ble_eq_true rfl))⟩

set_option maxRecDepth 100000 in
set_option maxHeartbeats 2000000 in
theorem d_set_0 {v : Int32} (s : Nat → Nat → Int32) (t : Nat → Nat → Int64) : Wm 134 [.ref 51, .int 0, .int v] (mk (mS s) (mT t)) (Pm (.int (if wi v 0 9 = true then 3 else -1))) := by
  refine Wm.of pT_134 (Nat.le_of_ble_eq_true rfl) (L0 := [some (.ref 51), some (.int 0), some (.int v)]) rfl ?_
  refine w_li rfl rfl ?_
  refine w_ci rfl ?_
  refine w_ci rfl ?_
  refine w_st3r pl_sub_c rfl (Nat.le_of_ble_eq_true rfl) (m_in) ?_
  refine w_if_eq rfl (fun c6_0 => absurd c6_0 ((show ¬ b2 (wi 0 0 3) = 0 from by decide))) (fun c6_0 => ?_)
  refine w_li rfl rfl ?_
  refine w_ci rfl ?_
  refine w_li rfl rfl ?_
  refine w_st1r pl_sub_c rfl (Nat.le_of_ble_eq_true rfl) (m_mostOf) ?_
  refine w_st3r pl_sub_c rfl (Nat.le_of_ble_eq_true rfl) (m_in) ?_
  refine w_if_eq rfl (fun c18_0 => ?_) (fun c18_0 => ?_)
  · skip
    replace c18_0 := b2_0 c18_0
    refine w_ci rfl ?_
    refine w_ri rfl ?_
    exact ⟨by first | rfl | (simp_all; done) | (simp_all; rfl) | decide, _, _, rfl⟩
  · skip
    replace c18_0 := b2_n c18_0
    refine w_la rfl rfl ?_
    refine w_li rfl rfl ?_
    refine w_li rfl rfl ?_
    refine w_vi2 pl_sub_c rfl (mg_51 _ _) (Nat.le_of_ble_eq_true rfl) (u_becomes_0) (fun r2 h2 q => by rw [q.2]; rfl) (fun r2 h2 q => ?_)
    rw [q.1, q.2]
    refine w_go rfl ?_
    refine w_ri rfl ?_
    exact ⟨by first | rfl | (simp_all; done) | (simp_all; rfl) | decide, _, _, rfl⟩

theorem b_set_0 {v : Int32} : Bth 54 134 [.int 0, .int v] := Bth.of (c_set_0 ) (fun s t => d_set_0  s t)
theorem u_becomes_1 {s : Nat → Nat → Int32} {t : Nat → Nat → Int64} {v : Int32} : Wm 116 [.ref 51, .int 1, .int v] (mk s t) (fun r h => r = some (.int (s 52 1)) ∧ h = mk (up2 s 52 1 v) t) := by
  refine Wm.of pT_116 (Nat.le_of_ble_eq_true rfl) (L0 := [some (.ref 51), some (.int 1), some (.int v), none]) rfl ?_
  refine w_la rfl rfl ?_
  refine w_gf rfl (mg_51 _ _) rfl ?_
  refine w_li rfl rfl ?_
  refine w_ia rfl (mr_52 _ _ _) (show ¬ (1 : Int32) < 0 from by decide) (ar_get (show (1 : Int32).toNatClampNeg < 56 from by decide)) ?_
  refine w_si rfl (Nat.le_of_ble_eq_true rfl) rfl ?_
  refine w_la rfl rfl ?_
  refine w_gf rfl (mg_51 _ _) rfl ?_
  refine w_li rfl rfl ?_
  refine w_li rfl rfl ?_
  refine w_is rfl (mg_52 _ _) (show ¬ (1 : Int32) < 0 from by decide) (by rw [ar_len]; exact (show (1 : Int32).toNatClampNeg < 56 from by decide)) (ms_52 _ _ _ _) ?_
  refine w_li rfl rfl ?_
  refine w_ri rfl ?_
  exact ⟨rfl, rfl⟩
set_option maxRecDepth 100000 in
set_option maxHeartbeats 2000000 in
theorem c_set_1 {v : Int32}  : Wm 54 [.ref 0, .int 1, .int v] (mk s0 t0) (Pc (.int (if wi v 0 9 = true then 2 else -1))) := by
  refine Wm.of pT_54 (Nat.le_of_ble_eq_true rfl) (L0 := [some (.ref 0), some (.int 1), some (.int v), none]) rfl ?_
  refine w_li rfl rfl ?_
  refine w_ci rfl ?_
  refine w_ci rfl ?_
  refine w_st3r pl_sub_c rfl (Nat.le_of_ble_eq_true rfl) (r_isWithin) ?_
  refine w_if_eq rfl (fun c6_0 => absurd c6_0 ((show ¬ b2 (wi 1 0 3) = 0 from by decide))) (fun c6_0 => ?_)
  refine w_li rfl rfl ?_
  refine w_ci rfl ?_
  refine w_gs rfl ?_
  refine w_li rfl rfl ?_
  refine w_ia rfl (mrK1 _ _) (show ¬ (1 : Int32) < 0 from by decide) (show ([9, 9, 9, 99] : List Int32)[(1 : Int32).toNatClampNeg]? = some 9 from by decide) ?_
  refine w_st3r pl_sub_c rfl (Nat.le_of_ble_eq_true rfl) (r_isWithin) ?_
  refine w_if_ne rfl (fun c19_0 => ?_) (fun c19_0 => ?_)
  · skip
    replace c19_0 := b2_n c19_0
    refine w_la rfl rfl ?_
    refine w_gf rfl (mg_0 _ _) rfl ?_
    refine w_gf rfl (mg_1 _ _) rfl ?_
    refine w_li rfl rfl ?_
    refine w_ia rfl (mr_2 _ _ _) (show ¬ (1 : Int32) < 0 from by decide) (ar_get (show (1 : Int32).toNatClampNeg < 4 from by decide)) ?_
    refine w_si rfl (Nat.le_of_ble_eq_true rfl) rfl ?_
    refine w_la rfl rfl ?_
    refine w_gf rfl (mg_0 _ _) rfl ?_
    refine w_gf rfl (mg_1 _ _) rfl ?_
    refine w_li rfl rfl ?_
    refine w_li rfl rfl ?_
    refine w_is rfl (mg_2 _ _) (show ¬ (1 : Int32) < 0 from by decide) (by rw [ar_len]; exact (show (1 : Int32).toNatClampNeg < 4 from by decide)) (ms_2 _ _ _ _) ?_
    refine w_li rfl rfl ?_
    refine w_ri rfl ?_
    exact ⟨by first | rfl | (simp_all; done) | (simp_all; rfl) | decide, _, _, rfl, by first | exact Mod0 | exact ((Mod0).up (Nat.le_of_ble_eq_true rfl)) | exact (((Mod0).up (Nat.le_of_ble_eq_true rfl)).up (Nat.le_of_ble_eq_true rfl)) | exact ((((Mod0).up (Nat.le_of_ble_eq_true rfl)).up (Nat.le_of_ble_eq_true rfl)).up (Nat.le_of_ble_eq_true rfl))⟩
  · skip
    replace c19_0 := b2_0 (Decidable.of_not_not c19_0)
    refine w_ci rfl ?_
    refine w_ri rfl ?_
    exact ⟨by first | rfl | (simp_all; done) | (simp_all; rfl) | decide, _, _, rfl, by first | exact Mod0 | exact ((Mod0).up (Nat.le_of_ble_eq_true rfl)) | exact (((Mod0).up (Nat.le_of_ble_eq_true rfl)).up (Nat.le_of_ble_eq_true rfl)) | exact ((((Mod0).up (Nat.le_of_ble_eq_true rfl)).up (Nat.le_of_ble_eq_true rfl)).up (Nat.le_of_ble_eq_true rfl))⟩

set_option maxRecDepth 100000 in
set_option maxHeartbeats 2000000 in
theorem d_set_1 {v : Int32} (s : Nat → Nat → Int32) (t : Nat → Nat → Int64) : Wm 134 [.ref 51, .int 1, .int v] (mk (mS s) (mT t)) (Pm (.int (if wi v 0 9 = true then 2 else -1))) := by
  refine Wm.of pT_134 (Nat.le_of_ble_eq_true rfl) (L0 := [some (.ref 51), some (.int 1), some (.int v)]) rfl ?_
  refine w_li rfl rfl ?_
  refine w_ci rfl ?_
  refine w_ci rfl ?_
  refine w_st3r pl_sub_c rfl (Nat.le_of_ble_eq_true rfl) (m_in) ?_
  refine w_if_eq rfl (fun c6_0 => absurd c6_0 ((show ¬ b2 (wi 1 0 3) = 0 from by decide))) (fun c6_0 => ?_)
  refine w_li rfl rfl ?_
  refine w_ci rfl ?_
  refine w_li rfl rfl ?_
  refine w_st1r pl_sub_c rfl (Nat.le_of_ble_eq_true rfl) (m_mostOf) ?_
  refine w_st3r pl_sub_c rfl (Nat.le_of_ble_eq_true rfl) (m_in) ?_
  refine w_if_eq rfl (fun c18_0 => ?_) (fun c18_0 => ?_)
  · skip
    replace c18_0 := b2_0 c18_0
    refine w_ci rfl ?_
    refine w_ri rfl ?_
    exact ⟨by first | rfl | (simp_all; done) | (simp_all; rfl) | decide, _, _, rfl⟩
  · skip
    replace c18_0 := b2_n c18_0
    refine w_la rfl rfl ?_
    refine w_li rfl rfl ?_
    refine w_li rfl rfl ?_
    refine w_vi2 pl_sub_c rfl (mg_51 _ _) (Nat.le_of_ble_eq_true rfl) (u_becomes_1) (fun r2 h2 q => by rw [q.2]; rfl) (fun r2 h2 q => ?_)
    rw [q.1, q.2]
    refine w_go rfl ?_
    refine w_ri rfl ?_
    exact ⟨by first | rfl | (simp_all; done) | (simp_all; rfl) | decide, _, _, rfl⟩

theorem b_set_1 {v : Int32} : Bth 54 134 [.int 1, .int v] := Bth.of (c_set_1 ) (fun s t => d_set_1  s t)
theorem u_becomes_2 {s : Nat → Nat → Int32} {t : Nat → Nat → Int64} {v : Int32} : Wm 116 [.ref 51, .int 2, .int v] (mk s t) (fun r h => r = some (.int (s 52 2)) ∧ h = mk (up2 s 52 2 v) t) := by
  refine Wm.of pT_116 (Nat.le_of_ble_eq_true rfl) (L0 := [some (.ref 51), some (.int 2), some (.int v), none]) rfl ?_
  refine w_la rfl rfl ?_
  refine w_gf rfl (mg_51 _ _) rfl ?_
  refine w_li rfl rfl ?_
  refine w_ia rfl (mr_52 _ _ _) (show ¬ (2 : Int32) < 0 from by decide) (ar_get (show (2 : Int32).toNatClampNeg < 56 from by decide)) ?_
  refine w_si rfl (Nat.le_of_ble_eq_true rfl) rfl ?_
  refine w_la rfl rfl ?_
  refine w_gf rfl (mg_51 _ _) rfl ?_
  refine w_li rfl rfl ?_
  refine w_li rfl rfl ?_
  refine w_is rfl (mg_52 _ _) (show ¬ (2 : Int32) < 0 from by decide) (by rw [ar_len]; exact (show (2 : Int32).toNatClampNeg < 56 from by decide)) (ms_52 _ _ _ _) ?_
  refine w_li rfl rfl ?_
  refine w_ri rfl ?_
  exact ⟨rfl, rfl⟩
set_option maxRecDepth 100000 in
set_option maxHeartbeats 2000000 in
theorem c_set_2 {v : Int32}  : Wm 54 [.ref 0, .int 2, .int v] (mk s0 t0) (Pc (.int (if wi v 0 9 = true then 1 else -1))) := by
  refine Wm.of pT_54 (Nat.le_of_ble_eq_true rfl) (L0 := [some (.ref 0), some (.int 2), some (.int v), none]) rfl ?_
  refine w_li rfl rfl ?_
  refine w_ci rfl ?_
  refine w_ci rfl ?_
  refine w_st3r pl_sub_c rfl (Nat.le_of_ble_eq_true rfl) (r_isWithin) ?_
  refine w_if_eq rfl (fun c6_0 => absurd c6_0 ((show ¬ b2 (wi 2 0 3) = 0 from by decide))) (fun c6_0 => ?_)
  refine w_li rfl rfl ?_
  refine w_ci rfl ?_
  refine w_gs rfl ?_
  refine w_li rfl rfl ?_
  refine w_ia rfl (mrK1 _ _) (show ¬ (2 : Int32) < 0 from by decide) (show ([9, 9, 9, 99] : List Int32)[(2 : Int32).toNatClampNeg]? = some 9 from by decide) ?_
  refine w_st3r pl_sub_c rfl (Nat.le_of_ble_eq_true rfl) (r_isWithin) ?_
  refine w_if_ne rfl (fun c19_0 => ?_) (fun c19_0 => ?_)
  · skip
    replace c19_0 := b2_n c19_0
    refine w_la rfl rfl ?_
    refine w_gf rfl (mg_0 _ _) rfl ?_
    refine w_gf rfl (mg_1 _ _) rfl ?_
    refine w_li rfl rfl ?_
    refine w_ia rfl (mr_2 _ _ _) (show ¬ (2 : Int32) < 0 from by decide) (ar_get (show (2 : Int32).toNatClampNeg < 4 from by decide)) ?_
    refine w_si rfl (Nat.le_of_ble_eq_true rfl) rfl ?_
    refine w_la rfl rfl ?_
    refine w_gf rfl (mg_0 _ _) rfl ?_
    refine w_gf rfl (mg_1 _ _) rfl ?_
    refine w_li rfl rfl ?_
    refine w_li rfl rfl ?_
    refine w_is rfl (mg_2 _ _) (show ¬ (2 : Int32) < 0 from by decide) (by rw [ar_len]; exact (show (2 : Int32).toNatClampNeg < 4 from by decide)) (ms_2 _ _ _ _) ?_
    refine w_li rfl rfl ?_
    refine w_ri rfl ?_
    exact ⟨by first | rfl | (simp_all; done) | (simp_all; rfl) | decide, _, _, rfl, by first | exact Mod0 | exact ((Mod0).up (Nat.le_of_ble_eq_true rfl)) | exact (((Mod0).up (Nat.le_of_ble_eq_true rfl)).up (Nat.le_of_ble_eq_true rfl)) | exact ((((Mod0).up (Nat.le_of_ble_eq_true rfl)).up (Nat.le_of_ble_eq_true rfl)).up (Nat.le_of_ble_eq_true rfl))⟩
  · skip
    replace c19_0 := b2_0 (Decidable.of_not_not c19_0)
    refine w_ci rfl ?_
    refine w_ri rfl ?_
    exact ⟨by first | rfl | (simp_all; done) | (simp_all; rfl) | decide, _, _, rfl, by first | exact Mod0 | exact ((Mod0).up (Nat.le_of_ble_eq_true rfl)) | exact (((Mod0).up (Nat.le_of_ble_eq_true rfl)).up (Nat.le_of_ble_eq_true rfl)) | exact ((((Mod0).up (Nat.le_of_ble_eq_true rfl)).up (Nat.le_of_ble_eq_true rfl)).up (Nat.le_of_ble_eq_true rfl))⟩

set_option maxRecDepth 100000 in
set_option maxHeartbeats 2000000 in
theorem d_set_2 {v : Int32} (s : Nat → Nat → Int32) (t : Nat → Nat → Int64) : Wm 134 [.ref 51, .int 2, .int v] (mk (mS s) (mT t)) (Pm (.int (if wi v 0 9 = true then 1 else -1))) := by
  refine Wm.of pT_134 (Nat.le_of_ble_eq_true rfl) (L0 := [some (.ref 51), some (.int 2), some (.int v)]) rfl ?_
  refine w_li rfl rfl ?_
  refine w_ci rfl ?_
  refine w_ci rfl ?_
  refine w_st3r pl_sub_c rfl (Nat.le_of_ble_eq_true rfl) (m_in) ?_
  refine w_if_eq rfl (fun c6_0 => absurd c6_0 ((show ¬ b2 (wi 2 0 3) = 0 from by decide))) (fun c6_0 => ?_)
  refine w_li rfl rfl ?_
  refine w_ci rfl ?_
  refine w_li rfl rfl ?_
  refine w_st1r pl_sub_c rfl (Nat.le_of_ble_eq_true rfl) (m_mostOf) ?_
  refine w_st3r pl_sub_c rfl (Nat.le_of_ble_eq_true rfl) (m_in) ?_
  refine w_if_eq rfl (fun c18_0 => ?_) (fun c18_0 => ?_)
  · skip
    replace c18_0 := b2_0 c18_0
    refine w_ci rfl ?_
    refine w_ri rfl ?_
    exact ⟨by first | rfl | (simp_all; done) | (simp_all; rfl) | decide, _, _, rfl⟩
  · skip
    replace c18_0 := b2_n c18_0
    refine w_la rfl rfl ?_
    refine w_li rfl rfl ?_
    refine w_li rfl rfl ?_
    refine w_vi2 pl_sub_c rfl (mg_51 _ _) (Nat.le_of_ble_eq_true rfl) (u_becomes_2) (fun r2 h2 q => by rw [q.2]; rfl) (fun r2 h2 q => ?_)
    rw [q.1, q.2]
    refine w_go rfl ?_
    refine w_ri rfl ?_
    exact ⟨by first | rfl | (simp_all; done) | (simp_all; rfl) | decide, _, _, rfl⟩

theorem b_set_2 {v : Int32} : Bth 54 134 [.int 2, .int v] := Bth.of (c_set_2 ) (fun s t => d_set_2  s t)
theorem u_becomes_3 {s : Nat → Nat → Int32} {t : Nat → Nat → Int64} {v : Int32} : Wm 116 [.ref 51, .int 3, .int v] (mk s t) (fun r h => r = some (.int (s 52 3)) ∧ h = mk (up2 s 52 3 v) t) := by
  refine Wm.of pT_116 (Nat.le_of_ble_eq_true rfl) (L0 := [some (.ref 51), some (.int 3), some (.int v), none]) rfl ?_
  refine w_la rfl rfl ?_
  refine w_gf rfl (mg_51 _ _) rfl ?_
  refine w_li rfl rfl ?_
  refine w_ia rfl (mr_52 _ _ _) (show ¬ (3 : Int32) < 0 from by decide) (ar_get (show (3 : Int32).toNatClampNeg < 56 from by decide)) ?_
  refine w_si rfl (Nat.le_of_ble_eq_true rfl) rfl ?_
  refine w_la rfl rfl ?_
  refine w_gf rfl (mg_51 _ _) rfl ?_
  refine w_li rfl rfl ?_
  refine w_li rfl rfl ?_
  refine w_is rfl (mg_52 _ _) (show ¬ (3 : Int32) < 0 from by decide) (by rw [ar_len]; exact (show (3 : Int32).toNatClampNeg < 56 from by decide)) (ms_52 _ _ _ _) ?_
  refine w_li rfl rfl ?_
  refine w_ri rfl ?_
  exact ⟨rfl, rfl⟩
set_option maxRecDepth 100000 in
set_option maxHeartbeats 2000000 in
theorem c_set_3 {v : Int32}  : Wm 54 [.ref 0, .int 3, .int v] (mk s0 t0) (Pc (.int (if wi v 0 99 = true then 20 else -1))) := by
  refine Wm.of pT_54 (Nat.le_of_ble_eq_true rfl) (L0 := [some (.ref 0), some (.int 3), some (.int v), none]) rfl ?_
  refine w_li rfl rfl ?_
  refine w_ci rfl ?_
  refine w_ci rfl ?_
  refine w_st3r pl_sub_c rfl (Nat.le_of_ble_eq_true rfl) (r_isWithin) ?_
  refine w_if_eq rfl (fun c6_0 => absurd c6_0 ((show ¬ b2 (wi 3 0 3) = 0 from by decide))) (fun c6_0 => ?_)
  refine w_li rfl rfl ?_
  refine w_ci rfl ?_
  refine w_gs rfl ?_
  refine w_li rfl rfl ?_
  refine w_ia rfl (mrK1 _ _) (show ¬ (3 : Int32) < 0 from by decide) (show ([9, 9, 9, 99] : List Int32)[(3 : Int32).toNatClampNeg]? = some 99 from by decide) ?_
  refine w_st3r pl_sub_c rfl (Nat.le_of_ble_eq_true rfl) (r_isWithin) ?_
  refine w_if_ne rfl (fun c19_0 => ?_) (fun c19_0 => ?_)
  · skip
    replace c19_0 := b2_n c19_0
    refine w_la rfl rfl ?_
    refine w_gf rfl (mg_0 _ _) rfl ?_
    refine w_gf rfl (mg_1 _ _) rfl ?_
    refine w_li rfl rfl ?_
    refine w_ia rfl (mr_2 _ _ _) (show ¬ (3 : Int32) < 0 from by decide) (ar_get (show (3 : Int32).toNatClampNeg < 4 from by decide)) ?_
    refine w_si rfl (Nat.le_of_ble_eq_true rfl) rfl ?_
    refine w_la rfl rfl ?_
    refine w_gf rfl (mg_0 _ _) rfl ?_
    refine w_gf rfl (mg_1 _ _) rfl ?_
    refine w_li rfl rfl ?_
    refine w_li rfl rfl ?_
    refine w_is rfl (mg_2 _ _) (show ¬ (3 : Int32) < 0 from by decide) (by rw [ar_len]; exact (show (3 : Int32).toNatClampNeg < 4 from by decide)) (ms_2 _ _ _ _) ?_
    refine w_li rfl rfl ?_
    refine w_ri rfl ?_
    exact ⟨by first | rfl | (simp_all; done) | (simp_all; rfl) | decide, _, _, rfl, by first | exact Mod0 | exact ((Mod0).up (Nat.le_of_ble_eq_true rfl)) | exact (((Mod0).up (Nat.le_of_ble_eq_true rfl)).up (Nat.le_of_ble_eq_true rfl)) | exact ((((Mod0).up (Nat.le_of_ble_eq_true rfl)).up (Nat.le_of_ble_eq_true rfl)).up (Nat.le_of_ble_eq_true rfl))⟩
  · skip
    replace c19_0 := b2_0 (Decidable.of_not_not c19_0)
    refine w_ci rfl ?_
    refine w_ri rfl ?_
    exact ⟨by first | rfl | (simp_all; done) | (simp_all; rfl) | decide, _, _, rfl, by first | exact Mod0 | exact ((Mod0).up (Nat.le_of_ble_eq_true rfl)) | exact (((Mod0).up (Nat.le_of_ble_eq_true rfl)).up (Nat.le_of_ble_eq_true rfl)) | exact ((((Mod0).up (Nat.le_of_ble_eq_true rfl)).up (Nat.le_of_ble_eq_true rfl)).up (Nat.le_of_ble_eq_true rfl))⟩

set_option maxRecDepth 100000 in
set_option maxHeartbeats 2000000 in
theorem d_set_3 {v : Int32} (s : Nat → Nat → Int32) (t : Nat → Nat → Int64) : Wm 134 [.ref 51, .int 3, .int v] (mk (mS s) (mT t)) (Pm (.int (if wi v 0 99 = true then 20 else -1))) := by
  refine Wm.of pT_134 (Nat.le_of_ble_eq_true rfl) (L0 := [some (.ref 51), some (.int 3), some (.int v)]) rfl ?_
  refine w_li rfl rfl ?_
  refine w_ci rfl ?_
  refine w_ci rfl ?_
  refine w_st3r pl_sub_c rfl (Nat.le_of_ble_eq_true rfl) (m_in) ?_
  refine w_if_eq rfl (fun c6_0 => absurd c6_0 ((show ¬ b2 (wi 3 0 3) = 0 from by decide))) (fun c6_0 => ?_)
  refine w_li rfl rfl ?_
  refine w_ci rfl ?_
  refine w_li rfl rfl ?_
  refine w_st1r pl_sub_c rfl (Nat.le_of_ble_eq_true rfl) (m_mostOf) ?_
  refine w_st3r pl_sub_c rfl (Nat.le_of_ble_eq_true rfl) (m_in) ?_
  refine w_if_eq rfl (fun c18_0 => ?_) (fun c18_0 => ?_)
  · skip
    replace c18_0 := b2_0 c18_0
    refine w_ci rfl ?_
    refine w_ri rfl ?_
    exact ⟨by first | rfl | (simp_all; done) | (simp_all; rfl) | decide, _, _, rfl⟩
  · skip
    replace c18_0 := b2_n c18_0
    refine w_la rfl rfl ?_
    refine w_li rfl rfl ?_
    refine w_li rfl rfl ?_
    refine w_vi2 pl_sub_c rfl (mg_51 _ _) (Nat.le_of_ble_eq_true rfl) (u_becomes_3) (fun r2 h2 q => by rw [q.2]; rfl) (fun r2 h2 q => ?_)
    rw [q.1, q.2]
    refine w_go rfl ?_
    refine w_ri rfl ?_
    exact ⟨by first | rfl | (simp_all; done) | (simp_all; rfl) | decide, _, _, rfl⟩

theorem b_set_3 {v : Int32} : Bth 54 134 [.int 3, .int v] := Bth.of (c_set_3 ) (fun s t => d_set_3  s t)
set_option maxRecDepth 100000 in
set_option maxHeartbeats 2000000 in
theorem c_set_out {x v : Int32} (hx : wi x 0 3 = false) : Wm 54 [.ref 0, .int x, .int v] (mk s0 t0) (Pc (.int (-1))) := by
  refine Wm.of pT_54 (Nat.le_of_ble_eq_true rfl) (L0 := [some (.ref 0), some (.int x), some (.int v), none]) rfl ?_
  refine w_li rfl rfl ?_
  refine w_ci rfl ?_
  refine w_ci rfl ?_
  refine w_st3r pl_sub_c rfl (Nat.le_of_ble_eq_true rfl) (r_isWithin) ?_
  refine w_if_eq rfl (fun c6_0 => ?_) (fun c6_0 => ?_)
  · skip
    replace c6_0 := b2_0 c6_0
    refine w_ci rfl ?_
    refine w_ri rfl ?_
    exact ⟨by first | rfl | (simp_all; done) | (simp_all; rfl) | decide, _, _, rfl, by first | exact Mod0 | exact ((Mod0).up (Nat.le_of_ble_eq_true rfl)) | exact (((Mod0).up (Nat.le_of_ble_eq_true rfl)).up (Nat.le_of_ble_eq_true rfl)) | exact ((((Mod0).up (Nat.le_of_ble_eq_true rfl)).up (Nat.le_of_ble_eq_true rfl)).up (Nat.le_of_ble_eq_true rfl))⟩
  · skip
    replace c6_0 := b2_n c6_0
    exact absurd (hx.symm.trans c6_0) (by decide)

set_option maxRecDepth 100000 in
set_option maxHeartbeats 2000000 in
theorem d_set_out {x v : Int32} (hx : wi x 0 3 = false) (s : Nat → Nat → Int32) (t : Nat → Nat → Int64) : Wm 134 [.ref 51, .int x, .int v] (mk (mS s) (mT t)) (Pm (.int (-1))) := by
  refine Wm.of pT_134 (Nat.le_of_ble_eq_true rfl) (L0 := [some (.ref 51), some (.int x), some (.int v)]) rfl ?_
  refine w_li rfl rfl ?_
  refine w_ci rfl ?_
  refine w_ci rfl ?_
  refine w_st3r pl_sub_c rfl (Nat.le_of_ble_eq_true rfl) (m_in) ?_
  refine w_if_eq rfl (fun c6_0 => ?_) (fun c6_0 => ?_)
  · skip
    replace c6_0 := b2_0 c6_0
    refine w_ci rfl ?_
    refine w_ri rfl ?_
    exact ⟨by first | rfl | (simp_all; done) | (simp_all; rfl) | decide, _, _, rfl⟩
  · skip
    replace c6_0 := b2_n c6_0
    exact absurd (hx.symm.trans c6_0) (by decide)

theorem b_set_out {x v : Int32} (hx : wi x 0 3 = false) : Bth 54 134 [.int x, .int v] := Bth.of (c_set_out hx) (fun s t => d_set_out hx s t)
theorem B_set (x v : Int32) : Bth 54 134 [.int x, .int v] := by
  rcases tf (wi x 0 3) with h | h
  · rcases en3 h with rfl | rfl | rfl | rfl
    · exact b_set_0
    · exact b_set_1
    · exact b_set_2
    · exact b_set_3
  · exact b_set_out h
