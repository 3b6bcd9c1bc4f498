/-! p1: sheet -/
def EB_0 (sv nv : Int32) : Option Value → pm_H → Prop := fun r h => r = none ∧ ∃ f, h = mk (up2 (up2 s0 37 1 sv) 37 2 nv) (upg t0 38 f)
set_option maxRecDepth 100000 in
set_option maxHeartbeats 300000 in
theorem l_begin_0 {sv nv : Int32} : ∀ (m j : Nat) (f : Nat → Int64), j + m = 40 → Wp pl_Kc 29 12 [some (.ref 37), some (.int sv), some (.int nv), some (.int (nI j))] [] (mk (up2 (up2 s0 37 1 sv) 37 2 nv) (upg t0 38 f)) (EB_0 sv nv) := by
  intro m
  induction m with
  | zero =>
    intro j f hj
    obtain rfl : j = 40 := by omega
    refine w_li rfl rfl ?_
    refine w_la rfl rfl ?_
    refine w_gf rfl (mg_37 _ _) rfl ?_
    refine w_len rfl (n := 40) rfl ?_
    refine w_ic_ge rfl (fun c18_0 => ?_) (fun c18_0 => absurd (show nI 40 ≤ nI 40 from nI_le (by omega) (by omega)) c18_0)
    refine w_rv rfl ?_
    exact ⟨rfl, _, rfl⟩
  | succ m ih =>
    intro j f hj
    refine w_li rfl rfl ?_
    refine w_la rfl rfl ?_
    refine w_gf rfl (mg_37 _ _) rfl ?_
    refine w_len rfl (n := 40) rfl ?_
    refine w_ic_ge rfl (fun c18_0 => absurd c18_0 (show ¬ nI 40 ≤ nI j from nI_ge (by omega) (by omega))) (fun c18_0 => ?_)
    refine w_la rfl rfl ?_
    refine w_gf rfl (mg_37 _ _) rfl ?_
    refine w_li rfl rfl ?_
    refine w_cl rfl ?_
    refine w_js rfl (mg_38 _ _) (nI_pos (by omega)) (by rw [ar_len, nI_clamp (by omega)]; omega) (ms_38 _ _ _ _) ?_
    rw [upg_up]
    refine w_inc rfl rfl rfl ?_
    refine w_go rfl ?_
    rw [nI_1]
    exact ih (j + 1) _ (by omega)
set_option maxRecDepth 100000 in
set_option maxHeartbeats 300000 in
theorem u_begin_0 {sv nv : Int32} : Wm 29 [.ref 37, .int sv, .int nv] (mk s0 t0) (EB_0 sv nv) := by
  refine Wm.of pT_29 (Nat.le_of_ble_eq_true rfl) (L0 := [some (.ref 37), some (.int sv), some (.int nv), none]) rfl ?_
  refine w_la rfl rfl ?_
  refine w_li rfl rfl ?_
  refine w_pf rfl rfl (mg_37 _ _) (Nat.le_of_ble_eq_true rfl) (ms_37_1 _ _ _) ?_
  refine w_la rfl rfl ?_
  refine w_li rfl rfl ?_
  refine w_pf rfl rfl (mg_37 _ _) (Nat.le_of_ble_eq_true rfl) (ms_37_2 _ _ _) ?_
  refine w_ci rfl ?_
  refine w_si rfl (Nat.le_of_ble_eq_true rfl) rfl ?_
  rw [show mk (up2 (up2 s0 37 1 sv) 37 2 nv) t0 = mk (up2 (up2 s0 37 1 sv) 37 2 nv) (upg t0 38 (t0 38)) from congrArg (mk (up2 (up2 s0 37 1 sv) 37 2 nv)) upg_self]
  exact l_begin_0 40 0 (t0 38) (by omega)

set_option maxRecDepth 100000 in
set_option maxHeartbeats 300000 in
theorem ly_sheet_0 {sv nv : Int32} : ∀ (m j : Nat) (s : Nat → Nat → Int32) (t : Nat → Nat → Int64), j + m = 40 → Wp pl_Kc 187 64 [some (.ref 51), some (.int 0), some (.int sv), some (.int nv), some (.int (nI j))] [] (mk s t) (Pm (.int 1)) := by
  intro m
  induction m with
  | zero =>
    intro j s t hj
    obtain rfl : j = 40 := by omega
    refine w_li rfl rfl ?_
    refine w_ci rfl ?_
    refine w_ic_ge rfl (fun c68_0 => ?_) (fun c68_0 => absurd (show nI 40 ≤ nI 40 from nI_le (by omega) (by omega)) c68_0)
    refine w_ci rfl ?_
    refine w_ri rfl ?_
    exact ⟨rfl, _, _, rfl⟩
  | succ m ih =>
    intro j s t hj
    refine w_li rfl rfl ?_
    refine w_ci rfl ?_
    refine w_ic_ge rfl (fun c68_0 => absurd c68_0 (show ¬ nI 40 ≤ nI j from nI_ge (by omega) (by omega))) (fun c68_0 => ?_)
    refine w_la rfl rfl ?_
    refine w_gf rfl (mg_51 _ _) rfl ?_
    refine w_ci rfl ?_
    refine w_li rfl rfl ?_
    refine w_imul rfl ?_
    refine w_li rfl rfl ?_
    refine w_iadd rfl ?_
    rw [show (40 : Int32) * 0 + nI j = nI (0 + j) from nI_add 0 j]
    refine w_cl rfl ?_
    refine w_js rfl (mg_62 _ _) (nI_pos (by omega)) (by rw [ar_len, nI_clamp (by omega)]; omega) (ms_62 _ _ _ _) ?_
    refine w_inc rfl rfl rfl ?_
    refine w_go rfl ?_
    rw [nI_1]
    exact ih (j + 1) _ _ (by omega)
set_option maxRecDepth 100000 in
set_option maxHeartbeats 300000 in
theorem c_sheet_os_0 {sv nv : Int32} (hs : wi sv (-1) 3 = false) : Wm 85 [.ref 0, .int 0, .int sv, .int nv] (mk s0 t0) (Pc (.int (-1))) := by
  refine Wm.of pT_85 (Nat.le_of_ble_eq_true rfl) (L0 := [some (.ref 0), some (.int 0), some (.int sv), some (.int nv)]) rfl ?_
  refine w_li rfl rfl ?_
  refine w_st1r pl_sub_c rfl (Nat.le_of_ble_eq_true rfl) (r_isPlace) ?_
  refine w_if_eq rfl (fun c4_0 => absurd c4_0 ((show ¬ b2 (wi 0 0 3) = 0 from by decide))) (fun c4_0 => ?_)
  refine w_li rfl rfl ?_
  refine w_ci rfl ?_
  refine w_ci rfl ?_
  refine w_st3r pl_sub_c rfl (Nat.le_of_ble_eq_true rfl) (r_isWithin) ?_
  refine w_if_ne rfl (fun c13_0 => absurd c13_0 (fun z => absurd (hs.symm.trans (b2_n z)) (by decide))) (fun c13_0 => ?_)
  refine w_ci rfl ?_
  refine w_ri rfl ?_
  exact ⟨rfl, _, _, rfl, by repeat (first | exact Mod0 | refine Mod.uq ?_ (Nat.le_of_ble_eq_true rfl) | refine Mod.up ?_ (Nat.le_of_ble_eq_true rfl))⟩

set_option maxRecDepth 100000 in
set_option maxHeartbeats 300000 in
theorem d_sheet_os_0 {sv nv : Int32} (hs : wi sv (-1) 3 = false) (s : Nat → Nat → Int32) (t : Nat → Nat → Int64) : Wm 187 [.ref 51, .int 0, .int sv, .int nv] (mk (mS s) (mT t)) (Pm (.int (-1))) := by
  refine Wm.of pT_187 (Nat.le_of_ble_eq_true rfl) (L0 := [some (.ref 51), some (.int 0), some (.int sv), some (.int nv), none]) rfl ?_
  refine w_li rfl rfl ?_
  refine w_st1r pl_sub_c rfl (Nat.le_of_ble_eq_true rfl) (m_isShelf) ?_
  refine w_if_eq rfl (fun c4_0 => absurd c4_0 ((show ¬ b2 (wi 0 0 3) = 0 from by decide))) (fun c4_0 => ?_)
  refine w_li rfl rfl ?_
  refine w_ci rfl ?_
  refine w_ci rfl ?_
  refine w_st3r pl_sub_c rfl (Nat.le_of_ble_eq_true rfl) (m_in) ?_
  refine w_if_eq rfl (fun c13_0 => ?_) (fun c13_0 => absurd (show b2 (wi sv (-1) 3) = 0 from by rw [hs]; rfl) c13_0)
  refine w_ci rfl ?_
  refine w_ri rfl ?_
  exact ⟨rfl, _, _, rfl⟩

theorem b_sheet_os_0 {sv nv : Int32} (hs : wi sv (-1) 3 = false) : Bth 85 187 [.int 0, .int sv, .int nv] := Bth.of (c_sheet_os_0 hs) (fun s t => d_sheet_os_0 hs s t)
set_option maxRecDepth 100000 in
set_option maxHeartbeats 300000 in
theorem c_sheet_m1_0 {nv : Int32}  : Wm 85 [.ref 0, .int 0, .int (-1), .int nv] (mk s0 t0) (Pc (.int 1)) := by
  refine Wm.of pT_85 (Nat.le_of_ble_eq_true rfl) (L0 := [some (.ref 0), some (.int 0), some (.int (-1)), some (.int nv)]) rfl ?_
  refine w_li rfl rfl ?_
  refine w_st1r pl_sub_c rfl (Nat.le_of_ble_eq_true rfl) (r_isPlace) ?_
  refine w_if_eq rfl (fun c4_0 => absurd c4_0 ((show ¬ b2 (wi 0 0 3) = 0 from by decide))) (fun c4_0 => ?_)
  refine w_li rfl rfl ?_
  refine w_ci rfl ?_
  refine w_ci rfl ?_
  refine w_st3r pl_sub_c rfl (Nat.le_of_ble_eq_true rfl) (r_isWithin) ?_
  refine w_if_ne rfl (fun c13_0 => ?_) (fun c13_0 => absurd (b2t (show wi (-1) (-1) 3 = true from by decide)) c13_0)
  refine w_li rfl rfl ?_
  refine w_ci rfl ?_
  refine w_ic_ne rfl (fun c20_0 => absurd c20_0 (show ¬ (¬ ((-1) : Int32) = (-1)) from by decide)) (fun c20_0 => ?_)
  refine w_la rfl rfl ?_
  refine w_gf rfl (mg_0 _ _) rfl ?_
  refine w_li rfl rfl ?_
  refine w_aa rfl (mg_35 _ _) (show ¬ (0 : Int32) < 0 from by decide) (q := 37) rfl ?_
  refine w_ci rfl ?_
  refine w_pf rfl rfl (mg_37 _ _) (Nat.le_of_ble_eq_true rfl) (ms_37_1 _ _ _) ?_
  refine w_ci rfl ?_
  refine w_ri rfl ?_
  exact ⟨rfl, _, _, rfl, by repeat (first | exact Mod0 | refine Mod.uq ?_ (Nat.le_of_ble_eq_true rfl) | refine Mod.up ?_ (Nat.le_of_ble_eq_true rfl))⟩

set_option maxRecDepth 100000 in
set_option maxHeartbeats 300000 in
theorem d_sheet_m1_0 {nv : Int32}  (s : Nat → Nat → Int32) (t : Nat → Nat → Int64) : Wm 187 [.ref 51, .int 0, .int (-1), .int nv] (mk (mS s) (mT t)) (Pm (.int 1)) := by
  refine Wm.of pT_187 (Nat.le_of_ble_eq_true rfl) (L0 := [some (.ref 51), some (.int 0), some (.int (-1)), some (.int nv), none]) rfl ?_
  refine w_li rfl rfl ?_
  refine w_st1r pl_sub_c rfl (Nat.le_of_ble_eq_true rfl) (m_isShelf) ?_
  refine w_if_eq rfl (fun c4_0 => absurd c4_0 ((show ¬ b2 (wi 0 0 3) = 0 from by decide))) (fun c4_0 => ?_)
  refine w_li rfl rfl ?_
  refine w_ci rfl ?_
  refine w_ci rfl ?_
  refine w_st3r pl_sub_c rfl (Nat.le_of_ble_eq_true rfl) (m_in) ?_
  refine w_if_eq rfl (fun c13_0 => absurd c13_0 (b2t (show wi (-1) (-1) 3 = true from by decide))) (fun c13_0 => ?_)
  refine w_li rfl rfl ?_
  refine w_if_lt rfl (fun c17_0 => ?_) (fun c17_0 => absurd (show ((-1) : Int32) < 0 from by decide) c17_0)
  refine w_li rfl rfl ?_
  refine w_if_lt rfl (fun c29_0 => ?_) (fun c29_0 => absurd (show ((-1) : Int32) < 0 from by decide) c29_0)
  refine w_la rfl rfl ?_
  refine w_gf rfl (mg_51 _ _) rfl ?_
  refine w_li rfl rfl ?_
  refine w_li rfl rfl ?_
  refine w_is rfl (mg_60 _ _) (show ¬ (0 : Int32) < 0 from by decide) (by rw [ar_len]; exact (show (0 : Int32).toNatClampNeg < 4 from by decide)) (ms_60 _ _ _ _) ?_
  refine w_la rfl rfl ?_
  refine w_gf rfl (mg_51 _ _) rfl ?_
  refine w_li rfl rfl ?_
  refine w_li rfl rfl ?_
  refine w_if_ge rfl (fun c52_0 => absurd c52_0 (show ¬ ((0 : Int32) ≤ (-1)) from by decide)) (fun c52_0 => ?_)
  refine w_ci rfl ?_
  refine w_go rfl ?_
  refine w_is rfl (mg_61 _ _) (show ¬ (0 : Int32) < 0 from by decide) (by rw [ar_len]; exact (show (0 : Int32).toNatClampNeg < 4 from by decide)) (ms_61 _ _ _ _) ?_
  refine w_ci rfl ?_
  refine w_si rfl (Nat.le_of_ble_eq_true rfl) rfl ?_
  exact ly_sheet_0 40 0 _ _ (by omega)

theorem b_sheet_m1_0 {nv : Int32}  : Bth 85 187 [.int 0, .int (-1), .int nv] := Bth.of (c_sheet_m1_0 ) (fun s t => d_sheet_m1_0  s t)
set_option maxRecDepth 100000 in
set_option maxHeartbeats 300000 in
theorem c_sheet_hi_0 {sv nv : Int32} (hs : wi sv (-1) 3 = true) (h1 : ¬ sv = -1) (h2 : ¬ sv < 0) (h3 : ¬ nv ≤ 40) : Wm 85 [.ref 0, .int 0, .int sv, .int nv] (mk s0 t0) (Pc (.int (-1))) := by
  refine Wm.of pT_85 (Nat.le_of_ble_eq_true rfl) (L0 := [some (.ref 0), some (.int 0), some (.int sv), some (.int nv)]) rfl ?_
  refine w_li rfl rfl ?_
  refine w_st1r pl_sub_c rfl (Nat.le_of_ble_eq_true rfl) (r_isPlace) ?_
  refine w_if_eq rfl (fun c4_0 => absurd c4_0 ((show ¬ b2 (wi 0 0 3) = 0 from by decide))) (fun c4_0 => ?_)
  refine w_li rfl rfl ?_
  refine w_ci rfl ?_
  refine w_ci rfl ?_
  refine w_st3r pl_sub_c rfl (Nat.le_of_ble_eq_true rfl) (r_isWithin) ?_
  refine w_if_ne rfl (fun c13_0 => ?_) (fun c13_0 => absurd (b2t hs) c13_0)
  refine w_li rfl rfl ?_
  refine w_ci rfl ?_
  refine w_ic_ne rfl (fun c20_0 => ?_) (fun c20_0 => absurd (h1) c20_0)
  refine w_li rfl rfl ?_
  refine w_ci rfl ?_
  refine w_ic_le rfl (fun c38_0 => absurd c38_0 (h3)) (fun c38_0 => ?_)
  refine w_ci rfl ?_
  refine w_ri rfl ?_
  exact ⟨rfl, _, _, rfl, by repeat (first | exact Mod0 | refine Mod.uq ?_ (Nat.le_of_ble_eq_true rfl) | refine Mod.up ?_ (Nat.le_of_ble_eq_true rfl))⟩

set_option maxRecDepth 100000 in
set_option maxHeartbeats 300000 in
theorem d_sheet_hi_0 {sv nv : Int32} (hs : wi sv (-1) 3 = true) (h1 : ¬ sv = -1) (h2 : ¬ sv < 0) (h3 : ¬ nv ≤ 40) (s : Nat → Nat → Int32) (t : Nat → Nat → Int64) : Wm 187 [.ref 51, .int 0, .int sv, .int nv] (mk (mS s) (mT t)) (Pm (.int (-1))) := by
  refine Wm.of pT_187 (Nat.le_of_ble_eq_true rfl) (L0 := [some (.ref 51), some (.int 0), some (.int sv), some (.int nv), none]) rfl ?_
  refine w_li rfl rfl ?_
  refine w_st1r pl_sub_c rfl (Nat.le_of_ble_eq_true rfl) (m_isShelf) ?_
  refine w_if_eq rfl (fun c4_0 => absurd c4_0 ((show ¬ b2 (wi 0 0 3) = 0 from by decide))) (fun c4_0 => ?_)
  refine w_li rfl rfl ?_
  refine w_ci rfl ?_
  refine w_ci rfl ?_
  refine w_st3r pl_sub_c rfl (Nat.le_of_ble_eq_true rfl) (m_in) ?_
  refine w_if_eq rfl (fun c13_0 => absurd c13_0 (b2t hs)) (fun c13_0 => ?_)
  refine w_li rfl rfl ?_
  refine w_if_lt rfl (fun c17_0 => absurd c17_0 (h2)) (fun c17_0 => ?_)
  refine w_li rfl rfl ?_
  refine w_ci rfl ?_
  refine w_ic_le rfl (fun c23_0 => absurd c23_0 (h3)) (fun c23_0 => ?_)
  refine w_ci rfl ?_
  refine w_ri rfl ?_
  exact ⟨rfl, _, _, rfl⟩

theorem b_sheet_hi_0 {sv nv : Int32} (hs : wi sv (-1) 3 = true) (h1 : ¬ sv = -1) (h2 : ¬ sv < 0) (h3 : ¬ nv ≤ 40) : Bth 85 187 [.int 0, .int sv, .int nv] := Bth.of (c_sheet_hi_0 hs h1 h2 h3) (fun s t => d_sheet_hi_0 hs h1 h2 h3 s t)
set_option maxRecDepth 100000 in
set_option maxHeartbeats 300000 in
theorem c_sheet_lo_0 {sv nv : Int32} (hs : wi sv (-1) 3 = true) (h1 : ¬ sv = -1) (h2 : ¬ sv < 0) (h3 : nv ≤ 40) (h4 : ¬ 0 ≤ nv) : Wm 85 [.ref 0, .int 0, .int sv, .int nv] (mk s0 t0) (Pc (.int (-14))) := by
  refine Wm.of pT_85 (Nat.le_of_ble_eq_true rfl) (L0 := [some (.ref 0), some (.int 0), some (.int sv), some (.int nv)]) rfl ?_
  refine w_li rfl rfl ?_
  refine w_st1r pl_sub_c rfl (Nat.le_of_ble_eq_true rfl) (r_isPlace) ?_
  refine w_if_eq rfl (fun c4_0 => absurd c4_0 ((show ¬ b2 (wi 0 0 3) = 0 from by decide))) (fun c4_0 => ?_)
  refine w_li rfl rfl ?_
  refine w_ci rfl ?_
  refine w_ci rfl ?_
  refine w_st3r pl_sub_c rfl (Nat.le_of_ble_eq_true rfl) (r_isWithin) ?_
  refine w_if_ne rfl (fun c13_0 => ?_) (fun c13_0 => absurd (b2t hs) c13_0)
  refine w_li rfl rfl ?_
  refine w_ci rfl ?_
  refine w_ic_ne rfl (fun c20_0 => ?_) (fun c20_0 => absurd (h1) c20_0)
  refine w_li rfl rfl ?_
  refine w_ci rfl ?_
  refine w_ic_le rfl (fun c38_0 => ?_) (fun c38_0 => absurd (h3) c38_0)
  refine w_li rfl rfl ?_
  refine w_if_ge rfl (fun c44_0 => absurd c44_0 (h4)) (fun c44_0 => ?_)
  refine w_ci rfl ?_
  refine w_ri rfl ?_
  exact ⟨rfl, _, _, rfl, by repeat (first | exact Mod0 | refine Mod.uq ?_ (Nat.le_of_ble_eq_true rfl) | refine Mod.up ?_ (Nat.le_of_ble_eq_true rfl))⟩

set_option maxRecDepth 100000 in
set_option maxHeartbeats 300000 in
theorem d_sheet_lo_0 {sv nv : Int32} (hs : wi sv (-1) 3 = true) (h1 : ¬ sv = -1) (h2 : ¬ sv < 0) (h3 : nv ≤ 40) (h4 : ¬ 0 ≤ nv) (s : Nat → Nat → Int32) (t : Nat → Nat → Int64) : Wm 187 [.ref 51, .int 0, .int sv, .int nv] (mk (mS s) (mT t)) (Pm (.int (-14))) := by
  refine Wm.of pT_187 (Nat.le_of_ble_eq_true rfl) (L0 := [some (.ref 51), some (.int 0), some (.int sv), some (.int nv), none]) rfl ?_
  refine w_li rfl rfl ?_
  refine w_st1r pl_sub_c rfl (Nat.le_of_ble_eq_true rfl) (m_isShelf) ?_
  refine w_if_eq rfl (fun c4_0 => absurd c4_0 ((show ¬ b2 (wi 0 0 3) = 0 from by decide))) (fun c4_0 => ?_)
  refine w_li rfl rfl ?_
  refine w_ci rfl ?_
  refine w_ci rfl ?_
  refine w_st3r pl_sub_c rfl (Nat.le_of_ble_eq_true rfl) (m_in) ?_
  refine w_if_eq rfl (fun c13_0 => absurd c13_0 (b2t hs)) (fun c13_0 => ?_)
  refine w_li rfl rfl ?_
  refine w_if_lt rfl (fun c17_0 => absurd c17_0 (h2)) (fun c17_0 => ?_)
  refine w_li rfl rfl ?_
  refine w_ci rfl ?_
  refine w_ic_le rfl (fun c23_0 => ?_) (fun c23_0 => absurd (h3) c23_0)
  refine w_li rfl rfl ?_
  refine w_if_lt rfl (fun c29_0 => absurd c29_0 (h2)) (fun c29_0 => ?_)
  refine w_li rfl rfl ?_
  refine w_if_ge rfl (fun c33_0 => absurd c33_0 (h4)) (fun c33_0 => ?_)
  refine w_ci rfl ?_
  refine w_ri rfl ?_
  exact ⟨rfl, _, _, rfl⟩

theorem b_sheet_lo_0 {sv nv : Int32} (hs : wi sv (-1) 3 = true) (h1 : ¬ sv = -1) (h2 : ¬ sv < 0) (h3 : nv ≤ 40) (h4 : ¬ 0 ≤ nv) : Bth 85 187 [.int 0, .int sv, .int nv] := Bth.of (c_sheet_lo_0 hs h1 h2 h3 h4) (fun s t => d_sheet_lo_0 hs h1 h2 h3 h4 s t)
set_option maxRecDepth 100000 in
set_option maxHeartbeats 300000 in
theorem c_sheet_ok_0 {sv nv : Int32} (hs : wi sv (-1) 3 = true) (h1 : ¬ sv = -1) (h2 : ¬ sv < 0) (h3 : nv ≤ 40) (h4 : 0 ≤ nv) : Wm 85 [.ref 0, .int 0, .int sv, .int nv] (mk s0 t0) (Pc (.int 1)) := by
  refine Wm.of pT_85 (Nat.le_of_ble_eq_true rfl) (L0 := [some (.ref 0), some (.int 0), some (.int sv), some (.int nv)]) rfl ?_
  refine w_li rfl rfl ?_
  refine w_st1r pl_sub_c rfl (Nat.le_of_ble_eq_true rfl) (r_isPlace) ?_
  refine w_if_eq rfl (fun c4_0 => absurd c4_0 ((show ¬ b2 (wi 0 0 3) = 0 from by decide))) (fun c4_0 => ?_)
  refine w_li rfl rfl ?_
  refine w_ci rfl ?_
  refine w_ci rfl ?_
  refine w_st3r pl_sub_c rfl (Nat.le_of_ble_eq_true rfl) (r_isWithin) ?_
  refine w_if_ne rfl (fun c13_0 => ?_) (fun c13_0 => absurd (b2t hs) c13_0)
  refine w_li rfl rfl ?_
  refine w_ci rfl ?_
  refine w_ic_ne rfl (fun c20_0 => ?_) (fun c20_0 => absurd (h1) c20_0)
  refine w_li rfl rfl ?_
  refine w_ci rfl ?_
  refine w_ic_le rfl (fun c38_0 => ?_) (fun c38_0 => absurd (h3) c38_0)
  refine w_li rfl rfl ?_
  refine w_if_ge rfl (fun c44_0 => ?_) (fun c44_0 => absurd (h4) c44_0)
  refine w_la rfl rfl ?_
  refine w_gf rfl (mg_0 _ _) rfl ?_
  refine w_li rfl rfl ?_
  refine w_aa rfl (mg_35 _ _) (show ¬ (0 : Int32) < 0 from by decide) (q := 37) rfl ?_
  refine w_li rfl rfl ?_
  refine w_li rfl rfl ?_
  refine w_vi2 pl_sub_c rfl (mg_37 _ _) (Nat.le_of_ble_eq_true rfl) (u_begin_0) (fun r2 h2 q => by obtain ⟨_, _, q⟩ := q; rw [q]; rfl) (fun r2 h2 q => ?_)
  obtain ⟨q1, f, q2⟩ := q
  rw [q1, q2]
  refine w_ci rfl ?_
  refine w_ri rfl ?_
  exact ⟨rfl, _, _, rfl, by repeat (first | exact Mod0 | refine Mod.uq ?_ (Nat.le_of_ble_eq_true rfl) | refine Mod.up ?_ (Nat.le_of_ble_eq_true rfl))⟩

set_option maxRecDepth 100000 in
set_option maxHeartbeats 300000 in
theorem d_sheet_ok_0 {sv nv : Int32} (hs : wi sv (-1) 3 = true) (h1 : ¬ sv = -1) (h2 : ¬ sv < 0) (h3 : nv ≤ 40) (h4 : 0 ≤ nv) (s : Nat → Nat → Int32) (t : Nat → Nat → Int64) : Wm 187 [.ref 51, .int 0, .int sv, .int nv] (mk (mS s) (mT t)) (Pm (.int 1)) := by
  refine Wm.of pT_187 (Nat.le_of_ble_eq_true rfl) (L0 := [some (.ref 51), some (.int 0), some (.int sv), some (.int nv), none]) rfl ?_
  refine w_li rfl rfl ?_
  refine w_st1r pl_sub_c rfl (Nat.le_of_ble_eq_true rfl) (m_isShelf) ?_
  refine w_if_eq rfl (fun c4_0 => absurd c4_0 ((show ¬ b2 (wi 0 0 3) = 0 from by decide))) (fun c4_0 => ?_)
  refine w_li rfl rfl ?_
  refine w_ci rfl ?_
  refine w_ci rfl ?_
  refine w_st3r pl_sub_c rfl (Nat.le_of_ble_eq_true rfl) (m_in) ?_
  refine w_if_eq rfl (fun c13_0 => absurd c13_0 (b2t hs)) (fun c13_0 => ?_)
  refine w_li rfl rfl ?_
  refine w_if_lt rfl (fun c17_0 => absurd c17_0 (h2)) (fun c17_0 => ?_)
  refine w_li rfl rfl ?_
  refine w_ci rfl ?_
  refine w_ic_le rfl (fun c23_0 => ?_) (fun c23_0 => absurd (h3) c23_0)
  refine w_li rfl rfl ?_
  refine w_if_lt rfl (fun c29_0 => absurd c29_0 (h2)) (fun c29_0 => ?_)
  refine w_li rfl rfl ?_
  refine w_if_ge rfl (fun c33_0 => ?_) (fun c33_0 => absurd (h4) c33_0)
  refine w_la rfl rfl ?_
  refine w_gf rfl (mg_51 _ _) rfl ?_
  refine w_li rfl rfl ?_
  refine w_li rfl rfl ?_
  refine w_is rfl (mg_60 _ _) (show ¬ (0 : Int32) < 0 from by decide) (by rw [ar_len]; exact (show (0 : Int32).toNatClampNeg < 4 from by decide)) (ms_60 _ _ _ _) ?_
  refine w_la rfl rfl ?_
  refine w_gf rfl (mg_51 _ _) rfl ?_
  refine w_li rfl rfl ?_
  refine w_li rfl rfl ?_
  refine w_if_ge rfl (fun c52_0 => ?_) (fun c52_0 => ?_)
  · skip
    refine w_li rfl rfl ?_
    refine w_is rfl (mg_61 _ _) (show ¬ (0 : Int32) < 0 from by decide) (by rw [ar_len]; exact (show (0 : Int32).toNatClampNeg < 4 from by decide)) (ms_61 _ _ _ _) ?_
    refine w_ci rfl ?_
    refine w_si rfl (Nat.le_of_ble_eq_true rfl) rfl ?_
    exact ly_sheet_0 40 0 _ _ (by omega)
  · skip
    refine w_ci rfl ?_
    refine w_go rfl ?_
    refine w_is rfl (mg_61 _ _) (show ¬ (0 : Int32) < 0 from by decide) (by rw [ar_len]; exact (show (0 : Int32).toNatClampNeg < 4 from by decide)) (ms_61 _ _ _ _) ?_
    refine w_ci rfl ?_
    refine w_si rfl (Nat.le_of_ble_eq_true rfl) rfl ?_
    exact ly_sheet_0 40 0 _ _ (by omega)

theorem b_sheet_ok_0 {sv nv : Int32} (hs : wi sv (-1) 3 = true) (h1 : ¬ sv = -1) (h2 : ¬ sv < 0) (h3 : nv ≤ 40) (h4 : 0 ≤ nv) : Bth 85 187 [.int 0, .int sv, .int nv] := Bth.of (c_sheet_ok_0 hs h1 h2 h3 h4) (fun s t => d_sheet_ok_0 hs h1 h2 h3 h4 s t)
def EB_1 (sv nv : Int32) : Option Value → pm_H → Prop := fun r h => r = none ∧ ∃ f, h = mk (up2 (up2 s0 40 1 sv) 40 2 nv) (upg t0 41 f)
set_option maxRecDepth 100000 in
set_option maxHeartbeats 300000 in
theorem l_begin_1 {sv nv : Int32} : ∀ (m j : Nat) (f : Nat → Int64), j + m = 40 → Wp pl_Kc 29 12 [some (.ref 40), some (.int sv), some (.int nv), some (.int (nI j))] [] (mk (up2 (up2 s0 40 1 sv) 40 2 nv) (upg t0 41 f)) (EB_1 sv nv) := by
  intro m
  induction m with
  | zero =>
    intro j f hj
    obtain rfl : j = 40 := by omega
    refine w_li rfl rfl ?_
    refine w_la rfl rfl ?_
    refine w_gf rfl (mg_40 _ _) rfl ?_
    refine w_len rfl (n := 40) rfl ?_
    refine w_ic_ge rfl (fun c18_0 => ?_) (fun c18_0 => absurd (show nI 40 ≤ nI 40 from nI_le (by omega) (by omega)) c18_0)
    refine w_rv rfl ?_
    exact ⟨rfl, _, rfl⟩
  | succ m ih =>
    intro j f hj
    refine w_li rfl rfl ?_
    refine w_la rfl rfl ?_
    refine w_gf rfl (mg_40 _ _) rfl ?_
    refine w_len rfl (n := 40) rfl ?_
    refine w_ic_ge rfl (fun c18_0 => absurd c18_0 (show ¬ nI 40 ≤ nI j from nI_ge (by omega) (by omega))) (fun c18_0 => ?_)
    refine w_la rfl rfl ?_
    refine w_gf rfl (mg_40 _ _) rfl ?_
    refine w_li rfl rfl ?_
    refine w_cl rfl ?_
    refine w_js rfl (mg_41 _ _) (nI_pos (by omega)) (by rw [ar_len, nI_clamp (by omega)]; omega) (ms_41 _ _ _ _) ?_
    rw [upg_up]
    refine w_inc rfl rfl rfl ?_
    refine w_go rfl ?_
    rw [nI_1]
    exact ih (j + 1) _ (by omega)
set_option maxRecDepth 100000 in
set_option maxHeartbeats 300000 in
theorem u_begin_1 {sv nv : Int32} : Wm 29 [.ref 40, .int sv, .int nv] (mk s0 t0) (EB_1 sv nv) := by
  refine Wm.of pT_29 (Nat.le_of_ble_eq_true rfl) (L0 := [some (.ref 40), some (.int sv), some (.int nv), none]) rfl ?_
  refine w_la rfl rfl ?_
  refine w_li rfl rfl ?_
  refine w_pf rfl rfl (mg_40 _ _) (Nat.le_of_ble_eq_true rfl) (ms_40_1 _ _ _) ?_
  refine w_la rfl rfl ?_
  refine w_li rfl rfl ?_
  refine w_pf rfl rfl (mg_40 _ _) (Nat.le_of_ble_eq_true rfl) (ms_40_2 _ _ _) ?_
  refine w_ci rfl ?_
  refine w_si rfl (Nat.le_of_ble_eq_true rfl) rfl ?_
  rw [show mk (up2 (up2 s0 40 1 sv) 40 2 nv) t0 = mk (up2 (up2 s0 40 1 sv) 40 2 nv) (upg t0 41 (t0 41)) from congrArg (mk (up2 (up2 s0 40 1 sv) 40 2 nv)) upg_self]
  exact l_begin_1 40 0 (t0 41) (by omega)

set_option maxRecDepth 100000 in
set_option maxHeartbeats 300000 in
theorem ly_sheet_1 {sv nv : Int32} : ∀ (m j : Nat) (s : Nat → Nat → Int32) (t : Nat → Nat → Int64), j + m = 40 → Wp pl_Kc 187 64 [some (.ref 51), some (.int 1), some (.int sv), some (.int nv), some (.int (nI j))] [] (mk s t) (Pm (.int 1)) := by
  intro m
  induction m with
  | zero =>
    intro j s t hj
    obtain rfl : j = 40 := by omega
    refine w_li rfl rfl ?_
    refine w_ci rfl ?_
    refine w_ic_ge rfl (fun c68_0 => ?_) (fun c68_0 => absurd (show nI 40 ≤ nI 40 from nI_le (by omega) (by omega)) c68_0)
    refine w_ci rfl ?_
    refine w_ri rfl ?_
    exact ⟨rfl, _, _, rfl⟩
  | succ m ih =>
    intro j s t hj
    refine w_li rfl rfl ?_
    refine w_ci rfl ?_
    refine w_ic_ge rfl (fun c68_0 => absurd c68_0 (show ¬ nI 40 ≤ nI j from nI_ge (by omega) (by omega))) (fun c68_0 => ?_)
    refine w_la rfl rfl ?_
    refine w_gf rfl (mg_51 _ _) rfl ?_
    refine w_ci rfl ?_
    refine w_li rfl rfl ?_
    refine w_imul rfl ?_
    refine w_li rfl rfl ?_
    refine w_iadd rfl ?_
    rw [show (40 : Int32) * 1 + nI j = nI (40 + j) from nI_add 40 j]
    refine w_cl rfl ?_
    refine w_js rfl (mg_62 _ _) (nI_pos (by omega)) (by rw [ar_len, nI_clamp (by omega)]; omega) (ms_62 _ _ _ _) ?_
    refine w_inc rfl rfl rfl ?_
    refine w_go rfl ?_
    rw [nI_1]
    exact ih (j + 1) _ _ (by omega)
set_option maxRecDepth 100000 in
set_option maxHeartbeats 300000 in
theorem c_sheet_os_1 {sv nv : Int32} (hs : wi sv (-1) 3 = false) : Wm 85 [.ref 0, .int 1, .int sv, .int nv] (mk s0 t0) (Pc (.int (-1))) := by
  refine Wm.of pT_85 (Nat.le_of_ble_eq_true rfl) (L0 := [some (.ref 0), some (.int 1), some (.int sv), some (.int nv)]) rfl ?_
  refine w_li rfl rfl ?_
  refine w_st1r pl_sub_c rfl (Nat.le_of_ble_eq_true rfl) (r_isPlace) ?_
  refine w_if_eq rfl (fun c4_0 => absurd c4_0 ((show ¬ b2 (wi 1 0 3) = 0 from by decide))) (fun c4_0 => ?_)
  refine w_li rfl rfl ?_
  refine w_ci rfl ?_
  refine w_ci rfl ?_
  refine w_st3r pl_sub_c rfl (Nat.le_of_ble_eq_true rfl) (r_isWithin) ?_
  refine w_if_ne rfl (fun c13_0 => absurd c13_0 (fun z => absurd (hs.symm.trans (b2_n z)) (by decide))) (fun c13_0 => ?_)
  refine w_ci rfl ?_
  refine w_ri rfl ?_
  exact ⟨rfl, _, _, rfl, by repeat (first | exact Mod0 | refine Mod.uq ?_ (Nat.le_of_ble_eq_true rfl) | refine Mod.up ?_ (Nat.le_of_ble_eq_true rfl))⟩

set_option maxRecDepth 100000 in
set_option maxHeartbeats 300000 in
theorem d_sheet_os_1 {sv nv : Int32} (hs : wi sv (-1) 3 = false) (s : Nat → Nat → Int32) (t : Nat → Nat → Int64) : Wm 187 [.ref 51, .int 1, .int sv, .int nv] (mk (mS s) (mT t)) (Pm (.int (-1))) := by
  refine Wm.of pT_187 (Nat.le_of_ble_eq_true rfl) (L0 := [some (.ref 51), some (.int 1), some (.int sv), some (.int nv), none]) rfl ?_
  refine w_li rfl rfl ?_
  refine w_st1r pl_sub_c rfl (Nat.le_of_ble_eq_true rfl) (m_isShelf) ?_
  refine w_if_eq rfl (fun c4_0 => absurd c4_0 ((show ¬ b2 (wi 1 0 3) = 0 from by decide))) (fun c4_0 => ?_)
  refine w_li rfl rfl ?_
  refine w_ci rfl ?_
  refine w_ci rfl ?_
  refine w_st3r pl_sub_c rfl (Nat.le_of_ble_eq_true rfl) (m_in) ?_
  refine w_if_eq rfl (fun c13_0 => ?_) (fun c13_0 => absurd (show b2 (wi sv (-1) 3) = 0 from by rw [hs]; rfl) c13_0)
  refine w_ci rfl ?_
  refine w_ri rfl ?_
  exact ⟨rfl, _, _, rfl⟩

theorem b_sheet_os_1 {sv nv : Int32} (hs : wi sv (-1) 3 = false) : Bth 85 187 [.int 1, .int sv, .int nv] := Bth.of (c_sheet_os_1 hs) (fun s t => d_sheet_os_1 hs s t)
set_option maxRecDepth 100000 in
set_option maxHeartbeats 300000 in
theorem c_sheet_m1_1 {nv : Int32}  : Wm 85 [.ref 0, .int 1, .int (-1), .int nv] (mk s0 t0) (Pc (.int 1)) := by
  refine Wm.of pT_85 (Nat.le_of_ble_eq_true rfl) (L0 := [some (.ref 0), some (.int 1), some (.int (-1)), some (.int nv)]) rfl ?_
  refine w_li rfl rfl ?_
  refine w_st1r pl_sub_c rfl (Nat.le_of_ble_eq_true rfl) (r_isPlace) ?_
  refine w_if_eq rfl (fun c4_0 => absurd c4_0 ((show ¬ b2 (wi 1 0 3) = 0 from by decide))) (fun c4_0 => ?_)
  refine w_li rfl rfl ?_
  refine w_ci rfl ?_
  refine w_ci rfl ?_
  refine w_st3r pl_sub_c rfl (Nat.le_of_ble_eq_true rfl) (r_isWithin) ?_
  refine w_if_ne rfl (fun c13_0 => ?_) (fun c13_0 => absurd (b2t (show wi (-1) (-1) 3 = true from by decide)) c13_0)
  refine w_li rfl rfl ?_
  refine w_ci rfl ?_
  refine w_ic_ne rfl (fun c20_0 => absurd c20_0 (show ¬ (¬ ((-1) : Int32) = (-1)) from by decide)) (fun c20_0 => ?_)
  refine w_la rfl rfl ?_
  refine w_gf rfl (mg_0 _ _) rfl ?_
  refine w_li rfl rfl ?_
  refine w_aa rfl (mg_35 _ _) (show ¬ (1 : Int32) < 0 from by decide) (q := 40) rfl ?_
  refine w_ci rfl ?_
  refine w_pf rfl rfl (mg_40 _ _) (Nat.le_of_ble_eq_true rfl) (ms_40_1 _ _ _) ?_
  refine w_ci rfl ?_
  refine w_ri rfl ?_
  exact ⟨rfl, _, _, rfl, by repeat (first | exact Mod0 | refine Mod.uq ?_ (Nat.le_of_ble_eq_true rfl) | refine Mod.up ?_ (Nat.le_of_ble_eq_true rfl))⟩

set_option maxRecDepth 100000 in
set_option maxHeartbeats 300000 in
theorem d_sheet_m1_1 {nv : Int32}  (s : Nat → Nat → Int32) (t : Nat → Nat → Int64) : Wm 187 [.ref 51, .int 1, .int (-1), .int nv] (mk (mS s) (mT t)) (Pm (.int 1)) := by
  refine Wm.of pT_187 (Nat.le_of_ble_eq_true rfl) (L0 := [some (.ref 51), some (.int 1), some (.int (-1)), some (.int nv), none]) rfl ?_
  refine w_li rfl rfl ?_
  refine w_st1r pl_sub_c rfl (Nat.le_of_ble_eq_true rfl) (m_isShelf) ?_
  refine w_if_eq rfl (fun c4_0 => absurd c4_0 ((show ¬ b2 (wi 1 0 3) = 0 from by decide))) (fun c4_0 => ?_)
  refine w_li rfl rfl ?_
  refine w_ci rfl ?_
  refine w_ci rfl ?_
  refine w_st3r pl_sub_c rfl (Nat.le_of_ble_eq_true rfl) (m_in) ?_
  refine w_if_eq rfl (fun c13_0 => absurd c13_0 (b2t (show wi (-1) (-1) 3 = true from by decide))) (fun c13_0 => ?_)
  refine w_li rfl rfl ?_
  refine w_if_lt rfl (fun c17_0 => ?_) (fun c17_0 => absurd (show ((-1) : Int32) < 0 from by decide) c17_0)
  refine w_li rfl rfl ?_
  refine w_if_lt rfl (fun c29_0 => ?_) (fun c29_0 => absurd (show ((-1) : Int32) < 0 from by decide) c29_0)
  refine w_la rfl rfl ?_
  refine w_gf rfl (mg_51 _ _) rfl ?_
  refine w_li rfl rfl ?_
  refine w_li rfl rfl ?_
  refine w_is rfl (mg_60 _ _) (show ¬ (1 : Int32) < 0 from by decide) (by rw [ar_len]; exact (show (1 : Int32).toNatClampNeg < 4 from by decide)) (ms_60 _ _ _ _) ?_
  refine w_la rfl rfl ?_
  refine w_gf rfl (mg_51 _ _) rfl ?_
  refine w_li rfl rfl ?_
  refine w_li rfl rfl ?_
  refine w_if_ge rfl (fun c52_0 => absurd c52_0 (show ¬ ((0 : Int32) ≤ (-1)) from by decide)) (fun c52_0 => ?_)
  refine w_ci rfl ?_
  refine w_go rfl ?_
  refine w_is rfl (mg_61 _ _) (show ¬ (1 : Int32) < 0 from by decide) (by rw [ar_len]; exact (show (1 : Int32).toNatClampNeg < 4 from by decide)) (ms_61 _ _ _ _) ?_
  refine w_ci rfl ?_
  refine w_si rfl (Nat.le_of_ble_eq_true rfl) rfl ?_
  exact ly_sheet_1 40 0 _ _ (by omega)

theorem b_sheet_m1_1 {nv : Int32}  : Bth 85 187 [.int 1, .int (-1), .int nv] := Bth.of (c_sheet_m1_1 ) (fun s t => d_sheet_m1_1  s t)
set_option maxRecDepth 100000 in
set_option maxHeartbeats 300000 in
theorem c_sheet_hi_1 {sv nv : Int32} (hs : wi sv (-1) 3 = true) (h1 : ¬ sv = -1) (h2 : ¬ sv < 0) (h3 : ¬ nv ≤ 40) : Wm 85 [.ref 0, .int 1, .int sv, .int nv] (mk s0 t0) (Pc (.int (-1))) := by
  refine Wm.of pT_85 (Nat.le_of_ble_eq_true rfl) (L0 := [some (.ref 0), some (.int 1), some (.int sv), some (.int nv)]) rfl ?_
  refine w_li rfl rfl ?_
  refine w_st1r pl_sub_c rfl (Nat.le_of_ble_eq_true rfl) (r_isPlace) ?_
  refine w_if_eq rfl (fun c4_0 => absurd c4_0 ((show ¬ b2 (wi 1 0 3) = 0 from by decide))) (fun c4_0 => ?_)
  refine w_li rfl rfl ?_
  refine w_ci rfl ?_
  refine w_ci rfl ?_
  refine w_st3r pl_sub_c rfl (Nat.le_of_ble_eq_true rfl) (r_isWithin) ?_
  refine w_if_ne rfl (fun c13_0 => ?_) (fun c13_0 => absurd (b2t hs) c13_0)
  refine w_li rfl rfl ?_
  refine w_ci rfl ?_
  refine w_ic_ne rfl (fun c20_0 => ?_) (fun c20_0 => absurd (h1) c20_0)
  refine w_li rfl rfl ?_
  refine w_ci rfl ?_
  refine w_ic_le rfl (fun c38_0 => absurd c38_0 (h3)) (fun c38_0 => ?_)
  refine w_ci rfl ?_
  refine w_ri rfl ?_
  exact ⟨rfl, _, _, rfl, by repeat (first | exact Mod0 | refine Mod.uq ?_ (Nat.le_of_ble_eq_true rfl) | refine Mod.up ?_ (Nat.le_of_ble_eq_true rfl))⟩

set_option maxRecDepth 100000 in
set_option maxHeartbeats 300000 in
theorem d_sheet_hi_1 {sv nv : Int32} (hs : wi sv (-1) 3 = true) (h1 : ¬ sv = -1) (h2 : ¬ sv < 0) (h3 : ¬ nv ≤ 40) (s : Nat → Nat → Int32) (t : Nat → Nat → Int64) : Wm 187 [.ref 51, .int 1, .int sv, .int nv] (mk (mS s) (mT t)) (Pm (.int (-1))) := by
  refine Wm.of pT_187 (Nat.le_of_ble_eq_true rfl) (L0 := [some (.ref 51), some (.int 1), some (.int sv), some (.int nv), none]) rfl ?_
  refine w_li rfl rfl ?_
  refine w_st1r pl_sub_c rfl (Nat.le_of_ble_eq_true rfl) (m_isShelf) ?_
  refine w_if_eq rfl (fun c4_0 => absurd c4_0 ((show ¬ b2 (wi 1 0 3) = 0 from by decide))) (fun c4_0 => ?_)
  refine w_li rfl rfl ?_
  refine w_ci rfl ?_
  refine w_ci rfl ?_
  refine w_st3r pl_sub_c rfl (Nat.le_of_ble_eq_true rfl) (m_in) ?_
  refine w_if_eq rfl (fun c13_0 => absurd c13_0 (b2t hs)) (fun c13_0 => ?_)
  refine w_li rfl rfl ?_
  refine w_if_lt rfl (fun c17_0 => absurd c17_0 (h2)) (fun c17_0 => ?_)
  refine w_li rfl rfl ?_
  refine w_ci rfl ?_
  refine w_ic_le rfl (fun c23_0 => absurd c23_0 (h3)) (fun c23_0 => ?_)
  refine w_ci rfl ?_
  refine w_ri rfl ?_
  exact ⟨rfl, _, _, rfl⟩

theorem b_sheet_hi_1 {sv nv : Int32} (hs : wi sv (-1) 3 = true) (h1 : ¬ sv = -1) (h2 : ¬ sv < 0) (h3 : ¬ nv ≤ 40) : Bth 85 187 [.int 1, .int sv, .int nv] := Bth.of (c_sheet_hi_1 hs h1 h2 h3) (fun s t => d_sheet_hi_1 hs h1 h2 h3 s t)
set_option maxRecDepth 100000 in
set_option maxHeartbeats 300000 in
theorem c_sheet_lo_1 {sv nv : Int32} (hs : wi sv (-1) 3 = true) (h1 : ¬ sv = -1) (h2 : ¬ sv < 0) (h3 : nv ≤ 40) (h4 : ¬ 0 ≤ nv) : Wm 85 [.ref 0, .int 1, .int sv, .int nv] (mk s0 t0) (Pc (.int (-14))) := by
  refine Wm.of pT_85 (Nat.le_of_ble_eq_true rfl) (L0 := [some (.ref 0), some (.int 1), some (.int sv), some (.int nv)]) rfl ?_
  refine w_li rfl rfl ?_
  refine w_st1r pl_sub_c rfl (Nat.le_of_ble_eq_true rfl) (r_isPlace) ?_
  refine w_if_eq rfl (fun c4_0 => absurd c4_0 ((show ¬ b2 (wi 1 0 3) = 0 from by decide))) (fun c4_0 => ?_)
  refine w_li rfl rfl ?_
  refine w_ci rfl ?_
  refine w_ci rfl ?_
  refine w_st3r pl_sub_c rfl (Nat.le_of_ble_eq_true rfl) (r_isWithin) ?_
  refine w_if_ne rfl (fun c13_0 => ?_) (fun c13_0 => absurd (b2t hs) c13_0)
  refine w_li rfl rfl ?_
  refine w_ci rfl ?_
  refine w_ic_ne rfl (fun c20_0 => ?_) (fun c20_0 => absurd (h1) c20_0)
  refine w_li rfl rfl ?_
  refine w_ci rfl ?_
  refine w_ic_le rfl (fun c38_0 => ?_) (fun c38_0 => absurd (h3) c38_0)
  refine w_li rfl rfl ?_
  refine w_if_ge rfl (fun c44_0 => absurd c44_0 (h4)) (fun c44_0 => ?_)
  refine w_ci rfl ?_
  refine w_ri rfl ?_
  exact ⟨rfl, _, _, rfl, by repeat (first | exact Mod0 | refine Mod.uq ?_ (Nat.le_of_ble_eq_true rfl) | refine Mod.up ?_ (Nat.le_of_ble_eq_true rfl))⟩

set_option maxRecDepth 100000 in
set_option maxHeartbeats 300000 in
theorem d_sheet_lo_1 {sv nv : Int32} (hs : wi sv (-1) 3 = true) (h1 : ¬ sv = -1) (h2 : ¬ sv < 0) (h3 : nv ≤ 40) (h4 : ¬ 0 ≤ nv) (s : Nat → Nat → Int32) (t : Nat → Nat → Int64) : Wm 187 [.ref 51, .int 1, .int sv, .int nv] (mk (mS s) (mT t)) (Pm (.int (-14))) := by
  refine Wm.of pT_187 (Nat.le_of_ble_eq_true rfl) (L0 := [some (.ref 51), some (.int 1), some (.int sv), some (.int nv), none]) rfl ?_
  refine w_li rfl rfl ?_
  refine w_st1r pl_sub_c rfl (Nat.le_of_ble_eq_true rfl) (m_isShelf) ?_
  refine w_if_eq rfl (fun c4_0 => absurd c4_0 ((show ¬ b2 (wi 1 0 3) = 0 from by decide))) (fun c4_0 => ?_)
  refine w_li rfl rfl ?_
  refine w_ci rfl ?_
  refine w_ci rfl ?_
  refine w_st3r pl_sub_c rfl (Nat.le_of_ble_eq_true rfl) (m_in) ?_
  refine w_if_eq rfl (fun c13_0 => absurd c13_0 (b2t hs)) (fun c13_0 => ?_)
  refine w_li rfl rfl ?_
  refine w_if_lt rfl (fun c17_0 => absurd c17_0 (h2)) (fun c17_0 => ?_)
  refine w_li rfl rfl ?_
  refine w_ci rfl ?_
  refine w_ic_le rfl (fun c23_0 => ?_) (fun c23_0 => absurd (h3) c23_0)
  refine w_li rfl rfl ?_
  refine w_if_lt rfl (fun c29_0 => absurd c29_0 (h2)) (fun c29_0 => ?_)
  refine w_li rfl rfl ?_
  refine w_if_ge rfl (fun c33_0 => absurd c33_0 (h4)) (fun c33_0 => ?_)
  refine w_ci rfl ?_
  refine w_ri rfl ?_
  exact ⟨rfl, _, _, rfl⟩

theorem b_sheet_lo_1 {sv nv : Int32} (hs : wi sv (-1) 3 = true) (h1 : ¬ sv = -1) (h2 : ¬ sv < 0) (h3 : nv ≤ 40) (h4 : ¬ 0 ≤ nv) : Bth 85 187 [.int 1, .int sv, .int nv] := Bth.of (c_sheet_lo_1 hs h1 h2 h3 h4) (fun s t => d_sheet_lo_1 hs h1 h2 h3 h4 s t)
set_option maxRecDepth 100000 in
set_option maxHeartbeats 300000 in
theorem c_sheet_ok_1 {sv nv : Int32} (hs : wi sv (-1) 3 = true) (h1 : ¬ sv = -1) (h2 : ¬ sv < 0) (h3 : nv ≤ 40) (h4 : 0 ≤ nv) : Wm 85 [.ref 0, .int 1, .int sv, .int nv] (mk s0 t0) (Pc (.int 1)) := by
  refine Wm.of pT_85 (Nat.le_of_ble_eq_true rfl) (L0 := [some (.ref 0), some (.int 1), some (.int sv), some (.int nv)]) rfl ?_
  refine w_li rfl rfl ?_
  refine w_st1r pl_sub_c rfl (Nat.le_of_ble_eq_true rfl) (r_isPlace) ?_
  refine w_if_eq rfl (fun c4_0 => absurd c4_0 ((show ¬ b2 (wi 1 0 3) = 0 from by decide))) (fun c4_0 => ?_)
  refine w_li rfl rfl ?_
  refine w_ci rfl ?_
  refine w_ci rfl ?_
  refine w_st3r pl_sub_c rfl (Nat.le_of_ble_eq_true rfl) (r_isWithin) ?_
  refine w_if_ne rfl (fun c13_0 => ?_) (fun c13_0 => absurd (b2t hs) c13_0)
  refine w_li rfl rfl ?_
  refine w_ci rfl ?_
  refine w_ic_ne rfl (fun c20_0 => ?_) (fun c20_0 => absurd (h1) c20_0)
  refine w_li rfl rfl ?_
  refine w_ci rfl ?_
  refine w_ic_le rfl (fun c38_0 => ?_) (fun c38_0 => absurd (h3) c38_0)
  refine w_li rfl rfl ?_
  refine w_if_ge rfl (fun c44_0 => ?_) (fun c44_0 => absurd (h4) c44_0)
  refine w_la rfl rfl ?_
  refine w_gf rfl (mg_0 _ _) rfl ?_
  refine w_li rfl rfl ?_
  refine w_aa rfl (mg_35 _ _) (show ¬ (1 : Int32) < 0 from by decide) (q := 40) rfl ?_
  refine w_li rfl rfl ?_
  refine w_li rfl rfl ?_
  refine w_vi2 pl_sub_c rfl (mg_40 _ _) (Nat.le_of_ble_eq_true rfl) (u_begin_1) (fun r2 h2 q => by obtain ⟨_, _, q⟩ := q; rw [q]; rfl) (fun r2 h2 q => ?_)
  obtain ⟨q1, f, q2⟩ := q
  rw [q1, q2]
  refine w_ci rfl ?_
  refine w_ri rfl ?_
  exact ⟨rfl, _, _, rfl, by repeat (first | exact Mod0 | refine Mod.uq ?_ (Nat.le_of_ble_eq_true rfl) | refine Mod.up ?_ (Nat.le_of_ble_eq_true rfl))⟩

set_option maxRecDepth 100000 in
set_option maxHeartbeats 300000 in
theorem d_sheet_ok_1 {sv nv : Int32} (hs : wi sv (-1) 3 = true) (h1 : ¬ sv = -1) (h2 : ¬ sv < 0) (h3 : nv ≤ 40) (h4 : 0 ≤ nv) (s : Nat → Nat → Int32) (t : Nat → Nat → Int64) : Wm 187 [.ref 51, .int 1, .int sv, .int nv] (mk (mS s) (mT t)) (Pm (.int 1)) := by
  refine Wm.of pT_187 (Nat.le_of_ble_eq_true rfl) (L0 := [some (.ref 51), some (.int 1), some (.int sv), some (.int nv), none]) rfl ?_
  refine w_li rfl rfl ?_
  refine w_st1r pl_sub_c rfl (Nat.le_of_ble_eq_true rfl) (m_isShelf) ?_
  refine w_if_eq rfl (fun c4_0 => absurd c4_0 ((show ¬ b2 (wi 1 0 3) = 0 from by decide))) (fun c4_0 => ?_)
  refine w_li rfl rfl ?_
  refine w_ci rfl ?_
  refine w_ci rfl ?_
  refine w_st3r pl_sub_c rfl (Nat.le_of_ble_eq_true rfl) (m_in) ?_
  refine w_if_eq rfl (fun c13_0 => absurd c13_0 (b2t hs)) (fun c13_0 => ?_)
  refine w_li rfl rfl ?_
  refine w_if_lt rfl (fun c17_0 => absurd c17_0 (h2)) (fun c17_0 => ?_)
  refine w_li rfl rfl ?_
  refine w_ci rfl ?_
  refine w_ic_le rfl (fun c23_0 => ?_) (fun c23_0 => absurd (h3) c23_0)
  refine w_li rfl rfl ?_
  refine w_if_lt rfl (fun c29_0 => absurd c29_0 (h2)) (fun c29_0 => ?_)
  refine w_li rfl rfl ?_
  refine w_if_ge rfl (fun c33_0 => ?_) (fun c33_0 => absurd (h4) c33_0)
  refine w_la rfl rfl ?_
  refine w_gf rfl (mg_51 _ _) rfl ?_
  refine w_li rfl rfl ?_
  refine w_li rfl rfl ?_
  refine w_is rfl (mg_60 _ _) (show ¬ (1 : Int32) < 0 from by decide) (by rw [ar_len]; exact (show (1 : Int32).toNatClampNeg < 4 from by decide)) (ms_60 _ _ _ _) ?_
  refine w_la rfl rfl ?_
  refine w_gf rfl (mg_51 _ _) rfl ?_
  refine w_li rfl rfl ?_
  refine w_li rfl rfl ?_
  refine w_if_ge rfl (fun c52_0 => ?_) (fun c52_0 => ?_)
  · skip
    refine w_li rfl rfl ?_
    refine w_is rfl (mg_61 _ _) (show ¬ (1 : Int32) < 0 from by decide) (by rw [ar_len]; exact (show (1 : Int32).toNatClampNeg < 4 from by decide)) (ms_61 _ _ _ _) ?_
    refine w_ci rfl ?_
    refine w_si rfl (Nat.le_of_ble_eq_true rfl) rfl ?_
    exact ly_sheet_1 40 0 _ _ (by omega)
  · skip
    refine w_ci rfl ?_
    refine w_go rfl ?_
    refine w_is rfl (mg_61 _ _) (show ¬ (1 : Int32) < 0 from by decide) (by rw [ar_len]; exact (show (1 : Int32).toNatClampNeg < 4 from by decide)) (ms_61 _ _ _ _) ?_
    refine w_ci rfl ?_
    refine w_si rfl (Nat.le_of_ble_eq_true rfl) rfl ?_
    exact ly_sheet_1 40 0 _ _ (by omega)

theorem b_sheet_ok_1 {sv nv : Int32} (hs : wi sv (-1) 3 = true) (h1 : ¬ sv = -1) (h2 : ¬ sv < 0) (h3 : nv ≤ 40) (h4 : 0 ≤ nv) : Bth 85 187 [.int 1, .int sv, .int nv] := Bth.of (c_sheet_ok_1 hs h1 h2 h3 h4) (fun s t => d_sheet_ok_1 hs h1 h2 h3 h4 s t)
def EB_2 (sv nv : Int32) : Option Value → pm_H → Prop := fun r h => r = none ∧ ∃ f, h = mk (up2 (up2 s0 43 1 sv) 43 2 nv) (upg t0 44 f)
set_option maxRecDepth 100000 in
set_option maxHeartbeats 300000 in
theorem l_begin_2 {sv nv : Int32} : ∀ (m j : Nat) (f : Nat → Int64), j + m = 40 → Wp pl_Kc 29 12 [some (.ref 43), some (.int sv), some (.int nv), some (.int (nI j))] [] (mk (up2 (up2 s0 43 1 sv) 43 2 nv) (upg t0 44 f)) (EB_2 sv nv) := by
  intro m
  induction m with
  | zero =>
    intro j f hj
    obtain rfl : j = 40 := by omega
    refine w_li rfl rfl ?_
    refine w_la rfl rfl ?_
    refine w_gf rfl (mg_43 _ _) rfl ?_
    refine w_len rfl (n := 40) rfl ?_
    refine w_ic_ge rfl (fun c18_0 => ?_) (fun c18_0 => absurd (show nI 40 ≤ nI 40 from nI_le (by omega) (by omega)) c18_0)
    refine w_rv rfl ?_
    exact ⟨rfl, _, rfl⟩
  | succ m ih =>
    intro j f hj
    refine w_li rfl rfl ?_
    refine w_la rfl rfl ?_
    refine w_gf rfl (mg_43 _ _) rfl ?_
    refine w_len rfl (n := 40) rfl ?_
    refine w_ic_ge rfl (fun c18_0 => absurd c18_0 (show ¬ nI 40 ≤ nI j from nI_ge (by omega) (by omega))) (fun c18_0 => ?_)
    refine w_la rfl rfl ?_
    refine w_gf rfl (mg_43 _ _) rfl ?_
    refine w_li rfl rfl ?_
    refine w_cl rfl ?_
    refine w_js rfl (mg_44 _ _) (nI_pos (by omega)) (by rw [ar_len, nI_clamp (by omega)]; omega) (ms_44 _ _ _ _) ?_
    rw [upg_up]
    refine w_inc rfl rfl rfl ?_
    refine w_go rfl ?_
    rw [nI_1]
    exact ih (j + 1) _ (by omega)
set_option maxRecDepth 100000 in
set_option maxHeartbeats 300000 in
theorem u_begin_2 {sv nv : Int32} : Wm 29 [.ref 43, .int sv, .int nv] (mk s0 t0) (EB_2 sv nv) := by
  refine Wm.of pT_29 (Nat.le_of_ble_eq_true rfl) (L0 := [some (.ref 43), some (.int sv), some (.int nv), none]) rfl ?_
  refine w_la rfl rfl ?_
  refine w_li rfl rfl ?_
  refine w_pf rfl rfl (mg_43 _ _) (Nat.le_of_ble_eq_true rfl) (ms_43_1 _ _ _) ?_
  refine w_la rfl rfl ?_
  refine w_li rfl rfl ?_
  refine w_pf rfl rfl (mg_43 _ _) (Nat.le_of_ble_eq_true rfl) (ms_43_2 _ _ _) ?_
  refine w_ci rfl ?_
  refine w_si rfl (Nat.le_of_ble_eq_true rfl) rfl ?_
  rw [show mk (up2 (up2 s0 43 1 sv) 43 2 nv) t0 = mk (up2 (up2 s0 43 1 sv) 43 2 nv) (upg t0 44 (t0 44)) from congrArg (mk (up2 (up2 s0 43 1 sv) 43 2 nv)) upg_self]
  exact l_begin_2 40 0 (t0 44) (by omega)

set_option maxRecDepth 100000 in
set_option maxHeartbeats 300000 in
theorem ly_sheet_2 {sv nv : Int32} : ∀ (m j : Nat) (s : Nat → Nat → Int32) (t : Nat → Nat → Int64), j + m = 40 → Wp pl_Kc 187 64 [some (.ref 51), some (.int 2), some (.int sv), some (.int nv), some (.int (nI j))] [] (mk s t) (Pm (.int 1)) := by
  intro m
  induction m with
  | zero =>
    intro j s t hj
    obtain rfl : j = 40 := by omega
    refine w_li rfl rfl ?_
    refine w_ci rfl ?_
    refine w_ic_ge rfl (fun c68_0 => ?_) (fun c68_0 => absurd (show nI 40 ≤ nI 40 from nI_le (by omega) (by omega)) c68_0)
    refine w_ci rfl ?_
    refine w_ri rfl ?_
    exact ⟨rfl, _, _, rfl⟩
  | succ m ih =>
    intro j s t hj
    refine w_li rfl rfl ?_
    refine w_ci rfl ?_
    refine w_ic_ge rfl (fun c68_0 => absurd c68_0 (show ¬ nI 40 ≤ nI j from nI_ge (by omega) (by omega))) (fun c68_0 => ?_)
    refine w_la rfl rfl ?_
    refine w_gf rfl (mg_51 _ _) rfl ?_
    refine w_ci rfl ?_
    refine w_li rfl rfl ?_
    refine w_imul rfl ?_
    refine w_li rfl rfl ?_
    refine w_iadd rfl ?_
    rw [show (40 : Int32) * 2 + nI j = nI (80 + j) from nI_add 80 j]
    refine w_cl rfl ?_
    refine w_js rfl (mg_62 _ _) (nI_pos (by omega)) (by rw [ar_len, nI_clamp (by omega)]; omega) (ms_62 _ _ _ _) ?_
    refine w_inc rfl rfl rfl ?_
    refine w_go rfl ?_
    rw [nI_1]
    exact ih (j + 1) _ _ (by omega)
set_option maxRecDepth 100000 in
set_option maxHeartbeats 300000 in
theorem c_sheet_os_2 {sv nv : Int32} (hs : wi sv (-1) 3 = false) : Wm 85 [.ref 0, .int 2, .int sv, .int nv] (mk s0 t0) (Pc (.int (-1))) := by
  refine Wm.of pT_85 (Nat.le_of_ble_eq_true rfl) (L0 := [some (.ref 0), some (.int 2), some (.int sv), some (.int nv)]) rfl ?_
  refine w_li rfl rfl ?_
  refine w_st1r pl_sub_c rfl (Nat.le_of_ble_eq_true rfl) (r_isPlace) ?_
  refine w_if_eq rfl (fun c4_0 => absurd c4_0 ((show ¬ b2 (wi 2 0 3) = 0 from by decide))) (fun c4_0 => ?_)
  refine w_li rfl rfl ?_
  refine w_ci rfl ?_
  refine w_ci rfl ?_
  refine w_st3r pl_sub_c rfl (Nat.le_of_ble_eq_true rfl) (r_isWithin) ?_
  refine w_if_ne rfl (fun c13_0 => absurd c13_0 (fun z => absurd (hs.symm.trans (b2_n z)) (by decide))) (fun c13_0 => ?_)
  refine w_ci rfl ?_
  refine w_ri rfl ?_
  exact ⟨rfl, _, _, rfl, by repeat (first | exact Mod0 | refine Mod.uq ?_ (Nat.le_of_ble_eq_true rfl) | refine Mod.up ?_ (Nat.le_of_ble_eq_true rfl))⟩

set_option maxRecDepth 100000 in
set_option maxHeartbeats 300000 in
theorem d_sheet_os_2 {sv nv : Int32} (hs : wi sv (-1) 3 = false) (s : Nat → Nat → Int32) (t : Nat → Nat → Int64) : Wm 187 [.ref 51, .int 2, .int sv, .int nv] (mk (mS s) (mT t)) (Pm (.int (-1))) := by
  refine Wm.of pT_187 (Nat.le_of_ble_eq_true rfl) (L0 := [some (.ref 51), some (.int 2), some (.int sv), some (.int nv), none]) rfl ?_
  refine w_li rfl rfl ?_
  refine w_st1r pl_sub_c rfl (Nat.le_of_ble_eq_true rfl) (m_isShelf) ?_
  refine w_if_eq rfl (fun c4_0 => absurd c4_0 ((show ¬ b2 (wi 2 0 3) = 0 from by decide))) (fun c4_0 => ?_)
  refine w_li rfl rfl ?_
  refine w_ci rfl ?_
  refine w_ci rfl ?_
  refine w_st3r pl_sub_c rfl (Nat.le_of_ble_eq_true rfl) (m_in) ?_
  refine w_if_eq rfl (fun c13_0 => ?_) (fun c13_0 => absurd (show b2 (wi sv (-1) 3) = 0 from by rw [hs]; rfl) c13_0)
  refine w_ci rfl ?_
  refine w_ri rfl ?_
  exact ⟨rfl, _, _, rfl⟩

theorem b_sheet_os_2 {sv nv : Int32} (hs : wi sv (-1) 3 = false) : Bth 85 187 [.int 2, .int sv, .int nv] := Bth.of (c_sheet_os_2 hs) (fun s t => d_sheet_os_2 hs s t)
set_option maxRecDepth 100000 in
set_option maxHeartbeats 300000 in
theorem c_sheet_m1_2 {nv : Int32}  : Wm 85 [.ref 0, .int 2, .int (-1), .int nv] (mk s0 t0) (Pc (.int 1)) := by
  refine Wm.of pT_85 (Nat.le_of_ble_eq_true rfl) (L0 := [some (.ref 0), some (.int 2), some (.int (-1)), some (.int nv)]) rfl ?_
  refine w_li rfl rfl ?_
  refine w_st1r pl_sub_c rfl (Nat.le_of_ble_eq_true rfl) (r_isPlace) ?_
  refine w_if_eq rfl (fun c4_0 => absurd c4_0 ((show ¬ b2 (wi 2 0 3) = 0 from by decide))) (fun c4_0 => ?_)
  refine w_li rfl rfl ?_
  refine w_ci rfl ?_
  refine w_ci rfl ?_
  refine w_st3r pl_sub_c rfl (Nat.le_of_ble_eq_true rfl) (r_isWithin) ?_
  refine w_if_ne rfl (fun c13_0 => ?_) (fun c13_0 => absurd (b2t (show wi (-1) (-1) 3 = true from by decide)) c13_0)
  refine w_li rfl rfl ?_
  refine w_ci rfl ?_
  refine w_ic_ne rfl (fun c20_0 => absurd c20_0 (show ¬ (¬ ((-1) : Int32) = (-1)) from by decide)) (fun c20_0 => ?_)
  refine w_la rfl rfl ?_
  refine w_gf rfl (mg_0 _ _) rfl ?_
  refine w_li rfl rfl ?_
  refine w_aa rfl (mg_35 _ _) (show ¬ (2 : Int32) < 0 from by decide) (q := 43) rfl ?_
  refine w_ci rfl ?_
  refine w_pf rfl rfl (mg_43 _ _) (Nat.le_of_ble_eq_true rfl) (ms_43_1 _ _ _) ?_
  refine w_ci rfl ?_
  refine w_ri rfl ?_
  exact ⟨rfl, _, _, rfl, by repeat (first | exact Mod0 | refine Mod.uq ?_ (Nat.le_of_ble_eq_true rfl) | refine Mod.up ?_ (Nat.le_of_ble_eq_true rfl))⟩

set_option maxRecDepth 100000 in
set_option maxHeartbeats 300000 in
theorem d_sheet_m1_2 {nv : Int32}  (s : Nat → Nat → Int32) (t : Nat → Nat → Int64) : Wm 187 [.ref 51, .int 2, .int (-1), .int nv] (mk (mS s) (mT t)) (Pm (.int 1)) := by
  refine Wm.of pT_187 (Nat.le_of_ble_eq_true rfl) (L0 := [some (.ref 51), some (.int 2), some (.int (-1)), some (.int nv), none]) rfl ?_
  refine w_li rfl rfl ?_
  refine w_st1r pl_sub_c rfl (Nat.le_of_ble_eq_true rfl) (m_isShelf) ?_
  refine w_if_eq rfl (fun c4_0 => absurd c4_0 ((show ¬ b2 (wi 2 0 3) = 0 from by decide))) (fun c4_0 => ?_)
  refine w_li rfl rfl ?_
  refine w_ci rfl ?_
  refine w_ci rfl ?_
  refine w_st3r pl_sub_c rfl (Nat.le_of_ble_eq_true rfl) (m_in) ?_
  refine w_if_eq rfl (fun c13_0 => absurd c13_0 (b2t (show wi (-1) (-1) 3 = true from by decide))) (fun c13_0 => ?_)
  refine w_li rfl rfl ?_
  refine w_if_lt rfl (fun c17_0 => ?_) (fun c17_0 => absurd (show ((-1) : Int32) < 0 from by decide) c17_0)
  refine w_li rfl rfl ?_
  refine w_if_lt rfl (fun c29_0 => ?_) (fun c29_0 => absurd (show ((-1) : Int32) < 0 from by decide) c29_0)
  refine w_la rfl rfl ?_
  refine w_gf rfl (mg_51 _ _) rfl ?_
  refine w_li rfl rfl ?_
  refine w_li rfl rfl ?_
  refine w_is rfl (mg_60 _ _) (show ¬ (2 : Int32) < 0 from by decide) (by rw [ar_len]; exact (show (2 : Int32).toNatClampNeg < 4 from by decide)) (ms_60 _ _ _ _) ?_
  refine w_la rfl rfl ?_
  refine w_gf rfl (mg_51 _ _) rfl ?_
  refine w_li rfl rfl ?_
  refine w_li rfl rfl ?_
  refine w_if_ge rfl (fun c52_0 => absurd c52_0 (show ¬ ((0 : Int32) ≤ (-1)) from by decide)) (fun c52_0 => ?_)
  refine w_ci rfl ?_
  refine w_go rfl ?_
  refine w_is rfl (mg_61 _ _) (show ¬ (2 : Int32) < 0 from by decide) (by rw [ar_len]; exact (show (2 : Int32).toNatClampNeg < 4 from by decide)) (ms_61 _ _ _ _) ?_
  refine w_ci rfl ?_
  refine w_si rfl (Nat.le_of_ble_eq_true rfl) rfl ?_
  exact ly_sheet_2 40 0 _ _ (by omega)

theorem b_sheet_m1_2 {nv : Int32}  : Bth 85 187 [.int 2, .int (-1), .int nv] := Bth.of (c_sheet_m1_2 ) (fun s t => d_sheet_m1_2  s t)
set_option maxRecDepth 100000 in
set_option maxHeartbeats 300000 in
theorem c_sheet_hi_2 {sv nv : Int32} (hs : wi sv (-1) 3 = true) (h1 : ¬ sv = -1) (h2 : ¬ sv < 0) (h3 : ¬ nv ≤ 40) : Wm 85 [.ref 0, .int 2, .int sv, .int nv] (mk s0 t0) (Pc (.int (-1))) := by
  refine Wm.of pT_85 (Nat.le_of_ble_eq_true rfl) (L0 := [some (.ref 0), some (.int 2), some (.int sv), some (.int nv)]) rfl ?_
  refine w_li rfl rfl ?_
  refine w_st1r pl_sub_c rfl (Nat.le_of_ble_eq_true rfl) (r_isPlace) ?_
  refine w_if_eq rfl (fun c4_0 => absurd c4_0 ((show ¬ b2 (wi 2 0 3) = 0 from by decide))) (fun c4_0 => ?_)
  refine w_li rfl rfl ?_
  refine w_ci rfl ?_
  refine w_ci rfl ?_
  refine w_st3r pl_sub_c rfl (Nat.le_of_ble_eq_true rfl) (r_isWithin) ?_
  refine w_if_ne rfl (fun c13_0 => ?_) (fun c13_0 => absurd (b2t hs) c13_0)
  refine w_li rfl rfl ?_
  refine w_ci rfl ?_
  refine w_ic_ne rfl (fun c20_0 => ?_) (fun c20_0 => absurd (h1) c20_0)
  refine w_li rfl rfl ?_
  refine w_ci rfl ?_
  refine w_ic_le rfl (fun c38_0 => absurd c38_0 (h3)) (fun c38_0 => ?_)
  refine w_ci rfl ?_
  refine w_ri rfl ?_
  exact ⟨rfl, _, _, rfl, by repeat (first | exact Mod0 | refine Mod.uq ?_ (Nat.le_of_ble_eq_true rfl) | refine Mod.up ?_ (Nat.le_of_ble_eq_true rfl))⟩

set_option maxRecDepth 100000 in
set_option maxHeartbeats 300000 in
theorem d_sheet_hi_2 {sv nv : Int32} (hs : wi sv (-1) 3 = true) (h1 : ¬ sv = -1) (h2 : ¬ sv < 0) (h3 : ¬ nv ≤ 40) (s : Nat → Nat → Int32) (t : Nat → Nat → Int64) : Wm 187 [.ref 51, .int 2, .int sv, .int nv] (mk (mS s) (mT t)) (Pm (.int (-1))) := by
  refine Wm.of pT_187 (Nat.le_of_ble_eq_true rfl) (L0 := [some (.ref 51), some (.int 2), some (.int sv), some (.int nv), none]) rfl ?_
  refine w_li rfl rfl ?_
  refine w_st1r pl_sub_c rfl (Nat.le_of_ble_eq_true rfl) (m_isShelf) ?_
  refine w_if_eq rfl (fun c4_0 => absurd c4_0 ((show ¬ b2 (wi 2 0 3) = 0 from by decide))) (fun c4_0 => ?_)
  refine w_li rfl rfl ?_
  refine w_ci rfl ?_
  refine w_ci rfl ?_
  refine w_st3r pl_sub_c rfl (Nat.le_of_ble_eq_true rfl) (m_in) ?_
  refine w_if_eq rfl (fun c13_0 => absurd c13_0 (b2t hs)) (fun c13_0 => ?_)
  refine w_li rfl rfl ?_
  refine w_if_lt rfl (fun c17_0 => absurd c17_0 (h2)) (fun c17_0 => ?_)
  refine w_li rfl rfl ?_
  refine w_ci rfl ?_
  refine w_ic_le rfl (fun c23_0 => absurd c23_0 (h3)) (fun c23_0 => ?_)
  refine w_ci rfl ?_
  refine w_ri rfl ?_
  exact ⟨rfl, _, _, rfl⟩

theorem b_sheet_hi_2 {sv nv : Int32} (hs : wi sv (-1) 3 = true) (h1 : ¬ sv = -1) (h2 : ¬ sv < 0) (h3 : ¬ nv ≤ 40) : Bth 85 187 [.int 2, .int sv, .int nv] := Bth.of (c_sheet_hi_2 hs h1 h2 h3) (fun s t => d_sheet_hi_2 hs h1 h2 h3 s t)
set_option maxRecDepth 100000 in
set_option maxHeartbeats 300000 in
theorem c_sheet_lo_2 {sv nv : Int32} (hs : wi sv (-1) 3 = true) (h1 : ¬ sv = -1) (h2 : ¬ sv < 0) (h3 : nv ≤ 40) (h4 : ¬ 0 ≤ nv) : Wm 85 [.ref 0, .int 2, .int sv, .int nv] (mk s0 t0) (Pc (.int (-14))) := by
  refine Wm.of pT_85 (Nat.le_of_ble_eq_true rfl) (L0 := [some (.ref 0), some (.int 2), some (.int sv), some (.int nv)]) rfl ?_
  refine w_li rfl rfl ?_
  refine w_st1r pl_sub_c rfl (Nat.le_of_ble_eq_true rfl) (r_isPlace) ?_
  refine w_if_eq rfl (fun c4_0 => absurd c4_0 ((show ¬ b2 (wi 2 0 3) = 0 from by decide))) (fun c4_0 => ?_)
  refine w_li rfl rfl ?_
  refine w_ci rfl ?_
  refine w_ci rfl ?_
  refine w_st3r pl_sub_c rfl (Nat.le_of_ble_eq_true rfl) (r_isWithin) ?_
  refine w_if_ne rfl (fun c13_0 => ?_) (fun c13_0 => absurd (b2t hs) c13_0)
  refine w_li rfl rfl ?_
  refine w_ci rfl ?_
  refine w_ic_ne rfl (fun c20_0 => ?_) (fun c20_0 => absurd (h1) c20_0)
  refine w_li rfl rfl ?_
  refine w_ci rfl ?_
  refine w_ic_le rfl (fun c38_0 => ?_) (fun c38_0 => absurd (h3) c38_0)
  refine w_li rfl rfl ?_
  refine w_if_ge rfl (fun c44_0 => absurd c44_0 (h4)) (fun c44_0 => ?_)
  refine w_ci rfl ?_
  refine w_ri rfl ?_
  exact ⟨rfl, _, _, rfl, by repeat (first | exact Mod0 | refine Mod.uq ?_ (Nat.le_of_ble_eq_true rfl) | refine Mod.up ?_ (Nat.le_of_ble_eq_true rfl))⟩

set_option maxRecDepth 100000 in
set_option maxHeartbeats 300000 in
theorem d_sheet_lo_2 {sv nv : Int32} (hs : wi sv (-1) 3 = true) (h1 : ¬ sv = -1) (h2 : ¬ sv < 0) (h3 : nv ≤ 40) (h4 : ¬ 0 ≤ nv) (s : Nat → Nat → Int32) (t : Nat → Nat → Int64) : Wm 187 [.ref 51, .int 2, .int sv, .int nv] (mk (mS s) (mT t)) (Pm (.int (-14))) := by
  refine Wm.of pT_187 (Nat.le_of_ble_eq_true rfl) (L0 := [some (.ref 51), some (.int 2), some (.int sv), some (.int nv), none]) rfl ?_
  refine w_li rfl rfl ?_
  refine w_st1r pl_sub_c rfl (Nat.le_of_ble_eq_true rfl) (m_isShelf) ?_
  refine w_if_eq rfl (fun c4_0 => absurd c4_0 ((show ¬ b2 (wi 2 0 3) = 0 from by decide))) (fun c4_0 => ?_)
  refine w_li rfl rfl ?_
  refine w_ci rfl ?_
  refine w_ci rfl ?_
  refine w_st3r pl_sub_c rfl (Nat.le_of_ble_eq_true rfl) (m_in) ?_
  refine w_if_eq rfl (fun c13_0 => absurd c13_0 (b2t hs)) (fun c13_0 => ?_)
  refine w_li rfl rfl ?_
  refine w_if_lt rfl (fun c17_0 => absurd c17_0 (h2)) (fun c17_0 => ?_)
  refine w_li rfl rfl ?_
  refine w_ci rfl ?_
  refine w_ic_le rfl (fun c23_0 => ?_) (fun c23_0 => absurd (h3) c23_0)
  refine w_li rfl rfl ?_
  refine w_if_lt rfl (fun c29_0 => absurd c29_0 (h2)) (fun c29_0 => ?_)
  refine w_li rfl rfl ?_
  refine w_if_ge rfl (fun c33_0 => absurd c33_0 (h4)) (fun c33_0 => ?_)
  refine w_ci rfl ?_
  refine w_ri rfl ?_
  exact ⟨rfl, _, _, rfl⟩

theorem b_sheet_lo_2 {sv nv : Int32} (hs : wi sv (-1) 3 = true) (h1 : ¬ sv = -1) (h2 : ¬ sv < 0) (h3 : nv ≤ 40) (h4 : ¬ 0 ≤ nv) : Bth 85 187 [.int 2, .int sv, .int nv] := Bth.of (c_sheet_lo_2 hs h1 h2 h3 h4) (fun s t => d_sheet_lo_2 hs h1 h2 h3 h4 s t)
set_option maxRecDepth 100000 in
set_option maxHeartbeats 300000 in
theorem c_sheet_ok_2 {sv nv : Int32} (hs : wi sv (-1) 3 = true) (h1 : ¬ sv = -1) (h2 : ¬ sv < 0) (h3 : nv ≤ 40) (h4 : 0 ≤ nv) : Wm 85 [.ref 0, .int 2, .int sv, .int nv] (mk s0 t0) (Pc (.int 1)) := by
  refine Wm.of pT_85 (Nat.le_of_ble_eq_true rfl) (L0 := [some (.ref 0), some (.int 2), some (.int sv), some (.int nv)]) rfl ?_
  refine w_li rfl rfl ?_
  refine w_st1r pl_sub_c rfl (Nat.le_of_ble_eq_true rfl) (r_isPlace) ?_
  refine w_if_eq rfl (fun c4_0 => absurd c4_0 ((show ¬ b2 (wi 2 0 3) = 0 from by decide))) (fun c4_0 => ?_)
  refine w_li rfl rfl ?_
  refine w_ci rfl ?_
  refine w_ci rfl ?_
  refine w_st3r pl_sub_c rfl (Nat.le_of_ble_eq_true rfl) (r_isWithin) ?_
  refine w_if_ne rfl (fun c13_0 => ?_) (fun c13_0 => absurd (b2t hs) c13_0)
  refine w_li rfl rfl ?_
  refine w_ci rfl ?_
  refine w_ic_ne rfl (fun c20_0 => ?_) (fun c20_0 => absurd (h1) c20_0)
  refine w_li rfl rfl ?_
  refine w_ci rfl ?_
  refine w_ic_le rfl (fun c38_0 => ?_) (fun c38_0 => absurd (h3) c38_0)
  refine w_li rfl rfl ?_
  refine w_if_ge rfl (fun c44_0 => ?_) (fun c44_0 => absurd (h4) c44_0)
  refine w_la rfl rfl ?_
  refine w_gf rfl (mg_0 _ _) rfl ?_
  refine w_li rfl rfl ?_
  refine w_aa rfl (mg_35 _ _) (show ¬ (2 : Int32) < 0 from by decide) (q := 43) rfl ?_
  refine w_li rfl rfl ?_
  refine w_li rfl rfl ?_
  refine w_vi2 pl_sub_c rfl (mg_43 _ _) (Nat.le_of_ble_eq_true rfl) (u_begin_2) (fun r2 h2 q => by obtain ⟨_, _, q⟩ := q; rw [q]; rfl) (fun r2 h2 q => ?_)
  obtain ⟨q1, f, q2⟩ := q
  rw [q1, q2]
  refine w_ci rfl ?_
  refine w_ri rfl ?_
  exact ⟨rfl, _, _, rfl, by repeat (first | exact Mod0 | refine Mod.uq ?_ (Nat.le_of_ble_eq_true rfl) | refine Mod.up ?_ (Nat.le_of_ble_eq_true rfl))⟩

set_option maxRecDepth 100000 in
set_option maxHeartbeats 300000 in
theorem d_sheet_ok_2 {sv nv : Int32} (hs : wi sv (-1) 3 = true) (h1 : ¬ sv = -1) (h2 : ¬ sv < 0) (h3 : nv ≤ 40) (h4 : 0 ≤ nv) (s : Nat → Nat → Int32) (t : Nat → Nat → Int64) : Wm 187 [.ref 51, .int 2, .int sv, .int nv] (mk (mS s) (mT t)) (Pm (.int 1)) := by
  refine Wm.of pT_187 (Nat.le_of_ble_eq_true rfl) (L0 := [some (.ref 51), some (.int 2), some (.int sv), some (.int nv), none]) rfl ?_
  refine w_li rfl rfl ?_
  refine w_st1r pl_sub_c rfl (Nat.le_of_ble_eq_true rfl) (m_isShelf) ?_
  refine w_if_eq rfl (fun c4_0 => absurd c4_0 ((show ¬ b2 (wi 2 0 3) = 0 from by decide))) (fun c4_0 => ?_)
  refine w_li rfl rfl ?_
  refine w_ci rfl ?_
  refine w_ci rfl ?_
  refine w_st3r pl_sub_c rfl (Nat.le_of_ble_eq_true rfl) (m_in) ?_
  refine w_if_eq rfl (fun c13_0 => absurd c13_0 (b2t hs)) (fun c13_0 => ?_)
  refine w_li rfl rfl ?_
  refine w_if_lt rfl (fun c17_0 => absurd c17_0 (h2)) (fun c17_0 => ?_)
  refine w_li rfl rfl ?_
  refine w_ci rfl ?_
  refine w_ic_le rfl (fun c23_0 => ?_) (fun c23_0 => absurd (h3) c23_0)
  refine w_li rfl rfl ?_
  refine w_if_lt rfl (fun c29_0 => absurd c29_0 (h2)) (fun c29_0 => ?_)
  refine w_li rfl rfl ?_
  refine w_if_ge rfl (fun c33_0 => ?_) (fun c33_0 => absurd (h4) c33_0)
  refine w_la rfl rfl ?_
  refine w_gf rfl (mg_51 _ _) rfl ?_
  refine w_li rfl rfl ?_
  refine w_li rfl rfl ?_
  refine w_is rfl (mg_60 _ _) (show ¬ (2 : Int32) < 0 from by decide) (by rw [ar_len]; exact (show (2 : Int32).toNatClampNeg < 4 from by decide)) (ms_60 _ _ _ _) ?_
  refine w_la rfl rfl ?_
  refine w_gf rfl (mg_51 _ _) rfl ?_
  refine w_li rfl rfl ?_
  refine w_li rfl rfl ?_
  refine w_if_ge rfl (fun c52_0 => ?_) (fun c52_0 => ?_)
  · skip
    refine w_li rfl rfl ?_
    refine w_is rfl (mg_61 _ _) (show ¬ (2 : Int32) < 0 from by decide) (by rw [ar_len]; exact (show (2 : Int32).toNatClampNeg < 4 from by decide)) (ms_61 _ _ _ _) ?_
    refine w_ci rfl ?_
    refine w_si rfl (Nat.le_of_ble_eq_true rfl) rfl ?_
    exact ly_sheet_2 40 0 _ _ (by omega)
  · skip
    refine w_ci rfl ?_
    refine w_go rfl ?_
    refine w_is rfl (mg_61 _ _) (show ¬ (2 : Int32) < 0 from by decide) (by rw [ar_len]; exact (show (2 : Int32).toNatClampNeg < 4 from by decide)) (ms_61 _ _ _ _) ?_
    refine w_ci rfl ?_
    refine w_si rfl (Nat.le_of_ble_eq_true rfl) rfl ?_
    exact ly_sheet_2 40 0 _ _ (by omega)

theorem b_sheet_ok_2 {sv nv : Int32} (hs : wi sv (-1) 3 = true) (h1 : ¬ sv = -1) (h2 : ¬ sv < 0) (h3 : nv ≤ 40) (h4 : 0 ≤ nv) : Bth 85 187 [.int 2, .int sv, .int nv] := Bth.of (c_sheet_ok_2 hs h1 h2 h3 h4) (fun s t => d_sheet_ok_2 hs h1 h2 h3 h4 s t)
def EB_3 (sv nv : Int32) : Option Value → pm_H → Prop := fun r h => r = none ∧ ∃ f, h = mk (up2 (up2 s0 46 1 sv) 46 2 nv) (upg t0 47 f)
set_option maxRecDepth 100000 in
set_option maxHeartbeats 300000 in
theorem l_begin_3 {sv nv : Int32} : ∀ (m j : Nat) (f : Nat → Int64), j + m = 40 → Wp pl_Kc 29 12 [some (.ref 46), some (.int sv), some (.int nv), some (.int (nI j))] [] (mk (up2 (up2 s0 46 1 sv) 46 2 nv) (upg t0 47 f)) (EB_3 sv nv) := by
  intro m
  induction m with
  | zero =>
    intro j f hj
    obtain rfl : j = 40 := by omega
    refine w_li rfl rfl ?_
    refine w_la rfl rfl ?_
    refine w_gf rfl (mg_46 _ _) rfl ?_
    refine w_len rfl (n := 40) rfl ?_
    refine w_ic_ge rfl (fun c18_0 => ?_) (fun c18_0 => absurd (show nI 40 ≤ nI 40 from nI_le (by omega) (by omega)) c18_0)
    refine w_rv rfl ?_
    exact ⟨rfl, _, rfl⟩
  | succ m ih =>
    intro j f hj
    refine w_li rfl rfl ?_
    refine w_la rfl rfl ?_
    refine w_gf rfl (mg_46 _ _) rfl ?_
    refine w_len rfl (n := 40) rfl ?_
    refine w_ic_ge rfl (fun c18_0 => absurd c18_0 (show ¬ nI 40 ≤ nI j from nI_ge (by omega) (by omega))) (fun c18_0 => ?_)
    refine w_la rfl rfl ?_
    refine w_gf rfl (mg_46 _ _) rfl ?_
    refine w_li rfl rfl ?_
    refine w_cl rfl ?_
    refine w_js rfl (mg_47 _ _) (nI_pos (by omega)) (by rw [ar_len, nI_clamp (by omega)]; omega) (ms_47 _ _ _ _) ?_
    rw [upg_up]
    refine w_inc rfl rfl rfl ?_
    refine w_go rfl ?_
    rw [nI_1]
    exact ih (j + 1) _ (by omega)
set_option maxRecDepth 100000 in
set_option maxHeartbeats 300000 in
theorem u_begin_3 {sv nv : Int32} : Wm 29 [.ref 46, .int sv, .int nv] (mk s0 t0) (EB_3 sv nv) := by
  refine Wm.of pT_29 (Nat.le_of_ble_eq_true rfl) (L0 := [some (.ref 46), some (.int sv), some (.int nv), none]) rfl ?_
  refine w_la rfl rfl ?_
  refine w_li rfl rfl ?_
  refine w_pf rfl rfl (mg_46 _ _) (Nat.le_of_ble_eq_true rfl) (ms_46_1 _ _ _) ?_
  refine w_la rfl rfl ?_
  refine w_li rfl rfl ?_
  refine w_pf rfl rfl (mg_46 _ _) (Nat.le_of_ble_eq_true rfl) (ms_46_2 _ _ _) ?_
  refine w_ci rfl ?_
  refine w_si rfl (Nat.le_of_ble_eq_true rfl) rfl ?_
  rw [show mk (up2 (up2 s0 46 1 sv) 46 2 nv) t0 = mk (up2 (up2 s0 46 1 sv) 46 2 nv) (upg t0 47 (t0 47)) from congrArg (mk (up2 (up2 s0 46 1 sv) 46 2 nv)) upg_self]
  exact l_begin_3 40 0 (t0 47) (by omega)

set_option maxRecDepth 100000 in
set_option maxHeartbeats 300000 in
theorem ly_sheet_3 {sv nv : Int32} : ∀ (m j : Nat) (s : Nat → Nat → Int32) (t : Nat → Nat → Int64), j + m = 40 → Wp pl_Kc 187 64 [some (.ref 51), some (.int 3), some (.int sv), some (.int nv), some (.int (nI j))] [] (mk s t) (Pm (.int 1)) := by
  intro m
  induction m with
  | zero =>
    intro j s t hj
    obtain rfl : j = 40 := by omega
    refine w_li rfl rfl ?_
    refine w_ci rfl ?_
    refine w_ic_ge rfl (fun c68_0 => ?_) (fun c68_0 => absurd (show nI 40 ≤ nI 40 from nI_le (by omega) (by omega)) c68_0)
    refine w_ci rfl ?_
    refine w_ri rfl ?_
    exact ⟨rfl, _, _, rfl⟩
  | succ m ih =>
    intro j s t hj
    refine w_li rfl rfl ?_
    refine w_ci rfl ?_
    refine w_ic_ge rfl (fun c68_0 => absurd c68_0 (show ¬ nI 40 ≤ nI j from nI_ge (by omega) (by omega))) (fun c68_0 => ?_)
    refine w_la rfl rfl ?_
    refine w_gf rfl (mg_51 _ _) rfl ?_
    refine w_ci rfl ?_
    refine w_li rfl rfl ?_
    refine w_imul rfl ?_
    refine w_li rfl rfl ?_
    refine w_iadd rfl ?_
    rw [show (40 : Int32) * 3 + nI j = nI (120 + j) from nI_add 120 j]
    refine w_cl rfl ?_
    refine w_js rfl (mg_62 _ _) (nI_pos (by omega)) (by rw [ar_len, nI_clamp (by omega)]; omega) (ms_62 _ _ _ _) ?_
    refine w_inc rfl rfl rfl ?_
    refine w_go rfl ?_
    rw [nI_1]
    exact ih (j + 1) _ _ (by omega)
set_option maxRecDepth 100000 in
set_option maxHeartbeats 300000 in
theorem c_sheet_os_3 {sv nv : Int32} (hs : wi sv (-1) 3 = false) : Wm 85 [.ref 0, .int 3, .int sv, .int nv] (mk s0 t0) (Pc (.int (-1))) := by
  refine Wm.of pT_85 (Nat.le_of_ble_eq_true rfl) (L0 := [some (.ref 0), some (.int 3), some (.int sv), some (.int nv)]) rfl ?_
  refine w_li rfl rfl ?_
  refine w_st1r pl_sub_c rfl (Nat.le_of_ble_eq_true rfl) (r_isPlace) ?_
  refine w_if_eq rfl (fun c4_0 => absurd c4_0 ((show ¬ b2 (wi 3 0 3) = 0 from by decide))) (fun c4_0 => ?_)
  refine w_li rfl rfl ?_
  refine w_ci rfl ?_
  refine w_ci rfl ?_
  refine w_st3r pl_sub_c rfl (Nat.le_of_ble_eq_true rfl) (r_isWithin) ?_
  refine w_if_ne rfl (fun c13_0 => absurd c13_0 (fun z => absurd (hs.symm.trans (b2_n z)) (by decide))) (fun c13_0 => ?_)
  refine w_ci rfl ?_
  refine w_ri rfl ?_
  exact ⟨rfl, _, _, rfl, by repeat (first | exact Mod0 | refine Mod.uq ?_ (Nat.le_of_ble_eq_true rfl) | refine Mod.up ?_ (Nat.le_of_ble_eq_true rfl))⟩

set_option maxRecDepth 100000 in
set_option maxHeartbeats 300000 in
theorem d_sheet_os_3 {sv nv : Int32} (hs : wi sv (-1) 3 = false) (s : Nat → Nat → Int32) (t : Nat → Nat → Int64) : Wm 187 [.ref 51, .int 3, .int sv, .int nv] (mk (mS s) (mT t)) (Pm (.int (-1))) := by
  refine Wm.of pT_187 (Nat.le_of_ble_eq_true rfl) (L0 := [some (.ref 51), some (.int 3), some (.int sv), some (.int nv), none]) rfl ?_
  refine w_li rfl rfl ?_
  refine w_st1r pl_sub_c rfl (Nat.le_of_ble_eq_true rfl) (m_isShelf) ?_
  refine w_if_eq rfl (fun c4_0 => absurd c4_0 ((show ¬ b2 (wi 3 0 3) = 0 from by decide))) (fun c4_0 => ?_)
  refine w_li rfl rfl ?_
  refine w_ci rfl ?_
  refine w_ci rfl ?_
  refine w_st3r pl_sub_c rfl (Nat.le_of_ble_eq_true rfl) (m_in) ?_
  refine w_if_eq rfl (fun c13_0 => ?_) (fun c13_0 => absurd (show b2 (wi sv (-1) 3) = 0 from by rw [hs]; rfl) c13_0)
  refine w_ci rfl ?_
  refine w_ri rfl ?_
  exact ⟨rfl, _, _, rfl⟩

theorem b_sheet_os_3 {sv nv : Int32} (hs : wi sv (-1) 3 = false) : Bth 85 187 [.int 3, .int sv, .int nv] := Bth.of (c_sheet_os_3 hs) (fun s t => d_sheet_os_3 hs s t)
set_option maxRecDepth 100000 in
set_option maxHeartbeats 300000 in
theorem c_sheet_m1_3 {nv : Int32}  : Wm 85 [.ref 0, .int 3, .int (-1), .int nv] (mk s0 t0) (Pc (.int 1)) := by
  refine Wm.of pT_85 (Nat.le_of_ble_eq_true rfl) (L0 := [some (.ref 0), some (.int 3), some (.int (-1)), some (.int nv)]) rfl ?_
  refine w_li rfl rfl ?_
  refine w_st1r pl_sub_c rfl (Nat.le_of_ble_eq_true rfl) (r_isPlace) ?_
  refine w_if_eq rfl (fun c4_0 => absurd c4_0 ((show ¬ b2 (wi 3 0 3) = 0 from by decide))) (fun c4_0 => ?_)
  refine w_li rfl rfl ?_
  refine w_ci rfl ?_
  refine w_ci rfl ?_
  refine w_st3r pl_sub_c rfl (Nat.le_of_ble_eq_true rfl) (r_isWithin) ?_
  refine w_if_ne rfl (fun c13_0 => ?_) (fun c13_0 => absurd (b2t (show wi (-1) (-1) 3 = true from by decide)) c13_0)
  refine w_li rfl rfl ?_
  refine w_ci rfl ?_
  refine w_ic_ne rfl (fun c20_0 => absurd c20_0 (show ¬ (¬ ((-1) : Int32) = (-1)) from by decide)) (fun c20_0 => ?_)
  refine w_la rfl rfl ?_
  refine w_gf rfl (mg_0 _ _) rfl ?_
  refine w_li rfl rfl ?_
  refine w_aa rfl (mg_35 _ _) (show ¬ (3 : Int32) < 0 from by decide) (q := 46) rfl ?_
  refine w_ci rfl ?_
  refine w_pf rfl rfl (mg_46 _ _) (Nat.le_of_ble_eq_true rfl) (ms_46_1 _ _ _) ?_
  refine w_ci rfl ?_
  refine w_ri rfl ?_
  exact ⟨rfl, _, _, rfl, by repeat (first | exact Mod0 | refine Mod.uq ?_ (Nat.le_of_ble_eq_true rfl) | refine Mod.up ?_ (Nat.le_of_ble_eq_true rfl))⟩

set_option maxRecDepth 100000 in
set_option maxHeartbeats 300000 in
theorem d_sheet_m1_3 {nv : Int32}  (s : Nat → Nat → Int32) (t : Nat → Nat → Int64) : Wm 187 [.ref 51, .int 3, .int (-1), .int nv] (mk (mS s) (mT t)) (Pm (.int 1)) := by
  refine Wm.of pT_187 (Nat.le_of_ble_eq_true rfl) (L0 := [some (.ref 51), some (.int 3), some (.int (-1)), some (.int nv), none]) rfl ?_
  refine w_li rfl rfl ?_
  refine w_st1r pl_sub_c rfl (Nat.le_of_ble_eq_true rfl) (m_isShelf) ?_
  refine w_if_eq rfl (fun c4_0 => absurd c4_0 ((show ¬ b2 (wi 3 0 3) = 0 from by decide))) (fun c4_0 => ?_)
  refine w_li rfl rfl ?_
  refine w_ci rfl ?_
  refine w_ci rfl ?_
  refine w_st3r pl_sub_c rfl (Nat.le_of_ble_eq_true rfl) (m_in) ?_
  refine w_if_eq rfl (fun c13_0 => absurd c13_0 (b2t (show wi (-1) (-1) 3 = true from by decide))) (fun c13_0 => ?_)
  refine w_li rfl rfl ?_
  refine w_if_lt rfl (fun c17_0 => ?_) (fun c17_0 => absurd (show ((-1) : Int32) < 0 from by decide) c17_0)
  refine w_li rfl rfl ?_
  refine w_if_lt rfl (fun c29_0 => ?_) (fun c29_0 => absurd (show ((-1) : Int32) < 0 from by decide) c29_0)
  refine w_la rfl rfl ?_
  refine w_gf rfl (mg_51 _ _) rfl ?_
  refine w_li rfl rfl ?_
  refine w_li rfl rfl ?_
  refine w_is rfl (mg_60 _ _) (show ¬ (3 : Int32) < 0 from by decide) (by rw [ar_len]; exact (show (3 : Int32).toNatClampNeg < 4 from by decide)) (ms_60 _ _ _ _) ?_
  refine w_la rfl rfl ?_
  refine w_gf rfl (mg_51 _ _) rfl ?_
  refine w_li rfl rfl ?_
  refine w_li rfl rfl ?_
  refine w_if_ge rfl (fun c52_0 => absurd c52_0 (show ¬ ((0 : Int32) ≤ (-1)) from by decide)) (fun c52_0 => ?_)
  refine w_ci rfl ?_
  refine w_go rfl ?_
  refine w_is rfl (mg_61 _ _) (show ¬ (3 : Int32) < 0 from by decide) (by rw [ar_len]; exact (show (3 : Int32).toNatClampNeg < 4 from by decide)) (ms_61 _ _ _ _) ?_
  refine w_ci rfl ?_
  refine w_si rfl (Nat.le_of_ble_eq_true rfl) rfl ?_
  exact ly_sheet_3 40 0 _ _ (by omega)

theorem b_sheet_m1_3 {nv : Int32}  : Bth 85 187 [.int 3, .int (-1), .int nv] := Bth.of (c_sheet_m1_3 ) (fun s t => d_sheet_m1_3  s t)
set_option maxRecDepth 100000 in
set_option maxHeartbeats 300000 in
theorem c_sheet_hi_3 {sv nv : Int32} (hs : wi sv (-1) 3 = true) (h1 : ¬ sv = -1) (h2 : ¬ sv < 0) (h3 : ¬ nv ≤ 40) : Wm 85 [.ref 0, .int 3, .int sv, .int nv] (mk s0 t0) (Pc (.int (-1))) := by
  refine Wm.of pT_85 (Nat.le_of_ble_eq_true rfl) (L0 := [some (.ref 0), some (.int 3), some (.int sv), some (.int nv)]) rfl ?_
  refine w_li rfl rfl ?_
  refine w_st1r pl_sub_c rfl (Nat.le_of_ble_eq_true rfl) (r_isPlace) ?_
  refine w_if_eq rfl (fun c4_0 => absurd c4_0 ((show ¬ b2 (wi 3 0 3) = 0 from by decide))) (fun c4_0 => ?_)
  refine w_li rfl rfl ?_
  refine w_ci rfl ?_
  refine w_ci rfl ?_
  refine w_st3r pl_sub_c rfl (Nat.le_of_ble_eq_true rfl) (r_isWithin) ?_
  refine w_if_ne rfl (fun c13_0 => ?_) (fun c13_0 => absurd (b2t hs) c13_0)
  refine w_li rfl rfl ?_
  refine w_ci rfl ?_
  refine w_ic_ne rfl (fun c20_0 => ?_) (fun c20_0 => absurd (h1) c20_0)
  refine w_li rfl rfl ?_
  refine w_ci rfl ?_
  refine w_ic_le rfl (fun c38_0 => absurd c38_0 (h3)) (fun c38_0 => ?_)
  refine w_ci rfl ?_
  refine w_ri rfl ?_
  exact ⟨rfl, _, _, rfl, by repeat (first | exact Mod0 | refine Mod.uq ?_ (Nat.le_of_ble_eq_true rfl) | refine Mod.up ?_ (Nat.le_of_ble_eq_true rfl))⟩

set_option maxRecDepth 100000 in
set_option maxHeartbeats 300000 in
theorem d_sheet_hi_3 {sv nv : Int32} (hs : wi sv (-1) 3 = true) (h1 : ¬ sv = -1) (h2 : ¬ sv < 0) (h3 : ¬ nv ≤ 40) (s : Nat → Nat → Int32) (t : Nat → Nat → Int64) : Wm 187 [.ref 51, .int 3, .int sv, .int nv] (mk (mS s) (mT t)) (Pm (.int (-1))) := by
  refine Wm.of pT_187 (Nat.le_of_ble_eq_true rfl) (L0 := [some (.ref 51), some (.int 3), some (.int sv), some (.int nv), none]) rfl ?_
  refine w_li rfl rfl ?_
  refine w_st1r pl_sub_c rfl (Nat.le_of_ble_eq_true rfl) (m_isShelf) ?_
  refine w_if_eq rfl (fun c4_0 => absurd c4_0 ((show ¬ b2 (wi 3 0 3) = 0 from by decide))) (fun c4_0 => ?_)
  refine w_li rfl rfl ?_
  refine w_ci rfl ?_
  refine w_ci rfl ?_
  refine w_st3r pl_sub_c rfl (Nat.le_of_ble_eq_true rfl) (m_in) ?_
  refine w_if_eq rfl (fun c13_0 => absurd c13_0 (b2t hs)) (fun c13_0 => ?_)
  refine w_li rfl rfl ?_
  refine w_if_lt rfl (fun c17_0 => absurd c17_0 (h2)) (fun c17_0 => ?_)
  refine w_li rfl rfl ?_
  refine w_ci rfl ?_
  refine w_ic_le rfl (fun c23_0 => absurd c23_0 (h3)) (fun c23_0 => ?_)
  refine w_ci rfl ?_
  refine w_ri rfl ?_
  exact ⟨rfl, _, _, rfl⟩

theorem b_sheet_hi_3 {sv nv : Int32} (hs : wi sv (-1) 3 = true) (h1 : ¬ sv = -1) (h2 : ¬ sv < 0) (h3 : ¬ nv ≤ 40) : Bth 85 187 [.int 3, .int sv, .int nv] := Bth.of (c_sheet_hi_3 hs h1 h2 h3) (fun s t => d_sheet_hi_3 hs h1 h2 h3 s t)
set_option maxRecDepth 100000 in
set_option maxHeartbeats 300000 in
theorem c_sheet_lo_3 {sv nv : Int32} (hs : wi sv (-1) 3 = true) (h1 : ¬ sv = -1) (h2 : ¬ sv < 0) (h3 : nv ≤ 40) (h4 : ¬ 0 ≤ nv) : Wm 85 [.ref 0, .int 3, .int sv, .int nv] (mk s0 t0) (Pc (.int (-14))) := by
  refine Wm.of pT_85 (Nat.le_of_ble_eq_true rfl) (L0 := [some (.ref 0), some (.int 3), some (.int sv), some (.int nv)]) rfl ?_
  refine w_li rfl rfl ?_
  refine w_st1r pl_sub_c rfl (Nat.le_of_ble_eq_true rfl) (r_isPlace) ?_
  refine w_if_eq rfl (fun c4_0 => absurd c4_0 ((show ¬ b2 (wi 3 0 3) = 0 from by decide))) (fun c4_0 => ?_)
  refine w_li rfl rfl ?_
  refine w_ci rfl ?_
  refine w_ci rfl ?_
  refine w_st3r pl_sub_c rfl (Nat.le_of_ble_eq_true rfl) (r_isWithin) ?_
  refine w_if_ne rfl (fun c13_0 => ?_) (fun c13_0 => absurd (b2t hs) c13_0)
  refine w_li rfl rfl ?_
  refine w_ci rfl ?_
  refine w_ic_ne rfl (fun c20_0 => ?_) (fun c20_0 => absurd (h1) c20_0)
  refine w_li rfl rfl ?_
  refine w_ci rfl ?_
  refine w_ic_le rfl (fun c38_0 => ?_) (fun c38_0 => absurd (h3) c38_0)
  refine w_li rfl rfl ?_
  refine w_if_ge rfl (fun c44_0 => absurd c44_0 (h4)) (fun c44_0 => ?_)
  refine w_ci rfl ?_
  refine w_ri rfl ?_
  exact ⟨rfl, _, _, rfl, by repeat (first | exact Mod0 | refine Mod.uq ?_ (Nat.le_of_ble_eq_true rfl) | refine Mod.up ?_ (Nat.le_of_ble_eq_true rfl))⟩

set_option maxRecDepth 100000 in
set_option maxHeartbeats 300000 in
theorem d_sheet_lo_3 {sv nv : Int32} (hs : wi sv (-1) 3 = true) (h1 : ¬ sv = -1) (h2 : ¬ sv < 0) (h3 : nv ≤ 40) (h4 : ¬ 0 ≤ nv) (s : Nat → Nat → Int32) (t : Nat → Nat → Int64) : Wm 187 [.ref 51, .int 3, .int sv, .int nv] (mk (mS s) (mT t)) (Pm (.int (-14))) := by
  refine Wm.of pT_187 (Nat.le_of_ble_eq_true rfl) (L0 := [some (.ref 51), some (.int 3), some (.int sv), some (.int nv), none]) rfl ?_
  refine w_li rfl rfl ?_
  refine w_st1r pl_sub_c rfl (Nat.le_of_ble_eq_true rfl) (m_isShelf) ?_
  refine w_if_eq rfl (fun c4_0 => absurd c4_0 ((show ¬ b2 (wi 3 0 3) = 0 from by decide))) (fun c4_0 => ?_)
  refine w_li rfl rfl ?_
  refine w_ci rfl ?_
  refine w_ci rfl ?_
  refine w_st3r pl_sub_c rfl (Nat.le_of_ble_eq_true rfl) (m_in) ?_
  refine w_if_eq rfl (fun c13_0 => absurd c13_0 (b2t hs)) (fun c13_0 => ?_)
  refine w_li rfl rfl ?_
  refine w_if_lt rfl (fun c17_0 => absurd c17_0 (h2)) (fun c17_0 => ?_)
  refine w_li rfl rfl ?_
  refine w_ci rfl ?_
  refine w_ic_le rfl (fun c23_0 => ?_) (fun c23_0 => absurd (h3) c23_0)
  refine w_li rfl rfl ?_
  refine w_if_lt rfl (fun c29_0 => absurd c29_0 (h2)) (fun c29_0 => ?_)
  refine w_li rfl rfl ?_
  refine w_if_ge rfl (fun c33_0 => absurd c33_0 (h4)) (fun c33_0 => ?_)
  refine w_ci rfl ?_
  refine w_ri rfl ?_
  exact ⟨rfl, _, _, rfl⟩

theorem b_sheet_lo_3 {sv nv : Int32} (hs : wi sv (-1) 3 = true) (h1 : ¬ sv = -1) (h2 : ¬ sv < 0) (h3 : nv ≤ 40) (h4 : ¬ 0 ≤ nv) : Bth 85 187 [.int 3, .int sv, .int nv] := Bth.of (c_sheet_lo_3 hs h1 h2 h3 h4) (fun s t => d_sheet_lo_3 hs h1 h2 h3 h4 s t)
set_option maxRecDepth 100000 in
set_option maxHeartbeats 300000 in
theorem c_sheet_ok_3 {sv nv : Int32} (hs : wi sv (-1) 3 = true) (h1 : ¬ sv = -1) (h2 : ¬ sv < 0) (h3 : nv ≤ 40) (h4 : 0 ≤ nv) : Wm 85 [.ref 0, .int 3, .int sv, .int nv] (mk s0 t0) (Pc (.int 1)) := by
  refine Wm.of pT_85 (Nat.le_of_ble_eq_true rfl) (L0 := [some (.ref 0), some (.int 3), some (.int sv), some (.int nv)]) rfl ?_
  refine w_li rfl rfl ?_
  refine w_st1r pl_sub_c rfl (Nat.le_of_ble_eq_true rfl) (r_isPlace) ?_
  refine w_if_eq rfl (fun c4_0 => absurd c4_0 ((show ¬ b2 (wi 3 0 3) = 0 from by decide))) (fun c4_0 => ?_)
  refine w_li rfl rfl ?_
  refine w_ci rfl ?_
  refine w_ci rfl ?_
  refine w_st3r pl_sub_c rfl (Nat.le_of_ble_eq_true rfl) (r_isWithin) ?_
  refine w_if_ne rfl (fun c13_0 => ?_) (fun c13_0 => absurd (b2t hs) c13_0)
  refine w_li rfl rfl ?_
  refine w_ci rfl ?_
  refine w_ic_ne rfl (fun c20_0 => ?_) (fun c20_0 => absurd (h1) c20_0)
  refine w_li rfl rfl ?_
  refine w_ci rfl ?_
  refine w_ic_le rfl (fun c38_0 => ?_) (fun c38_0 => absurd (h3) c38_0)
  refine w_li rfl rfl ?_
  refine w_if_ge rfl (fun c44_0 => ?_) (fun c44_0 => absurd (h4) c44_0)
  refine w_la rfl rfl ?_
  refine w_gf rfl (mg_0 _ _) rfl ?_
  refine w_li rfl rfl ?_
  refine w_aa rfl (mg_35 _ _) (show ¬ (3 : Int32) < 0 from by decide) (q := 46) rfl ?_
  refine w_li rfl rfl ?_
  refine w_li rfl rfl ?_
  refine w_vi2 pl_sub_c rfl (mg_46 _ _) (Nat.le_of_ble_eq_true rfl) (u_begin_3) (fun r2 h2 q => by obtain ⟨_, _, q⟩ := q; rw [q]; rfl) (fun r2 h2 q => ?_)
  obtain ⟨q1, f, q2⟩ := q
  rw [q1, q2]
  refine w_ci rfl ?_
  refine w_ri rfl ?_
  exact ⟨rfl, _, _, rfl, by repeat (first | exact Mod0 | refine Mod.uq ?_ (Nat.le_of_ble_eq_true rfl) | refine Mod.up ?_ (Nat.le_of_ble_eq_true rfl))⟩

set_option maxRecDepth 100000 in
set_option maxHeartbeats 300000 in
theorem d_sheet_ok_3 {sv nv : Int32} (hs : wi sv (-1) 3 = true) (h1 : ¬ sv = -1) (h2 : ¬ sv < 0) (h3 : nv ≤ 40) (h4 : 0 ≤ nv) (s : Nat → Nat → Int32) (t : Nat → Nat → Int64) : Wm 187 [.ref 51, .int 3, .int sv, .int nv] (mk (mS s) (mT t)) (Pm (.int 1)) := by
  refine Wm.of pT_187 (Nat.le_of_ble_eq_true rfl) (L0 := [some (.ref 51), some (.int 3), some (.int sv), some (.int nv), none]) rfl ?_
  refine w_li rfl rfl ?_
  refine w_st1r pl_sub_c rfl (Nat.le_of_ble_eq_true rfl) (m_isShelf) ?_
  refine w_if_eq rfl (fun c4_0 => absurd c4_0 ((show ¬ b2 (wi 3 0 3) = 0 from by decide))) (fun c4_0 => ?_)
  refine w_li rfl rfl ?_
  refine w_ci rfl ?_
  refine w_ci rfl ?_
  refine w_st3r pl_sub_c rfl (Nat.le_of_ble_eq_true rfl) (m_in) ?_
  refine w_if_eq rfl (fun c13_0 => absurd c13_0 (b2t hs)) (fun c13_0 => ?_)
  refine w_li rfl rfl ?_
  refine w_if_lt rfl (fun c17_0 => absurd c17_0 (h2)) (fun c17_0 => ?_)
  refine w_li rfl rfl ?_
  refine w_ci rfl ?_
  refine w_ic_le rfl (fun c23_0 => ?_) (fun c23_0 => absurd (h3) c23_0)
  refine w_li rfl rfl ?_
  refine w_if_lt rfl (fun c29_0 => absurd c29_0 (h2)) (fun c29_0 => ?_)
  refine w_li rfl rfl ?_
  refine w_if_ge rfl (fun c33_0 => ?_) (fun c33_0 => absurd (h4) c33_0)
  refine w_la rfl rfl ?_
  refine w_gf rfl (mg_51 _ _) rfl ?_
  refine w_li rfl rfl ?_
  refine w_li rfl rfl ?_
  refine w_is rfl (mg_60 _ _) (show ¬ (3 : Int32) < 0 from by decide) (by rw [ar_len]; exact (show (3 : Int32).toNatClampNeg < 4 from by decide)) (ms_60 _ _ _ _) ?_
  refine w_la rfl rfl ?_
  refine w_gf rfl (mg_51 _ _) rfl ?_
  refine w_li rfl rfl ?_
  refine w_li rfl rfl ?_
  refine w_if_ge rfl (fun c52_0 => ?_) (fun c52_0 => ?_)
  · skip
    refine w_li rfl rfl ?_
    refine w_is rfl (mg_61 _ _) (show ¬ (3 : Int32) < 0 from by decide) (by rw [ar_len]; exact (show (3 : Int32).toNatClampNeg < 4 from by decide)) (ms_61 _ _ _ _) ?_
    refine w_ci rfl ?_
    refine w_si rfl (Nat.le_of_ble_eq_true rfl) rfl ?_
    exact ly_sheet_3 40 0 _ _ (by omega)
  · skip
    refine w_ci rfl ?_
    refine w_go rfl ?_
    refine w_is rfl (mg_61 _ _) (show ¬ (3 : Int32) < 0 from by decide) (by rw [ar_len]; exact (show (3 : Int32).toNatClampNeg < 4 from by decide)) (ms_61 _ _ _ _) ?_
    refine w_ci rfl ?_
    refine w_si rfl (Nat.le_of_ble_eq_true rfl) rfl ?_
    exact ly_sheet_3 40 0 _ _ (by omega)

theorem b_sheet_ok_3 {sv nv : Int32} (hs : wi sv (-1) 3 = true) (h1 : ¬ sv = -1) (h2 : ¬ sv < 0) (h3 : nv ≤ 40) (h4 : 0 ≤ nv) : Bth 85 187 [.int 3, .int sv, .int nv] := Bth.of (c_sheet_ok_3 hs h1 h2 h3 h4) (fun s t => d_sheet_ok_3 hs h1 h2 h3 h4 s t)
set_option maxRecDepth 100000 in
set_option maxHeartbeats 300000 in
theorem c_sheet_out {z sv nv : Int32} (hx : wi z 0 3 = false) : Wm 85 [.ref 0, .int z, .int sv, .int nv] (mk s0 t0) (Pc (.int (-1))) := by
  refine Wm.of pT_85 (Nat.le_of_ble_eq_true rfl) (L0 := [some (.ref 0), some (.int z), some (.int sv), some (.int nv)]) rfl ?_
  refine w_li rfl rfl ?_
  refine w_st1r pl_sub_c rfl (Nat.le_of_ble_eq_true rfl) (r_isPlace) ?_
  refine w_if_eq rfl (fun c4_0 => ?_) (fun c4_0 => ?_)
  · skip
    replace c4_0 := b2_0 c4_0
    refine w_ci rfl ?_
    refine w_ri rfl ?_
    exact ⟨by first | rfl | (simp_all; done) | (simp_all; rfl) | (simp_all [up2_s]; done) | (simp_all [up2_s]; decide) | decide, _, _, rfl, by repeat (first | exact Mod0 | refine Mod.up ?_ (Nat.le_of_ble_eq_true rfl) | refine Mod.upl ?_ (Nat.le_of_ble_eq_true rfl))⟩
  · skip
    replace c4_0 := b2_n c4_0
    exact absurd (hx.symm.trans c4_0) (by decide)

set_option maxRecDepth 100000 in
set_option maxHeartbeats 300000 in
theorem d_sheet_out {z sv nv : Int32} (hx : wi z 0 3 = false) (s : Nat → Nat → Int32) (t : Nat → Nat → Int64) : Wm 187 [.ref 51, .int z, .int sv, .int nv] (mk (mS s) (mT t)) (Pm (.int (-1))) := by
  refine Wm.of pT_187 (Nat.le_of_ble_eq_true rfl) (L0 := [some (.ref 51), some (.int z), some (.int sv), some (.int nv), none]) rfl ?_
  refine w_li rfl rfl ?_
  refine w_st1r pl_sub_c rfl (Nat.le_of_ble_eq_true rfl) (m_isShelf) ?_
  refine w_if_eq rfl (fun c4_0 => ?_) (fun c4_0 => ?_)
  · skip
    replace c4_0 := b2_0 c4_0
    refine w_ci rfl ?_
    refine w_ri rfl ?_
    exact ⟨by first | rfl | (simp_all; done) | (simp_all; rfl) | decide, _, _, rfl⟩
  · skip
    replace c4_0 := b2_n c4_0
    exact absurd (hx.symm.trans c4_0) (by decide)

theorem b_sheet_out {z sv nv : Int32} (hx : wi z 0 3 = false) : Bth 85 187 [.int z, .int sv, .int nv] := Bth.of (c_sheet_out hx) (fun s t => d_sheet_out hx s t)
theorem m1_lt {x : Int32} (h : wi x (-1) 3 = true) (h1 : ¬ x = -1) : ¬ x < 0 := by
  simp only [wi, Bool.and_eq_true, decide_eq_true_eq, Int32.le_iff_toInt_le] at h
  rw [Int32.lt_iff_toInt_lt]
  have e0 : (0 : Int32).toInt = 0 := by decide
  have e1 : (-1 : Int32).toInt = -1 := by decide
  have h3 : ¬ x.toInt = (-1 : Int32).toInt := fun q => h1 (Int32.toInt_inj.mp q)
  omega
theorem B_sheet_0 (sv nv : Int32) : Bth 85 187 [.int 0, .int sv, .int nv] := by
  rcases tf (wi sv (-1) 3) with hs | hs
  · by_cases h1 : sv = -1
    · subst h1; exact b_sheet_m1_0
    · by_cases h3 : nv ≤ 40
      · by_cases h4 : 0 ≤ nv
        · exact b_sheet_ok_0 hs h1 (m1_lt hs h1) h3 h4
        · exact b_sheet_lo_0 hs h1 (m1_lt hs h1) h3 h4
      · exact b_sheet_hi_0 hs h1 (m1_lt hs h1) h3
  · exact b_sheet_os_0 hs
theorem B_sheet_1 (sv nv : Int32) : Bth 85 187 [.int 1, .int sv, .int nv] := by
  rcases tf (wi sv (-1) 3) with hs | hs
  · by_cases h1 : sv = -1
    · subst h1; exact b_sheet_m1_1
    · by_cases h3 : nv ≤ 40
      · by_cases h4 : 0 ≤ nv
        · exact b_sheet_ok_1 hs h1 (m1_lt hs h1) h3 h4
        · exact b_sheet_lo_1 hs h1 (m1_lt hs h1) h3 h4
      · exact b_sheet_hi_1 hs h1 (m1_lt hs h1) h3
  · exact b_sheet_os_1 hs
theorem B_sheet_2 (sv nv : Int32) : Bth 85 187 [.int 2, .int sv, .int nv] := by
  rcases tf (wi sv (-1) 3) with hs | hs
  · by_cases h1 : sv = -1
    · subst h1; exact b_sheet_m1_2
    · by_cases h3 : nv ≤ 40
      · by_cases h4 : 0 ≤ nv
        · exact b_sheet_ok_2 hs h1 (m1_lt hs h1) h3 h4
        · exact b_sheet_lo_2 hs h1 (m1_lt hs h1) h3 h4
      · exact b_sheet_hi_2 hs h1 (m1_lt hs h1) h3
  · exact b_sheet_os_2 hs
theorem B_sheet_3 (sv nv : Int32) : Bth 85 187 [.int 3, .int sv, .int nv] := by
  rcases tf (wi sv (-1) 3) with hs | hs
  · by_cases h1 : sv = -1
    · subst h1; exact b_sheet_m1_3
    · by_cases h3 : nv ≤ 40
      · by_cases h4 : 0 ≤ nv
        · exact b_sheet_ok_3 hs h1 (m1_lt hs h1) h3 h4
        · exact b_sheet_lo_3 hs h1 (m1_lt hs h1) h3 h4
      · exact b_sheet_hi_3 hs h1 (m1_lt hs h1) h3
  · exact b_sheet_os_3 hs
theorem B_sheet (z sv nv : Int32) : Bth 85 187 [.int z, .int sv, .int nv] := by
  rcases tf (wi z 0 3) with h | h
  · rcases en3 h with rfl | rfl | rfl | rfl
    · exact B_sheet_0 sv nv
    · exact B_sheet_1 sv nv
    · exact B_sheet_2 sv nv
    · exact B_sheet_3 sv nv
  · exact b_sheet_out h
