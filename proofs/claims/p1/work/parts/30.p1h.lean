/-! p1: weeks with nobody, the reference -/
def yS (s : Nat → Nat → Int32) : Nat → Nat → Int32 := fun c i => if c = 52 then (if i = 6 then 0 else s 52 i) else if c = 55 then (if i = 6 then 0 else s 55 i) else s c i
theorem yS_up {s : Nat → Nat → Int32} {c i : Nat} {v : Int32} (h : (c = 52 ∨ c = 55) → i ≠ 6) : up2 (yS s) c i v = yS (up2 s c i v) := by
  funext a b
  unfold up2 yS
  by_cases ha : a = c
  · subst ha
    by_cases hb : b = i
    · subst hb
      by_cases a1 : a = 52
      · subst a1; simp [h (Or.inl rfl)]
      · by_cases a2 : a = 55
        · subst a2; simp [h (Or.inr rfl)]
        · simp [a1, a2]
    · by_cases a1 : a = 52
      · subst a1; simp [hb]
      · by_cases a2 : a = 55
        · subst a2; simp [hb]
        · simp [a1, a2, hb]
  · by_cases a1 : a = 52
    · subst a1; simp [ha]
    · by_cases a2 : a = 55
      · subst a2; simp [ha]
      · simp [ha, a1, a2]
theorem yS_mv1 {s : Nat → Nat → Int32} {i : Nat} : up2 (yS s) 55 i (yS s 52 i) = yS (up2 s 55 i (s 52 i)) := by
  by_cases hi : i = 6
  · subst hi
    funext a b
    unfold up2 yS
    by_cases ha : a = 55
    · subst ha
      by_cases hb : b = 6
      · subst hb; simp
      · simp [hb]
    · by_cases a1 : a = 52
      · subst a1; simp
      · simp [ha, a1]
  · rw [yS_up (fun _ => hi)]
    simp [yS, hi]
theorem yS_mv2 {s : Nat → Nat → Int32} {i : Nat} : up2 (yS s) 52 i (yS s 55 i) = yS (up2 s 52 i (s 55 i)) := by
  by_cases hi : i = 6
  · subst hi
    funext a b
    unfold up2 yS
    by_cases ha : a = 52
    · subst ha
      by_cases hb : b = 6
      · subst hb; simp
      · simp [hb]
    · by_cases a1 : a = 55
      · subst a1; simp
      · simp [ha, a1]
  · rw [yS_up (fun _ => hi)]
    simp [yS, hi]
theorem mS_y (s : Nat → Nat → Int32) : mS s = yS (mS s) := by
  funext c i
  unfold yS
  by_cases a1 : c = 52
  · subst a1
    by_cases h8 : i = 6
    · subst h8; show s0 52 6 = _; simp; decide
    · simp [h8]
  · by_cases a2 : c = 55
    · subst a2
      by_cases h8 : i = 6
      · subst h8; show s0 55 6 = _; simp; decide
      · simp [h8]
    · simp [a1, a2]
/-- what a method of the reference leaves with nobody there -/
def EY (t : Nat → Nat → Int64) (v : Option Value) : Option Value → pm_H → Prop := fun r h => r = v ∧ ∃ s, h = mk (yS s) t
def EP (s : Nat → Nat → Int32) (t : Nat → Nat → Int64) : Option Value → pm_H → Prop := fun r h => r = none ∧ ∃ v, h = mk (yS (up2 s 52 5 v)) t
theorem EY.pm {v : Value} {r : Option Value} {h : pm_H} {t : Nat → Nat → Int64} (q : EY t (some v) r h) : Pm v r h := by
  obtain ⟨q1, s, q2⟩ := q
  exact ⟨q1, yS s, t, q2⟩
set_option maxRecDepth 100000 in
set_option maxHeartbeats 2000000 in
theorem y_next {s : Nat → Nat → Int32} {t : Nat → Nat → Int64} : Wm 150 [.ref 51] (mk (yS s) t) (fun r h => r = some (.int (-1)) ∧ h = mk (yS s) t) := by
  refine Wm.of pT_150 (Nat.le_of_ble_eq_true rfl) (L0 := [some (.ref 51), none, none, none]) rfl ?_
  refine w_ci rfl ?_
  refine w_si rfl (Nat.le_of_ble_eq_true rfl) rfl ?_
  refine w_ci rfl ?_
  refine w_si rfl (Nat.le_of_ble_eq_true rfl) rfl ?_
  refine w_li rfl rfl ?_
  refine w_la rfl rfl ?_
  refine w_gf rfl (mg_51 _ _) rfl ?_
  refine w_ci rfl ?_
  refine w_ia rfl (mr_52 _ _ _) (show ¬ (6 : Int32) < 0 from by decide) (ar_get (show (6 : Int32).toNatClampNeg < 56 from by decide)) ?_
  refine w_ic_ge rfl (fun c12_0 => ?_) (fun c12_0 => absurd (show (0 : Int32) ≤ 0 from by decide) c12_0)
  refine w_li rfl rfl ?_
  refine w_ri rfl ?_
  exact ⟨rfl, rfl⟩

set_option maxRecDepth 100000 in
set_option maxHeartbeats 2000000 in
theorem y_held {s : Nat → Nat → Int32} {t : Nat → Nat → Int64} {a b c : Int32} : Wm 111 [.int a, .int b, .int c] (mk (yS s) t) (fun r h => ∃ v : Int32, r = some (.int v) ∧ h = mk (yS s) t) := by
  refine Wm.of pT_111 (Nat.le_of_ble_eq_true rfl) (L0 := [some (.int a), some (.int b), some (.int c)]) rfl ?_
  refine w_li rfl rfl ?_
  refine w_li rfl rfl ?_
  refine w_ic_ge rfl (fun c2_0 => ?_) (fun c2_0 => ?_)
  · skip
    refine w_li rfl rfl ?_
    refine w_li rfl rfl ?_
    refine w_ic_le rfl (fun c11_1 => ?_) (fun c11_1 => ?_)
    · skip
      refine w_li rfl rfl ?_
      refine w_ri rfl ?_
      exact ⟨_, rfl, rfl⟩
    · skip
      refine w_li rfl rfl ?_
      refine w_go rfl ?_
      refine w_ri rfl ?_
      exact ⟨_, rfl, rfl⟩
  · skip
    refine w_li rfl rfl ?_
    refine w_go rfl ?_
    refine w_ri rfl ?_
    exact ⟨_, rfl, rfl⟩

set_option maxRecDepth 100000 in
set_option maxHeartbeats 2000000 in
theorem y_pageGoes {s : Nat → Nat → Int32} {t : Nat → Nat → Int64} : Wm 151 [.ref 51] (mk (yS s) t) (EP s t) := by
  refine Wm.of pT_151 (Nat.le_of_ble_eq_true rfl) (L0 := [some (.ref 51), none]) rfl ?_
  refine w_la rfl rfl ?_
  refine w_vi0 pl_sub_c rfl (mg_51 _ _) (Nat.le_of_ble_eq_true rfl) (y_next) (fun r2 h2 q => (congrArg List.length q.2).trans rfl) (fun r2 h2 q => ?_)
  rw [q.1, q.2]
  refine w_si rfl (Nat.le_of_ble_eq_true rfl) rfl ?_
  refine w_li rfl rfl ?_
  refine w_if_ge rfl (fun c6_0 => absurd c6_0 (show ¬ ((0 : Int32) ≤ (-1)) from by decide)) (fun c6_0 => ?_)
  refine w_la rfl rfl ?_
  refine w_gf rfl (mg_51 _ _) rfl ?_
  refine w_ci rfl ?_
  refine w_la rfl rfl ?_
  refine w_gf rfl (mg_51 _ _) rfl ?_
  refine w_ci rfl ?_
  refine w_ia rfl (mr_52 _ _ _) (show ¬ (5 : Int32) < 0 from by decide) (ar_get (show (5 : Int32).toNatClampNeg < 56 from by decide)) ?_
  refine w_ci rfl ?_
  refine w_iadd rfl ?_
  refine w_ci rfl ?_
  refine w_ci rfl ?_
  refine w_st3 pl_sub_c rfl (Nat.le_of_ble_eq_true rfl) (y_held) (fun r2 h2 q => by obtain ⟨_, _, q⟩ := q; rw [q]) (fun r2 h2 q => ?_)
  obtain ⟨v, q1, q2⟩ := q
  rw [q1, q2]
  refine w_is rfl (mg_52 _ _) (show ¬ (5 : Int32) < 0 from by decide) (by rw [ar_len]; exact (show (5 : Int32).toNatClampNeg < 56 from by decide)) (ms_52 _ _ _ _) ?_
  rw [yS_up (by decide)]
  refine w_rv rfl ?_
  exact ⟨rfl, _, rfl⟩

set_option maxRecDepth 100000 in
set_option maxHeartbeats 2000000 in
theorem y_sumOf {s : Nat → Nat → Int32} {t : Nat → Nat → Int64} : Wm 154 [.ref 51, .int 3] (mk (yS s) t) (EY t (some (.int 0))) := by
  refine Wm.of pT_154 (Nat.le_of_ble_eq_true rfl) (L0 := [some (.ref 51), some (.int 3), none, none]) rfl ?_
  refine w_ci rfl ?_
  refine w_si rfl (Nat.le_of_ble_eq_true rfl) rfl ?_
  refine w_ci rfl ?_
  refine w_si rfl (Nat.le_of_ble_eq_true rfl) rfl ?_
  refine w_li rfl rfl ?_
  refine w_la rfl rfl ?_
  refine w_gf rfl (mg_51 _ _) rfl ?_
  refine w_ci rfl ?_
  refine w_ia rfl (mr_52 _ _ _) (show ¬ (6 : Int32) < 0 from by decide) (ar_get (show (6 : Int32).toNatClampNeg < 56 from by decide)) ?_
  refine w_ic_ge rfl (fun c12_0 => ?_) (fun c12_0 => absurd (show (0 : Int32) ≤ 0 from by decide) c12_0)
  refine w_li rfl rfl ?_
  refine w_ri rfl ?_
  exact ⟨by first | rfl | decide, _, rfl⟩

set_option maxRecDepth 100000 in
set_option maxHeartbeats 2000000 in
theorem l_move_52 : ∀ (m j : Nat) (s : Nat → Nat → Int32) (t : Nat → Nat → Int64), j + m = 56 → Wp pl_Kc 112 2 [some (.ref 52), some (.ref 55), some (.int (nI j))] [] (mk (yS s) t) (EY t none) := by
  intro m
  induction m with
  | zero =>
    intro j s t hj
    obtain rfl : j = 56 := by omega
    refine w_li rfl rfl ?_
    refine w_ci rfl ?_
    refine w_ic_ge rfl (fun c5_0 => ?_) (fun c5_0 => absurd (show nI 56 ≤ nI 56 from nI_le (by omega) (by omega)) c5_0)
    refine w_rv rfl ?_
    exact ⟨by first | rfl | decide, _, rfl⟩
  | succ m ih =>
    intro j s t hj
    refine w_li rfl rfl ?_
    refine w_ci rfl ?_
    refine w_ic_ge rfl (fun c5_0 => absurd c5_0 (show ¬ nI 56 ≤ nI j from nI_ge (by omega) (by omega))) (fun c5_0 => ?_)
    refine w_la rfl rfl ?_
    refine w_li rfl rfl ?_
    refine w_la rfl rfl ?_
    refine w_li rfl rfl ?_
    refine w_ia rfl (mr_52 _ _ _) (nI_pos (by omega)) (ar_get (by rw [nI_clamp (by omega)]; omega)) ?_
    refine w_is rfl (mg_55 _ _) (nI_pos (by omega)) (by rw [ar_len, nI_clamp (by omega)]; omega) (ms_55 _ _ _ _) ?_
    rw [nI_clamp (by omega), yS_mv1]
    refine w_inc rfl rfl rfl ?_
    refine w_go rfl ?_
    rw [nI_1]
    exact ih (j + 1) _ _ (by omega)
set_option maxRecDepth 100000 in
set_option maxHeartbeats 2000000 in
theorem y_move_52 {s : Nat → Nat → Int32} {t : Nat → Nat → Int64} : Wm 112 [.ref 52, .ref 55] (mk (yS s) t) (EY t (none)) := by
  refine Wm.of pT_112 (Nat.le_of_ble_eq_true rfl) (L0 := [some (.ref 52), some (.ref 55), none]) rfl ?_
  refine w_ci rfl ?_
  refine w_si rfl (Nat.le_of_ble_eq_true rfl) rfl ?_
  rw [show (0 : Int32) = nI 0 from rfl]
  exact l_move_52 56 0 s t (by omega)

set_option maxRecDepth 100000 in
set_option maxHeartbeats 2000000 in
theorem l_move_55 : ∀ (m j : Nat) (s : Nat → Nat → Int32) (t : Nat → Nat → Int64), j + m = 56 → Wp pl_Kc 112 2 [some (.ref 55), some (.ref 52), some (.int (nI j))] [] (mk (yS s) t) (EY t none) := by
  intro m
  induction m with
  | zero =>
    intro j s t hj
    obtain rfl : j = 56 := by omega
    refine w_li rfl rfl ?_
    refine w_ci rfl ?_
    refine w_ic_ge rfl (fun c5_0 => ?_) (fun c5_0 => absurd (show nI 56 ≤ nI 56 from nI_le (by omega) (by omega)) c5_0)
    refine w_rv rfl ?_
    exact ⟨by first | rfl | decide, _, rfl⟩
  | succ m ih =>
    intro j s t hj
    refine w_li rfl rfl ?_
    refine w_ci rfl ?_
    refine w_ic_ge rfl (fun c5_0 => absurd c5_0 (show ¬ nI 56 ≤ nI j from nI_ge (by omega) (by omega))) (fun c5_0 => ?_)
    refine w_la rfl rfl ?_
    refine w_li rfl rfl ?_
    refine w_la rfl rfl ?_
    refine w_li rfl rfl ?_
    refine w_ia rfl (mr_55 _ _ _) (nI_pos (by omega)) (ar_get (by rw [nI_clamp (by omega)]; omega)) ?_
    refine w_is rfl (mg_52 _ _) (nI_pos (by omega)) (by rw [ar_len, nI_clamp (by omega)]; omega) (ms_52 _ _ _ _) ?_
    rw [nI_clamp (by omega), yS_mv2]
    refine w_inc rfl rfl rfl ?_
    refine w_go rfl ?_
    rw [nI_1]
    exact ih (j + 1) _ _ (by omega)
set_option maxRecDepth 100000 in
set_option maxHeartbeats 2000000 in
theorem y_move_55 {s : Nat → Nat → Int32} {t : Nat → Nat → Int64} : Wm 112 [.ref 55, .ref 52] (mk (yS s) t) (EY t (none)) := by
  refine Wm.of pT_112 (Nat.le_of_ble_eq_true rfl) (L0 := [some (.ref 55), some (.ref 52), none]) rfl ?_
  refine w_ci rfl ?_
  refine w_si rfl (Nat.le_of_ble_eq_true rfl) rfl ?_
  rw [show (0 : Int32) = nI 0 from rfl]
  exact l_move_55 56 0 s t (by omega)

set_option maxRecDepth 100000 in
set_option maxHeartbeats 2000000 in
theorem l_weekGoes : ∀ (m j : Nat) (oo : Option Value) (s : Nat → Nat → Int32) (t : Nat → Nat → Int64), (s 52 0).toInt ≤ (j + m : Nat) → j + m < 2 ^ 31 → Wp pl_Kc 153 45 [some (.ref 51), some (.int (nI j)), oo] [] (mk (yS s) t) (EY t (some (.int 0))) := by
  intro m
  induction m with
  | zero =>
    intro j oo s t hj hn
    refine w_li rfl rfl ?_
    refine w_la rfl rfl ?_
    refine w_gf rfl (mg_51 _ _) rfl ?_
    refine w_ci rfl ?_
    refine w_ia rfl (mr_52 _ _ _) (show ¬ (0 : Int32) < 0 from by decide) (ar_get (show (0 : Int32).toNatClampNeg < 56 from by decide)) ?_
    refine w_ic_ge rfl (fun c52_0 => ?_) (fun c52_0 => absurd (show s 52 0 ≤ nI j from Int32.le_iff_toInt_le.mpr (by rw [nI_toInt (by omega)]; omega)) c52_0)
    refine w_ci rfl ?_
    refine w_si rfl (Nat.le_of_ble_eq_true rfl) rfl ?_
    refine w_ci rfl ?_
    refine w_si rfl (Nat.le_of_ble_eq_true rfl) rfl ?_
    refine w_li rfl rfl ?_
    refine w_la rfl rfl ?_
    refine w_gf rfl (mg_51 _ _) rfl ?_
    refine w_ci rfl ?_
    refine w_ia rfl (mr_52 _ _ _) (show ¬ (6 : Int32) < 0 from by decide) (ar_get (show (6 : Int32).toNatClampNeg < 56 from by decide)) ?_
    refine w_ic_ge rfl (fun c77_0 => ?_) (fun c77_0 => absurd (show (0 : Int32) ≤ 0 from by decide) c77_0)
    refine w_la rfl rfl ?_
    refine w_gf rfl (mg_51 _ _) rfl ?_
    refine w_ci rfl ?_
    refine w_dup2 rfl rfl rfl ?_
    refine w_ia rfl (mr_52 _ _ _) (show ¬ (4 : Int32) < 0 from by decide) (ar_get (show (4 : Int32).toNatClampNeg < 56 from by decide)) ?_
    refine w_ci rfl ?_
    refine w_iadd rfl ?_
    refine w_is rfl (mg_52 _ _) (show ¬ (4 : Int32) < 0 from by decide) (by rw [ar_len]; exact (show (4 : Int32).toNatClampNeg < 56 from by decide)) (ms_52 _ _ _ _) ?_
    rw [yS_up (by decide)]
    refine w_li rfl rfl ?_
    refine w_ri rfl ?_
    exact ⟨by first | rfl | decide, _, rfl⟩
  | succ m ih =>
    intro j oo s t hj hn
    refine w_li rfl rfl ?_
    refine w_la rfl rfl ?_
    refine w_gf rfl (mg_51 _ _) rfl ?_
    refine w_ci rfl ?_
    refine w_ia rfl (mr_52 _ _ _) (show ¬ (0 : Int32) < 0 from by decide) (ar_get (show (0 : Int32).toNatClampNeg < 56 from by decide)) ?_
    refine w_ic_ge rfl (fun c52_0 => ?_) (fun c52_0 => ?_)
    · skip
      refine w_ci rfl ?_
      refine w_si rfl (Nat.le_of_ble_eq_true rfl) rfl ?_
      refine w_ci rfl ?_
      refine w_si rfl (Nat.le_of_ble_eq_true rfl) rfl ?_
      refine w_li rfl rfl ?_
      refine w_la rfl rfl ?_
      refine w_gf rfl (mg_51 _ _) rfl ?_
      refine w_ci rfl ?_
      refine w_ia rfl (mr_52 _ _ _) (show ¬ (6 : Int32) < 0 from by decide) (ar_get (show (6 : Int32).toNatClampNeg < 56 from by decide)) ?_
      refine w_ic_ge rfl (fun c77_1 => ?_) (fun c77_1 => absurd (show (0 : Int32) ≤ 0 from by decide) c77_1)
      refine w_la rfl rfl ?_
      refine w_gf rfl (mg_51 _ _) rfl ?_
      refine w_ci rfl ?_
      refine w_dup2 rfl rfl rfl ?_
      refine w_ia rfl (mr_52 _ _ _) (show ¬ (4 : Int32) < 0 from by decide) (ar_get (show (4 : Int32).toNatClampNeg < 56 from by decide)) ?_
      refine w_ci rfl ?_
      refine w_iadd rfl ?_
      refine w_is rfl (mg_52 _ _) (show ¬ (4 : Int32) < 0 from by decide) (by rw [ar_len]; exact (show (4 : Int32).toNatClampNeg < 56 from by decide)) (ms_52 _ _ _ _) ?_
      rw [yS_up (by decide)]
      refine w_li rfl rfl ?_
      refine w_ri rfl ?_
      exact ⟨by first | rfl | decide, _, rfl⟩
    · skip
      refine w_la rfl rfl ?_
      refine w_vi0 pl_sub_c rfl (mg_51 _ _) (Nat.le_of_ble_eq_true rfl) (y_pageGoes) (fun r2 h2 q => by obtain ⟨_, _, q⟩ := q; rw [q]; rfl) (fun r2 h2 q => ?_)
      obtain ⟨q1, v, q2⟩ := q
      rw [q1, q2]
      refine w_inc rfl rfl rfl ?_
      refine w_go rfl ?_
      rw [nI_1]
      exact ih (j + 1) _ _ _ (show (s 52 0).toInt ≤ _ by omega) (by omega)
set_option maxRecDepth 100000 in
set_option maxHeartbeats 2000000 in
theorem y_weekGoes {s : Nat → Nat → Int32} {t : Nat → Nat → Int64} : Wm 153 [.ref 51] (mk (yS s) t) (EY t (some (.int 0))) := by
  refine Wm.of pT_153 (Nat.le_of_ble_eq_true rfl) (L0 := [some (.ref 51), none, none]) rfl ?_
  refine w_ci rfl ?_
  refine w_si rfl (Nat.le_of_ble_eq_true rfl) rfl ?_
  refine w_li rfl rfl ?_
  refine w_la rfl rfl ?_
  refine w_gf rfl (mg_51 _ _) rfl ?_
  refine w_ci rfl ?_
  refine w_ia rfl (mr_52 _ _ _) (show ¬ (6 : Int32) < 0 from by decide) (ar_get (show (6 : Int32).toNatClampNeg < 56 from by decide)) ?_
  refine w_ic_ge rfl (fun c10_0 => ?_) (fun c10_0 => absurd (show (0 : Int32) ≤ 0 from by decide) c10_0)
  refine w_ci rfl ?_
  refine w_si rfl (Nat.le_of_ble_eq_true rfl) rfl ?_
  rw [show (0 : Int32) = nI 0 from rfl]
  have h31 := Int32.toInt_lt (s 52 0)
  exact l_weekGoes (2 ^ 31 - 1) 0 none s t (by omega) (by omega)

set_option maxRecDepth 100000 in
set_option maxHeartbeats 2000000 in
theorem y_weekByDraws {s : Nat → Nat → Int32} {t : Nat → Nat → Int64} : Wm 158 [.ref 51] (mk (yS s) t) (EY t (some (.int 0))) := by
  refine Wm.of pT_158 (Nat.le_of_ble_eq_true rfl) (L0 := [some (.ref 51), none]) rfl ?_
  refine w_la rfl rfl ?_
  refine w_gf rfl (mg_51 _ _) rfl ?_
  refine w_ci rfl ?_
  refine w_ia rfl (mr_52 _ _ _) (show ¬ (6 : Int32) < 0 from by decide) (ar_get (show (6 : Int32).toNatClampNeg < 56 from by decide)) ?_
  refine w_if_le rfl (fun c7_0 => ?_) (fun c7_0 => absurd (show (0 : Int32) ≤ 0 from by decide) c7_0)
  refine w_la rfl rfl ?_
  refine w_vi0 pl_sub_c rfl (mg_51 _ _) (Nat.le_of_ble_eq_true rfl) (y_weekGoes) (fun r2 h2 q => by obtain ⟨_, _, q⟩ := q; rw [q]; rfl) (fun r2 h2 q => ?_)
  obtain ⟨q1, s, q2⟩ := q
  rw [q1, q2]
  refine w_ri rfl ?_
  exact ⟨by first | rfl | decide, _, rfl⟩

