/-! p1: weeks with nobody, the class's side -/
def zS (s : Nat → Nat → Int32) : Nat → Nat → Int32 := fun c i => if 51 ≤ c then s0 c i else if c = 1 then (if i = 8 then 0 else s 1 i) else if c = 19 then (if i = 8 then 0 else s 19 i) else s c i
def upr (s : Nat → Nat → Int32) (c : Nat) (f : Nat → Int32) : Nat → Nat → Int32 := fun a => if a = c then f else s a
theorem zS_up {s : Nat → Nat → Int32} {c i : Nat} {v : Int32} (h : c < 51 ∧ ((c = 1 ∨ c = 19) → i ≠ 8)) : up2 (zS s) c i v = zS (up2 s c i v) := by
  funext a b
  obtain ⟨h1, h2⟩ := h
  unfold up2 zS
  by_cases ha : a = c
  · subst ha
    by_cases hb : b = i
    · subst hb
      have h3 : ¬ 51 ≤ a := by omega
      by_cases a1 : a = 1
      · subst a1; simp [h2 (Or.inl rfl)]
      · by_cases a2 : a = 19
        · subst a2; simp [h2 (Or.inr rfl)]
        · simp [h3, a1, a2]
    · have h3 : ¬ 51 ≤ a := by omega
      by_cases a1 : a = 1
      · subst a1; simp [hb]
      · by_cases a2 : a = 19
        · subst a2; simp [hb]
        · simp [h3, a1, a2, hb]
  · by_cases h3 : 51 ≤ a
    · simp [h3, ha]
    · by_cases a1 : a = 1
      · subst a1; simp [ha]
      · by_cases a2 : a = 19
        · subst a2; simp [ha]
        · simp [h3, a1, a2, ha]
theorem zS_cnt {s : Nat → Nat → Int32} {v : Int32} (h : v = 0) : up2 (zS s) 19 8 v = zS s := by
  subst h
  funext a b
  unfold up2 zS
  by_cases ha : a = 19
  · subst ha
    by_cases hb : b = 8
    · subst hb; simp
    · simp [hb]
  · simp [ha]
theorem zS_upr {s : Nat → Nat → Int32} {c : Nat} {f : Nat → Int32} (h : c < 51 ∧ c ≠ 1 ∧ c ≠ 19) : upr (zS s) c f = zS (upr s c f) := by
  obtain ⟨h1, h2, h3⟩ := h
  funext a b
  unfold upr zS
  by_cases ha : a = c
  · subst ha
    have h4 : ¬ 51 ≤ a := by omega
    simp [h2, h3, h4]
  · by_cases h4 : 51 ≤ a
    · simp [ha, h4]
    · by_cases a1 : a = 1
      · subst a1; simp [ha]
      · by_cases a2 : a = 19
        · subst a2; simp [ha]
        · simp [ha, h4, a1, a2]
theorem zS_mod (s : Nat → Nat → Int32) (t : Nat → Nat → Int64) : ∀ c : Nat, 51 ≤ c → zS s c = s0 c := fun c hc => by funext i; simp [zS, hc]
/-- what a class method with nobody there leaves -/
def EZ (t : Nat → Nat → Int64) (v : Option Value) : Option Value → pm_H → Prop := fun r h => r = v ∧ ∃ s, h = mk (zS s) t
theorem s0_z : s0 = zS s0 := by
  funext c i
  unfold zS
  by_cases h : 51 ≤ c
  · simp [h]
  · by_cases a1 : c = 1
    · subst a1
      by_cases h8 : i = 8
      · subst h8; simp; decide
      · simp [h8]
    · by_cases a2 : c = 19
      · subst a2
        by_cases h8 : i = 8
        · subst h8; simp; decide
        · simp [h8]
      · simp [h, a1, a2]
theorem EZ.pc {v : Value} {r : Option Value} {h : pm_H} (q : EZ t0 (some v) r h) : Pc v r h := by
  obtain ⟨q1, s, q2⟩ := q
  exact ⟨q1, zS s, t0, q2, fun c hc => ⟨zS_mod s t0 c hc, rfl⟩⟩
theorem cpy_all {n : Nat} {f g : Nat → Int32} {k : Int32} (hk : k.toNatClampNeg = n) : pm_cpy (ar n f) (ar n g) (0 : Int32).toNatClampNeg (0 : Int32).toNatClampNeg k.toNatClampNeg = ar n f := by
  have h0 : (0 : Int32).toNatClampNeg = 0 := by decide
  rw [h0, hk]
  simp [pm_cpy, ar, List.take_of_length_le, List.drop_of_length_le]
theorem nI_le3 {a b : Nat} (h : a ≤ b) (hb : b < 2 ^ 31) : nI a ≤ nI b := by rw [Int32.le_iff_toInt_le, nI_toInt (by omega), nI_toInt hb]; omega
theorem nI_nle3 {a b : Nat} (h : b < a) (ha : a < 2 ^ 31) : ¬ nI a ≤ nI b := by rw [Int32.le_iff_toInt_le, nI_toInt ha, nI_toInt (by omega)]; omega
theorem i00 : (0 : Int32) + 0 = 0 := by decide
theorem zcp_20 {s : Nat → Nat → Int32} {t : Nat → Nat → Int64} {f : Nat → Int32} {n : Nat} {k : Int32} (hk : k.toNatClampNeg = n) (hn : n = 4 := by rfl) : (mk (zS s) t).set 20 (.inl (pm_cpy (ar 4 f) (ar 4 (zS s 20)) (0 : Int32).toNatClampNeg (0 : Int32).toNatClampNeg k.toNatClampNeg)) = mk (zS (upr s 20 f)) t := by
  subst hn
  rw [cpy_all hk, ← zS_upr (by decide)]
  rfl
theorem zcp_21 {s : Nat → Nat → Int32} {t : Nat → Nat → Int64} {f : Nat → Int32} {n : Nat} {k : Int32} (hk : k.toNatClampNeg = n) (hn : n = 8 := by rfl) : (mk (zS s) t).set 21 (.inl (pm_cpy (ar 8 f) (ar 8 (zS s 21)) (0 : Int32).toNatClampNeg (0 : Int32).toNatClampNeg k.toNatClampNeg)) = mk (zS (upr s 21 f)) t := by
  subst hn
  rw [cpy_all hk, ← zS_upr (by decide)]
  rfl
theorem zcp_22 {s : Nat → Nat → Int32} {t : Nat → Nat → Int64} {f : Nat → Int32} {n : Nat} {k : Int32} (hk : k.toNatClampNeg = n) (hn : n = 8 := by rfl) : (mk (zS s) t).set 22 (.inl (pm_cpy (ar 8 f) (ar 8 (zS s 22)) (0 : Int32).toNatClampNeg (0 : Int32).toNatClampNeg k.toNatClampNeg)) = mk (zS (upr s 22 f)) t := by
  subst hn
  rw [cpy_all hk, ← zS_upr (by decide)]
  rfl
theorem zcp_23 {s : Nat → Nat → Int32} {t : Nat → Nat → Int64} {f : Nat → Int32} {n : Nat} {k : Int32} (hk : k.toNatClampNeg = n) (hn : n = 8 := by rfl) : (mk (zS s) t).set 23 (.inl (pm_cpy (ar 8 f) (ar 8 (zS s 23)) (0 : Int32).toNatClampNeg (0 : Int32).toNatClampNeg k.toNatClampNeg)) = mk (zS (upr s 23 f)) t := by
  subst hn
  rw [cpy_all hk, ← zS_upr (by decide)]
  rfl
theorem zcp_24 {s : Nat → Nat → Int32} {t : Nat → Nat → Int64} {f : Nat → Int32} {n : Nat} {k : Int32} (hk : k.toNatClampNeg = n) (hn : n = 8 := by rfl) : (mk (zS s) t).set 24 (.inl (pm_cpy (ar 8 f) (ar 8 (zS s 24)) (0 : Int32).toNatClampNeg (0 : Int32).toNatClampNeg k.toNatClampNeg)) = mk (zS (upr s 24 f)) t := by
  subst hn
  rw [cpy_all hk, ← zS_upr (by decide)]
  rfl
theorem zcp_25 {s : Nat → Nat → Int32} {t : Nat → Nat → Int64} {f : Nat → Int32} {n : Nat} {k : Int32} (hk : k.toNatClampNeg = n) (hn : n = 8 := by rfl) : (mk (zS s) t).set 25 (.inl (pm_cpy (ar 8 f) (ar 8 (zS s 25)) (0 : Int32).toNatClampNeg (0 : Int32).toNatClampNeg k.toNatClampNeg)) = mk (zS (upr s 25 f)) t := by
  subst hn
  rw [cpy_all hk, ← zS_upr (by decide)]
  rfl
theorem zcp_26 {s : Nat → Nat → Int32} {t : Nat → Nat → Int64} {f : Nat → Int32} {n : Nat} {k : Int32} (hk : k.toNatClampNeg = n) (hn : n = 8 := by rfl) : (mk (zS s) t).set 26 (.inl (pm_cpy (ar 8 f) (ar 8 (zS s 26)) (0 : Int32).toNatClampNeg (0 : Int32).toNatClampNeg k.toNatClampNeg)) = mk (zS (upr s 26 f)) t := by
  subst hn
  rw [cpy_all hk, ← zS_upr (by decide)]
  rfl
set_option maxRecDepth 100000 in
set_option maxHeartbeats 2000000 in
theorem z_think_1 {s : Nat → Nat → Int32} {t : Nat → Nat → Int64} : Wm 24 [.ref 1] (mk (zS s) t) (EZ t (none)) := by
  refine Wm.of pT_24 (Nat.le_of_ble_eq_true rfl) (L0 := [some (.ref 1), none]) rfl ?_
  refine w_ci rfl ?_
  refine w_si rfl (Nat.le_of_ble_eq_true rfl) rfl ?_
  refine w_li rfl rfl ?_
  refine w_la rfl rfl ?_
  refine w_gf rfl (mg_1 _ _) rfl ?_
  refine w_ic_ge rfl (fun c7_0 => ?_) (fun c7_0 => absurd (show (0 : Int32) ≤ 0 from by decide) c7_0)
  refine w_rv rfl ?_
  exact ⟨by first | rfl | decide, _, rfl⟩

set_option maxRecDepth 100000 in
set_option maxHeartbeats 2000000 in
theorem z_keenest_1 {s : Nat → Nat → Int32} {t : Nat → Nat → Int64} {g : Int32} : Wm 26 [.ref 1, .int g] (mk (zS s) t) (EZ t (some (.int (-3)))) := by
  refine Wm.of pT_26 (Nat.le_of_ble_eq_true rfl) (L0 := [some (.ref 1), some (.int g), none, none, none, none]) rfl ?_
  refine w_ci rfl ?_
  refine w_si rfl (Nat.le_of_ble_eq_true rfl) rfl ?_
  refine w_ci rfl ?_
  refine w_si rfl (Nat.le_of_ble_eq_true rfl) rfl ?_
  refine w_ci rfl ?_
  refine w_si rfl (Nat.le_of_ble_eq_true rfl) rfl ?_
  refine w_li rfl rfl ?_
  refine w_la rfl rfl ?_
  refine w_gf rfl (mg_1 _ _) rfl ?_
  refine w_ic_ge rfl (fun c14_0 => ?_) (fun c14_0 => absurd (show (0 : Int32) ≤ 0 from by decide) c14_0)
  refine w_li rfl rfl ?_
  refine w_ri rfl ?_
  exact ⟨by first | rfl | decide, _, rfl⟩

set_option maxRecDepth 100000 in
set_option maxHeartbeats 2000000 in
theorem z_speak_1 {s : Nat → Nat → Int32} {t : Nat → Nat → Int64} : Wm 27 [.ref 1] (mk (zS s) t) (EZ t (some (.int 0))) := by
  refine Wm.of pT_27 (Nat.le_of_ble_eq_true rfl) (L0 := [some (.ref 1), none, none, none]) rfl ?_
  refine w_ci rfl ?_
  refine w_si rfl (Nat.le_of_ble_eq_true rfl) rfl ?_
  refine w_ci rfl ?_
  refine w_si rfl (Nat.le_of_ble_eq_true rfl) rfl ?_
  refine w_li rfl rfl ?_
  refine w_la rfl rfl ?_
  refine w_gf rfl (mg_1 _ _) rfl ?_
  refine w_ic_ge rfl (fun c9_0 => ?_) (fun c9_0 => absurd (show (0 : Int32) ≤ 0 from by decide) c9_0)
  refine w_li rfl rfl ?_
  refine w_ri rfl ?_
  exact ⟨by first | rfl | decide, _, rfl⟩

set_option maxRecDepth 100000 in
set_option maxHeartbeats 2000000 in
theorem z_think_19 {s : Nat → Nat → Int32} {t : Nat → Nat → Int64} : Wm 24 [.ref 19] (mk (zS s) t) (EZ t (none)) := by
  refine Wm.of pT_24 (Nat.le_of_ble_eq_true rfl) (L0 := [some (.ref 19), none]) rfl ?_
  refine w_ci rfl ?_
  refine w_si rfl (Nat.le_of_ble_eq_true rfl) rfl ?_
  refine w_li rfl rfl ?_
  refine w_la rfl rfl ?_
  refine w_gf rfl (mg_19 _ _) rfl ?_
  refine w_ic_ge rfl (fun c7_0 => ?_) (fun c7_0 => absurd (show (0 : Int32) ≤ 0 from by decide) c7_0)
  refine w_rv rfl ?_
  exact ⟨by first | rfl | decide, _, rfl⟩

set_option maxRecDepth 100000 in
set_option maxHeartbeats 2000000 in
theorem z_keenest_19 {s : Nat → Nat → Int32} {t : Nat → Nat → Int64} {g : Int32} : Wm 26 [.ref 19, .int g] (mk (zS s) t) (EZ t (some (.int (-3)))) := by
  refine Wm.of pT_26 (Nat.le_of_ble_eq_true rfl) (L0 := [some (.ref 19), some (.int g), none, none, none, none]) rfl ?_
  refine w_ci rfl ?_
  refine w_si rfl (Nat.le_of_ble_eq_true rfl) rfl ?_
  refine w_ci rfl ?_
  refine w_si rfl (Nat.le_of_ble_eq_true rfl) rfl ?_
  refine w_ci rfl ?_
  refine w_si rfl (Nat.le_of_ble_eq_true rfl) rfl ?_
  refine w_li rfl rfl ?_
  refine w_la rfl rfl ?_
  refine w_gf rfl (mg_19 _ _) rfl ?_
  refine w_ic_ge rfl (fun c14_0 => ?_) (fun c14_0 => absurd (show (0 : Int32) ≤ 0 from by decide) c14_0)
  refine w_li rfl rfl ?_
  refine w_ri rfl ?_
  exact ⟨by first | rfl | decide, _, rfl⟩

set_option maxRecDepth 100000 in
set_option maxHeartbeats 2000000 in
theorem z_speak_19 {s : Nat → Nat → Int32} {t : Nat → Nat → Int64} : Wm 27 [.ref 19] (mk (zS s) t) (EZ t (some (.int 0))) := by
  refine Wm.of pT_27 (Nat.le_of_ble_eq_true rfl) (L0 := [some (.ref 19), none, none, none]) rfl ?_
  refine w_ci rfl ?_
  refine w_si rfl (Nat.le_of_ble_eq_true rfl) rfl ?_
  refine w_ci rfl ?_
  refine w_si rfl (Nat.le_of_ble_eq_true rfl) rfl ?_
  refine w_li rfl rfl ?_
  refine w_la rfl rfl ?_
  refine w_gf rfl (mg_19 _ _) rfl ?_
  refine w_ic_ge rfl (fun c9_0 => ?_) (fun c9_0 => absurd (show (0 : Int32) ≤ 0 from by decide) c9_0)
  refine w_li rfl rfl ?_
  refine w_ri rfl ?_
  exact ⟨by first | rfl | decide, _, rfl⟩

set_option maxRecDepth 100000 in
set_option maxHeartbeats 2000000 in
theorem z_handOut_1 {s : Nat → Nat → Int32} {t : Nat → Nat → Int64} {g : Int32} : Wm 25 [.ref 1, .int g] (mk (zS s) t) (EZ t (none)) := by
  refine Wm.of pT_25 (Nat.le_of_ble_eq_true rfl) (L0 := [some (.ref 1), some (.int g), none, none]) rfl ?_
  refine w_la rfl rfl ?_
  refine w_gf rfl (mg_1 _ _) rfl ?_
  refine w_ci rfl ?_
  refine w_ia rfl (mr_2 _ _ _) (show ¬ (0 : Int32) < 0 from by decide) (ar_get (show (0 : Int32).toNatClampNeg < 4 from by decide)) ?_
  refine w_si rfl (Nat.le_of_ble_eq_true rfl) rfl ?_
  refine w_li rfl rfl ?_
  refine w_if_le rfl (fun c8_0 => ?_) (fun c8_0 => ?_)
  · skip
    refine w_rv rfl ?_
    exact ⟨by first | rfl | decide, _, rfl⟩
  · skip
    refine w_la rfl rfl ?_
    refine w_li rfl rfl ?_
    refine w_vi1 pl_sub_c rfl (mg_1 _ _) (Nat.le_of_ble_eq_true rfl) (z_keenest_1) (fun r2 h2 q => by obtain ⟨_, _, q⟩ := q; rw [q]; rfl) (fun r2 h2 q => ?_)
    obtain ⟨q1, s, q2⟩ := q
    rw [q1, q2]
    refine w_si rfl (Nat.le_of_ble_eq_true rfl) rfl ?_
    refine w_li rfl rfl ?_
    refine w_if_ge rfl (fun c18_1 => absurd c18_1 (show ¬ ((0 : Int32) ≤ (-3)) from by decide)) (fun c18_1 => ?_)
    refine w_la rfl rfl ?_
    refine w_ci rfl ?_
    refine w_la rfl rfl ?_
    refine w_gf rfl (mg_1 _ _) rfl ?_
    refine w_li rfl rfl ?_
    refine w_iadd rfl ?_
    refine w_mm rfl (Nat.le_of_ble_eq_true rfl) ?_
    refine w_pf rfl rfl (mg_1 _ _) (Nat.le_of_ble_eq_true rfl) (ms_1_10 _ _ _) ?_
    rw [zS_up (by decide)]
    refine w_rv rfl ?_
    exact ⟨by first | rfl | decide, _, rfl⟩

set_option maxRecDepth 100000 in
set_option maxHeartbeats 2000000 in
theorem z_handOut_19 {s : Nat → Nat → Int32} {t : Nat → Nat → Int64} {g : Int32} : Wm 25 [.ref 19, .int g] (mk (zS s) t) (EZ t (none)) := by
  refine Wm.of pT_25 (Nat.le_of_ble_eq_true rfl) (L0 := [some (.ref 19), some (.int g), none, none]) rfl ?_
  refine w_la rfl rfl ?_
  refine w_gf rfl (mg_19 _ _) rfl ?_
  refine w_ci rfl ?_
  refine w_ia rfl (mr_20 _ _ _) (show ¬ (0 : Int32) < 0 from by decide) (ar_get (show (0 : Int32).toNatClampNeg < 4 from by decide)) ?_
  refine w_si rfl (Nat.le_of_ble_eq_true rfl) rfl ?_
  refine w_li rfl rfl ?_
  refine w_if_le rfl (fun c8_0 => ?_) (fun c8_0 => ?_)
  · skip
    refine w_rv rfl ?_
    exact ⟨by first | rfl | decide, _, rfl⟩
  · skip
    refine w_la rfl rfl ?_
    refine w_li rfl rfl ?_
    refine w_vi1 pl_sub_c rfl (mg_19 _ _) (Nat.le_of_ble_eq_true rfl) (z_keenest_19) (fun r2 h2 q => by obtain ⟨_, _, q⟩ := q; rw [q]; rfl) (fun r2 h2 q => ?_)
    obtain ⟨q1, s, q2⟩ := q
    rw [q1, q2]
    refine w_si rfl (Nat.le_of_ble_eq_true rfl) rfl ?_
    refine w_li rfl rfl ?_
    refine w_if_ge rfl (fun c18_1 => absurd c18_1 (show ¬ ((0 : Int32) ≤ (-3)) from by decide)) (fun c18_1 => ?_)
    refine w_la rfl rfl ?_
    refine w_ci rfl ?_
    refine w_la rfl rfl ?_
    refine w_gf rfl (mg_19 _ _) rfl ?_
    refine w_li rfl rfl ?_
    refine w_iadd rfl ?_
    refine w_mm rfl (Nat.le_of_ble_eq_true rfl) ?_
    refine w_pf rfl rfl (mg_19 _ _) (Nat.le_of_ble_eq_true rfl) (ms_19_10 _ _ _) ?_
    rw [zS_up (by decide)]
    refine w_rv rfl ?_
    exact ⟨by first | rfl | decide, _, rfl⟩

set_option maxRecDepth 100000 in
set_option maxHeartbeats 2000000 in
theorem z_passWeek_1 {s : Nat → Nat → Int32} {t : Nat → Nat → Int64} {g : Int32} : Wm 21 [.ref 1, .int g] (mk (zS s) t) (EZ t (some (.int 0))) := by
  refine Wm.of pT_21 (Nat.le_of_ble_eq_true rfl) (L0 := [some (.ref 1), some (.int g), none]) rfl ?_
  refine w_la rfl rfl ?_
  refine w_vi0 pl_sub_c rfl (mg_1 _ _) (Nat.le_of_ble_eq_true rfl) (z_think_1) (fun r2 h2 q => by obtain ⟨_, _, q⟩ := q; rw [q]; rfl) (fun r2 h2 q => ?_)
  obtain ⟨q1, s, q2⟩ := q
  rw [q1, q2]
  refine w_la rfl rfl ?_
  refine w_li rfl rfl ?_
  refine w_vi1 pl_sub_c rfl (mg_1 _ _) (Nat.le_of_ble_eq_true rfl) (z_handOut_1) (fun r2 h2 q => by obtain ⟨_, _, q⟩ := q; rw [q]; rfl) (fun r2 h2 q => ?_)
  obtain ⟨q1, s, q2⟩ := q
  rw [q1, q2]
  refine w_la rfl rfl ?_
  refine w_vi0 pl_sub_c rfl (mg_1 _ _) (Nat.le_of_ble_eq_true rfl) (z_speak_1) (fun r2 h2 q => by obtain ⟨_, _, q⟩ := q; rw [q]; rfl) (fun r2 h2 q => ?_)
  obtain ⟨q1, s, q2⟩ := q
  rw [q1, q2]
  refine w_si rfl (Nat.le_of_ble_eq_true rfl) rfl ?_
  refine w_la rfl rfl ?_
  refine w_dup rfl rfl ?_
  refine w_gf rfl (mg_1 _ _) rfl ?_
  refine w_ci rfl ?_
  refine w_iadd rfl ?_
  refine w_pf rfl rfl (mg_1 _ _) (Nat.le_of_ble_eq_true rfl) (ms_1_9 _ _ _) ?_
  rw [zS_up (by decide)]
  refine w_li rfl rfl ?_
  refine w_ri rfl ?_
  exact ⟨by first | rfl | decide, _, rfl⟩

set_option maxRecDepth 100000 in
set_option maxHeartbeats 2000000 in
theorem z_passWeek_19 {s : Nat → Nat → Int32} {t : Nat → Nat → Int64} {g : Int32} : Wm 21 [.ref 19, .int g] (mk (zS s) t) (EZ t (some (.int 0))) := by
  refine Wm.of pT_21 (Nat.le_of_ble_eq_true rfl) (L0 := [some (.ref 19), some (.int g), none]) rfl ?_
  refine w_la rfl rfl ?_
  refine w_vi0 pl_sub_c rfl (mg_19 _ _) (Nat.le_of_ble_eq_true rfl) (z_think_19) (fun r2 h2 q => by obtain ⟨_, _, q⟩ := q; rw [q]; rfl) (fun r2 h2 q => ?_)
  obtain ⟨q1, s, q2⟩ := q
  rw [q1, q2]
  refine w_la rfl rfl ?_
  refine w_li rfl rfl ?_
  refine w_vi1 pl_sub_c rfl (mg_19 _ _) (Nat.le_of_ble_eq_true rfl) (z_handOut_19) (fun r2 h2 q => by obtain ⟨_, _, q⟩ := q; rw [q]; rfl) (fun r2 h2 q => ?_)
  obtain ⟨q1, s, q2⟩ := q
  rw [q1, q2]
  refine w_la rfl rfl ?_
  refine w_vi0 pl_sub_c rfl (mg_19 _ _) (Nat.le_of_ble_eq_true rfl) (z_speak_19) (fun r2 h2 q => by obtain ⟨_, _, q⟩ := q; rw [q]; rfl) (fun r2 h2 q => ?_)
  obtain ⟨q1, s, q2⟩ := q
  rw [q1, q2]
  refine w_si rfl (Nat.le_of_ble_eq_true rfl) rfl ?_
  refine w_la rfl rfl ?_
  refine w_dup rfl rfl ?_
  refine w_gf rfl (mg_19 _ _) rfl ?_
  refine w_ci rfl ?_
  refine w_iadd rfl ?_
  refine w_pf rfl rfl (mg_19 _ _) (Nat.le_of_ble_eq_true rfl) (ms_19_9 _ _ _) ?_
  rw [zS_up (by decide)]
  refine w_li rfl rfl ?_
  refine w_ri rfl ?_
  exact ⟨by first | rfl | decide, _, rfl⟩

set_option maxRecDepth 100000 in
set_option maxHeartbeats 2000000 in
theorem z_byDraws_19 {s : Nat → Nat → Int32} {t : Nat → Nat → Int64} : Wm 22 [.ref 19] (mk (zS s) t) (EZ t (some (.int 0))) := by
  refine Wm.of pT_22 (Nat.le_of_ble_eq_true rfl) (L0 := [some (.ref 19), none]) rfl ?_
  refine w_la rfl rfl ?_
  refine w_gf rfl (mg_19 _ _) rfl ?_
  refine w_if_le rfl (fun c4_0 => ?_) (fun c4_0 => absurd (show (0 : Int32) ≤ 0 from by decide) c4_0)
  refine w_la rfl rfl ?_
  refine w_ci rfl ?_
  refine w_vi1 pl_sub_c rfl (mg_19 _ _) (Nat.le_of_ble_eq_true rfl) (z_passWeek_19) (fun r2 h2 q => by obtain ⟨_, _, q⟩ := q; rw [q]; rfl) (fun r2 h2 q => ?_)
  obtain ⟨q1, s, q2⟩ := q
  rw [q1, q2]
  refine w_ri rfl ?_
  exact ⟨by first | rfl | decide, _, rfl⟩

set_option maxRecDepth 100000 in
set_option maxHeartbeats 2000000 in
theorem z_sumOf {s : Nat → Nat → Int32} {t : Nat → Nat → Int64} : Wm 14 [.ref 1, .ref 6] (mk (zS s) t) (EZ t (some (.int 0))) := by
  refine Wm.of pT_14 (Nat.le_of_ble_eq_true rfl) (L0 := [some (.ref 1), some (.ref 6), none, none]) rfl ?_
  refine w_ci rfl ?_
  refine w_si rfl (Nat.le_of_ble_eq_true rfl) rfl ?_
  refine w_ci rfl ?_
  refine w_si rfl (Nat.le_of_ble_eq_true rfl) rfl ?_
  refine w_li rfl rfl ?_
  refine w_la rfl rfl ?_
  refine w_gf rfl (mg_1 _ _) rfl ?_
  refine w_ic_ge rfl (fun c9_0 => ?_) (fun c9_0 => absurd (show (0 : Int32) ≤ 0 from by decide) c9_0)
  refine w_li rfl rfl ?_
  refine w_ri rfl ?_
  exact ⟨by first | rfl | decide, _, rfl⟩

set_option maxRecDepth 100000 in
set_option maxHeartbeats 2000000 in
theorem z_become {s : Nat → Nat → Int32} {t : Nat → Nat → Int64} : Wm 11 [.ref 19, .ref 1] (mk (zS s) t) (EZ t (none)) := by
  refine Wm.of pT_11 (Nat.le_of_ble_eq_true rfl) (L0 := [some (.ref 19), some (.ref 1)]) rfl ?_
  refine w_la rfl rfl ?_
  refine w_gf rfl (mg_1 _ _) rfl ?_
  refine w_ci rfl ?_
  refine w_la rfl rfl ?_
  refine w_gf rfl (mg_19 _ _) rfl ?_
  refine w_ci rfl ?_
  refine w_la rfl rfl ?_
  refine w_gf rfl (mg_19 _ _) rfl ?_
  refine w_len rfl (n := 4) rfl ?_
  refine w_cp rfl (by decide) (mr_2 _ _ _) (mg_20 _ _) ⟨by rw [ar_len]; decide, by rw [ar_len]; decide, Nat.le_of_ble_eq_true rfl⟩ (zcp_20 (n := 4) rfl) ?_
  refine w_la rfl rfl ?_
  refine w_gf rfl (mg_1 _ _) rfl ?_
  refine w_ci rfl ?_
  refine w_la rfl rfl ?_
  refine w_gf rfl (mg_19 _ _) rfl ?_
  refine w_ci rfl ?_
  refine w_ci rfl ?_
  refine w_cp rfl (by decide) (mr_3 _ _ _) (mg_21 _ _) ⟨by rw [ar_len]; decide, by rw [ar_len]; decide, Nat.le_of_ble_eq_true rfl⟩ (zcp_21 (n := 8) rfl) ?_
  refine w_la rfl rfl ?_
  refine w_gf rfl (mg_1 _ _) rfl ?_
  refine w_ci rfl ?_
  refine w_la rfl rfl ?_
  refine w_gf rfl (mg_19 _ _) rfl ?_
  refine w_ci rfl ?_
  refine w_ci rfl ?_
  refine w_cp rfl (by decide) (mr_4 _ _ _) (mg_22 _ _) ⟨by rw [ar_len]; decide, by rw [ar_len]; decide, Nat.le_of_ble_eq_true rfl⟩ (zcp_22 (n := 8) rfl) ?_
  refine w_la rfl rfl ?_
  refine w_gf rfl (mg_1 _ _) rfl ?_
  refine w_ci rfl ?_
  refine w_la rfl rfl ?_
  refine w_gf rfl (mg_19 _ _) rfl ?_
  refine w_ci rfl ?_
  refine w_ci rfl ?_
  refine w_cp rfl (by decide) (mr_5 _ _ _) (mg_23 _ _) ⟨by rw [ar_len]; decide, by rw [ar_len]; decide, Nat.le_of_ble_eq_true rfl⟩ (zcp_23 (n := 8) rfl) ?_
  refine w_la rfl rfl ?_
  refine w_gf rfl (mg_1 _ _) rfl ?_
  refine w_ci rfl ?_
  refine w_la rfl rfl ?_
  refine w_gf rfl (mg_19 _ _) rfl ?_
  refine w_ci rfl ?_
  refine w_ci rfl ?_
  refine w_cp rfl (by decide) (mr_6 _ _ _) (mg_24 _ _) ⟨by rw [ar_len]; decide, by rw [ar_len]; decide, Nat.le_of_ble_eq_true rfl⟩ (zcp_24 (n := 8) rfl) ?_
  refine w_la rfl rfl ?_
  refine w_gf rfl (mg_1 _ _) rfl ?_
  refine w_ci rfl ?_
  refine w_la rfl rfl ?_
  refine w_gf rfl (mg_19 _ _) rfl ?_
  refine w_ci rfl ?_
  refine w_ci rfl ?_
  refine w_cp rfl (by decide) (mr_7 _ _ _) (mg_25 _ _) ⟨by rw [ar_len]; decide, by rw [ar_len]; decide, Nat.le_of_ble_eq_true rfl⟩ (zcp_25 (n := 8) rfl) ?_
  refine w_la rfl rfl ?_
  refine w_gf rfl (mg_1 _ _) rfl ?_
  refine w_ci rfl ?_
  refine w_la rfl rfl ?_
  refine w_gf rfl (mg_19 _ _) rfl ?_
  refine w_ci rfl ?_
  refine w_ci rfl ?_
  refine w_cp rfl (by decide) (mr_8 _ _ _) (mg_26 _ _) ⟨by rw [ar_len]; decide, by rw [ar_len]; decide, Nat.le_of_ble_eq_true rfl⟩ (zcp_26 (n := 8) rfl) ?_
  refine w_la rfl rfl ?_
  refine w_la rfl rfl ?_
  refine w_gf rfl (mg_1 _ _) rfl ?_
  refine w_pf rfl rfl (mg_19 _ _) (Nat.le_of_ble_eq_true rfl) (ms_19_8 _ _ _) ?_
  rw [zS_cnt (by rfl)]
  refine w_la rfl rfl ?_
  refine w_la rfl rfl ?_
  refine w_gf rfl (mg_1 _ _) rfl ?_
  refine w_pf rfl rfl (mg_19 _ _) (Nat.le_of_ble_eq_true rfl) (ms_19_9 _ _ _) ?_
  rw [zS_up (by decide)]
  refine w_la rfl rfl ?_
  refine w_la rfl rfl ?_
  refine w_gf rfl (mg_1 _ _) rfl ?_
  refine w_pf rfl rfl (mg_19 _ _) (Nat.le_of_ble_eq_true rfl) (ms_19_10 _ _ _) ?_
  rw [zS_up (by decide)]
  refine w_la rfl rfl ?_
  refine w_la rfl rfl ?_
  refine w_gf rfl (mg_1 _ _) rfl ?_
  refine w_pf rfl rfl (mg_19 _ _) (Nat.le_of_ble_eq_true rfl) (ms_19_11 _ _ _) ?_
  rw [zS_up (by decide)]
  refine w_rv rfl ?_
  exact ⟨by first | rfl | decide, _, rfl⟩

set_option maxRecDepth 100000 in
set_option maxHeartbeats 2000000 in
theorem z_trial {s : Nat → Nat → Int32} {t : Nat → Nat → Int64} : Wm 100 [.ref 0] (mk (zS s) t) (EZ t (some (.ref 19))) := by
  refine Wm.of pT_100 (Nat.le_of_ble_eq_true rfl) (L0 := [some (.ref 0)]) rfl ?_
  refine w_la rfl rfl ?_
  refine w_gf rfl (mg_0 _ _) rfl ?_
  refine w_la rfl rfl ?_
  refine w_gf rfl (mg_0 _ _) rfl ?_
  refine w_vi1 pl_sub_c rfl (mg_19 _ _) (Nat.le_of_ble_eq_true rfl) (z_become) (fun r2 h2 q => by obtain ⟨_, _, q⟩ := q; rw [q]; rfl) (fun r2 h2 q => ?_)
  obtain ⟨q1, s, q2⟩ := q
  rw [q1, q2]
  refine w_la rfl rfl ?_
  refine w_gf rfl (mg_0 _ _) rfl ?_
  refine w_ra rfl ?_
  exact ⟨by first | rfl | decide, _, rfl⟩

set_option maxRecDepth 100000 in
set_option maxHeartbeats 2000000 in
theorem l_wordsBy {n : Nat} {g : Int32} : ∀ (m j : Nat) (s : Nat → Nat → Int32) (t : Nat → Nat → Int64), j + m = n → n < 2 ^ 31 → Wp pl_Kc 101 5 [some (.ref 19), some (.int (nI n)), some (.int g), some (.int 0), some (.int (nI j))] [] (mk (zS s) t) (EZ t (some (.int 0))) := by
  intro m
  induction m with
  | zero =>
    intro j s t hj hn
    obtain rfl : j = n := by omega
    refine w_li rfl rfl ?_
    refine w_li rfl rfl ?_
    refine w_ic_ge rfl (fun c8_0 => ?_) (fun c8_0 => absurd (nI_le3 (by omega) hn) c8_0)
    refine w_li rfl rfl ?_
    refine w_ri rfl ?_
    exact ⟨by first | rfl | decide, _, rfl⟩
  | succ m ih =>
    intro j s t hj hn
    refine w_li rfl rfl ?_
    refine w_li rfl rfl ?_
    refine w_ic_ge rfl (fun c8_0 => absurd c8_0 (nI_nle3 (by omega) hn)) (fun c8_0 => ?_)
    refine w_li rfl rfl ?_
    refine w_la rfl rfl ?_
    refine w_li rfl rfl ?_
    refine w_vi1 pl_sub_c rfl (mg_19 _ _) (Nat.le_of_ble_eq_true rfl) (z_passWeek_19) (fun r2 h2 q => by obtain ⟨_, _, q⟩ := q; rw [q]; rfl) (fun r2 h2 q => ?_)
    obtain ⟨q1, s, q2⟩ := q
    rw [q1, q2]
    refine w_iadd rfl ?_
    refine w_si rfl (Nat.le_of_ble_eq_true rfl) rfl ?_
    refine w_inc rfl rfl rfl ?_
    refine w_go rfl ?_
    rw [nI_1]
    rw [i00]
    exact ih (j + 1) _ _ (by omega) hn
