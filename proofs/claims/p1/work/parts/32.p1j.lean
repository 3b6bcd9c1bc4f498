/-! p1: feed and sheet -/
def fS (f : Nat → Int32) (m : Int32) : Nat → Nat → Int32 := fun c => if c = 29 then f else if c = 28 then (fun i => if i = 7 then m else s0 28 i) else s0 c
theorem fS_29 {f : Nat → Int32} {m v : Int32} {i : Nat} : up2 (fS f m) 29 i v = fS (fun b => if b = i then v else f b) m := by
  funext a b
  unfold up2 fS
  by_cases ha : a = 29
  · subst ha; simp
  · simp [ha]
theorem fS_28 {f : Nat → Int32} {m v : Int32} : up2 (fS f m) 28 7 v = fS f v := by
  funext a b
  unfold up2 fS
  by_cases ha : a = 28
  · subst ha
    by_cases hb : b = 7
    · subst hb; simp
    · simp [hb]
  · simp [ha]
theorem s0_f : s0 = fS (s0 29) 0 := by
  funext c i
  unfold fS
  by_cases a1 : c = 29
  · subst a1; simp
  · by_cases a2 : c = 28
    · subst a2
      by_cases h7 : i = 7
      · subst h7; simp; decide
      · simp [h7]
    · simp [a1, a2]
theorem fS_mod {f : Nat → Int32} {m : Int32} : Mod (fS f m) t0 := fun c hc => ⟨by
  have h1 : ¬ c = 29 := by omega
  have h2 : ¬ c = 28 := by omega
  simp [fS, h1, h2], rfl⟩
theorem up2_self {α : Type} {s : Nat → Nat → α} {c i : Nat} {v : α} (h : v = s c i) : up2 s c i v = s := by
  subst h
  funext a b
  unfold up2
  by_cases ha : a = c
  · subst ha
    by_cases hb : b = i
    · subst hb; simp
    · simp [hb]
  · simp [ha]
theorem up2_comm {α : Type} {s : Nat → Nat → α} {c i d j : Nat} {v w : α} (h : c ≠ d) : up2 (up2 s c i v) d j w = up2 (up2 s d j w) c i v := by
  funext a b
  unfold up2
  by_cases ha : a = c
  · subst ha; simp [h]
  · by_cases hd : a = d
    · subst hd; simp [ha]
    · simp [ha, hd]
theorem up2_up2 {α : Type} {s : Nat → Nat → α} {c i : Nat} {v w : α} : up2 (up2 s c i v) c i w = up2 s c i w := by
  funext a b
  unfold up2
  by_cases ha : a = c
  · subst ha
    by_cases hb : b = i
    · subst hb; simp
    · simp [hb]
  · simp [ha]
theorem le200 {n : Nat} {x : Int32} (hx : x = 0) (hn : n ≤ 8) : nI n ≤ 200 - x := by
  subst hx
  rw [show (200 : Int32) - 0 = nI 200 from by decide]
  exact nI_le (by omega) (by omega)
theorem le200b {n : Nat} {x : Int32} (hx : x = 0) (hn : n ≤ 8) : x + nI n ≤ 200 := by
  subst hx
  rw [Int32.zero_add]
  exact nI_le (b := 200) (by omega) (by omega)
theorem zadd {x y : Int32} (hx : x = 0) : x + y = y := by subst hx; exact Int32.zero_add _
theorem nIs {x : Int32} {j : Nat} (hx : x = nI j) : x + 1 = nI (j + 1) := by subst hx; exact nI_1 j
def upg {α : Type} (s : Nat → Nat → α) (c : Nat) (f : Nat → α) : Nat → Nat → α := fun a => if a = c then f else s a
theorem upg_up {α : Type} {s : Nat → Nat → α} {c i : Nat} {f : Nat → α} {v : α} : up2 (upg s c f) c i v = upg s c (fun b => if b = i then v else f b) := by
  funext a b
  unfold up2 upg
  by_cases ha : a = c
  · subst ha; simp
  · simp [ha]
theorem upg_self {α : Type} {s : Nat → Nat → α} {c : Nat} : s = upg s c (s c) := by
  funext a
  unfold upg
  by_cases ha : a = c
  · subst ha; simp
  · simp [ha]
theorem Mod.uq {s : Nat → Nat → Int32} {t : Nat → Nat → Int64} (h : Mod s t) {c : Nat} {f : Nat → Int64} (hc : c < 51) : Mod s (upg t c f) := fun a ha => ⟨(h a ha).1, by
  have h1 : ¬ a = c := by omega
  show (if a = c then f else t a) = t0 a; rw [if_neg h1]; exact (h a ha).2⟩
/-- what take leaves -/
def EF (n : Nat) (t : Nat → Nat → Int64) (v : Int32) : Option Value → pm_H → Prop := fun r h => r = some (.int v) ∧ ∃ f, h = mk (fS f (nI n)) t
set_option maxRecDepth 100000 in
set_option maxHeartbeats 300000 in
theorem l_take {n : Nat} {e : Int64} : ∀ (m j : Nat) (f : Nat → Int32) (t : Nat → Nat → Int64), j + m = n → n ≤ 8 → Wp pl_Kc 34 17 [some (.ref 28), some (.long e), none, some (.int (nI n)), some (.int (nI j))] [] (mk (fS f 0) t) (EF n t 1) := by
  intro m
  induction m with
  | zero =>
    intro j f t hj hn
    obtain rfl : j = n := by omega
    refine w_li rfl rfl ?_
    refine w_li rfl rfl ?_
    refine w_ic_ge rfl (fun c20_0 => ?_) (fun c20_0 => absurd (nI_le3 (by omega) (by omega)) c20_0)
    refine w_la rfl rfl ?_
    refine w_dup rfl rfl ?_
    refine w_gf rfl (mg_28 _ _) rfl ?_
    refine w_li rfl rfl ?_
    refine w_iadd rfl ?_
    refine w_pf rfl rfl (mg_28 _ _) (Nat.le_of_ble_eq_true rfl) (ms_28_7 _ _ _) ?_
    rw [fS_28, zadd (show fS f 0 28 7 = 0 from rfl)]
    refine w_ci rfl ?_
    refine w_rz rfl (by decide) ?_
    exact ⟨rfl, _, rfl⟩
  | succ m ih =>
    intro j f t hj hn
    refine w_li rfl rfl ?_
    refine w_li rfl rfl ?_
    refine w_ic_ge rfl (fun c20_0 => absurd c20_0 (nI_nle3 (by omega) (by omega))) (fun c20_0 => ?_)
    refine w_la rfl rfl ?_
    refine w_gf rfl (mg_28 _ _) rfl ?_
    refine w_la rfl rfl ?_
    refine w_gf rfl (mg_28 _ _) rfl ?_
    refine w_li rfl rfl ?_
    refine w_iadd rfl ?_
    rw [show fS f 0 28 7 + nI j = nI j from zadd rfl]
    refine w_ll rfl rfl ?_
    refine w_ci rfl ?_
    refine w_li rfl rfl ?_
    refine w_imul rfl ?_
    refine w_lushr rfl ?_
    refine w_cl rfl ?_
    refine w_land rfl ?_
    refine w_l2i rfl ?_
    refine w_is rfl (mg_29 _ _) (nI_pos (by omega)) (by rw [ar_len, nI_clamp (by omega)]; omega) (ms_29 _ _ _ _) ?_
    rw [fS_29]
    refine w_inc rfl rfl rfl ?_
    refine w_go rfl ?_
    rw [nI_1]
    exact ih (j + 1) _ _ (by omega) hn
set_option maxRecDepth 100000 in
set_option maxHeartbeats 300000 in
theorem u_take {n : Nat} {e : Int64} {f : Nat → Int32} {t : Nat → Nat → Int64} (hn : n ≤ 8) : Wm 34 [.ref 28, .long e, .int (nI n)] (mk (fS f 0) t) (EF n t 1) := by
  refine Wm.of pT_34 (Nat.le_of_ble_eq_true rfl) (L0 := [some (.ref 28), some (.long e), none, some (.int (nI n)), none]) rfl ?_
  refine w_li rfl rfl ?_
  refine w_ci rfl ?_
  refine w_la rfl rfl ?_
  refine w_gf rfl (mg_28 _ _) rfl ?_
  refine w_isub rfl ?_
  refine w_ic_le rfl (fun c9_0 => ?_) (fun c9_0 => absurd (le200 rfl hn) c9_0)
  refine w_ci rfl ?_
  refine w_si rfl (Nat.le_of_ble_eq_true rfl) rfl ?_
  exact l_take n 0 f t (by omega) hn

set_option maxRecDepth 100000 in
set_option maxHeartbeats 300000 in
theorem c_feed {n : Nat} {e : Int64} (hb : wi (nI n) 1 8 = true) (hn : n ≤ 8) : Wm 52 [.ref 0, .long e, .int (nI n)] (mk s0 t0) (Pc (.int (nI n))) := by
  rw [show mk s0 t0 = mk (fS (s0 29) 0) t0 from congrArg (fun s => mk s t0) s0_f]
  refine Wm.of pT_52 (Nat.le_of_ble_eq_true rfl) (L0 := [some (.ref 0), some (.long e), none, some (.int (nI n))]) rfl ?_
  refine w_li rfl rfl ?_
  refine w_ci rfl ?_
  refine w_ci rfl ?_
  refine w_st3r pl_sub_c rfl (Nat.le_of_ble_eq_true rfl) (r_isWithin) ?_
  refine w_if_ne rfl (fun c7_0 => ?_) (fun c7_0 => absurd (b2t hb) c7_0)
  refine w_la rfl rfl ?_
  refine w_gf rfl (mg_0 _ _) rfl ?_
  refine w_ll rfl rfl ?_
  refine w_li rfl rfl ?_
  refine w_vi2 pl_sub_c rfl (mg_28 _ _) (Nat.le_of_ble_eq_true rfl) (u_take hn) (fun r2 h2 q => by obtain ⟨_, _, q⟩ := q; rw [q]; rfl) (fun r2 h2 q => ?_)
  obtain ⟨q1, f, q2⟩ := q
  rw [q1, q2]
  refine w_if_eq rfl (fun c21_0 => absurd c21_0 (show ¬ ((1 : Int32) = 0) from by decide)) (fun c21_0 => ?_)
  refine w_la rfl rfl ?_
  refine w_gf rfl (mg_0 _ _) rfl ?_
  refine w_gf rfl (mg_28 _ _) rfl ?_
  refine w_go rfl ?_
  refine w_ri rfl ?_
  exact ⟨rfl, _, _, rfl, fS_mod⟩

set_option maxRecDepth 100000 in
set_option maxHeartbeats 300000 in
theorem c_feed_out {n : Int32} {e : Int64} (hx : wi n 1 8 = false) : Wm 52 [.ref 0, .long e, .int n] (mk s0 t0) (Pc (.int (-1))) := by
  refine Wm.of pT_52 (Nat.le_of_ble_eq_true rfl) (L0 := [some (.ref 0), some (.long e), none, some (.int n)]) rfl ?_
  refine w_li rfl rfl ?_
  refine w_ci rfl ?_
  refine w_ci rfl ?_
  refine w_st3r pl_sub_c rfl (Nat.le_of_ble_eq_true rfl) (r_isWithin) ?_
  refine w_if_ne rfl (fun c7_0 => absurd c7_0 (fun z => absurd (hx.symm.trans (b2_n z)) (by decide))) (fun c7_0 => ?_)
  refine w_ci rfl ?_
  refine w_ri rfl ?_
  exact ⟨rfl, _, _, rfl, Mod0⟩

set_option maxRecDepth 100000 in
set_option maxHeartbeats 300000 in
theorem ly_feed {n : Nat} {e : Int64} : ∀ (m j : Nat) (s : Nat → Nat → Int32) (t : Nat → Nat → Int64), j + m = n → n ≤ 8 → Wp pl_Kc 118 30 [some (.ref 51), some (.long e), none, some (.int (nI n)), some (.int (nI j))] [] (mk (up2 s 51 7 (nI j)) t) (Pm (.int (nI n))) := by
  intro m
  induction m with
  | zero =>
    intro j s t hj hn
    obtain rfl : j = n := by omega
    refine w_li rfl rfl ?_
    refine w_li rfl rfl ?_
    refine w_ic_ge rfl (fun c33_0 => ?_) (fun c33_0 => absurd (nI_le3 (by omega) (by omega)) c33_0)
    refine w_la rfl rfl ?_
    refine w_gf rfl (mg_51 _ _) rfl ?_
    refine w_ri rfl ?_
    exact ⟨by rw [up2_s], _, _, rfl⟩
  | succ m ih =>
    intro j s t hj hn
    refine w_li rfl rfl ?_
    refine w_li rfl rfl ?_
    refine w_ic_ge rfl (fun c33_0 => absurd c33_0 (nI_nle3 (by omega) (by omega))) (fun c33_0 => ?_)
    refine w_la rfl rfl ?_
    refine w_gf rfl (mg_51 _ _) rfl ?_
    refine w_la rfl rfl ?_
    refine w_gf rfl (mg_51 _ _) rfl ?_
    rw [show up2 s 51 7 (nI j) 51 7 = nI j from up2_s]
    refine w_ll rfl rfl ?_
    refine w_ci rfl ?_
    refine w_li rfl rfl ?_
    refine w_imul rfl ?_
    refine w_lshr rfl ?_
    refine w_cl rfl ?_
    refine w_land rfl ?_
    refine w_l2i rfl ?_
    refine w_is rfl (mg_56 _ _) (nI_pos (by omega)) (by rw [ar_len, nI_clamp (by omega)]; omega) (ms_56 _ _ _ _) ?_
    rw [up2_comm (by decide)]
    generalize up2 s 56 (nI j).toNatClampNeg _ = s
    refine w_la rfl rfl ?_
    refine w_dup rfl rfl ?_
    refine w_gf rfl (mg_51 _ _) rfl ?_
    refine w_ci rfl ?_
    refine w_iadd rfl ?_
    rw [show up2 s 51 7 (nI j) 51 7 + 1 = nI (j + 1) from nIs up2_s]
    refine w_pf rfl rfl (mg_51 _ _) (Nat.le_of_ble_eq_true rfl) (ms_51_7 _ _ _) ?_
    rw [up2_up2]
    refine w_inc rfl rfl rfl ?_
    refine w_go rfl ?_
    rw [nI_1]
    exact ih (j + 1) _ _ (by omega) hn
set_option maxRecDepth 100000 in
set_option maxHeartbeats 300000 in
theorem d_feed {n : Nat} {e : Int64} (hb : wi (nI n) 1 8 = true) (hn : n ≤ 8) (s : Nat → Nat → Int32) (t : Nat → Nat → Int64) : Wm 118 [.ref 51, .long e, .int (nI n)] (mk (mS s) (mT t)) (Pm (.int (nI n))) := by
  refine Wm.of pT_118 (Nat.le_of_ble_eq_true rfl) (L0 := [some (.ref 51), some (.long e), none, some (.int (nI n)), none]) rfl ?_
  refine w_li rfl rfl ?_
  refine w_ci rfl ?_
  refine w_ci rfl ?_
  refine w_st3r pl_sub_c rfl (Nat.le_of_ble_eq_true rfl) (m_in) ?_
  refine w_if_ne rfl (fun c7_0 => ?_) (fun c7_0 => absurd (b2t hb) c7_0)
  refine w_la rfl rfl ?_
  refine w_gf rfl (mg_51 _ _) rfl ?_
  refine w_li rfl rfl ?_
  refine w_iadd rfl ?_
  refine w_ci rfl ?_
  refine w_ic_le rfl (fun c21_0 => ?_) (fun c21_0 => absurd (le200b rfl hn) c21_0)
  refine w_ci rfl ?_
  refine w_si rfl (Nat.le_of_ble_eq_true rfl) rfl ?_
  rw [show mk (mS s) (mT t) = mk (up2 (mS s) 51 7 (nI 0)) (mT t) from congrArg (fun s => mk s (mT t)) (up2_self rfl).symm]
  exact ly_feed n 0 (mS s) (mT t) (by omega) hn

set_option maxRecDepth 100000 in
set_option maxHeartbeats 300000 in
theorem d_feed_out {n : Int32} {e : Int64} (hx : wi n 1 8 = false) (s : Nat → Nat → Int32) (t : Nat → Nat → Int64) : Wm 118 [.ref 51, .long e, .int n] (mk (mS s) (mT t)) (Pm (.int (-1))) := by
  refine Wm.of pT_118 (Nat.le_of_ble_eq_true rfl) (L0 := [some (.ref 51), some (.long e), none, some (.int n), none]) rfl ?_
  refine w_li rfl rfl ?_
  refine w_ci rfl ?_
  refine w_ci rfl ?_
  refine w_st3r pl_sub_c rfl (Nat.le_of_ble_eq_true rfl) (m_in) ?_
  refine w_if_ne rfl (fun c7_0 => absurd c7_0 (fun z => absurd (hx.symm.trans (b2_n z)) (by decide))) (fun c7_0 => ?_)
  refine w_ci rfl ?_
  refine w_ri rfl ?_
  exact ⟨rfl, _, _, rfl⟩

theorem B_feed (e : Int64) (n : Int32) : Bth 52 118 [.long e, .int n] := by
  rcases tf (wi n 1 8) with h | h
  · obtain ⟨j, hj, rfl⟩ := en1 (n := 8) (by decide) h
    exact Bth.of (c_feed h (by omega)) (fun s t => d_feed h (by omega) s t)
  · exact Bth.of (c_feed_out h) (fun s t => d_feed_out h s t)
