/-! p1: the law -/
theorem w_nw {K : pm_K} {k pc nx ci b : Nat} {L : pm_L} {st : List Value} {h : pm_H} {P : Option Value → pm_H → Prop} {fs : List Value} (hC : pm_C0 k pc = pms_nw ci fs nx) (hb : h.length = b) (hf : pm_free b L st h = true) (hg : Wp K k nx L (.ref b :: st) (h ++ [pm_ob ci fs]) P) : Wp K k pc L st h P := by
  subst hb
  exact Wp.one hC (fun call cont z hz => by simp only [pms_nw, if_pos hf]; exact hz) hg
theorem w_ct0 {K : pm_K} {k pc nx c b : Nat} {L : pm_L} {st : List Value} {h h1 : pm_H} {P : Option Value → pm_H → Prop} (hKK : pl_sub K) (hC : pm_C0 k pc = pms_ct c 0 nx) (hcat : (st.map fun v => v.category).sum ≤ 8) (hm : Wm c [.ref b] h (fun r2 h2 => r2 = none ∧ h2 = h1)) (hlen : pm_rL h.length h1.length L = true ∧ pm_rS h.length h1.length st = true) (hg : Wp K k nx L st h1 P) : Wp K k pc L (.ref b :: st) h P :=
  Wp.call (nx := nx) hKK hC (fun call cont => by simp [pms_ct]) hcat hm (fun r2 h2 q => Or.inr (by rw [q.2]; exact hlen)) (fun r2 h2 q => by rw [q.1, q.2]; exact hg)
/-- what the law leaves -/
def PL : Option Value → pm_H → Prop := fun r h => r = some (.int 1) ∧ h.length = 67 ∧ pm_zs h ≤ 100000
theorem row_B {L : Nat} {xs : Nat → Int32} {h : pm_H} (hl : h.length = 67) : pm_row (pl_K L xs) h pm_B = some ((List.range L).map xs) := by
  have e : h[pm_B]? = none := List.getElem?_eq_none (by rw [hl]; decide)
  unfold pm_row
  rw [e]
  rfl
theorem len_B {L : Nat} {xs : Nat → Int32} {h : pm_H} (hl : h.length = 67) : pm_len (pl_K L xs) h pm_B = some L := by
  have e : h[pm_B]? = none := List.getElem?_eq_none (by rw [hl]; decide)
  have e2 : ((List.range L).map xs).length = L := by simp
  unfold pm_len
  rw [e]
  show Option.map List.length (some ((List.range L).map xs)) = _
  rw [Option.map_some, e2]
theorem kdI {k : Nat} {v : Value} (h : kd k v = true) (hk : (Nat.beq k 79 || Nat.beq k 78) = false := by rfl) : ∃ x, v = .int x := by
  unfold kd at h
  split at h
  · exact ⟨_, rfl⟩
  · rw [hk] at h; cases h
  · cases h
theorem kdL {k : Nat} {v : Value} (h : kd k v = true) (hk : (Nat.beq k 79 || Nat.beq k 78) = true := by rfl) : ∃ x, v = .long x := by
  unfold kd at h
  split at h
  · rw [hk] at h; cases h
  · exact ⟨_, rfl⟩
  · cases h
theorem lgc (x : Int64) : lg_cmp x x = 0 := by simp [lg_cmp]
set_option maxRecDepth 100000 in
set_option maxHeartbeats 400000 in
theorem law_tail {xs : Nat → Int32} {h : pm_H} (hl : h.length = 67) (hz : pm_zs h ≤ 100000) : Wp (pl_K 5 xs) 213 1581 [some (.ref pm_B), some (.ref 0), some (.ref 51), some (.int 0)] [] h PL := by
  refine w_inc rfl rfl rfl ?_
  refine w_go rfl ?_
  refine w_li rfl rfl ?_
  refine w_la rfl rfl ?_
  refine w_len rfl (len_B hl) ?_
  refine w_ci rfl ?_
  refine w_isub rfl ?_
  refine w_ic_gt rfl (fun c => ?_) (fun c => absurd (show Int32.ofNat 5 - 5 < (0 : Int32) + 5 from by decide) c)
  refine w_ci rfl ?_
  refine w_rz rfl (by decide) ?_
  exact ⟨rfl, hl, hz⟩
set_option maxRecDepth 100000 in
set_option maxHeartbeats 400000 in
theorem arm_0 {xs : Nat → Int32} : Wp (pl_K 5 xs) 213 220 [some (.ref pm_B), some (.ref 0), some (.ref 51), some (.int 0)] [] (mk s0 t0) PL := by
  have hl0 : (mk s0 t0).length = 67 := mk_len s0 t0
  obtain ⟨v, hk, q5⟩ : Bth 52 118 [.long ((pmf_lshl (xs 1).toInt64 32) ||| ((xs 2).toInt64 &&& 4294967295)), .int (xs 3)] := B_feed (((pmf_lshl (xs 1).toInt64 32) ||| ((xs 2).toInt64 &&& 4294967295))) (xs 3)
  obtain ⟨x, rfl⟩ := kdI hk
  refine w_la rfl rfl ?_
  refine w_la rfl rfl ?_
  refine w_li rfl rfl ?_
  refine w_ci rfl ?_
  refine w_iadd rfl ?_
  refine w_ia rfl (row_B hl0) (by decide) (x := xs 1) rfl ?_
  refine w_i2l rfl ?_
  refine w_ci rfl ?_
  refine w_lshl rfl ?_
  refine w_la rfl rfl ?_
  refine w_li rfl rfl ?_
  refine w_ci rfl ?_
  refine w_iadd rfl ?_
  refine w_ia rfl (row_B hl0) (by decide) (x := xs 2) rfl ?_
  refine w_i2l rfl ?_
  refine w_cl rfl ?_
  refine w_land rfl ?_
  refine w_lor rfl ?_
  refine w_la rfl rfl ?_
  refine w_li rfl rfl ?_
  refine w_ci rfl ?_
  refine w_iadd rfl ?_
  refine w_ia rfl (row_B hl0) (by decide) (x := xs 3) rfl ?_
  refine w_vi2 (pl_KK 5 xs) rfl (mg_0 s0 t0) (Nat.le_of_ble_eq_true rfl) q5 (fun r2 h2 q => q.2.1.trans (mk_len s0 t0).symm) (fun r2 h2 q => ?_)
  obtain ⟨q1, hl1, ⟨fs, hc⟩, q6⟩ := q
  rw [q1]
  refine w_la rfl rfl ?_
  refine w_la rfl rfl ?_
  refine w_li rfl rfl ?_
  refine w_ci rfl ?_
  refine w_iadd rfl ?_
  refine w_ia rfl (row_B hl1) (by decide) (x := xs 1) rfl ?_
  refine w_i2l rfl ?_
  refine w_ci rfl ?_
  refine w_lshl rfl ?_
  refine w_la rfl rfl ?_
  refine w_li rfl rfl ?_
  refine w_ci rfl ?_
  refine w_iadd rfl ?_
  refine w_ia rfl (row_B hl1) (by decide) (x := xs 2) rfl ?_
  refine w_i2l rfl ?_
  refine w_cl rfl ?_
  refine w_land rfl ?_
  refine w_lor rfl ?_
  refine w_la rfl rfl ?_
  refine w_li rfl rfl ?_
  refine w_ci rfl ?_
  refine w_iadd rfl ?_
  refine w_ia rfl (row_B hl1) (by decide) (x := xs 3) rfl ?_
  refine w_vi2 (pl_KK 5 xs) rfl hc (Nat.le_of_ble_eq_true rfl) q6 (fun r3 h3 q => q.2.1.trans hl1.symm) (fun r3 h3 q => ?_)
  obtain ⟨q3, hl3, hz⟩ := q
  rw [q3]
  exact w_ic_eq rfl (fun _ => law_tail hl3 hz) (fun c => absurd rfl c)
set_option maxRecDepth 100000 in
set_option maxHeartbeats 400000 in
theorem arm_1 {xs : Nat → Int32} : Wp (pl_K 5 xs) 213 283 [some (.ref pm_B), some (.ref 0), some (.ref 51), some (.int 0)] [] (mk s0 t0) PL := by
  have hl0 : (mk s0 t0).length = 67 := mk_len s0 t0
  obtain ⟨v, hk, q5⟩ : Bth 53 132 [] := B_post 
  obtain ⟨x, rfl⟩ := kdI hk
  refine w_la rfl rfl ?_
  refine w_vi0 (pl_KK 5 xs) rfl (mg_0 s0 t0) (Nat.le_of_ble_eq_true rfl) q5 (fun r2 h2 q => q.2.1.trans (mk_len s0 t0).symm) (fun r2 h2 q => ?_)
  obtain ⟨q1, hl1, ⟨fs, hc⟩, q6⟩ := q
  rw [q1]
  refine w_la rfl rfl ?_
  refine w_vi0 (pl_KK 5 xs) rfl hc (Nat.le_of_ble_eq_true rfl) q6 (fun r3 h3 q => q.2.1.trans hl1.symm) (fun r3 h3 q => ?_)
  obtain ⟨q3, hl3, hz⟩ := q
  rw [q3]
  exact w_ic_eq rfl (fun _ => law_tail hl3 hz) (fun c => absurd rfl c)
set_option maxRecDepth 100000 in
set_option maxHeartbeats 400000 in
theorem arm_2 {xs : Nat → Int32} : Wp (pl_K 5 xs) 213 296 [some (.ref pm_B), some (.ref 0), some (.ref 51), some (.int 0)] [] (mk s0 t0) PL := by
  have hl0 : (mk s0 t0).length = 67 := mk_len s0 t0
  obtain ⟨v, hk, q5⟩ : Bth 54 134 [.int (xs 1), .int (xs 2)] := B_set (xs 1) (xs 2)
  obtain ⟨x, rfl⟩ := kdI hk
  refine w_la rfl rfl ?_
  refine w_la rfl rfl ?_
  refine w_li rfl rfl ?_
  refine w_ci rfl ?_
  refine w_iadd rfl ?_
  refine w_ia rfl (row_B hl0) (by decide) (x := xs 1) rfl ?_
  refine w_la rfl rfl ?_
  refine w_li rfl rfl ?_
  refine w_ci rfl ?_
  refine w_iadd rfl ?_
  refine w_ia rfl (row_B hl0) (by decide) (x := xs 2) rfl ?_
  refine w_vi2 (pl_KK 5 xs) rfl (mg_0 s0 t0) (Nat.le_of_ble_eq_true rfl) q5 (fun r2 h2 q => q.2.1.trans (mk_len s0 t0).symm) (fun r2 h2 q => ?_)
  obtain ⟨q1, hl1, ⟨fs, hc⟩, q6⟩ := q
  rw [q1]
  refine w_la rfl rfl ?_
  refine w_la rfl rfl ?_
  refine w_li rfl rfl ?_
  refine w_ci rfl ?_
  refine w_iadd rfl ?_
  refine w_ia rfl (row_B hl1) (by decide) (x := xs 1) rfl ?_
  refine w_la rfl rfl ?_
  refine w_li rfl rfl ?_
  refine w_ci rfl ?_
  refine w_iadd rfl ?_
  refine w_ia rfl (row_B hl1) (by decide) (x := xs 2) rfl ?_
  refine w_vi2 (pl_KK 5 xs) rfl hc (Nat.le_of_ble_eq_true rfl) q6 (fun r3 h3 q => q.2.1.trans hl1.symm) (fun r3 h3 q => ?_)
  obtain ⟨q3, hl3, hz⟩ := q
  rw [q3]
  exact w_ic_eq rfl (fun _ => law_tail hl3 hz) (fun c => absurd rfl c)
set_option maxRecDepth 100000 in
set_option maxHeartbeats 400000 in
theorem arm_3 {xs : Nat → Int32} : Wp (pl_K 5 xs) 213 329 [some (.ref pm_B), some (.ref 0), some (.ref 51), some (.int 0)] [] (mk s0 t0) PL := by
  have hl0 : (mk s0 t0).length = 67 := mk_len s0 t0
  obtain ⟨v, hk, q5⟩ : Bth 55 135 [.int (xs 1)] := B_lawOf (xs 1)
  obtain ⟨x, rfl⟩ := kdI hk
  refine w_la rfl rfl ?_
  refine w_la rfl rfl ?_
  refine w_li rfl rfl ?_
  refine w_ci rfl ?_
  refine w_iadd rfl ?_
  refine w_ia rfl (row_B hl0) (by decide) (x := xs 1) rfl ?_
  refine w_vi1 (pl_KK 5 xs) rfl (mg_0 s0 t0) (Nat.le_of_ble_eq_true rfl) q5 (fun r2 h2 q => q.2.1.trans (mk_len s0 t0).symm) (fun r2 h2 q => ?_)
  obtain ⟨q1, hl1, ⟨fs, hc⟩, q6⟩ := q
  rw [q1]
  refine w_la rfl rfl ?_
  refine w_la rfl rfl ?_
  refine w_li rfl rfl ?_
  refine w_ci rfl ?_
  refine w_iadd rfl ?_
  refine w_ia rfl (row_B hl1) (by decide) (x := xs 1) rfl ?_
  refine w_vi1 (pl_KK 5 xs) rfl hc (Nat.le_of_ble_eq_true rfl) q6 (fun r3 h3 q => q.2.1.trans hl1.symm) (fun r3 h3 q => ?_)
  obtain ⟨q3, hl3, hz⟩ := q
  rw [q3]
  exact w_ic_eq rfl (fun _ => law_tail hl3 hz) (fun c => absurd rfl c)
set_option maxRecDepth 100000 in
set_option maxHeartbeats 400000 in
theorem arm_4 {xs : Nat → Int32} : Wp (pl_K 5 xs) 213 352 [some (.ref pm_B), some (.ref 0), some (.ref 51), some (.int 0)] [] (mk s0 t0) PL := by
  have hl0 : (mk s0 t0).length = 67 := mk_len s0 t0
  obtain ⟨v, hk, q5⟩ : Bth 56 137 [.int (xs 1), .int (xs 2), .int (xs 3), .int (xs 4)] := b_person 
  obtain ⟨x, rfl⟩ := kdI hk
  refine w_la rfl rfl ?_
  refine w_la rfl rfl ?_
  refine w_li rfl rfl ?_
  refine w_ci rfl ?_
  refine w_iadd rfl ?_
  refine w_ia rfl (row_B hl0) (by decide) (x := xs 1) rfl ?_
  refine w_la rfl rfl ?_
  refine w_li rfl rfl ?_
  refine w_ci rfl ?_
  refine w_iadd rfl ?_
  refine w_ia rfl (row_B hl0) (by decide) (x := xs 2) rfl ?_
  refine w_la rfl rfl ?_
  refine w_li rfl rfl ?_
  refine w_ci rfl ?_
  refine w_iadd rfl ?_
  refine w_ia rfl (row_B hl0) (by decide) (x := xs 3) rfl ?_
  refine w_la rfl rfl ?_
  refine w_li rfl rfl ?_
  refine w_ci rfl ?_
  refine w_iadd rfl ?_
  refine w_ia rfl (row_B hl0) (by decide) (x := xs 4) rfl ?_
  refine w_vi4 (pl_KK 5 xs) rfl (mg_0 s0 t0) (Nat.le_of_ble_eq_true rfl) q5 (fun r2 h2 q => q.2.1.trans (mk_len s0 t0).symm) (fun r2 h2 q => ?_)
  obtain ⟨q1, hl1, ⟨fs, hc⟩, q6⟩ := q
  rw [q1]
  refine w_la rfl rfl ?_
  refine w_la rfl rfl ?_
  refine w_li rfl rfl ?_
  refine w_ci rfl ?_
  refine w_iadd rfl ?_
  refine w_ia rfl (row_B hl1) (by decide) (x := xs 1) rfl ?_
  refine w_la rfl rfl ?_
  refine w_li rfl rfl ?_
  refine w_ci rfl ?_
  refine w_iadd rfl ?_
  refine w_ia rfl (row_B hl1) (by decide) (x := xs 2) rfl ?_
  refine w_la rfl rfl ?_
  refine w_li rfl rfl ?_
  refine w_ci rfl ?_
  refine w_iadd rfl ?_
  refine w_ia rfl (row_B hl1) (by decide) (x := xs 3) rfl ?_
  refine w_la rfl rfl ?_
  refine w_li rfl rfl ?_
  refine w_ci rfl ?_
  refine w_iadd rfl ?_
  refine w_ia rfl (row_B hl1) (by decide) (x := xs 4) rfl ?_
  refine w_vi4 (pl_KK 5 xs) rfl hc (Nat.le_of_ble_eq_true rfl) q6 (fun r3 h3 q => q.2.1.trans hl1.symm) (fun r3 h3 q => ?_)
  obtain ⟨q3, hl3, hz⟩ := q
  rw [q3]
  exact w_ic_eq rfl (fun _ => law_tail hl3 hz) (fun c => absurd rfl c)
set_option maxRecDepth 100000 in
set_option maxHeartbeats 400000 in
theorem arm_5 {xs : Nat → Int32} : Wp (pl_K 5 xs) 213 405 [some (.ref pm_B), some (.ref 0), some (.ref 51), some (.int 0)] [] (mk s0 t0) PL := by
  have hl0 : (mk s0 t0).length = 67 := mk_len s0 t0
  obtain ⟨v, hk, q5⟩ : Bth 57 138 [.int (xs 1), .int (xs 2)] := b_of 
  obtain ⟨x, rfl⟩ := kdI hk
  refine w_la rfl rfl ?_
  refine w_la rfl rfl ?_
  refine w_li rfl rfl ?_
  refine w_ci rfl ?_
  refine w_iadd rfl ?_
  refine w_ia rfl (row_B hl0) (by decide) (x := xs 1) rfl ?_
  refine w_la rfl rfl ?_
  refine w_li rfl rfl ?_
  refine w_ci rfl ?_
  refine w_iadd rfl ?_
  refine w_ia rfl (row_B hl0) (by decide) (x := xs 2) rfl ?_
  refine w_vi2 (pl_KK 5 xs) rfl (mg_0 s0 t0) (Nat.le_of_ble_eq_true rfl) q5 (fun r2 h2 q => q.2.1.trans (mk_len s0 t0).symm) (fun r2 h2 q => ?_)
  obtain ⟨q1, hl1, ⟨fs, hc⟩, q6⟩ := q
  rw [q1]
  refine w_la rfl rfl ?_
  refine w_la rfl rfl ?_
  refine w_li rfl rfl ?_
  refine w_ci rfl ?_
  refine w_iadd rfl ?_
  refine w_ia rfl (row_B hl1) (by decide) (x := xs 1) rfl ?_
  refine w_la rfl rfl ?_
  refine w_li rfl rfl ?_
  refine w_ci rfl ?_
  refine w_iadd rfl ?_
  refine w_ia rfl (row_B hl1) (by decide) (x := xs 2) rfl ?_
  refine w_vi2 (pl_KK 5 xs) rfl hc (Nat.le_of_ble_eq_true rfl) q6 (fun r3 h3 q => q.2.1.trans hl1.symm) (fun r3 h3 q => ?_)
  obtain ⟨q3, hl3, hz⟩ := q
  rw [q3]
  exact w_ic_eq rfl (fun _ => law_tail hl3 hz) (fun c => absurd rfl c)
set_option maxRecDepth 100000 in
set_option maxHeartbeats 400000 in
theorem arm_6 {xs : Nat → Int32} : Wp (pl_K 5 xs) 213 438 [some (.ref pm_B), some (.ref 0), some (.ref 51), some (.int 0)] [] (mk s0 t0) PL := by
  have hl0 : (mk s0 t0).length = 67 := mk_len s0 t0
  obtain ⟨v, hk, q5⟩ : Bth 58 143 [.int (xs 1), .int (xs 2)] := b_does 
  obtain ⟨x, rfl⟩ := kdI hk
  refine w_la rfl rfl ?_
  refine w_la rfl rfl ?_
  refine w_li rfl rfl ?_
  refine w_ci rfl ?_
  refine w_iadd rfl ?_
  refine w_ia rfl (row_B hl0) (by decide) (x := xs 1) rfl ?_
  refine w_la rfl rfl ?_
  refine w_li rfl rfl ?_
  refine w_ci rfl ?_
  refine w_iadd rfl ?_
  refine w_ia rfl (row_B hl0) (by decide) (x := xs 2) rfl ?_
  refine w_vi2 (pl_KK 5 xs) rfl (mg_0 s0 t0) (Nat.le_of_ble_eq_true rfl) q5 (fun r2 h2 q => q.2.1.trans (mk_len s0 t0).symm) (fun r2 h2 q => ?_)
  obtain ⟨q1, hl1, ⟨fs, hc⟩, q6⟩ := q
  rw [q1]
  refine w_la rfl rfl ?_
  refine w_la rfl rfl ?_
  refine w_li rfl rfl ?_
  refine w_ci rfl ?_
  refine w_iadd rfl ?_
  refine w_ia rfl (row_B hl1) (by decide) (x := xs 1) rfl ?_
  refine w_la rfl rfl ?_
  refine w_li rfl rfl ?_
  refine w_ci rfl ?_
  refine w_iadd rfl ?_
  refine w_ia rfl (row_B hl1) (by decide) (x := xs 2) rfl ?_
  refine w_vi2 (pl_KK 5 xs) rfl hc (Nat.le_of_ble_eq_true rfl) q6 (fun r3 h3 q => q.2.1.trans hl1.symm) (fun r3 h3 q => ?_)
  obtain ⟨q3, hl3, hz⟩ := q
  rw [q3]
  exact w_ic_eq rfl (fun _ => law_tail hl3 hz) (fun c => absurd rfl c)
set_option maxRecDepth 100000 in
set_option maxHeartbeats 400000 in
theorem arm_7 {xs : Nat → Int32} : Wp (pl_K 5 xs) 213 471 [some (.ref pm_B), some (.ref 0), some (.ref 51), some (.int 0)] [] (mk s0 t0) PL := by
  have hl0 : (mk s0 t0).length = 67 := mk_len s0 t0
  obtain ⟨v, hk, q5⟩ : Bth 59 144 [.int (xs 1), .int (xs 2), .int (xs 3)] := b_mind 
  obtain ⟨x, rfl⟩ := kdI hk
  refine w_la rfl rfl ?_
  refine w_la rfl rfl ?_
  refine w_li rfl rfl ?_
  refine w_ci rfl ?_
  refine w_iadd rfl ?_
  refine w_ia rfl (row_B hl0) (by decide) (x := xs 1) rfl ?_
  refine w_la rfl rfl ?_
  refine w_li rfl rfl ?_
  refine w_ci rfl ?_
  refine w_iadd rfl ?_
  refine w_ia rfl (row_B hl0) (by decide) (x := xs 2) rfl ?_
  refine w_la rfl rfl ?_
  refine w_li rfl rfl ?_
  refine w_ci rfl ?_
  refine w_iadd rfl ?_
  refine w_ia rfl (row_B hl0) (by decide) (x := xs 3) rfl ?_
  refine w_vi3 (pl_KK 5 xs) rfl (mg_0 s0 t0) (Nat.le_of_ble_eq_true rfl) q5 (fun r2 h2 q => q.2.1.trans (mk_len s0 t0).symm) (fun r2 h2 q => ?_)
  obtain ⟨q1, hl1, ⟨fs, hc⟩, q6⟩ := q
  rw [q1]
  refine w_la rfl rfl ?_
  refine w_la rfl rfl ?_
  refine w_li rfl rfl ?_
  refine w_ci rfl ?_
  refine w_iadd rfl ?_
  refine w_ia rfl (row_B hl1) (by decide) (x := xs 1) rfl ?_
  refine w_la rfl rfl ?_
  refine w_li rfl rfl ?_
  refine w_ci rfl ?_
  refine w_iadd rfl ?_
  refine w_ia rfl (row_B hl1) (by decide) (x := xs 2) rfl ?_
  refine w_la rfl rfl ?_
  refine w_li rfl rfl ?_
  refine w_ci rfl ?_
  refine w_iadd rfl ?_
  refine w_ia rfl (row_B hl1) (by decide) (x := xs 3) rfl ?_
  refine w_vi3 (pl_KK 5 xs) rfl hc (Nat.le_of_ble_eq_true rfl) q6 (fun r3 h3 q => q.2.1.trans hl1.symm) (fun r3 h3 q => ?_)
  obtain ⟨q3, hl3, hz⟩ := q
  rw [q3]
  exact w_ic_eq rfl (fun _ => law_tail hl3 hz) (fun c => absurd rfl c)
set_option maxRecDepth 100000 in
set_option maxHeartbeats 400000 in
theorem arm_8 {xs : Nat → Int32} : Wp (pl_K 5 xs) 213 514 [some (.ref pm_B), some (.ref 0), some (.ref 51), some (.int 0)] [] (mk s0 t0) PL := by
  have hl0 : (mk s0 t0).length = 67 := mk_len s0 t0
  obtain ⟨v, hk, q5⟩ : Bth 60 145 [.int (xs 1), .int (xs 2)] := b_thought 
  obtain ⟨x, rfl⟩ := kdI hk
  refine w_la rfl rfl ?_
  refine w_la rfl rfl ?_
  refine w_li rfl rfl ?_
  refine w_ci rfl ?_
  refine w_iadd rfl ?_
  refine w_ia rfl (row_B hl0) (by decide) (x := xs 1) rfl ?_
  refine w_la rfl rfl ?_
  refine w_li rfl rfl ?_
  refine w_ci rfl ?_
  refine w_iadd rfl ?_
  refine w_ia rfl (row_B hl0) (by decide) (x := xs 2) rfl ?_
  refine w_vi2 (pl_KK 5 xs) rfl (mg_0 s0 t0) (Nat.le_of_ble_eq_true rfl) q5 (fun r2 h2 q => q.2.1.trans (mk_len s0 t0).symm) (fun r2 h2 q => ?_)
  obtain ⟨q1, hl1, ⟨fs, hc⟩, q6⟩ := q
  rw [q1]
  refine w_la rfl rfl ?_
  refine w_la rfl rfl ?_
  refine w_li rfl rfl ?_
  refine w_ci rfl ?_
  refine w_iadd rfl ?_
  refine w_ia rfl (row_B hl1) (by decide) (x := xs 1) rfl ?_
  refine w_la rfl rfl ?_
  refine w_li rfl rfl ?_
  refine w_ci rfl ?_
  refine w_iadd rfl ?_
  refine w_ia rfl (row_B hl1) (by decide) (x := xs 2) rfl ?_
  refine w_vi2 (pl_KK 5 xs) rfl hc (Nat.le_of_ble_eq_true rfl) q6 (fun r3 h3 q => q.2.1.trans hl1.symm) (fun r3 h3 q => ?_)
  obtain ⟨q3, hl3, hz⟩ := q
  rw [q3]
  exact w_ic_eq rfl (fun _ => law_tail hl3 hz) (fun c => absurd rfl c)
set_option maxRecDepth 100000 in
set_option maxHeartbeats 400000 in
theorem arm_9 {xs : Nat → Int32} : Wp (pl_K 5 xs) 213 547 [some (.ref pm_B), some (.ref 0), some (.ref 51), some (.int 0)] [] (mk s0 t0) PL := by
  have hl0 : (mk s0 t0).length = 67 := mk_len s0 t0
  obtain ⟨v, hk, q5⟩ : Bth 61 146 [.int (xs 1), .int (xs 2)] := b_own 
  obtain ⟨x, rfl⟩ := kdI hk
  refine w_la rfl rfl ?_
  refine w_la rfl rfl ?_
  refine w_li rfl rfl ?_
  refine w_ci rfl ?_
  refine w_iadd rfl ?_
  refine w_ia rfl (row_B hl0) (by decide) (x := xs 1) rfl ?_
  refine w_la rfl rfl ?_
  refine w_li rfl rfl ?_
  refine w_ci rfl ?_
  refine w_iadd rfl ?_
  refine w_ia rfl (row_B hl0) (by decide) (x := xs 2) rfl ?_
  refine w_vi2 (pl_KK 5 xs) rfl (mg_0 s0 t0) (Nat.le_of_ble_eq_true rfl) q5 (fun r2 h2 q => q.2.1.trans (mk_len s0 t0).symm) (fun r2 h2 q => ?_)
  obtain ⟨q1, hl1, ⟨fs, hc⟩, q6⟩ := q
  rw [q1]
  refine w_la rfl rfl ?_
  refine w_la rfl rfl ?_
  refine w_li rfl rfl ?_
  refine w_ci rfl ?_
  refine w_iadd rfl ?_
  refine w_ia rfl (row_B hl1) (by decide) (x := xs 1) rfl ?_
  refine w_la rfl rfl ?_
  refine w_li rfl rfl ?_
  refine w_ci rfl ?_
  refine w_iadd rfl ?_
  refine w_ia rfl (row_B hl1) (by decide) (x := xs 2) rfl ?_
  refine w_vi2 (pl_KK 5 xs) rfl hc (Nat.le_of_ble_eq_true rfl) q6 (fun r3 h3 q => q.2.1.trans hl1.symm) (fun r3 h3 q => ?_)
  obtain ⟨q3, hl3, hz⟩ := q
  rw [q3]
  exact w_ic_eq rfl (fun _ => law_tail hl3 hz) (fun c => absurd rfl c)
set_option maxRecDepth 100000 in
set_option maxHeartbeats 400000 in
theorem arm_10 {xs : Nat → Int32} : Wp (pl_K 5 xs) 213 580 [some (.ref pm_B), some (.ref 0), some (.ref 51), some (.int 0)] [] (mk s0 t0) PL := by
  have hl0 : (mk s0 t0).length = 67 := mk_len s0 t0
  obtain ⟨v, hk, q5⟩ : Bth 62 147 [.int (xs 1), .int (xs 2)] := b_give 
  obtain ⟨x, rfl⟩ := kdI hk
  refine w_la rfl rfl ?_
  refine w_la rfl rfl ?_
  refine w_li rfl rfl ?_
  refine w_ci rfl ?_
  refine w_iadd rfl ?_
  refine w_ia rfl (row_B hl0) (by decide) (x := xs 1) rfl ?_
  refine w_la rfl rfl ?_
  refine w_li rfl rfl ?_
  refine w_ci rfl ?_
  refine w_iadd rfl ?_
  refine w_ia rfl (row_B hl0) (by decide) (x := xs 2) rfl ?_
  refine w_vi2 (pl_KK 5 xs) rfl (mg_0 s0 t0) (Nat.le_of_ble_eq_true rfl) q5 (fun r2 h2 q => q.2.1.trans (mk_len s0 t0).symm) (fun r2 h2 q => ?_)
  obtain ⟨q1, hl1, ⟨fs, hc⟩, q6⟩ := q
  rw [q1]
  refine w_la rfl rfl ?_
  refine w_la rfl rfl ?_
  refine w_li rfl rfl ?_
  refine w_ci rfl ?_
  refine w_iadd rfl ?_
  refine w_ia rfl (row_B hl1) (by decide) (x := xs 1) rfl ?_
  refine w_la rfl rfl ?_
  refine w_li rfl rfl ?_
  refine w_ci rfl ?_
  refine w_iadd rfl ?_
  refine w_ia rfl (row_B hl1) (by decide) (x := xs 2) rfl ?_
  refine w_vi2 (pl_KK 5 xs) rfl hc (Nat.le_of_ble_eq_true rfl) q6 (fun r3 h3 q => q.2.1.trans hl1.symm) (fun r3 h3 q => ?_)
  obtain ⟨q3, hl3, hz⟩ := q
  rw [q3]
  exact w_ic_eq rfl (fun _ => law_tail hl3 hz) (fun c => absurd rfl c)
set_option maxRecDepth 100000 in
set_option maxHeartbeats 400000 in
theorem arm_11 {xs : Nat → Int32} : Wp (pl_K 5 xs) 213 613 [some (.ref pm_B), some (.ref 0), some (.ref 51), some (.int 0)] [] (mk s0 t0) PL := by
  have hl0 : (mk s0 t0).length = 67 := mk_len s0 t0
  obtain ⟨v, hk, q5⟩ : Bth 63 155 [.int (xs 1)] := B_weeks (xs 1)
  obtain ⟨x, rfl⟩ := kdI hk
  refine w_la rfl rfl ?_
  refine w_la rfl rfl ?_
  refine w_li rfl rfl ?_
  refine w_ci rfl ?_
  refine w_iadd rfl ?_
  refine w_ia rfl (row_B hl0) (by decide) (x := xs 1) rfl ?_
  refine w_vi1 (pl_KK 5 xs) rfl (mg_0 s0 t0) (Nat.le_of_ble_eq_true rfl) q5 (fun r2 h2 q => q.2.1.trans (mk_len s0 t0).symm) (fun r2 h2 q => ?_)
  obtain ⟨q1, hl1, ⟨fs, hc⟩, q6⟩ := q
  rw [q1]
  refine w_la rfl rfl ?_
  refine w_la rfl rfl ?_
  refine w_li rfl rfl ?_
  refine w_ci rfl ?_
  refine w_iadd rfl ?_
  refine w_ia rfl (row_B hl1) (by decide) (x := xs 1) rfl ?_
  refine w_vi1 (pl_KK 5 xs) rfl hc (Nat.le_of_ble_eq_true rfl) q6 (fun r3 h3 q => q.2.1.trans hl1.symm) (fun r3 h3 q => ?_)
  obtain ⟨q3, hl3, hz⟩ := q
  rw [q3]
  exact w_ic_eq rfl (fun _ => law_tail hl3 hz) (fun c => absurd rfl c)
set_option maxRecDepth 100000 in
set_option maxHeartbeats 400000 in
theorem arm_12 {xs : Nat → Int32} : Wp (pl_K 5 xs) 213 636 [some (.ref pm_B), some (.ref 0), some (.ref 51), some (.int 0)] [] (mk s0 t0) PL := by
  have hl0 : (mk s0 t0).length = 67 := mk_len s0 t0
  obtain ⟨v, hk, q5⟩ : Bth 64 157 [.int (xs 1)] := b_seed 
  obtain ⟨x, rfl⟩ := kdI hk
  refine w_la rfl rfl ?_
  refine w_la rfl rfl ?_
  refine w_li rfl rfl ?_
  refine w_ci rfl ?_
  refine w_iadd rfl ?_
  refine w_ia rfl (row_B hl0) (by decide) (x := xs 1) rfl ?_
  refine w_vi1 (pl_KK 5 xs) rfl (mg_0 s0 t0) (Nat.le_of_ble_eq_true rfl) q5 (fun r2 h2 q => q.2.1.trans (mk_len s0 t0).symm) (fun r2 h2 q => ?_)
  obtain ⟨q1, hl1, ⟨fs, hc⟩, q6⟩ := q
  rw [q1]
  refine w_la rfl rfl ?_
  refine w_la rfl rfl ?_
  refine w_li rfl rfl ?_
  refine w_ci rfl ?_
  refine w_iadd rfl ?_
  refine w_ia rfl (row_B hl1) (by decide) (x := xs 1) rfl ?_
  refine w_vi1 (pl_KK 5 xs) rfl hc (Nat.le_of_ble_eq_true rfl) q6 (fun r3 h3 q => q.2.1.trans hl1.symm) (fun r3 h3 q => ?_)
  obtain ⟨q3, hl3, hz⟩ := q
  rw [q3]
  exact w_ic_eq rfl (fun _ => law_tail hl3 hz) (fun c => absurd rfl c)
set_option maxRecDepth 100000 in
set_option maxHeartbeats 400000 in
theorem arm_13 {xs : Nat → Int32} : Wp (pl_K 5 xs) 213 659 [some (.ref pm_B), some (.ref 0), some (.ref 51), some (.int 0)] [] (mk s0 t0) PL := by
  have hl0 : (mk s0 t0).length = 67 := mk_len s0 t0
  obtain ⟨v, hk, q5⟩ : Bth 65 159 [] := B_week 
  obtain ⟨x, rfl⟩ := kdI hk
  refine w_la rfl rfl ?_
  refine w_vi0 (pl_KK 5 xs) rfl (mg_0 s0 t0) (Nat.le_of_ble_eq_true rfl) q5 (fun r2 h2 q => q.2.1.trans (mk_len s0 t0).symm) (fun r2 h2 q => ?_)
  obtain ⟨q1, hl1, ⟨fs, hc⟩, q6⟩ := q
  rw [q1]
  refine w_la rfl rfl ?_
  refine w_vi0 (pl_KK 5 xs) rfl hc (Nat.le_of_ble_eq_true rfl) q6 (fun r3 h3 q => q.2.1.trans hl1.symm) (fun r3 h3 q => ?_)
  obtain ⟨q3, hl3, hz⟩ := q
  rw [q3]
  exact w_ic_eq rfl (fun _ => law_tail hl3 hz) (fun c => absurd rfl c)
set_option maxRecDepth 100000 in
set_option maxHeartbeats 400000 in
theorem arm_14 {xs : Nat → Int32} : Wp (pl_K 5 xs) 213 672 [some (.ref pm_B), some (.ref 0), some (.ref 51), some (.int 0)] [] (mk s0 t0) PL := by
  have hl0 : (mk s0 t0).length = 67 := mk_len s0 t0
  obtain ⟨v, hk, q5⟩ : Bth 66 160 [.int (xs 1)] := B_poor (xs 1)
  obtain ⟨x, rfl⟩ := kdI hk
  refine w_la rfl rfl ?_
  refine w_la rfl rfl ?_
  refine w_li rfl rfl ?_
  refine w_ci rfl ?_
  refine w_iadd rfl ?_
  refine w_ia rfl (row_B hl0) (by decide) (x := xs 1) rfl ?_
  refine w_vi1 (pl_KK 5 xs) rfl (mg_0 s0 t0) (Nat.le_of_ble_eq_true rfl) q5 (fun r2 h2 q => q.2.1.trans (mk_len s0 t0).symm) (fun r2 h2 q => ?_)
  obtain ⟨q1, hl1, ⟨fs, hc⟩, q6⟩ := q
  rw [q1]
  refine w_la rfl rfl ?_
  refine w_la rfl rfl ?_
  refine w_li rfl rfl ?_
  refine w_ci rfl ?_
  refine w_iadd rfl ?_
  refine w_ia rfl (row_B hl1) (by decide) (x := xs 1) rfl ?_
  refine w_vi1 (pl_KK 5 xs) rfl hc (Nat.le_of_ble_eq_true rfl) q6 (fun r3 h3 q => q.2.1.trans hl1.symm) (fun r3 h3 q => ?_)
  obtain ⟨q3, hl3, hz⟩ := q
  rw [q3]
  exact w_ic_eq rfl (fun _ => law_tail hl3 hz) (fun c => absurd rfl c)
set_option maxRecDepth 100000 in
set_option maxHeartbeats 400000 in
theorem arm_15 {xs : Nat → Int32} : Wp (pl_K 5 xs) 213 695 [some (.ref pm_B), some (.ref 0), some (.ref 51), some (.int 0)] [] (mk s0 t0) PL := by
  have hl0 : (mk s0 t0).length = 67 := mk_len s0 t0
  obtain ⟨v, hk, q5⟩ : Bth 67 161 [.int (xs 1)] := B_state (xs 1)
  obtain ⟨x, rfl⟩ := kdI hk
  refine w_la rfl rfl ?_
  refine w_la rfl rfl ?_
  refine w_li rfl rfl ?_
  refine w_ci rfl ?_
  refine w_iadd rfl ?_
  refine w_ia rfl (row_B hl0) (by decide) (x := xs 1) rfl ?_
  refine w_vi1 (pl_KK 5 xs) rfl (mg_0 s0 t0) (Nat.le_of_ble_eq_true rfl) q5 (fun r2 h2 q => q.2.1.trans (mk_len s0 t0).symm) (fun r2 h2 q => ?_)
  obtain ⟨q1, hl1, ⟨fs, hc⟩, q6⟩ := q
  rw [q1]
  refine w_la rfl rfl ?_
  refine w_la rfl rfl ?_
  refine w_li rfl rfl ?_
  refine w_ci rfl ?_
  refine w_iadd rfl ?_
  refine w_ia rfl (row_B hl1) (by decide) (x := xs 1) rfl ?_
  refine w_vi1 (pl_KK 5 xs) rfl hc (Nat.le_of_ble_eq_true rfl) q6 (fun r3 h3 q => q.2.1.trans hl1.symm) (fun r3 h3 q => ?_)
  obtain ⟨q3, hl3, hz⟩ := q
  rw [q3]
  exact w_ic_eq rfl (fun _ => law_tail hl3 hz) (fun c => absurd rfl c)
set_option maxRecDepth 100000 in
set_option maxHeartbeats 400000 in
theorem arm_16 {xs : Nat → Int32} : Wp (pl_K 5 xs) 213 718 [some (.ref pm_B), some (.ref 0), some (.ref 51), some (.int 0)] [] (mk s0 t0) PL := by
  have hl0 : (mk s0 t0).length = 67 := mk_len s0 t0
  obtain ⟨v, hk, q5⟩ : Bth 68 163 [.int (xs 1)] := B_words (xs 1)
  obtain ⟨x, rfl⟩ := kdI hk
  refine w_la rfl rfl ?_
  refine w_la rfl rfl ?_
  refine w_li rfl rfl ?_
  refine w_ci rfl ?_
  refine w_iadd rfl ?_
  refine w_ia rfl (row_B hl0) (by decide) (x := xs 1) rfl ?_
  refine w_vi1 (pl_KK 5 xs) rfl (mg_0 s0 t0) (Nat.le_of_ble_eq_true rfl) q5 (fun r2 h2 q => q.2.1.trans (mk_len s0 t0).symm) (fun r2 h2 q => ?_)
  obtain ⟨q1, hl1, ⟨fs, hc⟩, q6⟩ := q
  rw [q1]
  refine w_la rfl rfl ?_
  refine w_la rfl rfl ?_
  refine w_li rfl rfl ?_
  refine w_ci rfl ?_
  refine w_iadd rfl ?_
  refine w_ia rfl (row_B hl1) (by decide) (x := xs 1) rfl ?_
  refine w_vi1 (pl_KK 5 xs) rfl hc (Nat.le_of_ble_eq_true rfl) q6 (fun r3 h3 q => q.2.1.trans hl1.symm) (fun r3 h3 q => ?_)
  obtain ⟨q3, hl3, hz⟩ := q
  rw [q3]
  exact w_ic_eq rfl (fun _ => law_tail hl3 hz) (fun c => absurd rfl c)
set_option maxRecDepth 100000 in
set_option maxHeartbeats 400000 in
theorem arm_17 {xs : Nat → Int32} : Wp (pl_K 5 xs) 213 741 [some (.ref pm_B), some (.ref 0), some (.ref 51), some (.int 0)] [] (mk s0 t0) PL := by
  have hl0 : (mk s0 t0).length = 67 := mk_len s0 t0
  obtain ⟨v, hk, q5⟩ : Bth 69 164 [.int (xs 1)] := b_gets 
  obtain ⟨x, rfl⟩ := kdI hk
  refine w_la rfl rfl ?_
  refine w_la rfl rfl ?_
  refine w_li rfl rfl ?_
  refine w_ci rfl ?_
  refine w_iadd rfl ?_
  refine w_ia rfl (row_B hl0) (by decide) (x := xs 1) rfl ?_
  refine w_vi1 (pl_KK 5 xs) rfl (mg_0 s0 t0) (Nat.le_of_ble_eq_true rfl) q5 (fun r2 h2 q => q.2.1.trans (mk_len s0 t0).symm) (fun r2 h2 q => ?_)
  obtain ⟨q1, hl1, ⟨fs, hc⟩, q6⟩ := q
  rw [q1]
  refine w_la rfl rfl ?_
  refine w_la rfl rfl ?_
  refine w_li rfl rfl ?_
  refine w_ci rfl ?_
  refine w_iadd rfl ?_
  refine w_ia rfl (row_B hl1) (by decide) (x := xs 1) rfl ?_
  refine w_vi1 (pl_KK 5 xs) rfl hc (Nat.le_of_ble_eq_true rfl) q6 (fun r3 h3 q => q.2.1.trans hl1.symm) (fun r3 h3 q => ?_)
  obtain ⟨q3, hl3, hz⟩ := q
  rw [q3]
  exact w_ic_eq rfl (fun _ => law_tail hl3 hz) (fun c => absurd rfl c)
set_option maxRecDepth 100000 in
set_option maxHeartbeats 400000 in
theorem arm_18 {xs : Nat → Int32} : Wp (pl_K 5 xs) 213 764 [some (.ref pm_B), some (.ref 0), some (.ref 51), some (.int 0)] [] (mk s0 t0) PL := by
  have hl0 : (mk s0 t0).length = 67 := mk_len s0 t0
  obtain ⟨v, hk, q5⟩ : Bth 70 165 [] := B_idle 
  obtain ⟨x, rfl⟩ := kdI hk
  refine w_la rfl rfl ?_
  refine w_vi0 (pl_KK 5 xs) rfl (mg_0 s0 t0) (Nat.le_of_ble_eq_true rfl) q5 (fun r2 h2 q => q.2.1.trans (mk_len s0 t0).symm) (fun r2 h2 q => ?_)
  obtain ⟨q1, hl1, ⟨fs, hc⟩, q6⟩ := q
  rw [q1]
  refine w_la rfl rfl ?_
  refine w_vi0 (pl_KK 5 xs) rfl hc (Nat.le_of_ble_eq_true rfl) q6 (fun r3 h3 q => q.2.1.trans hl1.symm) (fun r3 h3 q => ?_)
  obtain ⟨q3, hl3, hz⟩ := q
  rw [q3]
  exact w_ic_eq rfl (fun _ => law_tail hl3 hz) (fun c => absurd rfl c)
set_option maxRecDepth 100000 in
set_option maxHeartbeats 400000 in
theorem arm_19 {xs : Nat → Int32} : Wp (pl_K 5 xs) 213 777 [some (.ref pm_B), some (.ref 0), some (.ref 51), some (.int 0)] [] (mk s0 t0) PL := by
  have hl0 : (mk s0 t0).length = 67 := mk_len s0 t0
  obtain ⟨v, hk, q5⟩ : Bth 71 166 [.int (xs 1), .int (xs 2)] := B_vanFor (xs 1) (xs 2)
  obtain ⟨x, rfl⟩ := kdI hk
  refine w_la rfl rfl ?_
  refine w_la rfl rfl ?_
  refine w_li rfl rfl ?_
  refine w_ci rfl ?_
  refine w_iadd rfl ?_
  refine w_ia rfl (row_B hl0) (by decide) (x := xs 1) rfl ?_
  refine w_la rfl rfl ?_
  refine w_li rfl rfl ?_
  refine w_ci rfl ?_
  refine w_iadd rfl ?_
  refine w_ia rfl (row_B hl0) (by decide) (x := xs 2) rfl ?_
  refine w_vi2 (pl_KK 5 xs) rfl (mg_0 s0 t0) (Nat.le_of_ble_eq_true rfl) q5 (fun r2 h2 q => q.2.1.trans (mk_len s0 t0).symm) (fun r2 h2 q => ?_)
  obtain ⟨q1, hl1, ⟨fs, hc⟩, q6⟩ := q
  rw [q1]
  refine w_la rfl rfl ?_
  refine w_la rfl rfl ?_
  refine w_li rfl rfl ?_
  refine w_ci rfl ?_
  refine w_iadd rfl ?_
  refine w_ia rfl (row_B hl1) (by decide) (x := xs 1) rfl ?_
  refine w_la rfl rfl ?_
  refine w_li rfl rfl ?_
  refine w_ci rfl ?_
  refine w_iadd rfl ?_
  refine w_ia rfl (row_B hl1) (by decide) (x := xs 2) rfl ?_
  refine w_vi2 (pl_KK 5 xs) rfl hc (Nat.le_of_ble_eq_true rfl) q6 (fun r3 h3 q => q.2.1.trans hl1.symm) (fun r3 h3 q => ?_)
  obtain ⟨q3, hl3, hz⟩ := q
  rw [q3]
  exact w_ic_eq rfl (fun _ => law_tail hl3 hz) (fun c => absurd rfl c)
set_option maxRecDepth 100000 in
set_option maxHeartbeats 400000 in
theorem arm_20 {xs : Nat → Int32} : Wp (pl_K 5 xs) 213 810 [some (.ref pm_B), some (.ref 0), some (.ref 51), some (.int 0)] [] (mk s0 t0) PL := by
  have hl0 : (mk s0 t0).length = 67 := mk_len s0 t0
  obtain ⟨v, hk, q5⟩ : Bth 72 167 [.int (xs 1), .int (xs 2)] := b_kindFor 
  obtain ⟨x, rfl⟩ := kdI hk
  refine w_la rfl rfl ?_
  refine w_la rfl rfl ?_
  refine w_li rfl rfl ?_
  refine w_ci rfl ?_
  refine w_iadd rfl ?_
  refine w_ia rfl (row_B hl0) (by decide) (x := xs 1) rfl ?_
  refine w_la rfl rfl ?_
  refine w_li rfl rfl ?_
  refine w_ci rfl ?_
  refine w_iadd rfl ?_
  refine w_ia rfl (row_B hl0) (by decide) (x := xs 2) rfl ?_
  refine w_vi2 (pl_KK 5 xs) rfl (mg_0 s0 t0) (Nat.le_of_ble_eq_true rfl) q5 (fun r2 h2 q => q.2.1.trans (mk_len s0 t0).symm) (fun r2 h2 q => ?_)
  obtain ⟨q1, hl1, ⟨fs, hc⟩, q6⟩ := q
  rw [q1]
  refine w_la rfl rfl ?_
  refine w_la rfl rfl ?_
  refine w_li rfl rfl ?_
  refine w_ci rfl ?_
  refine w_iadd rfl ?_
  refine w_ia rfl (row_B hl1) (by decide) (x := xs 1) rfl ?_
  refine w_la rfl rfl ?_
  refine w_li rfl rfl ?_
  refine w_ci rfl ?_
  refine w_iadd rfl ?_
  refine w_ia rfl (row_B hl1) (by decide) (x := xs 2) rfl ?_
  refine w_vi2 (pl_KK 5 xs) rfl hc (Nat.le_of_ble_eq_true rfl) q6 (fun r3 h3 q => q.2.1.trans hl1.symm) (fun r3 h3 q => ?_)
  obtain ⟨q3, hl3, hz⟩ := q
  rw [q3]
  exact w_ic_eq rfl (fun _ => law_tail hl3 hz) (fun c => absurd rfl c)
set_option maxRecDepth 100000 in
set_option maxHeartbeats 400000 in
theorem arm_21 {xs : Nat → Int32} : Wp (pl_K 5 xs) 213 843 [some (.ref pm_B), some (.ref 0), some (.ref 51), some (.int 0)] [] (mk s0 t0) PL := by
  have hl0 : (mk s0 t0).length = 67 := mk_len s0 t0
  obtain ⟨v, hk, q5⟩ : Bth 73 168 [.int (xs 1), .int (xs 2)] := b_thoughtFor 
  obtain ⟨x, rfl⟩ := kdI hk
  refine w_la rfl rfl ?_
  refine w_la rfl rfl ?_
  refine w_li rfl rfl ?_
  refine w_ci rfl ?_
  refine w_iadd rfl ?_
  refine w_ia rfl (row_B hl0) (by decide) (x := xs 1) rfl ?_
  refine w_la rfl rfl ?_
  refine w_li rfl rfl ?_
  refine w_ci rfl ?_
  refine w_iadd rfl ?_
  refine w_ia rfl (row_B hl0) (by decide) (x := xs 2) rfl ?_
  refine w_vi2 (pl_KK 5 xs) rfl (mg_0 s0 t0) (Nat.le_of_ble_eq_true rfl) q5 (fun r2 h2 q => q.2.1.trans (mk_len s0 t0).symm) (fun r2 h2 q => ?_)
  obtain ⟨q1, hl1, ⟨fs, hc⟩, q6⟩ := q
  rw [q1]
  refine w_la rfl rfl ?_
  refine w_la rfl rfl ?_
  refine w_li rfl rfl ?_
  refine w_ci rfl ?_
  refine w_iadd rfl ?_
  refine w_ia rfl (row_B hl1) (by decide) (x := xs 1) rfl ?_
  refine w_la rfl rfl ?_
  refine w_li rfl rfl ?_
  refine w_ci rfl ?_
  refine w_iadd rfl ?_
  refine w_ia rfl (row_B hl1) (by decide) (x := xs 2) rfl ?_
  refine w_vi2 (pl_KK 5 xs) rfl hc (Nat.le_of_ble_eq_true rfl) q6 (fun r3 h3 q => q.2.1.trans hl1.symm) (fun r3 h3 q => ?_)
  obtain ⟨q3, hl3, hz⟩ := q
  rw [q3]
  exact w_ic_eq rfl (fun _ => law_tail hl3 hz) (fun c => absurd rfl c)
set_option maxRecDepth 100000 in
set_option maxHeartbeats 400000 in
theorem arm_22 {xs : Nat → Int32} : Wp (pl_K 5 xs) 213 876 [some (.ref pm_B), some (.ref 0), some (.ref 51), some (.int 0)] [] (mk s0 t0) PL := by
  have hl0 : (mk s0 t0).length = 67 := mk_len s0 t0
  obtain ⟨v, hk, q5⟩ : Bth 74 169 [.int (xs 1)] := B_needed (xs 1)
  obtain ⟨x, rfl⟩ := kdI hk
  refine w_la rfl rfl ?_
  refine w_la rfl rfl ?_
  refine w_li rfl rfl ?_
  refine w_ci rfl ?_
  refine w_iadd rfl ?_
  refine w_ia rfl (row_B hl0) (by decide) (x := xs 1) rfl ?_
  refine w_vi1 (pl_KK 5 xs) rfl (mg_0 s0 t0) (Nat.le_of_ble_eq_true rfl) q5 (fun r2 h2 q => q.2.1.trans (mk_len s0 t0).symm) (fun r2 h2 q => ?_)
  obtain ⟨q1, hl1, ⟨fs, hc⟩, q6⟩ := q
  rw [q1]
  refine w_la rfl rfl ?_
  refine w_la rfl rfl ?_
  refine w_li rfl rfl ?_
  refine w_ci rfl ?_
  refine w_iadd rfl ?_
  refine w_ia rfl (row_B hl1) (by decide) (x := xs 1) rfl ?_
  refine w_vi1 (pl_KK 5 xs) rfl hc (Nat.le_of_ble_eq_true rfl) q6 (fun r3 h3 q => q.2.1.trans hl1.symm) (fun r3 h3 q => ?_)
  obtain ⟨q3, hl3, hz⟩ := q
  rw [q3]
  exact w_ic_eq rfl (fun _ => law_tail hl3 hz) (fun c => absurd rfl c)
set_option maxRecDepth 100000 in
set_option maxHeartbeats 400000 in
theorem arm_23 {xs : Nat → Int32} : Wp (pl_K 5 xs) 213 899 [some (.ref pm_B), some (.ref 0), some (.ref 51), some (.int 0)] [] (mk s0 t0) PL := by
  have hl0 : (mk s0 t0).length = 67 := mk_len s0 t0
  obtain ⟨v, hk, q5⟩ : Bth 75 170 [.int (xs 1), .int (xs 2)] := B_fewest (xs 1) (xs 2)
  obtain ⟨x, rfl⟩ := kdI hk
  refine w_la rfl rfl ?_
  refine w_la rfl rfl ?_
  refine w_li rfl rfl ?_
  refine w_ci rfl ?_
  refine w_iadd rfl ?_
  refine w_ia rfl (row_B hl0) (by decide) (x := xs 1) rfl ?_
  refine w_la rfl rfl ?_
  refine w_li rfl rfl ?_
  refine w_ci rfl ?_
  refine w_iadd rfl ?_
  refine w_ia rfl (row_B hl0) (by decide) (x := xs 2) rfl ?_
  refine w_vi2 (pl_KK 5 xs) rfl (mg_0 s0 t0) (Nat.le_of_ble_eq_true rfl) q5 (fun r2 h2 q => q.2.1.trans (mk_len s0 t0).symm) (fun r2 h2 q => ?_)
  obtain ⟨q1, hl1, ⟨fs, hc⟩, q6⟩ := q
  rw [q1]
  refine w_la rfl rfl ?_
  refine w_la rfl rfl ?_
  refine w_li rfl rfl ?_
  refine w_ci rfl ?_
  refine w_iadd rfl ?_
  refine w_ia rfl (row_B hl1) (by decide) (x := xs 1) rfl ?_
  refine w_la rfl rfl ?_
  refine w_li rfl rfl ?_
  refine w_ci rfl ?_
  refine w_iadd rfl ?_
  refine w_ia rfl (row_B hl1) (by decide) (x := xs 2) rfl ?_
  refine w_vi2 (pl_KK 5 xs) rfl hc (Nat.le_of_ble_eq_true rfl) q6 (fun r3 h3 q => q.2.1.trans hl1.symm) (fun r3 h3 q => ?_)
  obtain ⟨q3, hl3, hz⟩ := q
  rw [q3]
  exact w_ic_eq rfl (fun _ => law_tail hl3 hz) (fun c => absurd rfl c)
set_option maxRecDepth 100000 in
set_option maxHeartbeats 400000 in
theorem arm_24 {xs : Nat → Int32} : Wp (pl_K 5 xs) 213 932 [some (.ref pm_B), some (.ref 0), some (.ref 51), some (.int 0)] [] (mk s0 t0) PL := by
  have hl0 : (mk s0 t0).length = 67 := mk_len s0 t0
  obtain ⟨v, hk, q5⟩ : Bth 76 172 [.int (xs 1)] := B_packed (xs 1)
  obtain ⟨x, rfl⟩ := kdI hk
  refine w_la rfl rfl ?_
  refine w_la rfl rfl ?_
  refine w_li rfl rfl ?_
  refine w_ci rfl ?_
  refine w_iadd rfl ?_
  refine w_ia rfl (row_B hl0) (by decide) (x := xs 1) rfl ?_
  refine w_vi1 (pl_KK 5 xs) rfl (mg_0 s0 t0) (Nat.le_of_ble_eq_true rfl) q5 (fun r2 h2 q => q.2.1.trans (mk_len s0 t0).symm) (fun r2 h2 q => ?_)
  obtain ⟨q1, hl1, ⟨fs, hc⟩, q6⟩ := q
  rw [q1]
  refine w_la rfl rfl ?_
  refine w_la rfl rfl ?_
  refine w_li rfl rfl ?_
  refine w_ci rfl ?_
  refine w_iadd rfl ?_
  refine w_ia rfl (row_B hl1) (by decide) (x := xs 1) rfl ?_
  refine w_vi1 (pl_KK 5 xs) rfl hc (Nat.le_of_ble_eq_true rfl) q6 (fun r3 h3 q => q.2.1.trans hl1.symm) (fun r3 h3 q => ?_)
  obtain ⟨q3, hl3, hz⟩ := q
  rw [q3]
  exact w_ic_eq rfl (fun _ => law_tail hl3 hz) (fun c => absurd rfl c)
set_option maxRecDepth 100000 in
set_option maxHeartbeats 400000 in
theorem arm_25 {xs : Nat → Int32} : Wp (pl_K 5 xs) 213 955 [some (.ref pm_B), some (.ref 0), some (.ref 51), some (.int 0)] [] (mk s0 t0) PL := by
  have hl0 : (mk s0 t0).length = 67 := mk_len s0 t0
  obtain ⟨v, hk, q5⟩ : Bth 77 174 [.int (xs 1), .int (xs 2), .int (xs 3)] := b_fits 
  obtain ⟨x, rfl⟩ := kdI hk
  refine w_la rfl rfl ?_
  refine w_la rfl rfl ?_
  refine w_li rfl rfl ?_
  refine w_ci rfl ?_
  refine w_iadd rfl ?_
  refine w_ia rfl (row_B hl0) (by decide) (x := xs 1) rfl ?_
  refine w_la rfl rfl ?_
  refine w_li rfl rfl ?_
  refine w_ci rfl ?_
  refine w_iadd rfl ?_
  refine w_ia rfl (row_B hl0) (by decide) (x := xs 2) rfl ?_
  refine w_la rfl rfl ?_
  refine w_li rfl rfl ?_
  refine w_ci rfl ?_
  refine w_iadd rfl ?_
  refine w_ia rfl (row_B hl0) (by decide) (x := xs 3) rfl ?_
  refine w_vi3 (pl_KK 5 xs) rfl (mg_0 s0 t0) (Nat.le_of_ble_eq_true rfl) q5 (fun r2 h2 q => q.2.1.trans (mk_len s0 t0).symm) (fun r2 h2 q => ?_)
  obtain ⟨q1, hl1, ⟨fs, hc⟩, q6⟩ := q
  rw [q1]
  refine w_la rfl rfl ?_
  refine w_la rfl rfl ?_
  refine w_li rfl rfl ?_
  refine w_ci rfl ?_
  refine w_iadd rfl ?_
  refine w_ia rfl (row_B hl1) (by decide) (x := xs 1) rfl ?_
  refine w_la rfl rfl ?_
  refine w_li rfl rfl ?_
  refine w_ci rfl ?_
  refine w_iadd rfl ?_
  refine w_ia rfl (row_B hl1) (by decide) (x := xs 2) rfl ?_
  refine w_la rfl rfl ?_
  refine w_li rfl rfl ?_
  refine w_ci rfl ?_
  refine w_iadd rfl ?_
  refine w_ia rfl (row_B hl1) (by decide) (x := xs 3) rfl ?_
  refine w_vi3 (pl_KK 5 xs) rfl hc (Nat.le_of_ble_eq_true rfl) q6 (fun r3 h3 q => q.2.1.trans hl1.symm) (fun r3 h3 q => ?_)
  obtain ⟨q3, hl3, hz⟩ := q
  rw [q3]
  exact w_ic_eq rfl (fun _ => law_tail hl3 hz) (fun c => absurd rfl c)
set_option maxRecDepth 100000 in
set_option maxHeartbeats 400000 in
theorem arm_26 {xs : Nat → Int32} : Wp (pl_K 5 xs) 213 998 [some (.ref pm_B), some (.ref 0), some (.ref 51), some (.int 0)] [] (mk s0 t0) PL := by
  have hl0 : (mk s0 t0).length = 67 := mk_len s0 t0
  obtain ⟨v, hk, q5⟩ : Bth 78 177 [.int (xs 1), .int (xs 2), .int (xs 3)] := B_odds (xs 1) (xs 2) (xs 3)
  obtain ⟨x, rfl⟩ := kdL hk
  refine w_la rfl rfl ?_
  refine w_la rfl rfl ?_
  refine w_li rfl rfl ?_
  refine w_ci rfl ?_
  refine w_iadd rfl ?_
  refine w_ia rfl (row_B hl0) (by decide) (x := xs 1) rfl ?_
  refine w_la rfl rfl ?_
  refine w_li rfl rfl ?_
  refine w_ci rfl ?_
  refine w_iadd rfl ?_
  refine w_ia rfl (row_B hl0) (by decide) (x := xs 2) rfl ?_
  refine w_la rfl rfl ?_
  refine w_li rfl rfl ?_
  refine w_ci rfl ?_
  refine w_iadd rfl ?_
  refine w_ia rfl (row_B hl0) (by decide) (x := xs 3) rfl ?_
  refine w_vi3 (pl_KK 5 xs) rfl (mg_0 s0 t0) (Nat.le_of_ble_eq_true rfl) q5 (fun r2 h2 q => q.2.1.trans (mk_len s0 t0).symm) (fun r2 h2 q => ?_)
  obtain ⟨q1, hl1, ⟨fs, hc⟩, q6⟩ := q
  rw [q1]
  refine w_la rfl rfl ?_
  refine w_la rfl rfl ?_
  refine w_li rfl rfl ?_
  refine w_ci rfl ?_
  refine w_iadd rfl ?_
  refine w_ia rfl (row_B hl1) (by decide) (x := xs 1) rfl ?_
  refine w_la rfl rfl ?_
  refine w_li rfl rfl ?_
  refine w_ci rfl ?_
  refine w_iadd rfl ?_
  refine w_ia rfl (row_B hl1) (by decide) (x := xs 2) rfl ?_
  refine w_la rfl rfl ?_
  refine w_li rfl rfl ?_
  refine w_ci rfl ?_
  refine w_iadd rfl ?_
  refine w_ia rfl (row_B hl1) (by decide) (x := xs 3) rfl ?_
  refine w_vi3 (pl_KK 5 xs) rfl hc (Nat.le_of_ble_eq_true rfl) q6 (fun r3 h3 q => q.2.1.trans hl1.symm) (fun r3 h3 q => ?_)
  obtain ⟨q3, hl3, hz⟩ := q
  rw [q3]
  refine w_cmp rfl ?_
  rw [lgc]
  exact w_if_eq rfl (fun _ => law_tail hl3 hz) (fun c => absurd rfl c)
set_option maxRecDepth 100000 in
set_option maxHeartbeats 400000 in
theorem arm_27 {xs : Nat → Int32} : Wp (pl_K 5 xs) 213 1042 [some (.ref pm_B), some (.ref 0), some (.ref 51), some (.int 0)] [] (mk s0 t0) PL := by
  have hl0 : (mk s0 t0).length = 67 := mk_len s0 t0
  obtain ⟨v, hk, q5⟩ : Bth 79 178 [.int (xs 1), .int (xs 2)] := B_hope (xs 1) (xs 2)
  obtain ⟨x, rfl⟩ := kdL hk
  refine w_la rfl rfl ?_
  refine w_la rfl rfl ?_
  refine w_li rfl rfl ?_
  refine w_ci rfl ?_
  refine w_iadd rfl ?_
  refine w_ia rfl (row_B hl0) (by decide) (x := xs 1) rfl ?_
  refine w_la rfl rfl ?_
  refine w_li rfl rfl ?_
  refine w_ci rfl ?_
  refine w_iadd rfl ?_
  refine w_ia rfl (row_B hl0) (by decide) (x := xs 2) rfl ?_
  refine w_vi2 (pl_KK 5 xs) rfl (mg_0 s0 t0) (Nat.le_of_ble_eq_true rfl) q5 (fun r2 h2 q => q.2.1.trans (mk_len s0 t0).symm) (fun r2 h2 q => ?_)
  obtain ⟨q1, hl1, ⟨fs, hc⟩, q6⟩ := q
  rw [q1]
  refine w_la rfl rfl ?_
  refine w_la rfl rfl ?_
  refine w_li rfl rfl ?_
  refine w_ci rfl ?_
  refine w_iadd rfl ?_
  refine w_ia rfl (row_B hl1) (by decide) (x := xs 1) rfl ?_
  refine w_la rfl rfl ?_
  refine w_li rfl rfl ?_
  refine w_ci rfl ?_
  refine w_iadd rfl ?_
  refine w_ia rfl (row_B hl1) (by decide) (x := xs 2) rfl ?_
  refine w_vi2 (pl_KK 5 xs) rfl hc (Nat.le_of_ble_eq_true rfl) q6 (fun r3 h3 q => q.2.1.trans hl1.symm) (fun r3 h3 q => ?_)
  obtain ⟨q3, hl3, hz⟩ := q
  rw [q3]
  refine w_cmp rfl ?_
  rw [lgc]
  exact w_if_eq rfl (fun _ => law_tail hl3 hz) (fun c => absurd rfl c)
set_option maxRecDepth 100000 in
set_option maxHeartbeats 400000 in
theorem arm_28 {xs : Nat → Int32} : Wp (pl_K 5 xs) 213 1076 [some (.ref pm_B), some (.ref 0), some (.ref 51), some (.int 0)] [] (mk s0 t0) PL := by
  have hl0 : (mk s0 t0).length = 67 := mk_len s0 t0
  obtain ⟨v, hk, q5⟩ : Bth 80 180 [.int (xs 1), .int (xs 2)] := b_prove 
  obtain ⟨x, rfl⟩ := kdI hk
  refine w_la rfl rfl ?_
  refine w_la rfl rfl ?_
  refine w_li rfl rfl ?_
  refine w_ci rfl ?_
  refine w_iadd rfl ?_
  refine w_ia rfl (row_B hl0) (by decide) (x := xs 1) rfl ?_
  refine w_la rfl rfl ?_
  refine w_li rfl rfl ?_
  refine w_ci rfl ?_
  refine w_iadd rfl ?_
  refine w_ia rfl (row_B hl0) (by decide) (x := xs 2) rfl ?_
  refine w_vi2 (pl_KK 5 xs) rfl (mg_0 s0 t0) (Nat.le_of_ble_eq_true rfl) q5 (fun r2 h2 q => q.2.1.trans (mk_len s0 t0).symm) (fun r2 h2 q => ?_)
  obtain ⟨q1, hl1, ⟨fs, hc⟩, q6⟩ := q
  rw [q1]
  refine w_la rfl rfl ?_
  refine w_la rfl rfl ?_
  refine w_li rfl rfl ?_
  refine w_ci rfl ?_
  refine w_iadd rfl ?_
  refine w_ia rfl (row_B hl1) (by decide) (x := xs 1) rfl ?_
  refine w_la rfl rfl ?_
  refine w_li rfl rfl ?_
  refine w_ci rfl ?_
  refine w_iadd rfl ?_
  refine w_ia rfl (row_B hl1) (by decide) (x := xs 2) rfl ?_
  refine w_vi2 (pl_KK 5 xs) rfl hc (Nat.le_of_ble_eq_true rfl) q6 (fun r3 h3 q => q.2.1.trans hl1.symm) (fun r3 h3 q => ?_)
  obtain ⟨q3, hl3, hz⟩ := q
  rw [q3]
  exact w_ic_eq rfl (fun _ => law_tail hl3 hz) (fun c => absurd rfl c)
set_option maxRecDepth 100000 in
set_option maxHeartbeats 400000 in
theorem arm_29 {xs : Nat → Int32} : Wp (pl_K 5 xs) 213 1109 [some (.ref pm_B), some (.ref 0), some (.ref 51), some (.int 0)] [] (mk s0 t0) PL := by
  have hl0 : (mk s0 t0).length = 67 := mk_len s0 t0
  obtain ⟨v, hk, q5⟩ : Bth 81 182 [.int (xs 1), .int (xs 2)] := b_row 
  obtain ⟨x, rfl⟩ := kdI hk
  refine w_la rfl rfl ?_
  refine w_la rfl rfl ?_
  refine w_li rfl rfl ?_
  refine w_ci rfl ?_
  refine w_iadd rfl ?_
  refine w_ia rfl (row_B hl0) (by decide) (x := xs 1) rfl ?_
  refine w_la rfl rfl ?_
  refine w_li rfl rfl ?_
  refine w_ci rfl ?_
  refine w_iadd rfl ?_
  refine w_ia rfl (row_B hl0) (by decide) (x := xs 2) rfl ?_
  refine w_vi2 (pl_KK 5 xs) rfl (mg_0 s0 t0) (Nat.le_of_ble_eq_true rfl) q5 (fun r2 h2 q => q.2.1.trans (mk_len s0 t0).symm) (fun r2 h2 q => ?_)
  obtain ⟨q1, hl1, ⟨fs, hc⟩, q6⟩ := q
  rw [q1]
  refine w_la rfl rfl ?_
  refine w_la rfl rfl ?_
  refine w_li rfl rfl ?_
  refine w_ci rfl ?_
  refine w_iadd rfl ?_
  refine w_ia rfl (row_B hl1) (by decide) (x := xs 1) rfl ?_
  refine w_la rfl rfl ?_
  refine w_li rfl rfl ?_
  refine w_ci rfl ?_
  refine w_iadd rfl ?_
  refine w_ia rfl (row_B hl1) (by decide) (x := xs 2) rfl ?_
  refine w_vi2 (pl_KK 5 xs) rfl hc (Nat.le_of_ble_eq_true rfl) q6 (fun r3 h3 q => q.2.1.trans hl1.symm) (fun r3 h3 q => ?_)
  obtain ⟨q3, hl3, hz⟩ := q
  rw [q3]
  exact w_ic_eq rfl (fun _ => law_tail hl3 hz) (fun c => absurd rfl c)
set_option maxRecDepth 100000 in
set_option maxHeartbeats 400000 in
theorem arm_30 {xs : Nat → Int32} : Wp (pl_K 5 xs) 213 1142 [some (.ref pm_B), some (.ref 0), some (.ref 51), some (.int 0)] [] (mk s0 t0) PL := by
  have hl0 : (mk s0 t0).length = 67 := mk_len s0 t0
  obtain ⟨v, hk, q5⟩ : Bth 82 183 [.int (xs 1), .int (xs 2), .int (xs 3)] := b_alterRow 
  obtain ⟨x, rfl⟩ := kdI hk
  refine w_la rfl rfl ?_
  refine w_la rfl rfl ?_
  refine w_li rfl rfl ?_
  refine w_ci rfl ?_
  refine w_iadd rfl ?_
  refine w_ia rfl (row_B hl0) (by decide) (x := xs 1) rfl ?_
  refine w_la rfl rfl ?_
  refine w_li rfl rfl ?_
  refine w_ci rfl ?_
  refine w_iadd rfl ?_
  refine w_ia rfl (row_B hl0) (by decide) (x := xs 2) rfl ?_
  refine w_la rfl rfl ?_
  refine w_li rfl rfl ?_
  refine w_ci rfl ?_
  refine w_iadd rfl ?_
  refine w_ia rfl (row_B hl0) (by decide) (x := xs 3) rfl ?_
  refine w_vi3 (pl_KK 5 xs) rfl (mg_0 s0 t0) (Nat.le_of_ble_eq_true rfl) q5 (fun r2 h2 q => q.2.1.trans (mk_len s0 t0).symm) (fun r2 h2 q => ?_)
  obtain ⟨q1, hl1, ⟨fs, hc⟩, q6⟩ := q
  rw [q1]
  refine w_la rfl rfl ?_
  refine w_la rfl rfl ?_
  refine w_li rfl rfl ?_
  refine w_ci rfl ?_
  refine w_iadd rfl ?_
  refine w_ia rfl (row_B hl1) (by decide) (x := xs 1) rfl ?_
  refine w_la rfl rfl ?_
  refine w_li rfl rfl ?_
  refine w_ci rfl ?_
  refine w_iadd rfl ?_
  refine w_ia rfl (row_B hl1) (by decide) (x := xs 2) rfl ?_
  refine w_la rfl rfl ?_
  refine w_li rfl rfl ?_
  refine w_ci rfl ?_
  refine w_iadd rfl ?_
  refine w_ia rfl (row_B hl1) (by decide) (x := xs 3) rfl ?_
  refine w_vi3 (pl_KK 5 xs) rfl hc (Nat.le_of_ble_eq_true rfl) q6 (fun r3 h3 q => q.2.1.trans hl1.symm) (fun r3 h3 q => ?_)
  obtain ⟨q3, hl3, hz⟩ := q
  rw [q3]
  exact w_ic_eq rfl (fun _ => law_tail hl3 hz) (fun c => absurd rfl c)
set_option maxRecDepth 100000 in
set_option maxHeartbeats 400000 in
theorem arm_31 {xs : Nat → Int32} : Wp (pl_K 5 xs) 213 1185 [some (.ref pm_B), some (.ref 0), some (.ref 51), some (.int 0)] [] (mk s0 t0) PL := by
  have hl0 : (mk s0 t0).length = 67 := mk_len s0 t0
  obtain ⟨v, hk, q5⟩ : Bth 83 184 [.int (xs 1)] := b_judge 
  obtain ⟨x, rfl⟩ := kdI hk
  refine w_la rfl rfl ?_
  refine w_la rfl rfl ?_
  refine w_li rfl rfl ?_
  refine w_ci rfl ?_
  refine w_iadd rfl ?_
  refine w_ia rfl (row_B hl0) (by decide) (x := xs 1) rfl ?_
  refine w_vi1 (pl_KK 5 xs) rfl (mg_0 s0 t0) (Nat.le_of_ble_eq_true rfl) q5 (fun r2 h2 q => q.2.1.trans (mk_len s0 t0).symm) (fun r2 h2 q => ?_)
  obtain ⟨q1, hl1, ⟨fs, hc⟩, q6⟩ := q
  rw [q1]
  refine w_la rfl rfl ?_
  refine w_la rfl rfl ?_
  refine w_li rfl rfl ?_
  refine w_ci rfl ?_
  refine w_iadd rfl ?_
  refine w_ia rfl (row_B hl1) (by decide) (x := xs 1) rfl ?_
  refine w_vi1 (pl_KK 5 xs) rfl hc (Nat.le_of_ble_eq_true rfl) q6 (fun r3 h3 q => q.2.1.trans hl1.symm) (fun r3 h3 q => ?_)
  obtain ⟨q3, hl3, hz⟩ := q
  rw [q3]
  exact w_ic_eq rfl (fun _ => law_tail hl3 hz) (fun c => absurd rfl c)
set_option maxRecDepth 100000 in
set_option maxHeartbeats 400000 in
theorem arm_32 {xs : Nat → Int32} : Wp (pl_K 5 xs) 213 1208 [some (.ref pm_B), some (.ref 0), some (.ref 51), some (.int 0)] [] (mk s0 t0) PL := by
  have hl0 : (mk s0 t0).length = 67 := mk_len s0 t0
  obtain ⟨v, hk, q5⟩ : Bth 84 185 [.int (xs 1), .int (xs 2), .int (xs 3), .int (xs 4)] := b_minds 
  obtain ⟨x, rfl⟩ := kdI hk
  refine w_la rfl rfl ?_
  refine w_la rfl rfl ?_
  refine w_li rfl rfl ?_
  refine w_ci rfl ?_
  refine w_iadd rfl ?_
  refine w_ia rfl (row_B hl0) (by decide) (x := xs 1) rfl ?_
  refine w_la rfl rfl ?_
  refine w_li rfl rfl ?_
  refine w_ci rfl ?_
  refine w_iadd rfl ?_
  refine w_ia rfl (row_B hl0) (by decide) (x := xs 2) rfl ?_
  refine w_la rfl rfl ?_
  refine w_li rfl rfl ?_
  refine w_ci rfl ?_
  refine w_iadd rfl ?_
  refine w_ia rfl (row_B hl0) (by decide) (x := xs 3) rfl ?_
  refine w_la rfl rfl ?_
  refine w_li rfl rfl ?_
  refine w_ci rfl ?_
  refine w_iadd rfl ?_
  refine w_ia rfl (row_B hl0) (by decide) (x := xs 4) rfl ?_
  refine w_vi4 (pl_KK 5 xs) rfl (mg_0 s0 t0) (Nat.le_of_ble_eq_true rfl) q5 (fun r2 h2 q => q.2.1.trans (mk_len s0 t0).symm) (fun r2 h2 q => ?_)
  obtain ⟨q1, hl1, ⟨fs, hc⟩, q6⟩ := q
  rw [q1]
  refine w_la rfl rfl ?_
  refine w_la rfl rfl ?_
  refine w_li rfl rfl ?_
  refine w_ci rfl ?_
  refine w_iadd rfl ?_
  refine w_ia rfl (row_B hl1) (by decide) (x := xs 1) rfl ?_
  refine w_la rfl rfl ?_
  refine w_li rfl rfl ?_
  refine w_ci rfl ?_
  refine w_iadd rfl ?_
  refine w_ia rfl (row_B hl1) (by decide) (x := xs 2) rfl ?_
  refine w_la rfl rfl ?_
  refine w_li rfl rfl ?_
  refine w_ci rfl ?_
  refine w_iadd rfl ?_
  refine w_ia rfl (row_B hl1) (by decide) (x := xs 3) rfl ?_
  refine w_la rfl rfl ?_
  refine w_li rfl rfl ?_
  refine w_ci rfl ?_
  refine w_iadd rfl ?_
  refine w_ia rfl (row_B hl1) (by decide) (x := xs 4) rfl ?_
  refine w_vi4 (pl_KK 5 xs) rfl hc (Nat.le_of_ble_eq_true rfl) q6 (fun r3 h3 q => q.2.1.trans hl1.symm) (fun r3 h3 q => ?_)
  obtain ⟨q3, hl3, hz⟩ := q
  rw [q3]
  exact w_ic_eq rfl (fun _ => law_tail hl3 hz) (fun c => absurd rfl c)
set_option maxRecDepth 100000 in
set_option maxHeartbeats 400000 in
theorem arm_33 {xs : Nat → Int32} : Wp (pl_K 5 xs) 213 1261 [some (.ref pm_B), some (.ref 0), some (.ref 51), some (.int 0)] [] (mk s0 t0) PL := by
  have hl0 : (mk s0 t0).length = 67 := mk_len s0 t0
  obtain ⟨v, hk, q5⟩ : Bth 85 187 [.int (xs 1), .int (xs 2), .int (xs 3)] := B_sheet (xs 1) (xs 2) (xs 3)
  obtain ⟨x, rfl⟩ := kdI hk
  refine w_la rfl rfl ?_
  refine w_la rfl rfl ?_
  refine w_li rfl rfl ?_
  refine w_ci rfl ?_
  refine w_iadd rfl ?_
  refine w_ia rfl (row_B hl0) (by decide) (x := xs 1) rfl ?_
  refine w_la rfl rfl ?_
  refine w_li rfl rfl ?_
  refine w_ci rfl ?_
  refine w_iadd rfl ?_
  refine w_ia rfl (row_B hl0) (by decide) (x := xs 2) rfl ?_
  refine w_la rfl rfl ?_
  refine w_li rfl rfl ?_
  refine w_ci rfl ?_
  refine w_iadd rfl ?_
  refine w_ia rfl (row_B hl0) (by decide) (x := xs 3) rfl ?_
  refine w_vi3 (pl_KK 5 xs) rfl (mg_0 s0 t0) (Nat.le_of_ble_eq_true rfl) q5 (fun r2 h2 q => q.2.1.trans (mk_len s0 t0).symm) (fun r2 h2 q => ?_)
  obtain ⟨q1, hl1, ⟨fs, hc⟩, q6⟩ := q
  rw [q1]
  refine w_la rfl rfl ?_
  refine w_la rfl rfl ?_
  refine w_li rfl rfl ?_
  refine w_ci rfl ?_
  refine w_iadd rfl ?_
  refine w_ia rfl (row_B hl1) (by decide) (x := xs 1) rfl ?_
  refine w_la rfl rfl ?_
  refine w_li rfl rfl ?_
  refine w_ci rfl ?_
  refine w_iadd rfl ?_
  refine w_ia rfl (row_B hl1) (by decide) (x := xs 2) rfl ?_
  refine w_la rfl rfl ?_
  refine w_li rfl rfl ?_
  refine w_ci rfl ?_
  refine w_iadd rfl ?_
  refine w_ia rfl (row_B hl1) (by decide) (x := xs 3) rfl ?_
  refine w_vi3 (pl_KK 5 xs) rfl hc (Nat.le_of_ble_eq_true rfl) q6 (fun r3 h3 q => q.2.1.trans hl1.symm) (fun r3 h3 q => ?_)
  obtain ⟨q3, hl3, hz⟩ := q
  rw [q3]
  exact w_ic_eq rfl (fun _ => law_tail hl3 hz) (fun c => absurd rfl c)
set_option maxRecDepth 100000 in
set_option maxHeartbeats 400000 in
theorem arm_34 {xs : Nat → Int32} : Wp (pl_K 5 xs) 213 1304 [some (.ref pm_B), some (.ref 0), some (.ref 51), some (.int 0)] [] (mk s0 t0) PL := by
  have hl0 : (mk s0 t0).length = 67 := mk_len s0 t0
  obtain ⟨v, hk, q5⟩ : Bth 86 188 [.int (xs 1), .int (xs 2), .int (xs 3)] := B_put (xs 1) (xs 2) (xs 3)
  obtain ⟨x, rfl⟩ := kdI hk
  refine w_la rfl rfl ?_
  refine w_la rfl rfl ?_
  refine w_li rfl rfl ?_
  refine w_ci rfl ?_
  refine w_iadd rfl ?_
  refine w_ia rfl (row_B hl0) (by decide) (x := xs 1) rfl ?_
  refine w_la rfl rfl ?_
  refine w_li rfl rfl ?_
  refine w_ci rfl ?_
  refine w_iadd rfl ?_
  refine w_ia rfl (row_B hl0) (by decide) (x := xs 2) rfl ?_
  refine w_la rfl rfl ?_
  refine w_li rfl rfl ?_
  refine w_ci rfl ?_
  refine w_iadd rfl ?_
  refine w_ia rfl (row_B hl0) (by decide) (x := xs 3) rfl ?_
  refine w_vi3 (pl_KK 5 xs) rfl (mg_0 s0 t0) (Nat.le_of_ble_eq_true rfl) q5 (fun r2 h2 q => q.2.1.trans (mk_len s0 t0).symm) (fun r2 h2 q => ?_)
  obtain ⟨q1, hl1, ⟨fs, hc⟩, q6⟩ := q
  rw [q1]
  refine w_la rfl rfl ?_
  refine w_la rfl rfl ?_
  refine w_li rfl rfl ?_
  refine w_ci rfl ?_
  refine w_iadd rfl ?_
  refine w_ia rfl (row_B hl1) (by decide) (x := xs 1) rfl ?_
  refine w_la rfl rfl ?_
  refine w_li rfl rfl ?_
  refine w_ci rfl ?_
  refine w_iadd rfl ?_
  refine w_ia rfl (row_B hl1) (by decide) (x := xs 2) rfl ?_
  refine w_la rfl rfl ?_
  refine w_li rfl rfl ?_
  refine w_ci rfl ?_
  refine w_iadd rfl ?_
  refine w_ia rfl (row_B hl1) (by decide) (x := xs 3) rfl ?_
  refine w_vi3 (pl_KK 5 xs) rfl hc (Nat.le_of_ble_eq_true rfl) q6 (fun r3 h3 q => q.2.1.trans hl1.symm) (fun r3 h3 q => ?_)
  obtain ⟨q3, hl3, hz⟩ := q
  rw [q3]
  exact w_ic_eq rfl (fun _ => law_tail hl3 hz) (fun c => absurd rfl c)
set_option maxRecDepth 100000 in
set_option maxHeartbeats 400000 in
theorem arm_35 {xs : Nat → Int32} : Wp (pl_K 5 xs) 213 1347 [some (.ref pm_B), some (.ref 0), some (.ref 51), some (.int 0)] [] (mk s0 t0) PL := by
  have hl0 : (mk s0 t0).length = 67 := mk_len s0 t0
  obtain ⟨v, hk, q5⟩ : Bth 87 190 [.int (xs 1), .int (xs 2), .int (xs 3)] := B_item (xs 1) (xs 2) (xs 3)
  obtain ⟨x, rfl⟩ := kdI hk
  refine w_la rfl rfl ?_
  refine w_la rfl rfl ?_
  refine w_li rfl rfl ?_
  refine w_ci rfl ?_
  refine w_iadd rfl ?_
  refine w_ia rfl (row_B hl0) (by decide) (x := xs 1) rfl ?_
  refine w_la rfl rfl ?_
  refine w_li rfl rfl ?_
  refine w_ci rfl ?_
  refine w_iadd rfl ?_
  refine w_ia rfl (row_B hl0) (by decide) (x := xs 2) rfl ?_
  refine w_la rfl rfl ?_
  refine w_li rfl rfl ?_
  refine w_ci rfl ?_
  refine w_iadd rfl ?_
  refine w_ia rfl (row_B hl0) (by decide) (x := xs 3) rfl ?_
  refine w_vi3 (pl_KK 5 xs) rfl (mg_0 s0 t0) (Nat.le_of_ble_eq_true rfl) q5 (fun r2 h2 q => q.2.1.trans (mk_len s0 t0).symm) (fun r2 h2 q => ?_)
  obtain ⟨q1, hl1, ⟨fs, hc⟩, q6⟩ := q
  rw [q1]
  refine w_la rfl rfl ?_
  refine w_la rfl rfl ?_
  refine w_li rfl rfl ?_
  refine w_ci rfl ?_
  refine w_iadd rfl ?_
  refine w_ia rfl (row_B hl1) (by decide) (x := xs 1) rfl ?_
  refine w_la rfl rfl ?_
  refine w_li rfl rfl ?_
  refine w_ci rfl ?_
  refine w_iadd rfl ?_
  refine w_ia rfl (row_B hl1) (by decide) (x := xs 2) rfl ?_
  refine w_la rfl rfl ?_
  refine w_li rfl rfl ?_
  refine w_ci rfl ?_
  refine w_iadd rfl ?_
  refine w_ia rfl (row_B hl1) (by decide) (x := xs 3) rfl ?_
  refine w_vi3 (pl_KK 5 xs) rfl hc (Nat.le_of_ble_eq_true rfl) q6 (fun r3 h3 q => q.2.1.trans hl1.symm) (fun r3 h3 q => ?_)
  obtain ⟨q3, hl3, hz⟩ := q
  rw [q3]
  exact w_ic_eq rfl (fun _ => law_tail hl3 hz) (fun c => absurd rfl c)
set_option maxRecDepth 100000 in
set_option maxHeartbeats 400000 in
theorem arm_36 {xs : Nat → Int32} : Wp (pl_K 5 xs) 213 1390 [some (.ref pm_B), some (.ref 0), some (.ref 51), some (.int 0)] [] (mk s0 t0) PL := by
  have hl0 : (mk s0 t0).length = 67 := mk_len s0 t0
  obtain ⟨v, hk, q5⟩ : Bth 88 192 [.int (xs 1), .int (xs 2), .int (xs 3)] := B_shelf (xs 1) (xs 2) (xs 3)
  obtain ⟨x, rfl⟩ := kdI hk
  refine w_la rfl rfl ?_
  refine w_la rfl rfl ?_
  refine w_li rfl rfl ?_
  refine w_ci rfl ?_
  refine w_iadd rfl ?_
  refine w_ia rfl (row_B hl0) (by decide) (x := xs 1) rfl ?_
  refine w_la rfl rfl ?_
  refine w_li rfl rfl ?_
  refine w_ci rfl ?_
  refine w_iadd rfl ?_
  refine w_ia rfl (row_B hl0) (by decide) (x := xs 2) rfl ?_
  refine w_la rfl rfl ?_
  refine w_li rfl rfl ?_
  refine w_ci rfl ?_
  refine w_iadd rfl ?_
  refine w_ia rfl (row_B hl0) (by decide) (x := xs 3) rfl ?_
  refine w_vi3 (pl_KK 5 xs) rfl (mg_0 s0 t0) (Nat.le_of_ble_eq_true rfl) q5 (fun r2 h2 q => q.2.1.trans (mk_len s0 t0).symm) (fun r2 h2 q => ?_)
  obtain ⟨q1, hl1, ⟨fs, hc⟩, q6⟩ := q
  rw [q1]
  refine w_la rfl rfl ?_
  refine w_la rfl rfl ?_
  refine w_li rfl rfl ?_
  refine w_ci rfl ?_
  refine w_iadd rfl ?_
  refine w_ia rfl (row_B hl1) (by decide) (x := xs 1) rfl ?_
  refine w_la rfl rfl ?_
  refine w_li rfl rfl ?_
  refine w_ci rfl ?_
  refine w_iadd rfl ?_
  refine w_ia rfl (row_B hl1) (by decide) (x := xs 2) rfl ?_
  refine w_la rfl rfl ?_
  refine w_li rfl rfl ?_
  refine w_ci rfl ?_
  refine w_iadd rfl ?_
  refine w_ia rfl (row_B hl1) (by decide) (x := xs 3) rfl ?_
  refine w_vi3 (pl_KK 5 xs) rfl hc (Nat.le_of_ble_eq_true rfl) q6 (fun r3 h3 q => q.2.1.trans hl1.symm) (fun r3 h3 q => ?_)
  obtain ⟨q3, hl3, hz⟩ := q
  rw [q3]
  exact w_ic_eq rfl (fun _ => law_tail hl3 hz) (fun c => absurd rfl c)
set_option maxRecDepth 100000 in
set_option maxHeartbeats 400000 in
theorem arm_37 {xs : Nat → Int32} : Wp (pl_K 5 xs) 213 1433 [some (.ref pm_B), some (.ref 0), some (.ref 51), some (.int 0)] [] (mk s0 t0) PL := by
  have hl0 : (mk s0 t0).length = 67 := mk_len s0 t0
  obtain ⟨v, hk, q5⟩ : Bth 89 195 [.int (xs 1), .int (xs 2)] := B_taken (xs 1) (xs 2)
  obtain ⟨x, rfl⟩ := kdI hk
  refine w_la rfl rfl ?_
  refine w_la rfl rfl ?_
  refine w_li rfl rfl ?_
  refine w_ci rfl ?_
  refine w_iadd rfl ?_
  refine w_ia rfl (row_B hl0) (by decide) (x := xs 1) rfl ?_
  refine w_la rfl rfl ?_
  refine w_li rfl rfl ?_
  refine w_ci rfl ?_
  refine w_iadd rfl ?_
  refine w_ia rfl (row_B hl0) (by decide) (x := xs 2) rfl ?_
  refine w_vi2 (pl_KK 5 xs) rfl (mg_0 s0 t0) (Nat.le_of_ble_eq_true rfl) q5 (fun r2 h2 q => q.2.1.trans (mk_len s0 t0).symm) (fun r2 h2 q => ?_)
  obtain ⟨q1, hl1, ⟨fs, hc⟩, q6⟩ := q
  rw [q1]
  refine w_la rfl rfl ?_
  refine w_la rfl rfl ?_
  refine w_li rfl rfl ?_
  refine w_ci rfl ?_
  refine w_iadd rfl ?_
  refine w_ia rfl (row_B hl1) (by decide) (x := xs 1) rfl ?_
  refine w_la rfl rfl ?_
  refine w_li rfl rfl ?_
  refine w_ci rfl ?_
  refine w_iadd rfl ?_
  refine w_ia rfl (row_B hl1) (by decide) (x := xs 2) rfl ?_
  refine w_vi2 (pl_KK 5 xs) rfl hc (Nat.le_of_ble_eq_true rfl) q6 (fun r3 h3 q => q.2.1.trans hl1.symm) (fun r3 h3 q => ?_)
  obtain ⟨q3, hl3, hz⟩ := q
  rw [q3]
  exact w_ic_eq rfl (fun _ => law_tail hl3 hz) (fun c => absurd rfl c)
set_option maxRecDepth 100000 in
set_option maxHeartbeats 400000 in
theorem arm_38 {xs : Nat → Int32} : Wp (pl_K 5 xs) 213 1466 [some (.ref pm_B), some (.ref 0), some (.ref 51), some (.int 0)] [] (mk s0 t0) PL := by
  have hl0 : (mk s0 t0).length = 67 := mk_len s0 t0
  obtain ⟨v, hk, q5⟩ : Bth 90 206 [.int (xs 1), .int (xs 2), .int (xs 3)] := B_act (xs 1) (xs 2) (xs 3)
  obtain ⟨x, rfl⟩ := kdI hk
  refine w_la rfl rfl ?_
  refine w_la rfl rfl ?_
  refine w_li rfl rfl ?_
  refine w_ci rfl ?_
  refine w_iadd rfl ?_
  refine w_ia rfl (row_B hl0) (by decide) (x := xs 1) rfl ?_
  refine w_la rfl rfl ?_
  refine w_li rfl rfl ?_
  refine w_ci rfl ?_
  refine w_iadd rfl ?_
  refine w_ia rfl (row_B hl0) (by decide) (x := xs 2) rfl ?_
  refine w_la rfl rfl ?_
  refine w_li rfl rfl ?_
  refine w_ci rfl ?_
  refine w_iadd rfl ?_
  refine w_ia rfl (row_B hl0) (by decide) (x := xs 3) rfl ?_
  refine w_vi3 (pl_KK 5 xs) rfl (mg_0 s0 t0) (Nat.le_of_ble_eq_true rfl) q5 (fun r2 h2 q => q.2.1.trans (mk_len s0 t0).symm) (fun r2 h2 q => ?_)
  obtain ⟨q1, hl1, ⟨fs, hc⟩, q6⟩ := q
  rw [q1]
  refine w_la rfl rfl ?_
  refine w_la rfl rfl ?_
  refine w_li rfl rfl ?_
  refine w_ci rfl ?_
  refine w_iadd rfl ?_
  refine w_ia rfl (row_B hl1) (by decide) (x := xs 1) rfl ?_
  refine w_la rfl rfl ?_
  refine w_li rfl rfl ?_
  refine w_ci rfl ?_
  refine w_iadd rfl ?_
  refine w_ia rfl (row_B hl1) (by decide) (x := xs 2) rfl ?_
  refine w_la rfl rfl ?_
  refine w_li rfl rfl ?_
  refine w_ci rfl ?_
  refine w_iadd rfl ?_
  refine w_ia rfl (row_B hl1) (by decide) (x := xs 3) rfl ?_
  refine w_vi3 (pl_KK 5 xs) rfl hc (Nat.le_of_ble_eq_true rfl) q6 (fun r3 h3 q => q.2.1.trans hl1.symm) (fun r3 h3 q => ?_)
  obtain ⟨q3, hl3, hz⟩ := q
  rw [q3]
  exact w_ic_eq rfl (fun _ => law_tail hl3 hz) (fun c => absurd rfl c)
set_option maxRecDepth 100000 in
set_option maxHeartbeats 400000 in
theorem arm_39 {xs : Nat → Int32} : Wp (pl_K 5 xs) 213 1509 [some (.ref pm_B), some (.ref 0), some (.ref 51), some (.int 0)] [] (mk s0 t0) PL := by
  have hl0 : (mk s0 t0).length = 67 := mk_len s0 t0
  obtain ⟨v, hk, q5⟩ : Bth 91 207 [.int (xs 1)] := b_trace 
  obtain ⟨x, rfl⟩ := kdI hk
  refine w_la rfl rfl ?_
  refine w_la rfl rfl ?_
  refine w_li rfl rfl ?_
  refine w_ci rfl ?_
  refine w_iadd rfl ?_
  refine w_ia rfl (row_B hl0) (by decide) (x := xs 1) rfl ?_
  refine w_vi1 (pl_KK 5 xs) rfl (mg_0 s0 t0) (Nat.le_of_ble_eq_true rfl) q5 (fun r2 h2 q => q.2.1.trans (mk_len s0 t0).symm) (fun r2 h2 q => ?_)
  obtain ⟨q1, hl1, ⟨fs, hc⟩, q6⟩ := q
  rw [q1]
  refine w_la rfl rfl ?_
  refine w_la rfl rfl ?_
  refine w_li rfl rfl ?_
  refine w_ci rfl ?_
  refine w_iadd rfl ?_
  refine w_ia rfl (row_B hl1) (by decide) (x := xs 1) rfl ?_
  refine w_vi1 (pl_KK 5 xs) rfl hc (Nat.le_of_ble_eq_true rfl) q6 (fun r3 h3 q => q.2.1.trans hl1.symm) (fun r3 h3 q => ?_)
  obtain ⟨q3, hl3, hz⟩ := q
  rw [q3]
  exact w_ic_eq rfl (fun _ => law_tail hl3 hz) (fun c => absurd rfl c)
set_option maxRecDepth 100000 in
set_option maxHeartbeats 400000 in
theorem arm_40 {xs : Nat → Int32} : Wp (pl_K 5 xs) 213 1532 [some (.ref pm_B), some (.ref 0), some (.ref 51), some (.int 0)] [] (mk s0 t0) PL := by
  have hl0 : (mk s0 t0).length = 67 := mk_len s0 t0
  obtain ⟨v, hk, q5⟩ : Bth 92 209 [.int (xs 1)] := B_many (xs 1)
  obtain ⟨x, rfl⟩ := kdI hk
  refine w_la rfl rfl ?_
  refine w_la rfl rfl ?_
  refine w_li rfl rfl ?_
  refine w_ci rfl ?_
  refine w_iadd rfl ?_
  refine w_ia rfl (row_B hl0) (by decide) (x := xs 1) rfl ?_
  refine w_vi1 (pl_KK 5 xs) rfl (mg_0 s0 t0) (Nat.le_of_ble_eq_true rfl) q5 (fun r2 h2 q => q.2.1.trans (mk_len s0 t0).symm) (fun r2 h2 q => ?_)
  obtain ⟨q1, hl1, ⟨fs, hc⟩, q6⟩ := q
  rw [q1]
  refine w_la rfl rfl ?_
  refine w_la rfl rfl ?_
  refine w_li rfl rfl ?_
  refine w_ci rfl ?_
  refine w_iadd rfl ?_
  refine w_ia rfl (row_B hl1) (by decide) (x := xs 1) rfl ?_
  refine w_vi1 (pl_KK 5 xs) rfl hc (Nat.le_of_ble_eq_true rfl) q6 (fun r3 h3 q => q.2.1.trans hl1.symm) (fun r3 h3 q => ?_)
  obtain ⟨q3, hl3, hz⟩ := q
  rw [q3]
  exact w_ic_eq rfl (fun _ => law_tail hl3 hz) (fun c => absurd rfl c)
set_option maxRecDepth 100000 in
set_option maxHeartbeats 400000 in
theorem arm_41 {xs : Nat → Int32} : Wp (pl_K 5 xs) 213 1555 [some (.ref pm_B), some (.ref 0), some (.ref 51), some (.int 0)] [] (mk s0 t0) PL := by
  have hl0 : (mk s0 t0).length = 67 := mk_len s0 t0
  obtain ⟨v, hk, q5⟩ : Bth 93 210 [] := B_keep 
  obtain ⟨x, rfl⟩ := kdI hk
  refine w_la rfl rfl ?_
  refine w_vi0 (pl_KK 5 xs) rfl (mg_0 s0 t0) (Nat.le_of_ble_eq_true rfl) q5 (fun r2 h2 q => q.2.1.trans (mk_len s0 t0).symm) (fun r2 h2 q => ?_)
  obtain ⟨q1, hl1, ⟨fs, hc⟩, q6⟩ := q
  rw [q1]
  refine w_la rfl rfl ?_
  refine w_vi0 (pl_KK 5 xs) rfl hc (Nat.le_of_ble_eq_true rfl) q6 (fun r3 h3 q => q.2.1.trans hl1.symm) (fun r3 h3 q => ?_)
  obtain ⟨q3, hl3, hz⟩ := q
  rw [q3]
  exact w_ic_eq rfl (fun _ => law_tail hl3 hz) (fun c => absurd rfl c)
set_option maxRecDepth 100000 in
set_option maxHeartbeats 400000 in
theorem arm_42 {xs : Nat → Int32} : Wp (pl_K 5 xs) 213 1568 [some (.ref pm_B), some (.ref 0), some (.ref 51), some (.int 0)] [] (mk s0 t0) PL := by
  have hl0 : (mk s0 t0).length = 67 := mk_len s0 t0
  obtain ⟨v, hk, q5⟩ : Bth 94 211 [] := B_again 
  obtain ⟨x, rfl⟩ := kdI hk
  refine w_la rfl rfl ?_
  refine w_vi0 (pl_KK 5 xs) rfl (mg_0 s0 t0) (Nat.le_of_ble_eq_true rfl) q5 (fun r2 h2 q => q.2.1.trans (mk_len s0 t0).symm) (fun r2 h2 q => ?_)
  obtain ⟨q1, hl1, ⟨fs, hc⟩, q6⟩ := q
  rw [q1]
  refine w_la rfl rfl ?_
  refine w_vi0 (pl_KK 5 xs) rfl hc (Nat.le_of_ble_eq_true rfl) q6 (fun r3 h3 q => q.2.1.trans hl1.symm) (fun r3 h3 q => ?_)
  obtain ⟨q3, hl3, hz⟩ := q
  rw [q3]
  exact w_ic_eq rfl (fun _ => law_tail hl3 hz) (fun c => absurd rfl c)
