/-! the law: its arms, one for each method -/
theorem w_nw {K : pm_K} {k pc nx ci b : Nat} {L : pm_L} {st : List Value} {h : pm_H} {P : Option Value → pm_H → Prop} {fs : List Value} (hC : pm_C0 k pc = pms_nw ci fs nx) (hb : h.length = b) (hf : pm_free b L st h = true) (hg : Wp K k nx L (.ref b :: st) (h ++ [pm_ob ci fs]) P) : Wp K k pc L st h P := by
  subst hb
  exact Wp.one hC (fun call cont z hz => by simp only [pms_nw, if_pos hf]; exact hz) hg
theorem w_ct0 {K : pm_K} {k pc nx c b : Nat} {L : pm_L} {st : List Value} {h h1 : pm_H} {P : Option Value → pm_H → Prop} (hKK : pl_sub K) (hC : pm_C0 k pc = pms_ct c 0 nx) (hcat : (st.map fun v => v.category).sum ≤ 8) (hm : Wm c [.ref b] h (fun r2 h2 => r2 = none ∧ h2 = h1)) (hlen : pm_rL h.length h1.length L = true ∧ pm_rS h.length h1.length st = true) (hg : Wp K k nx L st h1 P) : Wp K k pc L (.ref b :: st) h P :=
  Wp.call (nx := nx) hKK hC (fun call cont => by simp [pms_ct]) hcat hm (fun r2 h2 q => Or.inr (by rw [q.2]; exact hlen)) (fun r2 h2 q => by rw [q.1, q.2]; exact hg)
/-- what the law leaves -/
def PL : Option Value → pm_H → Prop := fun r h => r = some (.int 1) ∧ h.length = 67 ∧ pm_zs h ≤ 100000
theorem row_B {L : Nat} {xs : Nat → Int32} {h : pm_H} (hl : h.length = 67) : pm_row (pl_K L xs) h pm_B = some ((List.range L).map xs) := by
  have e : h[pm_B]? = none := List.getElem?_eq_none (by rw [hl]; decide)
  unfold pm_row
  rw [e]
  rfl
theorem len_B {L : Nat} {xs : Nat → Int32} {h : pm_H} (hl : h.length = 67) : pm_len (pl_K L xs) h pm_B = some L := by
  have e : h[pm_B]? = none := List.getElem?_eq_none (by rw [hl]; decide)
  have e2 : ((List.range L).map xs).length = L := by simp
  unfold pm_len
  rw [e]
  show Option.map List.length (some ((List.range L).map xs)) = _
  rw [Option.map_some, e2]
theorem mk_zs (s : SS) (t : TT) : pm_zs (mk s t) ≤ 100000 := by
  have h : pm_zs (mk s t) = pm_zs (mk s0 t0) := by simp [mk, pm_zs, pm_z, ar_len, pm_ob, pm_qr]
  rw [h]
  exact Nat.le_of_ble_eq_true (by decide +kernel)
theorem lgc (x : Int64) : lg_cmp x x = 0 := by simp [lg_cmp]
theorem ixa {L i c : Nat} {y : Int32} {xs : Nat → Int32} (hy : y = nI c) (h : i + c < L) (hL : L ≤ 2560) : ¬ nI i + y < 0 ∧ ((List.range L).map xs)[(nI i + y).toNatClampNeg]? = some (xs (i + c)) := by
  rw [hy, nI_add]
  refine ⟨nI_pos (by omega), ?_⟩
  rw [nI_clamp (by omega), List.getElem?_map, List.getElem?_range h]
  rfl
theorem ixz {L i : Nat} {xs : Nat → Int32} (h : i < L) (hL : L ≤ 2560) : ¬ nI i < 0 ∧ ((List.range L).map xs)[(nI i).toNatClampNeg]? = some (xs i) := by
  refine ⟨nI_pos (by omega), ?_⟩
  rw [nI_clamp (by omega), List.getElem?_map, List.getElem?_range h]
  rfl
theorem end_n {L i : Nat} (hL : L ≤ 2560) (hi : i ≤ 2570) : (Int32.ofNat L - 5 < nI i) ↔ L < i + 5 := by
  have e : (Int32.ofNat L - 5).toInt = (L : Int) - 5 := by
    have e1 : (Int32.ofNat L).toInt = (L : Int) := nI_toInt (n := L) (by omega)
    rw [tI_sub (by rw [e1, show (5 : Int32).toInt = 5 from rfl]; omega) (by rw [e1, show (5 : Int32).toInt = 5 from rfl]; omega), e1]
    rfl
  rw [tI_lt, e, nI_toInt (by omega)]
  omega
theorem sw_out {x : Int32} {ts : List Nat} {d m : Nat} (hl : ts.length = m + 1) (hm : m < 2 ^ 31) (hx : ∃ j : Nat, m < j ∧ j < 64 ∧ x = nI j) : (if x.toInt < 0 then d else (ts[(x.toInt - 0).toNat]?).getD d) = d := by
  obtain ⟨j, h1, h2, rfl⟩ := hx
  rw [nI_toInt (by omega), if_neg (by omega), List.getElem?_eq_none (by rw [hl]; omega)]
  rfl
set_option maxRecDepth 100000 in
set_option maxHeartbeats 400000 in
theorem arm_0 {L i : Nat} {xs : Nat → Int32} {s : SS} {t : TT} (hi : i + 5 ≤ L) (hL : L ≤ 2560) (h : Rel s t (12 * i)) (hN : ∀ (s9 : SS) (t9 : TT), Rel s9 t9 (12 * i + 60) → Wp (pl_K L xs) 220 1579 [some (.ref pm_B), some (.ref 0), some (.ref 51), some (.int (nI i))] [] (mk s9 t9) PL) : Wp (pl_K L xs) 220 220 [some (.ref pm_B), some (.ref 0), some (.ref 51), some (.int (nI i))] [] (mk s t) PL := by
  obtain ⟨r, s1, s2, t1, t2, e1, e2, h2⟩ := s_feed (((pmf_lshl ((xs (i + 1)).toInt64) 32) ||| ((xs (i + 2)).toInt64 &&& 4294967295))) (xs (i + 3)) h
  refine w_la rfl rfl ?_
  refine w_la rfl rfl ?_
  refine w_li rfl rfl ?_
  refine w_ci rfl ?_
  refine w_iadd rfl ?_
  refine w_ia rfl (row_B (mk_len s t)) (ixa (c := 1) (xs := xs) rfl (by omega) hL).1 (ixa (c := 1) (xs := xs) rfl (by omega) hL).2 ?_
  refine w_i2l rfl ?_
  refine w_ci rfl ?_
  refine w_lshl rfl ?_
  refine w_la rfl rfl ?_
  refine w_li rfl rfl ?_
  refine w_ci rfl ?_
  refine w_iadd rfl ?_
  refine w_ia rfl (row_B (mk_len s t)) (ixa (c := 2) (xs := xs) rfl (by omega) hL).1 (ixa (c := 2) (xs := xs) rfl (by omega) hL).2 ?_
  refine w_i2l rfl ?_
  refine w_cl rfl ?_
  refine w_land rfl ?_
  refine w_lor rfl ?_
  refine w_la rfl rfl ?_
  refine w_li rfl rfl ?_
  refine w_ci rfl ?_
  refine w_iadd rfl ?_
  refine w_ia rfl (row_B (mk_len s t)) (ixa (c := 3) (xs := xs) rfl (by omega) hL).1 (ixa (c := 3) (xs := xs) rfl (by omega) hL).2 ?_
  refine w_vi2 (pl_KK L xs) rfl (mg_0 s t) (Nat.le_of_ble_eq_true rfl) (T_X5_feed e1) (fun r2 h2 q => by rw [q.2]; rfl) (fun r2 h2 q => ?_)
  obtain ⟨rfl, rfl⟩ := q
  refine w_pop rfl rfl ?_
  refine w_la rfl rfl ?_
  refine w_la rfl rfl ?_
  refine w_li rfl rfl ?_
  refine w_ci rfl ?_
  refine w_iadd rfl ?_
  refine w_ia rfl (row_B (mk_len s1 t1)) (ixa (c := 1) (xs := xs) rfl (by omega) hL).1 (ixa (c := 1) (xs := xs) rfl (by omega) hL).2 ?_
  refine w_i2l rfl ?_
  refine w_ci rfl ?_
  refine w_lshl rfl ?_
  refine w_la rfl rfl ?_
  refine w_li rfl rfl ?_
  refine w_ci rfl ?_
  refine w_iadd rfl ?_
  refine w_ia rfl (row_B (mk_len s1 t1)) (ixa (c := 2) (xs := xs) rfl (by omega) hL).1 (ixa (c := 2) (xs := xs) rfl (by omega) hL).2 ?_
  refine w_i2l rfl ?_
  refine w_cl rfl ?_
  refine w_land rfl ?_
  refine w_lor rfl ?_
  refine w_la rfl rfl ?_
  refine w_li rfl rfl ?_
  refine w_ci rfl ?_
  refine w_iadd rfl ?_
  refine w_ia rfl (row_B (mk_len s1 t1)) (ixa (c := 3) (xs := xs) rfl (by omega) hL).1 (ixa (c := 3) (xs := xs) rfl (by omega) hL).2 ?_
  refine w_vi2 (pl_KK L xs) rfl (mg_51 s1 t1) (Nat.le_of_ble_eq_true rfl) (T_X6_feed e2) (fun r2 h2 q => by rw [q.2]; rfl) (fun r2 h2 q => ?_)
  obtain ⟨rfl, rfl⟩ := q
  refine w_pop rfl rfl ?_
  refine w_go rfl ?_
  exact hN s2 t2 h2
set_option maxRecDepth 100000 in
set_option maxHeartbeats 400000 in
theorem arm_1 {L i : Nat} {xs : Nat → Int32} {s : SS} {t : TT} (hi : i + 5 ≤ L) (hL : L ≤ 2560) (h : Rel s t (12 * i)) (hN : ∀ (s9 : SS) (t9 : TT), Rel s9 t9 (12 * i + 60) → Wp (pl_K L xs) 220 1579 [some (.ref pm_B), some (.ref 0), some (.ref 51), some (.int (nI i))] [] (mk s9 t9) PL) : Wp (pl_K L xs) 220 283 [some (.ref pm_B), some (.ref 0), some (.ref 51), some (.int (nI i))] [] (mk s t) PL := by
  obtain ⟨r, s1, s2, t1, t2, e1, e2, h2⟩ := s_post  h
  refine w_la rfl rfl ?_
  refine w_vi0 (pl_KK L xs) rfl (mg_0 s t) (Nat.le_of_ble_eq_true rfl) (T_X5_post e1) (fun r2 h2 q => by rw [q.2]; rfl) (fun r2 h2 q => ?_)
  obtain ⟨rfl, rfl⟩ := q
  refine w_pop rfl rfl ?_
  refine w_la rfl rfl ?_
  refine w_vi0 (pl_KK L xs) rfl (mg_51 s1 t1) (Nat.le_of_ble_eq_true rfl) (T_X6_post e2) (fun r2 h2 q => by rw [q.2]; rfl) (fun r2 h2 q => ?_)
  obtain ⟨rfl, rfl⟩ := q
  refine w_pop rfl rfl ?_
  refine w_go rfl ?_
  exact hN s2 t2 h2
set_option maxRecDepth 100000 in
set_option maxHeartbeats 400000 in
theorem arm_2 {L i : Nat} {xs : Nat → Int32} {s : SS} {t : TT} (hi : i + 5 ≤ L) (hL : L ≤ 2560) (h : Rel s t (12 * i)) (hN : ∀ (s9 : SS) (t9 : TT), Rel s9 t9 (12 * i + 60) → Wp (pl_K L xs) 220 1579 [some (.ref pm_B), some (.ref 0), some (.ref 51), some (.int (nI i))] [] (mk s9 t9) PL) : Wp (pl_K L xs) 220 296 [some (.ref pm_B), some (.ref 0), some (.ref 51), some (.int (nI i))] [] (mk s t) PL := by
  obtain ⟨r, s1, s2, t1, t2, e1, e2, h2⟩ := s_set (xs (i + 1)) (xs (i + 2)) h
  refine w_la rfl rfl ?_
  refine w_la rfl rfl ?_
  refine w_li rfl rfl ?_
  refine w_ci rfl ?_
  refine w_iadd rfl ?_
  refine w_ia rfl (row_B (mk_len s t)) (ixa (c := 1) (xs := xs) rfl (by omega) hL).1 (ixa (c := 1) (xs := xs) rfl (by omega) hL).2 ?_
  refine w_la rfl rfl ?_
  refine w_li rfl rfl ?_
  refine w_ci rfl ?_
  refine w_iadd rfl ?_
  refine w_ia rfl (row_B (mk_len s t)) (ixa (c := 2) (xs := xs) rfl (by omega) hL).1 (ixa (c := 2) (xs := xs) rfl (by omega) hL).2 ?_
  refine w_vi2 (pl_KK L xs) rfl (mg_0 s t) (Nat.le_of_ble_eq_true rfl) (T_X5_set e1) (fun r2 h2 q => by rw [q.2]; rfl) (fun r2 h2 q => ?_)
  obtain ⟨rfl, rfl⟩ := q
  refine w_pop rfl rfl ?_
  refine w_la rfl rfl ?_
  refine w_la rfl rfl ?_
  refine w_li rfl rfl ?_
  refine w_ci rfl ?_
  refine w_iadd rfl ?_
  refine w_ia rfl (row_B (mk_len s1 t1)) (ixa (c := 1) (xs := xs) rfl (by omega) hL).1 (ixa (c := 1) (xs := xs) rfl (by omega) hL).2 ?_
  refine w_la rfl rfl ?_
  refine w_li rfl rfl ?_
  refine w_ci rfl ?_
  refine w_iadd rfl ?_
  refine w_ia rfl (row_B (mk_len s1 t1)) (ixa (c := 2) (xs := xs) rfl (by omega) hL).1 (ixa (c := 2) (xs := xs) rfl (by omega) hL).2 ?_
  refine w_vi2 (pl_KK L xs) rfl (mg_51 s1 t1) (Nat.le_of_ble_eq_true rfl) (T_X6_set e2) (fun r2 h2 q => by rw [q.2]; rfl) (fun r2 h2 q => ?_)
  obtain ⟨rfl, rfl⟩ := q
  refine w_pop rfl rfl ?_
  refine w_go rfl ?_
  exact hN s2 t2 h2
set_option maxRecDepth 100000 in
set_option maxHeartbeats 400000 in
theorem arm_3 {L i : Nat} {xs : Nat → Int32} {s : SS} {t : TT} (hi : i + 5 ≤ L) (hL : L ≤ 2560) (h : Rel s t (12 * i)) (hN : ∀ (s9 : SS) (t9 : TT), Rel s9 t9 (12 * i + 60) → Wp (pl_K L xs) 220 1579 [some (.ref pm_B), some (.ref 0), some (.ref 51), some (.int (nI i))] [] (mk s9 t9) PL) : Wp (pl_K L xs) 220 329 [some (.ref pm_B), some (.ref 0), some (.ref 51), some (.int (nI i))] [] (mk s t) PL := by
  obtain ⟨r, s1, s2, t1, t2, e1, e2, h2⟩ := s_lawOf (xs (i + 1)) h
  refine w_la rfl rfl ?_
  refine w_la rfl rfl ?_
  refine w_li rfl rfl ?_
  refine w_ci rfl ?_
  refine w_iadd rfl ?_
  refine w_ia rfl (row_B (mk_len s t)) (ixa (c := 1) (xs := xs) rfl (by omega) hL).1 (ixa (c := 1) (xs := xs) rfl (by omega) hL).2 ?_
  refine w_vi1 (pl_KK L xs) rfl (mg_0 s t) (Nat.le_of_ble_eq_true rfl) (T_X5_lawOf e1) (fun r2 h2 q => by rw [q.2]; rfl) (fun r2 h2 q => ?_)
  obtain ⟨rfl, rfl⟩ := q
  refine w_pop rfl rfl ?_
  refine w_la rfl rfl ?_
  refine w_la rfl rfl ?_
  refine w_li rfl rfl ?_
  refine w_ci rfl ?_
  refine w_iadd rfl ?_
  refine w_ia rfl (row_B (mk_len s1 t1)) (ixa (c := 1) (xs := xs) rfl (by omega) hL).1 (ixa (c := 1) (xs := xs) rfl (by omega) hL).2 ?_
  refine w_vi1 (pl_KK L xs) rfl (mg_51 s1 t1) (Nat.le_of_ble_eq_true rfl) (T_X6_lawOf e2) (fun r2 h2 q => by rw [q.2]; rfl) (fun r2 h2 q => ?_)
  obtain ⟨rfl, rfl⟩ := q
  refine w_pop rfl rfl ?_
  refine w_go rfl ?_
  exact hN s2 t2 h2
set_option maxRecDepth 100000 in
set_option maxHeartbeats 400000 in
theorem arm_4 {L i : Nat} {xs : Nat → Int32} {s : SS} {t : TT} (hi : i + 5 ≤ L) (hL : L ≤ 2560) (h : Rel s t (12 * i)) (hN : ∀ (s9 : SS) (t9 : TT), Rel s9 t9 (12 * i + 60) → Wp (pl_K L xs) 220 1579 [some (.ref pm_B), some (.ref 0), some (.ref 51), some (.int (nI i))] [] (mk s9 t9) PL) : Wp (pl_K L xs) 220 352 [some (.ref pm_B), some (.ref 0), some (.ref 51), some (.int (nI i))] [] (mk s t) PL := by
  obtain ⟨r, s1, s2, t1, t2, e1, e2, h2⟩ := s_person (xs (i + 1)) (xs (i + 2)) (xs (i + 3)) (xs (i + 4)) h
  refine w_la rfl rfl ?_
  refine w_la rfl rfl ?_
  refine w_li rfl rfl ?_
  refine w_ci rfl ?_
  refine w_iadd rfl ?_
  refine w_ia rfl (row_B (mk_len s t)) (ixa (c := 1) (xs := xs) rfl (by omega) hL).1 (ixa (c := 1) (xs := xs) rfl (by omega) hL).2 ?_
  refine w_la rfl rfl ?_
  refine w_li rfl rfl ?_
  refine w_ci rfl ?_
  refine w_iadd rfl ?_
  refine w_ia rfl (row_B (mk_len s t)) (ixa (c := 2) (xs := xs) rfl (by omega) hL).1 (ixa (c := 2) (xs := xs) rfl (by omega) hL).2 ?_
  refine w_la rfl rfl ?_
  refine w_li rfl rfl ?_
  refine w_ci rfl ?_
  refine w_iadd rfl ?_
  refine w_ia rfl (row_B (mk_len s t)) (ixa (c := 3) (xs := xs) rfl (by omega) hL).1 (ixa (c := 3) (xs := xs) rfl (by omega) hL).2 ?_
  refine w_la rfl rfl ?_
  refine w_li rfl rfl ?_
  refine w_ci rfl ?_
  refine w_iadd rfl ?_
  refine w_ia rfl (row_B (mk_len s t)) (ixa (c := 4) (xs := xs) rfl (by omega) hL).1 (ixa (c := 4) (xs := xs) rfl (by omega) hL).2 ?_
  refine w_vi4 (pl_KK L xs) rfl (mg_0 s t) (Nat.le_of_ble_eq_true rfl) (T_X5_person e1) (fun r2 h2 q => by rw [q.2]; rfl) (fun r2 h2 q => ?_)
  obtain ⟨rfl, rfl⟩ := q
  refine w_pop rfl rfl ?_
  refine w_la rfl rfl ?_
  refine w_la rfl rfl ?_
  refine w_li rfl rfl ?_
  refine w_ci rfl ?_
  refine w_iadd rfl ?_
  refine w_ia rfl (row_B (mk_len s1 t1)) (ixa (c := 1) (xs := xs) rfl (by omega) hL).1 (ixa (c := 1) (xs := xs) rfl (by omega) hL).2 ?_
  refine w_la rfl rfl ?_
  refine w_li rfl rfl ?_
  refine w_ci rfl ?_
  refine w_iadd rfl ?_
  refine w_ia rfl (row_B (mk_len s1 t1)) (ixa (c := 2) (xs := xs) rfl (by omega) hL).1 (ixa (c := 2) (xs := xs) rfl (by omega) hL).2 ?_
  refine w_la rfl rfl ?_
  refine w_li rfl rfl ?_
  refine w_ci rfl ?_
  refine w_iadd rfl ?_
  refine w_ia rfl (row_B (mk_len s1 t1)) (ixa (c := 3) (xs := xs) rfl (by omega) hL).1 (ixa (c := 3) (xs := xs) rfl (by omega) hL).2 ?_
  refine w_la rfl rfl ?_
  refine w_li rfl rfl ?_
  refine w_ci rfl ?_
  refine w_iadd rfl ?_
  refine w_ia rfl (row_B (mk_len s1 t1)) (ixa (c := 4) (xs := xs) rfl (by omega) hL).1 (ixa (c := 4) (xs := xs) rfl (by omega) hL).2 ?_
  refine w_vi4 (pl_KK L xs) rfl (mg_51 s1 t1) (Nat.le_of_ble_eq_true rfl) (T_X6_person e2) (fun r2 h2 q => by rw [q.2]; rfl) (fun r2 h2 q => ?_)
  obtain ⟨rfl, rfl⟩ := q
  refine w_pop rfl rfl ?_
  refine w_go rfl ?_
  exact hN s2 t2 h2
set_option maxRecDepth 100000 in
set_option maxHeartbeats 400000 in
theorem arm_5 {L i : Nat} {xs : Nat → Int32} {s : SS} {t : TT} (hi : i + 5 ≤ L) (hL : L ≤ 2560) (h : Rel s t (12 * i)) (hN : ∀ (s9 : SS) (t9 : TT), Rel s9 t9 (12 * i + 60) → Wp (pl_K L xs) 220 1579 [some (.ref pm_B), some (.ref 0), some (.ref 51), some (.int (nI i))] [] (mk s9 t9) PL) : Wp (pl_K L xs) 220 405 [some (.ref pm_B), some (.ref 0), some (.ref 51), some (.int (nI i))] [] (mk s t) PL := by
  obtain ⟨r, s1, s2, t1, t2, e1, e2, h2⟩ := s_of (xs (i + 1)) (xs (i + 2)) h
  refine w_la rfl rfl ?_
  refine w_la rfl rfl ?_
  refine w_li rfl rfl ?_
  refine w_ci rfl ?_
  refine w_iadd rfl ?_
  refine w_ia rfl (row_B (mk_len s t)) (ixa (c := 1) (xs := xs) rfl (by omega) hL).1 (ixa (c := 1) (xs := xs) rfl (by omega) hL).2 ?_
  refine w_la rfl rfl ?_
  refine w_li rfl rfl ?_
  refine w_ci rfl ?_
  refine w_iadd rfl ?_
  refine w_ia rfl (row_B (mk_len s t)) (ixa (c := 2) (xs := xs) rfl (by omega) hL).1 (ixa (c := 2) (xs := xs) rfl (by omega) hL).2 ?_
  refine w_vi2 (pl_KK L xs) rfl (mg_0 s t) (Nat.le_of_ble_eq_true rfl) (T_X5_of e1) (fun r2 h2 q => by rw [q.2]; rfl) (fun r2 h2 q => ?_)
  obtain ⟨rfl, rfl⟩ := q
  refine w_pop rfl rfl ?_
  refine w_la rfl rfl ?_
  refine w_la rfl rfl ?_
  refine w_li rfl rfl ?_
  refine w_ci rfl ?_
  refine w_iadd rfl ?_
  refine w_ia rfl (row_B (mk_len s1 t1)) (ixa (c := 1) (xs := xs) rfl (by omega) hL).1 (ixa (c := 1) (xs := xs) rfl (by omega) hL).2 ?_
  refine w_la rfl rfl ?_
  refine w_li rfl rfl ?_
  refine w_ci rfl ?_
  refine w_iadd rfl ?_
  refine w_ia rfl (row_B (mk_len s1 t1)) (ixa (c := 2) (xs := xs) rfl (by omega) hL).1 (ixa (c := 2) (xs := xs) rfl (by omega) hL).2 ?_
  refine w_vi2 (pl_KK L xs) rfl (mg_51 s1 t1) (Nat.le_of_ble_eq_true rfl) (T_X6_of e2) (fun r2 h2 q => by rw [q.2]; rfl) (fun r2 h2 q => ?_)
  obtain ⟨rfl, rfl⟩ := q
  refine w_pop rfl rfl ?_
  refine w_go rfl ?_
  exact hN s2 t2 h2
set_option maxRecDepth 100000 in
set_option maxHeartbeats 400000 in
theorem arm_6 {L i : Nat} {xs : Nat → Int32} {s : SS} {t : TT} (hi : i + 5 ≤ L) (hL : L ≤ 2560) (h : Rel s t (12 * i)) (hN : ∀ (s9 : SS) (t9 : TT), Rel s9 t9 (12 * i + 60) → Wp (pl_K L xs) 220 1579 [some (.ref pm_B), some (.ref 0), some (.ref 51), some (.int (nI i))] [] (mk s9 t9) PL) : Wp (pl_K L xs) 220 438 [some (.ref pm_B), some (.ref 0), some (.ref 51), some (.int (nI i))] [] (mk s t) PL := by
  obtain ⟨r, s1, s2, t1, t2, e1, e2, h2⟩ := s_does (by omega) (xs (i + 1)) (xs (i + 2)) h
  refine w_la rfl rfl ?_
  refine w_la rfl rfl ?_
  refine w_li rfl rfl ?_
  refine w_ci rfl ?_
  refine w_iadd rfl ?_
  refine w_ia rfl (row_B (mk_len s t)) (ixa (c := 1) (xs := xs) rfl (by omega) hL).1 (ixa (c := 1) (xs := xs) rfl (by omega) hL).2 ?_
  refine w_la rfl rfl ?_
  refine w_li rfl rfl ?_
  refine w_ci rfl ?_
  refine w_iadd rfl ?_
  refine w_ia rfl (row_B (mk_len s t)) (ixa (c := 2) (xs := xs) rfl (by omega) hL).1 (ixa (c := 2) (xs := xs) rfl (by omega) hL).2 ?_
  refine w_vi2 (pl_KK L xs) rfl (mg_0 s t) (Nat.le_of_ble_eq_true rfl) (T_X5_does e1) (fun r2 h2 q => by rw [q.2]; rfl) (fun r2 h2 q => ?_)
  obtain ⟨rfl, rfl⟩ := q
  refine w_pop rfl rfl ?_
  refine w_la rfl rfl ?_
  refine w_la rfl rfl ?_
  refine w_li rfl rfl ?_
  refine w_ci rfl ?_
  refine w_iadd rfl ?_
  refine w_ia rfl (row_B (mk_len s1 t1)) (ixa (c := 1) (xs := xs) rfl (by omega) hL).1 (ixa (c := 1) (xs := xs) rfl (by omega) hL).2 ?_
  refine w_la rfl rfl ?_
  refine w_li rfl rfl ?_
  refine w_ci rfl ?_
  refine w_iadd rfl ?_
  refine w_ia rfl (row_B (mk_len s1 t1)) (ixa (c := 2) (xs := xs) rfl (by omega) hL).1 (ixa (c := 2) (xs := xs) rfl (by omega) hL).2 ?_
  refine w_vi2 (pl_KK L xs) rfl (mg_51 s1 t1) (Nat.le_of_ble_eq_true rfl) (T_X6_does e2) (fun r2 h2 q => by rw [q.2]; rfl) (fun r2 h2 q => ?_)
  obtain ⟨rfl, rfl⟩ := q
  refine w_pop rfl rfl ?_
  refine w_go rfl ?_
  exact hN s2 t2 h2
set_option maxRecDepth 100000 in
set_option maxHeartbeats 400000 in
theorem arm_7 {L i : Nat} {xs : Nat → Int32} {s : SS} {t : TT} (hi : i + 5 ≤ L) (hL : L ≤ 2560) (h : Rel s t (12 * i)) (hN : ∀ (s9 : SS) (t9 : TT), Rel s9 t9 (12 * i + 60) → Wp (pl_K L xs) 220 1579 [some (.ref pm_B), some (.ref 0), some (.ref 51), some (.int (nI i))] [] (mk s9 t9) PL) : Wp (pl_K L xs) 220 471 [some (.ref pm_B), some (.ref 0), some (.ref 51), some (.int (nI i))] [] (mk s t) PL := by
  obtain ⟨r, s1, s2, t1, t2, e1, e2, h2⟩ := s_mind (xs (i + 1)) (xs (i + 2)) (xs (i + 3)) h
  refine w_la rfl rfl ?_
  refine w_la rfl rfl ?_
  refine w_li rfl rfl ?_
  refine w_ci rfl ?_
  refine w_iadd rfl ?_
  refine w_ia rfl (row_B (mk_len s t)) (ixa (c := 1) (xs := xs) rfl (by omega) hL).1 (ixa (c := 1) (xs := xs) rfl (by omega) hL).2 ?_
  refine w_la rfl rfl ?_
  refine w_li rfl rfl ?_
  refine w_ci rfl ?_
  refine w_iadd rfl ?_
  refine w_ia rfl (row_B (mk_len s t)) (ixa (c := 2) (xs := xs) rfl (by omega) hL).1 (ixa (c := 2) (xs := xs) rfl (by omega) hL).2 ?_
  refine w_la rfl rfl ?_
  refine w_li rfl rfl ?_
  refine w_ci rfl ?_
  refine w_iadd rfl ?_
  refine w_ia rfl (row_B (mk_len s t)) (ixa (c := 3) (xs := xs) rfl (by omega) hL).1 (ixa (c := 3) (xs := xs) rfl (by omega) hL).2 ?_
  refine w_vi3 (pl_KK L xs) rfl (mg_0 s t) (Nat.le_of_ble_eq_true rfl) (T_X5_mind e1) (fun r2 h2 q => by rw [q.2]; rfl) (fun r2 h2 q => ?_)
  obtain ⟨rfl, rfl⟩ := q
  refine w_pop rfl rfl ?_
  refine w_la rfl rfl ?_
  refine w_la rfl rfl ?_
  refine w_li rfl rfl ?_
  refine w_ci rfl ?_
  refine w_iadd rfl ?_
  refine w_ia rfl (row_B (mk_len s1 t1)) (ixa (c := 1) (xs := xs) rfl (by omega) hL).1 (ixa (c := 1) (xs := xs) rfl (by omega) hL).2 ?_
  refine w_la rfl rfl ?_
  refine w_li rfl rfl ?_
  refine w_ci rfl ?_
  refine w_iadd rfl ?_
  refine w_ia rfl (row_B (mk_len s1 t1)) (ixa (c := 2) (xs := xs) rfl (by omega) hL).1 (ixa (c := 2) (xs := xs) rfl (by omega) hL).2 ?_
  refine w_la rfl rfl ?_
  refine w_li rfl rfl ?_
  refine w_ci rfl ?_
  refine w_iadd rfl ?_
  refine w_ia rfl (row_B (mk_len s1 t1)) (ixa (c := 3) (xs := xs) rfl (by omega) hL).1 (ixa (c := 3) (xs := xs) rfl (by omega) hL).2 ?_
  refine w_vi3 (pl_KK L xs) rfl (mg_51 s1 t1) (Nat.le_of_ble_eq_true rfl) (T_X6_mind e2) (fun r2 h2 q => by rw [q.2]; rfl) (fun r2 h2 q => ?_)
  obtain ⟨rfl, rfl⟩ := q
  refine w_pop rfl rfl ?_
  refine w_go rfl ?_
  exact hN s2 t2 h2
set_option maxRecDepth 100000 in
set_option maxHeartbeats 400000 in
theorem arm_8 {L i : Nat} {xs : Nat → Int32} {s : SS} {t : TT} (hi : i + 5 ≤ L) (hL : L ≤ 2560) (h : Rel s t (12 * i)) (hN : ∀ (s9 : SS) (t9 : TT), Rel s9 t9 (12 * i + 60) → Wp (pl_K L xs) 220 1579 [some (.ref pm_B), some (.ref 0), some (.ref 51), some (.int (nI i))] [] (mk s9 t9) PL) : Wp (pl_K L xs) 220 514 [some (.ref pm_B), some (.ref 0), some (.ref 51), some (.int (nI i))] [] (mk s t) PL := by
  obtain ⟨r, s1, s2, t1, t2, e1, e2, h2⟩ := s_thought (xs (i + 1)) (xs (i + 2)) h
  refine w_la rfl rfl ?_
  refine w_la rfl rfl ?_
  refine w_li rfl rfl ?_
  refine w_ci rfl ?_
  refine w_iadd rfl ?_
  refine w_ia rfl (row_B (mk_len s t)) (ixa (c := 1) (xs := xs) rfl (by omega) hL).1 (ixa (c := 1) (xs := xs) rfl (by omega) hL).2 ?_
  refine w_la rfl rfl ?_
  refine w_li rfl rfl ?_
  refine w_ci rfl ?_
  refine w_iadd rfl ?_
  refine w_ia rfl (row_B (mk_len s t)) (ixa (c := 2) (xs := xs) rfl (by omega) hL).1 (ixa (c := 2) (xs := xs) rfl (by omega) hL).2 ?_
  refine w_vi2 (pl_KK L xs) rfl (mg_0 s t) (Nat.le_of_ble_eq_true rfl) (T_X5_thought e1) (fun r2 h2 q => by rw [q.2]; rfl) (fun r2 h2 q => ?_)
  obtain ⟨rfl, rfl⟩ := q
  refine w_pop rfl rfl ?_
  refine w_la rfl rfl ?_
  refine w_la rfl rfl ?_
  refine w_li rfl rfl ?_
  refine w_ci rfl ?_
  refine w_iadd rfl ?_
  refine w_ia rfl (row_B (mk_len s1 t1)) (ixa (c := 1) (xs := xs) rfl (by omega) hL).1 (ixa (c := 1) (xs := xs) rfl (by omega) hL).2 ?_
  refine w_la rfl rfl ?_
  refine w_li rfl rfl ?_
  refine w_ci rfl ?_
  refine w_iadd rfl ?_
  refine w_ia rfl (row_B (mk_len s1 t1)) (ixa (c := 2) (xs := xs) rfl (by omega) hL).1 (ixa (c := 2) (xs := xs) rfl (by omega) hL).2 ?_
  refine w_vi2 (pl_KK L xs) rfl (mg_51 s1 t1) (Nat.le_of_ble_eq_true rfl) (T_X6_thought e2) (fun r2 h2 q => by rw [q.2]; rfl) (fun r2 h2 q => ?_)
  obtain ⟨rfl, rfl⟩ := q
  refine w_pop rfl rfl ?_
  refine w_go rfl ?_
  exact hN s2 t2 h2
set_option maxRecDepth 100000 in
set_option maxHeartbeats 400000 in
theorem arm_9 {L i : Nat} {xs : Nat → Int32} {s : SS} {t : TT} (hi : i + 5 ≤ L) (hL : L ≤ 2560) (h : Rel s t (12 * i)) (hN : ∀ (s9 : SS) (t9 : TT), Rel s9 t9 (12 * i + 60) → Wp (pl_K L xs) 220 1579 [some (.ref pm_B), some (.ref 0), some (.ref 51), some (.int (nI i))] [] (mk s9 t9) PL) : Wp (pl_K L xs) 220 547 [some (.ref pm_B), some (.ref 0), some (.ref 51), some (.int (nI i))] [] (mk s t) PL := by
  obtain ⟨r, s1, s2, t1, t2, e1, e2, h2⟩ := s_own (xs (i + 1)) (xs (i + 2)) h
  refine w_la rfl rfl ?_
  refine w_la rfl rfl ?_
  refine w_li rfl rfl ?_
  refine w_ci rfl ?_
  refine w_iadd rfl ?_
  refine w_ia rfl (row_B (mk_len s t)) (ixa (c := 1) (xs := xs) rfl (by omega) hL).1 (ixa (c := 1) (xs := xs) rfl (by omega) hL).2 ?_
  refine w_la rfl rfl ?_
  refine w_li rfl rfl ?_
  refine w_ci rfl ?_
  refine w_iadd rfl ?_
  refine w_ia rfl (row_B (mk_len s t)) (ixa (c := 2) (xs := xs) rfl (by omega) hL).1 (ixa (c := 2) (xs := xs) rfl (by omega) hL).2 ?_
  refine w_vi2 (pl_KK L xs) rfl (mg_0 s t) (Nat.le_of_ble_eq_true rfl) (T_X5_own e1) (fun r2 h2 q => by rw [q.2]; rfl) (fun r2 h2 q => ?_)
  obtain ⟨rfl, rfl⟩ := q
  refine w_pop rfl rfl ?_
  refine w_la rfl rfl ?_
  refine w_la rfl rfl ?_
  refine w_li rfl rfl ?_
  refine w_ci rfl ?_
  refine w_iadd rfl ?_
  refine w_ia rfl (row_B (mk_len s1 t1)) (ixa (c := 1) (xs := xs) rfl (by omega) hL).1 (ixa (c := 1) (xs := xs) rfl (by omega) hL).2 ?_
  refine w_la rfl rfl ?_
  refine w_li rfl rfl ?_
  refine w_ci rfl ?_
  refine w_iadd rfl ?_
  refine w_ia rfl (row_B (mk_len s1 t1)) (ixa (c := 2) (xs := xs) rfl (by omega) hL).1 (ixa (c := 2) (xs := xs) rfl (by omega) hL).2 ?_
  refine w_vi2 (pl_KK L xs) rfl (mg_51 s1 t1) (Nat.le_of_ble_eq_true rfl) (T_X6_own e2) (fun r2 h2 q => by rw [q.2]; rfl) (fun r2 h2 q => ?_)
  obtain ⟨rfl, rfl⟩ := q
  refine w_pop rfl rfl ?_
  refine w_go rfl ?_
  exact hN s2 t2 h2
set_option maxRecDepth 100000 in
set_option maxHeartbeats 400000 in
theorem arm_10 {L i : Nat} {xs : Nat → Int32} {s : SS} {t : TT} (hi : i + 5 ≤ L) (hL : L ≤ 2560) (h : Rel s t (12 * i)) (hN : ∀ (s9 : SS) (t9 : TT), Rel s9 t9 (12 * i + 60) → Wp (pl_K L xs) 220 1579 [some (.ref pm_B), some (.ref 0), some (.ref 51), some (.int (nI i))] [] (mk s9 t9) PL) : Wp (pl_K L xs) 220 580 [some (.ref pm_B), some (.ref 0), some (.ref 51), some (.int (nI i))] [] (mk s t) PL := by
  obtain ⟨r, s1, s2, t1, t2, e1, e2, h2⟩ := s_give (xs (i + 1)) (xs (i + 2)) h
  refine w_la rfl rfl ?_
  refine w_la rfl rfl ?_
  refine w_li rfl rfl ?_
  refine w_ci rfl ?_
  refine w_iadd rfl ?_
  refine w_ia rfl (row_B (mk_len s t)) (ixa (c := 1) (xs := xs) rfl (by omega) hL).1 (ixa (c := 1) (xs := xs) rfl (by omega) hL).2 ?_
  refine w_la rfl rfl ?_
  refine w_li rfl rfl ?_
  refine w_ci rfl ?_
  refine w_iadd rfl ?_
  refine w_ia rfl (row_B (mk_len s t)) (ixa (c := 2) (xs := xs) rfl (by omega) hL).1 (ixa (c := 2) (xs := xs) rfl (by omega) hL).2 ?_
  refine w_vi2 (pl_KK L xs) rfl (mg_0 s t) (Nat.le_of_ble_eq_true rfl) (T_X5_give e1) (fun r2 h2 q => by rw [q.2]; rfl) (fun r2 h2 q => ?_)
  obtain ⟨rfl, rfl⟩ := q
  refine w_pop rfl rfl ?_
  refine w_la rfl rfl ?_
  refine w_la rfl rfl ?_
  refine w_li rfl rfl ?_
  refine w_ci rfl ?_
  refine w_iadd rfl ?_
  refine w_ia rfl (row_B (mk_len s1 t1)) (ixa (c := 1) (xs := xs) rfl (by omega) hL).1 (ixa (c := 1) (xs := xs) rfl (by omega) hL).2 ?_
  refine w_la rfl rfl ?_
  refine w_li rfl rfl ?_
  refine w_ci rfl ?_
  refine w_iadd rfl ?_
  refine w_ia rfl (row_B (mk_len s1 t1)) (ixa (c := 2) (xs := xs) rfl (by omega) hL).1 (ixa (c := 2) (xs := xs) rfl (by omega) hL).2 ?_
  refine w_vi2 (pl_KK L xs) rfl (mg_51 s1 t1) (Nat.le_of_ble_eq_true rfl) (T_X6_give e2) (fun r2 h2 q => by rw [q.2]; rfl) (fun r2 h2 q => ?_)
  obtain ⟨rfl, rfl⟩ := q
  refine w_pop rfl rfl ?_
  refine w_go rfl ?_
  exact hN s2 t2 h2
set_option maxRecDepth 100000 in
set_option maxHeartbeats 400000 in
theorem arm_11 {L i : Nat} {xs : Nat → Int32} {s : SS} {t : TT} (hi : i + 5 ≤ L) (hL : L ≤ 2560) (h : Rel s t (12 * i)) (hN : ∀ (s9 : SS) (t9 : TT), Rel s9 t9 (12 * i + 60) → Wp (pl_K L xs) 220 1579 [some (.ref pm_B), some (.ref 0), some (.ref 51), some (.int (nI i))] [] (mk s9 t9) PL) : Wp (pl_K L xs) 220 613 [some (.ref pm_B), some (.ref 0), some (.ref 51), some (.int (nI i))] [] (mk s t) PL := by
  obtain ⟨r, s1, s2, t1, t2, e1, e2, h2⟩ := s_weeks (by omega) (xs (i + 1)) h
  refine w_la rfl rfl ?_
  refine w_la rfl rfl ?_
  refine w_li rfl rfl ?_
  refine w_ci rfl ?_
  refine w_iadd rfl ?_
  refine w_ia rfl (row_B (mk_len s t)) (ixa (c := 1) (xs := xs) rfl (by omega) hL).1 (ixa (c := 1) (xs := xs) rfl (by omega) hL).2 ?_
  refine w_vi1 (pl_KK L xs) rfl (mg_0 s t) (Nat.le_of_ble_eq_true rfl) (T_X5_weeks e1) (fun r2 h2 q => by rw [q.2]; rfl) (fun r2 h2 q => ?_)
  obtain ⟨rfl, rfl⟩ := q
  refine w_pop rfl rfl ?_
  refine w_la rfl rfl ?_
  refine w_la rfl rfl ?_
  refine w_li rfl rfl ?_
  refine w_ci rfl ?_
  refine w_iadd rfl ?_
  refine w_ia rfl (row_B (mk_len s1 t1)) (ixa (c := 1) (xs := xs) rfl (by omega) hL).1 (ixa (c := 1) (xs := xs) rfl (by omega) hL).2 ?_
  refine w_vi1 (pl_KK L xs) rfl (mg_51 s1 t1) (Nat.le_of_ble_eq_true rfl) (T_X6_weeks e2) (fun r2 h2 q => by rw [q.2]; rfl) (fun r2 h2 q => ?_)
  obtain ⟨rfl, rfl⟩ := q
  refine w_pop rfl rfl ?_
  refine w_go rfl ?_
  exact hN s2 t2 h2
set_option maxRecDepth 100000 in
set_option maxHeartbeats 400000 in
theorem arm_12 {L i : Nat} {xs : Nat → Int32} {s : SS} {t : TT} (hi : i + 5 ≤ L) (hL : L ≤ 2560) (h : Rel s t (12 * i)) (hN : ∀ (s9 : SS) (t9 : TT), Rel s9 t9 (12 * i + 60) → Wp (pl_K L xs) 220 1579 [some (.ref pm_B), some (.ref 0), some (.ref 51), some (.int (nI i))] [] (mk s9 t9) PL) : Wp (pl_K L xs) 220 636 [some (.ref pm_B), some (.ref 0), some (.ref 51), some (.int (nI i))] [] (mk s t) PL := by
  obtain ⟨r, s1, s2, t1, t2, e1, e2, h2⟩ := s_seed (xs (i + 1)) h
  refine w_la rfl rfl ?_
  refine w_la rfl rfl ?_
  refine w_li rfl rfl ?_
  refine w_ci rfl ?_
  refine w_iadd rfl ?_
  refine w_ia rfl (row_B (mk_len s t)) (ixa (c := 1) (xs := xs) rfl (by omega) hL).1 (ixa (c := 1) (xs := xs) rfl (by omega) hL).2 ?_
  refine w_vi1 (pl_KK L xs) rfl (mg_0 s t) (Nat.le_of_ble_eq_true rfl) (T_X5_seed e1) (fun r2 h2 q => by rw [q.2]; rfl) (fun r2 h2 q => ?_)
  obtain ⟨rfl, rfl⟩ := q
  refine w_pop rfl rfl ?_
  refine w_la rfl rfl ?_
  refine w_la rfl rfl ?_
  refine w_li rfl rfl ?_
  refine w_ci rfl ?_
  refine w_iadd rfl ?_
  refine w_ia rfl (row_B (mk_len s1 t1)) (ixa (c := 1) (xs := xs) rfl (by omega) hL).1 (ixa (c := 1) (xs := xs) rfl (by omega) hL).2 ?_
  refine w_vi1 (pl_KK L xs) rfl (mg_51 s1 t1) (Nat.le_of_ble_eq_true rfl) (T_X6_seed e2) (fun r2 h2 q => by rw [q.2]; rfl) (fun r2 h2 q => ?_)
  obtain ⟨rfl, rfl⟩ := q
  refine w_pop rfl rfl ?_
  refine w_go rfl ?_
  exact hN s2 t2 h2
set_option maxRecDepth 100000 in
set_option maxHeartbeats 400000 in
theorem arm_13 {L i : Nat} {xs : Nat → Int32} {s : SS} {t : TT} (hi : i + 5 ≤ L) (hL : L ≤ 2560) (h : Rel s t (12 * i)) (hN : ∀ (s9 : SS) (t9 : TT), Rel s9 t9 (12 * i + 60) → Wp (pl_K L xs) 220 1579 [some (.ref pm_B), some (.ref 0), some (.ref 51), some (.int (nI i))] [] (mk s9 t9) PL) : Wp (pl_K L xs) 220 659 [some (.ref pm_B), some (.ref 0), some (.ref 51), some (.int (nI i))] [] (mk s t) PL := by
  obtain ⟨r, s1, s2, t1, t2, e1, e2, h2⟩ := s_week (by omega)  h
  refine w_la rfl rfl ?_
  refine w_vi0 (pl_KK L xs) rfl (mg_0 s t) (Nat.le_of_ble_eq_true rfl) (T_X5_week e1) (fun r2 h2 q => by rw [q.2]; rfl) (fun r2 h2 q => ?_)
  obtain ⟨rfl, rfl⟩ := q
  refine w_pop rfl rfl ?_
  refine w_la rfl rfl ?_
  refine w_vi0 (pl_KK L xs) rfl (mg_51 s1 t1) (Nat.le_of_ble_eq_true rfl) (T_X6_week e2) (fun r2 h2 q => by rw [q.2]; rfl) (fun r2 h2 q => ?_)
  obtain ⟨rfl, rfl⟩ := q
  refine w_pop rfl rfl ?_
  refine w_go rfl ?_
  exact hN s2 t2 h2
set_option maxRecDepth 100000 in
set_option maxHeartbeats 400000 in
theorem arm_14 {L i : Nat} {xs : Nat → Int32} {s : SS} {t : TT} (hi : i + 5 ≤ L) (hL : L ≤ 2560) (h : Rel s t (12 * i)) (hN : ∀ (s9 : SS) (t9 : TT), Rel s9 t9 (12 * i + 60) → Wp (pl_K L xs) 220 1579 [some (.ref pm_B), some (.ref 0), some (.ref 51), some (.int (nI i))] [] (mk s9 t9) PL) : Wp (pl_K L xs) 220 672 [some (.ref pm_B), some (.ref 0), some (.ref 51), some (.int (nI i))] [] (mk s t) PL := by
  obtain ⟨r, s1, s2, t1, t2, e1, e2, h2⟩ := s_poor (by omega) (xs (i + 1)) h
  refine w_la rfl rfl ?_
  refine w_la rfl rfl ?_
  refine w_li rfl rfl ?_
  refine w_ci rfl ?_
  refine w_iadd rfl ?_
  refine w_ia rfl (row_B (mk_len s t)) (ixa (c := 1) (xs := xs) rfl (by omega) hL).1 (ixa (c := 1) (xs := xs) rfl (by omega) hL).2 ?_
  refine w_vi1 (pl_KK L xs) rfl (mg_0 s t) (Nat.le_of_ble_eq_true rfl) (T_X5_poor e1) (fun r2 h2 q => by rw [q.2]; rfl) (fun r2 h2 q => ?_)
  obtain ⟨rfl, rfl⟩ := q
  refine w_pop rfl rfl ?_
  refine w_la rfl rfl ?_
  refine w_la rfl rfl ?_
  refine w_li rfl rfl ?_
  refine w_ci rfl ?_
  refine w_iadd rfl ?_
  refine w_ia rfl (row_B (mk_len s1 t1)) (ixa (c := 1) (xs := xs) rfl (by omega) hL).1 (ixa (c := 1) (xs := xs) rfl (by omega) hL).2 ?_
  refine w_vi1 (pl_KK L xs) rfl (mg_51 s1 t1) (Nat.le_of_ble_eq_true rfl) (T_X6_poor e2) (fun r2 h2 q => by rw [q.2]; rfl) (fun r2 h2 q => ?_)
  obtain ⟨rfl, rfl⟩ := q
  refine w_pop rfl rfl ?_
  refine w_go rfl ?_
  exact hN s2 t2 h2
set_option maxRecDepth 100000 in
set_option maxHeartbeats 400000 in
theorem arm_15 {L i : Nat} {xs : Nat → Int32} {s : SS} {t : TT} (hi : i + 5 ≤ L) (hL : L ≤ 2560) (h : Rel s t (12 * i)) (hN : ∀ (s9 : SS) (t9 : TT), Rel s9 t9 (12 * i + 60) → Wp (pl_K L xs) 220 1579 [some (.ref pm_B), some (.ref 0), some (.ref 51), some (.int (nI i))] [] (mk s9 t9) PL) : Wp (pl_K L xs) 220 695 [some (.ref pm_B), some (.ref 0), some (.ref 51), some (.int (nI i))] [] (mk s t) PL := by
  obtain ⟨r, s1, s2, t1, t2, e1, e2, h2⟩ := s_state (xs (i + 1)) h
  refine w_la rfl rfl ?_
  refine w_la rfl rfl ?_
  refine w_li rfl rfl ?_
  refine w_ci rfl ?_
  refine w_iadd rfl ?_
  refine w_ia rfl (row_B (mk_len s t)) (ixa (c := 1) (xs := xs) rfl (by omega) hL).1 (ixa (c := 1) (xs := xs) rfl (by omega) hL).2 ?_
  refine w_vi1 (pl_KK L xs) rfl (mg_0 s t) (Nat.le_of_ble_eq_true rfl) (T_X5_state e1) (fun r2 h2 q => by rw [q.2]; rfl) (fun r2 h2 q => ?_)
  obtain ⟨rfl, rfl⟩ := q
  refine w_pop rfl rfl ?_
  refine w_la rfl rfl ?_
  refine w_la rfl rfl ?_
  refine w_li rfl rfl ?_
  refine w_ci rfl ?_
  refine w_iadd rfl ?_
  refine w_ia rfl (row_B (mk_len s1 t1)) (ixa (c := 1) (xs := xs) rfl (by omega) hL).1 (ixa (c := 1) (xs := xs) rfl (by omega) hL).2 ?_
  refine w_vi1 (pl_KK L xs) rfl (mg_51 s1 t1) (Nat.le_of_ble_eq_true rfl) (T_X6_state e2) (fun r2 h2 q => by rw [q.2]; rfl) (fun r2 h2 q => ?_)
  obtain ⟨rfl, rfl⟩ := q
  refine w_pop rfl rfl ?_
  refine w_go rfl ?_
  exact hN s2 t2 h2
set_option maxRecDepth 100000 in
set_option maxHeartbeats 400000 in
theorem arm_16 {L i : Nat} {xs : Nat → Int32} {s : SS} {t : TT} (hi : i + 5 ≤ L) (hL : L ≤ 2560) (h : Rel s t (12 * i)) (hN : ∀ (s9 : SS) (t9 : TT), Rel s9 t9 (12 * i + 60) → Wp (pl_K L xs) 220 1579 [some (.ref pm_B), some (.ref 0), some (.ref 51), some (.int (nI i))] [] (mk s9 t9) PL) : Wp (pl_K L xs) 220 718 [some (.ref pm_B), some (.ref 0), some (.ref 51), some (.int (nI i))] [] (mk s t) PL := by
  obtain ⟨r, s1, s2, t1, t2, e1, e2, h2⟩ := s_words (by omega) (xs (i + 1)) h
  refine w_la rfl rfl ?_
  refine w_la rfl rfl ?_
  refine w_li rfl rfl ?_
  refine w_ci rfl ?_
  refine w_iadd rfl ?_
  refine w_ia rfl (row_B (mk_len s t)) (ixa (c := 1) (xs := xs) rfl (by omega) hL).1 (ixa (c := 1) (xs := xs) rfl (by omega) hL).2 ?_
  refine w_vi1 (pl_KK L xs) rfl (mg_0 s t) (Nat.le_of_ble_eq_true rfl) (T_X5_words e1) (fun r2 h2 q => by rw [q.2]; rfl) (fun r2 h2 q => ?_)
  obtain ⟨rfl, rfl⟩ := q
  refine w_pop rfl rfl ?_
  refine w_la rfl rfl ?_
  refine w_la rfl rfl ?_
  refine w_li rfl rfl ?_
  refine w_ci rfl ?_
  refine w_iadd rfl ?_
  refine w_ia rfl (row_B (mk_len s1 t1)) (ixa (c := 1) (xs := xs) rfl (by omega) hL).1 (ixa (c := 1) (xs := xs) rfl (by omega) hL).2 ?_
  refine w_vi1 (pl_KK L xs) rfl (mg_51 s1 t1) (Nat.le_of_ble_eq_true rfl) (T_X6_words e2) (fun r2 h2 q => by rw [q.2]; rfl) (fun r2 h2 q => ?_)
  obtain ⟨rfl, rfl⟩ := q
  refine w_pop rfl rfl ?_
  refine w_go rfl ?_
  exact hN s2 t2 h2
set_option maxRecDepth 100000 in
set_option maxHeartbeats 400000 in
theorem arm_17 {L i : Nat} {xs : Nat → Int32} {s : SS} {t : TT} (hi : i + 5 ≤ L) (hL : L ≤ 2560) (h : Rel s t (12 * i)) (hN : ∀ (s9 : SS) (t9 : TT), Rel s9 t9 (12 * i + 60) → Wp (pl_K L xs) 220 1579 [some (.ref pm_B), some (.ref 0), some (.ref 51), some (.int (nI i))] [] (mk s9 t9) PL) : Wp (pl_K L xs) 220 741 [some (.ref pm_B), some (.ref 0), some (.ref 51), some (.int (nI i))] [] (mk s t) PL := by
  obtain ⟨r, s1, s2, t1, t2, e1, e2, h2⟩ := s_gets (by omega) (xs (i + 1)) h
  refine w_la rfl rfl ?_
  refine w_la rfl rfl ?_
  refine w_li rfl rfl ?_
  refine w_ci rfl ?_
  refine w_iadd rfl ?_
  refine w_ia rfl (row_B (mk_len s t)) (ixa (c := 1) (xs := xs) rfl (by omega) hL).1 (ixa (c := 1) (xs := xs) rfl (by omega) hL).2 ?_
  refine w_vi1 (pl_KK L xs) rfl (mg_0 s t) (Nat.le_of_ble_eq_true rfl) (T_X5_gets e1) (fun r2 h2 q => by rw [q.2]; rfl) (fun r2 h2 q => ?_)
  obtain ⟨rfl, rfl⟩ := q
  refine w_pop rfl rfl ?_
  refine w_la rfl rfl ?_
  refine w_la rfl rfl ?_
  refine w_li rfl rfl ?_
  refine w_ci rfl ?_
  refine w_iadd rfl ?_
  refine w_ia rfl (row_B (mk_len s1 t1)) (ixa (c := 1) (xs := xs) rfl (by omega) hL).1 (ixa (c := 1) (xs := xs) rfl (by omega) hL).2 ?_
  refine w_vi1 (pl_KK L xs) rfl (mg_51 s1 t1) (Nat.le_of_ble_eq_true rfl) (T_X6_gets e2) (fun r2 h2 q => by rw [q.2]; rfl) (fun r2 h2 q => ?_)
  obtain ⟨rfl, rfl⟩ := q
  refine w_pop rfl rfl ?_
  refine w_go rfl ?_
  exact hN s2 t2 h2
set_option maxRecDepth 100000 in
set_option maxHeartbeats 400000 in
theorem arm_18 {L i : Nat} {xs : Nat → Int32} {s : SS} {t : TT} (hi : i + 5 ≤ L) (hL : L ≤ 2560) (h : Rel s t (12 * i)) (hN : ∀ (s9 : SS) (t9 : TT), Rel s9 t9 (12 * i + 60) → Wp (pl_K L xs) 220 1579 [some (.ref pm_B), some (.ref 0), some (.ref 51), some (.int (nI i))] [] (mk s9 t9) PL) : Wp (pl_K L xs) 220 764 [some (.ref pm_B), some (.ref 0), some (.ref 51), some (.int (nI i))] [] (mk s t) PL := by
  obtain ⟨r, s1, s2, t1, t2, e1, e2, h2⟩ := s_idle (by omega)  h
  refine w_la rfl rfl ?_
  refine w_vi0 (pl_KK L xs) rfl (mg_0 s t) (Nat.le_of_ble_eq_true rfl) (T_X5_idle e1) (fun r2 h2 q => by rw [q.2]; rfl) (fun r2 h2 q => ?_)
  obtain ⟨rfl, rfl⟩ := q
  refine w_pop rfl rfl ?_
  refine w_la rfl rfl ?_
  refine w_vi0 (pl_KK L xs) rfl (mg_51 s1 t1) (Nat.le_of_ble_eq_true rfl) (T_X6_idle e2) (fun r2 h2 q => by rw [q.2]; rfl) (fun r2 h2 q => ?_)
  obtain ⟨rfl, rfl⟩ := q
  refine w_pop rfl rfl ?_
  refine w_go rfl ?_
  exact hN s2 t2 h2
set_option maxRecDepth 100000 in
set_option maxHeartbeats 400000 in
theorem arm_19 {L i : Nat} {xs : Nat → Int32} {s : SS} {t : TT} (hi : i + 5 ≤ L) (hL : L ≤ 2560) (h : Rel s t (12 * i)) (hN : ∀ (s9 : SS) (t9 : TT), Rel s9 t9 (12 * i + 60) → Wp (pl_K L xs) 220 1579 [some (.ref pm_B), some (.ref 0), some (.ref 51), some (.int (nI i))] [] (mk s9 t9) PL) : Wp (pl_K L xs) 220 777 [some (.ref pm_B), some (.ref 0), some (.ref 51), some (.int (nI i))] [] (mk s t) PL := by
  obtain ⟨r, s1, s2, t1, t2, e1, e2, h2⟩ := s_vanFor (by omega) (xs (i + 1)) (xs (i + 2)) h
  refine w_la rfl rfl ?_
  refine w_la rfl rfl ?_
  refine w_li rfl rfl ?_
  refine w_ci rfl ?_
  refine w_iadd rfl ?_
  refine w_ia rfl (row_B (mk_len s t)) (ixa (c := 1) (xs := xs) rfl (by omega) hL).1 (ixa (c := 1) (xs := xs) rfl (by omega) hL).2 ?_
  refine w_la rfl rfl ?_
  refine w_li rfl rfl ?_
  refine w_ci rfl ?_
  refine w_iadd rfl ?_
  refine w_ia rfl (row_B (mk_len s t)) (ixa (c := 2) (xs := xs) rfl (by omega) hL).1 (ixa (c := 2) (xs := xs) rfl (by omega) hL).2 ?_
  refine w_vi2 (pl_KK L xs) rfl (mg_0 s t) (Nat.le_of_ble_eq_true rfl) (T_X5_vanFor e1) (fun r2 h2 q => by rw [q.2]; rfl) (fun r2 h2 q => ?_)
  obtain ⟨rfl, rfl⟩ := q
  refine w_pop rfl rfl ?_
  refine w_la rfl rfl ?_
  refine w_la rfl rfl ?_
  refine w_li rfl rfl ?_
  refine w_ci rfl ?_
  refine w_iadd rfl ?_
  refine w_ia rfl (row_B (mk_len s1 t1)) (ixa (c := 1) (xs := xs) rfl (by omega) hL).1 (ixa (c := 1) (xs := xs) rfl (by omega) hL).2 ?_
  refine w_la rfl rfl ?_
  refine w_li rfl rfl ?_
  refine w_ci rfl ?_
  refine w_iadd rfl ?_
  refine w_ia rfl (row_B (mk_len s1 t1)) (ixa (c := 2) (xs := xs) rfl (by omega) hL).1 (ixa (c := 2) (xs := xs) rfl (by omega) hL).2 ?_
  refine w_vi2 (pl_KK L xs) rfl (mg_51 s1 t1) (Nat.le_of_ble_eq_true rfl) (T_X6_vanFor e2) (fun r2 h2 q => by rw [q.2]; rfl) (fun r2 h2 q => ?_)
  obtain ⟨rfl, rfl⟩ := q
  refine w_pop rfl rfl ?_
  refine w_go rfl ?_
  exact hN s2 t2 h2
set_option maxRecDepth 100000 in
set_option maxHeartbeats 400000 in
theorem arm_20 {L i : Nat} {xs : Nat → Int32} {s : SS} {t : TT} (hi : i + 5 ≤ L) (hL : L ≤ 2560) (h : Rel s t (12 * i)) (hN : ∀ (s9 : SS) (t9 : TT), Rel s9 t9 (12 * i + 60) → Wp (pl_K L xs) 220 1579 [some (.ref pm_B), some (.ref 0), some (.ref 51), some (.int (nI i))] [] (mk s9 t9) PL) : Wp (pl_K L xs) 220 810 [some (.ref pm_B), some (.ref 0), some (.ref 51), some (.int (nI i))] [] (mk s t) PL := by
  obtain ⟨r, s1, s2, t1, t2, e1, e2, h2⟩ := s_kindFor (by omega) (xs (i + 1)) (xs (i + 2)) h
  refine w_la rfl rfl ?_
  refine w_la rfl rfl ?_
  refine w_li rfl rfl ?_
  refine w_ci rfl ?_
  refine w_iadd rfl ?_
  refine w_ia rfl (row_B (mk_len s t)) (ixa (c := 1) (xs := xs) rfl (by omega) hL).1 (ixa (c := 1) (xs := xs) rfl (by omega) hL).2 ?_
  refine w_la rfl rfl ?_
  refine w_li rfl rfl ?_
  refine w_ci rfl ?_
  refine w_iadd rfl ?_
  refine w_ia rfl (row_B (mk_len s t)) (ixa (c := 2) (xs := xs) rfl (by omega) hL).1 (ixa (c := 2) (xs := xs) rfl (by omega) hL).2 ?_
  refine w_vi2 (pl_KK L xs) rfl (mg_0 s t) (Nat.le_of_ble_eq_true rfl) (T_X5_kindFor e1) (fun r2 h2 q => by rw [q.2]; rfl) (fun r2 h2 q => ?_)
  obtain ⟨rfl, rfl⟩ := q
  refine w_pop rfl rfl ?_
  refine w_la rfl rfl ?_
  refine w_la rfl rfl ?_
  refine w_li rfl rfl ?_
  refine w_ci rfl ?_
  refine w_iadd rfl ?_
  refine w_ia rfl (row_B (mk_len s1 t1)) (ixa (c := 1) (xs := xs) rfl (by omega) hL).1 (ixa (c := 1) (xs := xs) rfl (by omega) hL).2 ?_
  refine w_la rfl rfl ?_
  refine w_li rfl rfl ?_
  refine w_ci rfl ?_
  refine w_iadd rfl ?_
  refine w_ia rfl (row_B (mk_len s1 t1)) (ixa (c := 2) (xs := xs) rfl (by omega) hL).1 (ixa (c := 2) (xs := xs) rfl (by omega) hL).2 ?_
  refine w_vi2 (pl_KK L xs) rfl (mg_51 s1 t1) (Nat.le_of_ble_eq_true rfl) (T_X6_kindFor e2) (fun r2 h2 q => by rw [q.2]; rfl) (fun r2 h2 q => ?_)
  obtain ⟨rfl, rfl⟩ := q
  refine w_pop rfl rfl ?_
  refine w_go rfl ?_
  exact hN s2 t2 h2
set_option maxRecDepth 100000 in
set_option maxHeartbeats 400000 in
theorem arm_21 {L i : Nat} {xs : Nat → Int32} {s : SS} {t : TT} (hi : i + 5 ≤ L) (hL : L ≤ 2560) (h : Rel s t (12 * i)) (hN : ∀ (s9 : SS) (t9 : TT), Rel s9 t9 (12 * i + 60) → Wp (pl_K L xs) 220 1579 [some (.ref pm_B), some (.ref 0), some (.ref 51), some (.int (nI i))] [] (mk s9 t9) PL) : Wp (pl_K L xs) 220 843 [some (.ref pm_B), some (.ref 0), some (.ref 51), some (.int (nI i))] [] (mk s t) PL := by
  obtain ⟨r, r9, s1, s2, t1, t2, e1, e2, h2⟩ := s_thoughtFor (by omega) (xs (i + 1)) (xs (i + 2)) h
  refine w_la rfl rfl ?_
  refine w_la rfl rfl ?_
  refine w_li rfl rfl ?_
  refine w_ci rfl ?_
  refine w_iadd rfl ?_
  refine w_ia rfl (row_B (mk_len s t)) (ixa (c := 1) (xs := xs) rfl (by omega) hL).1 (ixa (c := 1) (xs := xs) rfl (by omega) hL).2 ?_
  refine w_la rfl rfl ?_
  refine w_li rfl rfl ?_
  refine w_ci rfl ?_
  refine w_iadd rfl ?_
  refine w_ia rfl (row_B (mk_len s t)) (ixa (c := 2) (xs := xs) rfl (by omega) hL).1 (ixa (c := 2) (xs := xs) rfl (by omega) hL).2 ?_
  refine w_vi2 (pl_KK L xs) rfl (mg_0 s t) (Nat.le_of_ble_eq_true rfl) (T_X5_thoughtFor e1) (fun r2 h2 q => by rw [q.2]; rfl) (fun r2 h2 q => ?_)
  obtain ⟨rfl, rfl⟩ := q
  refine w_pop rfl rfl ?_
  refine w_la rfl rfl ?_
  refine w_la rfl rfl ?_
  refine w_li rfl rfl ?_
  refine w_ci rfl ?_
  refine w_iadd rfl ?_
  refine w_ia rfl (row_B (mk_len s1 t1)) (ixa (c := 1) (xs := xs) rfl (by omega) hL).1 (ixa (c := 1) (xs := xs) rfl (by omega) hL).2 ?_
  refine w_la rfl rfl ?_
  refine w_li rfl rfl ?_
  refine w_ci rfl ?_
  refine w_iadd rfl ?_
  refine w_ia rfl (row_B (mk_len s1 t1)) (ixa (c := 2) (xs := xs) rfl (by omega) hL).1 (ixa (c := 2) (xs := xs) rfl (by omega) hL).2 ?_
  refine w_vi2 (pl_KK L xs) rfl (mg_51 s1 t1) (Nat.le_of_ble_eq_true rfl) (T_X6_thoughtFor e2) (fun r2 h2 q => by rw [q.2]; rfl) (fun r2 h2 q => ?_)
  obtain ⟨rfl, rfl⟩ := q
  refine w_pop rfl rfl ?_
  refine w_go rfl ?_
  exact hN s2 t2 h2
set_option maxRecDepth 100000 in
set_option maxHeartbeats 400000 in
theorem arm_22 {L i : Nat} {xs : Nat → Int32} {s : SS} {t : TT} (hi : i + 5 ≤ L) (hL : L ≤ 2560) (h : Rel s t (12 * i)) (hN : ∀ (s9 : SS) (t9 : TT), Rel s9 t9 (12 * i + 60) → Wp (pl_K L xs) 220 1579 [some (.ref pm_B), some (.ref 0), some (.ref 51), some (.int (nI i))] [] (mk s9 t9) PL) : Wp (pl_K L xs) 220 876 [some (.ref pm_B), some (.ref 0), some (.ref 51), some (.int (nI i))] [] (mk s t) PL := by
  obtain ⟨r, s1, s2, t1, t2, e1, e2, h2⟩ := s_needed (by omega) (xs (i + 1)) h
  refine w_la rfl rfl ?_
  refine w_la rfl rfl ?_
  refine w_li rfl rfl ?_
  refine w_ci rfl ?_
  refine w_iadd rfl ?_
  refine w_ia rfl (row_B (mk_len s t)) (ixa (c := 1) (xs := xs) rfl (by omega) hL).1 (ixa (c := 1) (xs := xs) rfl (by omega) hL).2 ?_
  refine w_vi1 (pl_KK L xs) rfl (mg_0 s t) (Nat.le_of_ble_eq_true rfl) (T_X5_needed e1) (fun r2 h2 q => by rw [q.2]; rfl) (fun r2 h2 q => ?_)
  obtain ⟨rfl, rfl⟩ := q
  refine w_pop rfl rfl ?_
  refine w_la rfl rfl ?_
  refine w_la rfl rfl ?_
  refine w_li rfl rfl ?_
  refine w_ci rfl ?_
  refine w_iadd rfl ?_
  refine w_ia rfl (row_B (mk_len s1 t1)) (ixa (c := 1) (xs := xs) rfl (by omega) hL).1 (ixa (c := 1) (xs := xs) rfl (by omega) hL).2 ?_
  refine w_vi1 (pl_KK L xs) rfl (mg_51 s1 t1) (Nat.le_of_ble_eq_true rfl) (T_X6_needed e2) (fun r2 h2 q => by rw [q.2]; rfl) (fun r2 h2 q => ?_)
  obtain ⟨rfl, rfl⟩ := q
  refine w_pop rfl rfl ?_
  refine w_go rfl ?_
  exact hN s2 t2 h2
set_option maxRecDepth 100000 in
set_option maxHeartbeats 400000 in
theorem arm_23 {L i : Nat} {xs : Nat → Int32} {s : SS} {t : TT} (hi : i + 5 ≤ L) (hL : L ≤ 2560) (h : Rel s t (12 * i)) (hN : ∀ (s9 : SS) (t9 : TT), Rel s9 t9 (12 * i + 60) → Wp (pl_K L xs) 220 1579 [some (.ref pm_B), some (.ref 0), some (.ref 51), some (.int (nI i))] [] (mk s9 t9) PL) : Wp (pl_K L xs) 220 899 [some (.ref pm_B), some (.ref 0), some (.ref 51), some (.int (nI i))] [] (mk s t) PL := by
  obtain ⟨r, s1, s2, t1, t2, e1, e2, h2⟩ := s_fewest1 (by omega) (xs (i + 1)) (xs (i + 2)) h
  refine w_la rfl rfl ?_
  refine w_la rfl rfl ?_
  refine w_li rfl rfl ?_
  refine w_ci rfl ?_
  refine w_iadd rfl ?_
  refine w_ia rfl (row_B (mk_len s t)) (ixa (c := 1) (xs := xs) rfl (by omega) hL).1 (ixa (c := 1) (xs := xs) rfl (by omega) hL).2 ?_
  refine w_la rfl rfl ?_
  refine w_li rfl rfl ?_
  refine w_ci rfl ?_
  refine w_iadd rfl ?_
  refine w_ia rfl (row_B (mk_len s t)) (ixa (c := 2) (xs := xs) rfl (by omega) hL).1 (ixa (c := 2) (xs := xs) rfl (by omega) hL).2 ?_
  refine w_vi2 (pl_KK L xs) rfl (mg_0 s t) (Nat.le_of_ble_eq_true rfl) (T_X5_fewest e1) (fun r2 h2 q => by rw [q.2]; rfl) (fun r2 h2 q => ?_)
  obtain ⟨rfl, rfl⟩ := q
  refine w_pop rfl rfl ?_
  refine w_la rfl rfl ?_
  refine w_la rfl rfl ?_
  refine w_li rfl rfl ?_
  refine w_ci rfl ?_
  refine w_iadd rfl ?_
  refine w_ia rfl (row_B (mk_len s1 t1)) (ixa (c := 1) (xs := xs) rfl (by omega) hL).1 (ixa (c := 1) (xs := xs) rfl (by omega) hL).2 ?_
  refine w_la rfl rfl ?_
  refine w_li rfl rfl ?_
  refine w_ci rfl ?_
  refine w_iadd rfl ?_
  refine w_ia rfl (row_B (mk_len s1 t1)) (ixa (c := 2) (xs := xs) rfl (by omega) hL).1 (ixa (c := 2) (xs := xs) rfl (by omega) hL).2 ?_
  refine w_vi2 (pl_KK L xs) rfl (mg_51 s1 t1) (Nat.le_of_ble_eq_true rfl) (T_X6_fewest e2) (fun r2 h2 q => by rw [q.2]; rfl) (fun r2 h2 q => ?_)
  obtain ⟨rfl, rfl⟩ := q
  refine w_pop rfl rfl ?_
  refine w_go rfl ?_
  exact hN s2 t2 h2
set_option maxRecDepth 100000 in
set_option maxHeartbeats 400000 in
theorem arm_24 {L i : Nat} {xs : Nat → Int32} {s : SS} {t : TT} (hi : i + 5 ≤ L) (hL : L ≤ 2560) (h : Rel s t (12 * i)) (hN : ∀ (s9 : SS) (t9 : TT), Rel s9 t9 (12 * i + 60) → Wp (pl_K L xs) 220 1579 [some (.ref pm_B), some (.ref 0), some (.ref 51), some (.int (nI i))] [] (mk s9 t9) PL) : Wp (pl_K L xs) 220 932 [some (.ref pm_B), some (.ref 0), some (.ref 51), some (.int (nI i))] [] (mk s t) PL := by
  obtain ⟨r, s1, s2, t1, t2, e1, e2, h2⟩ := s_packed1 (xs (i + 1)) h
  refine w_la rfl rfl ?_
  refine w_la rfl rfl ?_
  refine w_li rfl rfl ?_
  refine w_ci rfl ?_
  refine w_iadd rfl ?_
  refine w_ia rfl (row_B (mk_len s t)) (ixa (c := 1) (xs := xs) rfl (by omega) hL).1 (ixa (c := 1) (xs := xs) rfl (by omega) hL).2 ?_
  refine w_vi1 (pl_KK L xs) rfl (mg_0 s t) (Nat.le_of_ble_eq_true rfl) (T_X5_packed e1) (fun r2 h2 q => by rw [q.2]; rfl) (fun r2 h2 q => ?_)
  obtain ⟨rfl, rfl⟩ := q
  refine w_pop rfl rfl ?_
  refine w_la rfl rfl ?_
  refine w_la rfl rfl ?_
  refine w_li rfl rfl ?_
  refine w_ci rfl ?_
  refine w_iadd rfl ?_
  refine w_ia rfl (row_B (mk_len s1 t1)) (ixa (c := 1) (xs := xs) rfl (by omega) hL).1 (ixa (c := 1) (xs := xs) rfl (by omega) hL).2 ?_
  refine w_vi1 (pl_KK L xs) rfl (mg_51 s1 t1) (Nat.le_of_ble_eq_true rfl) (T_X6_packed e2) (fun r2 h2 q => by rw [q.2]; rfl) (fun r2 h2 q => ?_)
  obtain ⟨rfl, rfl⟩ := q
  refine w_pop rfl rfl ?_
  refine w_go rfl ?_
  exact hN s2 t2 h2
set_option maxRecDepth 100000 in
set_option maxHeartbeats 400000 in
theorem arm_25 {L i : Nat} {xs : Nat → Int32} {s : SS} {t : TT} (hi : i + 5 ≤ L) (hL : L ≤ 2560) (h : Rel s t (12 * i)) (hN : ∀ (s9 : SS) (t9 : TT), Rel s9 t9 (12 * i + 60) → Wp (pl_K L xs) 220 1579 [some (.ref pm_B), some (.ref 0), some (.ref 51), some (.int (nI i))] [] (mk s9 t9) PL) : Wp (pl_K L xs) 220 955 [some (.ref pm_B), some (.ref 0), some (.ref 51), some (.int (nI i))] [] (mk s t) PL := by
  obtain ⟨r, s1, s2, t1, t2, e1, e2, h2⟩ := s_fits1 (by omega) (xs (i + 1)) (xs (i + 2)) (xs (i + 3)) h
  refine w_la rfl rfl ?_
  refine w_la rfl rfl ?_
  refine w_li rfl rfl ?_
  refine w_ci rfl ?_
  refine w_iadd rfl ?_
  refine w_ia rfl (row_B (mk_len s t)) (ixa (c := 1) (xs := xs) rfl (by omega) hL).1 (ixa (c := 1) (xs := xs) rfl (by omega) hL).2 ?_
  refine w_la rfl rfl ?_
  refine w_li rfl rfl ?_
  refine w_ci rfl ?_
  refine w_iadd rfl ?_
  refine w_ia rfl (row_B (mk_len s t)) (ixa (c := 2) (xs := xs) rfl (by omega) hL).1 (ixa (c := 2) (xs := xs) rfl (by omega) hL).2 ?_
  refine w_la rfl rfl ?_
  refine w_li rfl rfl ?_
  refine w_ci rfl ?_
  refine w_iadd rfl ?_
  refine w_ia rfl (row_B (mk_len s t)) (ixa (c := 3) (xs := xs) rfl (by omega) hL).1 (ixa (c := 3) (xs := xs) rfl (by omega) hL).2 ?_
  refine w_vi3 (pl_KK L xs) rfl (mg_0 s t) (Nat.le_of_ble_eq_true rfl) (T_X5_fits e1) (fun r2 h2 q => by rw [q.2]; rfl) (fun r2 h2 q => ?_)
  obtain ⟨rfl, rfl⟩ := q
  refine w_pop rfl rfl ?_
  refine w_la rfl rfl ?_
  refine w_la rfl rfl ?_
  refine w_li rfl rfl ?_
  refine w_ci rfl ?_
  refine w_iadd rfl ?_
  refine w_ia rfl (row_B (mk_len s1 t1)) (ixa (c := 1) (xs := xs) rfl (by omega) hL).1 (ixa (c := 1) (xs := xs) rfl (by omega) hL).2 ?_
  refine w_la rfl rfl ?_
  refine w_li rfl rfl ?_
  refine w_ci rfl ?_
  refine w_iadd rfl ?_
  refine w_ia rfl (row_B (mk_len s1 t1)) (ixa (c := 2) (xs := xs) rfl (by omega) hL).1 (ixa (c := 2) (xs := xs) rfl (by omega) hL).2 ?_
  refine w_la rfl rfl ?_
  refine w_li rfl rfl ?_
  refine w_ci rfl ?_
  refine w_iadd rfl ?_
  refine w_ia rfl (row_B (mk_len s1 t1)) (ixa (c := 3) (xs := xs) rfl (by omega) hL).1 (ixa (c := 3) (xs := xs) rfl (by omega) hL).2 ?_
  refine w_vi3 (pl_KK L xs) rfl (mg_51 s1 t1) (Nat.le_of_ble_eq_true rfl) (T_X6_fits e2) (fun r2 h2 q => by rw [q.2]; rfl) (fun r2 h2 q => ?_)
  obtain ⟨rfl, rfl⟩ := q
  refine w_pop rfl rfl ?_
  refine w_go rfl ?_
  exact hN s2 t2 h2
set_option maxRecDepth 100000 in
set_option maxHeartbeats 400000 in
theorem arm_26 {L i : Nat} {xs : Nat → Int32} {s : SS} {t : TT} (hi : i + 5 ≤ L) (hL : L ≤ 2560) (h : Rel s t (12 * i)) (hN : ∀ (s9 : SS) (t9 : TT), Rel s9 t9 (12 * i + 60) → Wp (pl_K L xs) 220 1579 [some (.ref pm_B), some (.ref 0), some (.ref 51), some (.int (nI i))] [] (mk s9 t9) PL) : Wp (pl_K L xs) 220 998 [some (.ref pm_B), some (.ref 0), some (.ref 51), some (.int (nI i))] [] (mk s t) PL := by
  obtain ⟨r, s1, s2, t1, t2, e1, e2, h2⟩ := s_odds (xs (i + 1)) (xs (i + 2)) (xs (i + 3)) h
  refine w_la rfl rfl ?_
  refine w_la rfl rfl ?_
  refine w_li rfl rfl ?_
  refine w_ci rfl ?_
  refine w_iadd rfl ?_
  refine w_ia rfl (row_B (mk_len s t)) (ixa (c := 1) (xs := xs) rfl (by omega) hL).1 (ixa (c := 1) (xs := xs) rfl (by omega) hL).2 ?_
  refine w_la rfl rfl ?_
  refine w_li rfl rfl ?_
  refine w_ci rfl ?_
  refine w_iadd rfl ?_
  refine w_ia rfl (row_B (mk_len s t)) (ixa (c := 2) (xs := xs) rfl (by omega) hL).1 (ixa (c := 2) (xs := xs) rfl (by omega) hL).2 ?_
  refine w_la rfl rfl ?_
  refine w_li rfl rfl ?_
  refine w_ci rfl ?_
  refine w_iadd rfl ?_
  refine w_ia rfl (row_B (mk_len s t)) (ixa (c := 3) (xs := xs) rfl (by omega) hL).1 (ixa (c := 3) (xs := xs) rfl (by omega) hL).2 ?_
  refine w_vi3 (pl_KK L xs) rfl (mg_0 s t) (Nat.le_of_ble_eq_true rfl) (T_X5_odds e1) (fun r2 h2 q => by rw [q.2]; rfl) (fun r2 h2 q => ?_)
  obtain ⟨rfl, rfl⟩ := q
  refine w_pop2 rfl rfl ?_
  refine w_la rfl rfl ?_
  refine w_la rfl rfl ?_
  refine w_li rfl rfl ?_
  refine w_ci rfl ?_
  refine w_iadd rfl ?_
  refine w_ia rfl (row_B (mk_len s1 t1)) (ixa (c := 1) (xs := xs) rfl (by omega) hL).1 (ixa (c := 1) (xs := xs) rfl (by omega) hL).2 ?_
  refine w_la rfl rfl ?_
  refine w_li rfl rfl ?_
  refine w_ci rfl ?_
  refine w_iadd rfl ?_
  refine w_ia rfl (row_B (mk_len s1 t1)) (ixa (c := 2) (xs := xs) rfl (by omega) hL).1 (ixa (c := 2) (xs := xs) rfl (by omega) hL).2 ?_
  refine w_la rfl rfl ?_
  refine w_li rfl rfl ?_
  refine w_ci rfl ?_
  refine w_iadd rfl ?_
  refine w_ia rfl (row_B (mk_len s1 t1)) (ixa (c := 3) (xs := xs) rfl (by omega) hL).1 (ixa (c := 3) (xs := xs) rfl (by omega) hL).2 ?_
  refine w_vi3 (pl_KK L xs) rfl (mg_51 s1 t1) (Nat.le_of_ble_eq_true rfl) (T_X6_odds e2) (fun r2 h2 q => by rw [q.2]; rfl) (fun r2 h2 q => ?_)
  obtain ⟨rfl, rfl⟩ := q
  refine w_pop2 rfl rfl ?_
  refine w_go rfl ?_
  exact hN s2 t2 h2
set_option maxRecDepth 100000 in
set_option maxHeartbeats 400000 in
theorem arm_27 {L i : Nat} {xs : Nat → Int32} {s : SS} {t : TT} (hi : i + 5 ≤ L) (hL : L ≤ 2560) (h : Rel s t (12 * i)) (hN : ∀ (s9 : SS) (t9 : TT), Rel s9 t9 (12 * i + 60) → Wp (pl_K L xs) 220 1579 [some (.ref pm_B), some (.ref 0), some (.ref 51), some (.int (nI i))] [] (mk s9 t9) PL) : Wp (pl_K L xs) 220 1041 [some (.ref pm_B), some (.ref 0), some (.ref 51), some (.int (nI i))] [] (mk s t) PL := by
  obtain ⟨r, s1, s2, t1, t2, e1, e2, h2⟩ := s_hope (xs (i + 1)) (xs (i + 2)) h
  refine w_la rfl rfl ?_
  refine w_la rfl rfl ?_
  refine w_li rfl rfl ?_
  refine w_ci rfl ?_
  refine w_iadd rfl ?_
  refine w_ia rfl (row_B (mk_len s t)) (ixa (c := 1) (xs := xs) rfl (by omega) hL).1 (ixa (c := 1) (xs := xs) rfl (by omega) hL).2 ?_
  refine w_la rfl rfl ?_
  refine w_li rfl rfl ?_
  refine w_ci rfl ?_
  refine w_iadd rfl ?_
  refine w_ia rfl (row_B (mk_len s t)) (ixa (c := 2) (xs := xs) rfl (by omega) hL).1 (ixa (c := 2) (xs := xs) rfl (by omega) hL).2 ?_
  refine w_vi2 (pl_KK L xs) rfl (mg_0 s t) (Nat.le_of_ble_eq_true rfl) (T_X5_hope e1) (fun r2 h2 q => by rw [q.2]; rfl) (fun r2 h2 q => ?_)
  obtain ⟨rfl, rfl⟩ := q
  refine w_pop2 rfl rfl ?_
  refine w_la rfl rfl ?_
  refine w_la rfl rfl ?_
  refine w_li rfl rfl ?_
  refine w_ci rfl ?_
  refine w_iadd rfl ?_
  refine w_ia rfl (row_B (mk_len s1 t1)) (ixa (c := 1) (xs := xs) rfl (by omega) hL).1 (ixa (c := 1) (xs := xs) rfl (by omega) hL).2 ?_
  refine w_la rfl rfl ?_
  refine w_li rfl rfl ?_
  refine w_ci rfl ?_
  refine w_iadd rfl ?_
  refine w_ia rfl (row_B (mk_len s1 t1)) (ixa (c := 2) (xs := xs) rfl (by omega) hL).1 (ixa (c := 2) (xs := xs) rfl (by omega) hL).2 ?_
  refine w_vi2 (pl_KK L xs) rfl (mg_51 s1 t1) (Nat.le_of_ble_eq_true rfl) (T_X6_hope e2) (fun r2 h2 q => by rw [q.2]; rfl) (fun r2 h2 q => ?_)
  obtain ⟨rfl, rfl⟩ := q
  refine w_pop2 rfl rfl ?_
  refine w_go rfl ?_
  exact hN s2 t2 h2
set_option maxRecDepth 100000 in
set_option maxHeartbeats 400000 in
theorem arm_28 {L i : Nat} {xs : Nat → Int32} {s : SS} {t : TT} (hi : i + 5 ≤ L) (hL : L ≤ 2560) (h : Rel s t (12 * i)) (hN : ∀ (s9 : SS) (t9 : TT), Rel s9 t9 (12 * i + 60) → Wp (pl_K L xs) 220 1579 [some (.ref pm_B), some (.ref 0), some (.ref 51), some (.int (nI i))] [] (mk s9 t9) PL) : Wp (pl_K L xs) 220 1074 [some (.ref pm_B), some (.ref 0), some (.ref 51), some (.int (nI i))] [] (mk s t) PL := by
  obtain ⟨r, s1, s2, t1, t2, e1, e2, h2⟩ := s_prove (by omega) (xs (i + 1)) (xs (i + 2)) h
  refine w_la rfl rfl ?_
  refine w_la rfl rfl ?_
  refine w_li rfl rfl ?_
  refine w_ci rfl ?_
  refine w_iadd rfl ?_
  refine w_ia rfl (row_B (mk_len s t)) (ixa (c := 1) (xs := xs) rfl (by omega) hL).1 (ixa (c := 1) (xs := xs) rfl (by omega) hL).2 ?_
  refine w_la rfl rfl ?_
  refine w_li rfl rfl ?_
  refine w_ci rfl ?_
  refine w_iadd rfl ?_
  refine w_ia rfl (row_B (mk_len s t)) (ixa (c := 2) (xs := xs) rfl (by omega) hL).1 (ixa (c := 2) (xs := xs) rfl (by omega) hL).2 ?_
  refine w_vi2 (pl_KK L xs) rfl (mg_0 s t) (Nat.le_of_ble_eq_true rfl) (T_X5_prove e1) (fun r2 h2 q => by rw [q.2]; rfl) (fun r2 h2 q => ?_)
  obtain ⟨rfl, rfl⟩ := q
  refine w_pop rfl rfl ?_
  refine w_la rfl rfl ?_
  refine w_la rfl rfl ?_
  refine w_li rfl rfl ?_
  refine w_ci rfl ?_
  refine w_iadd rfl ?_
  refine w_ia rfl (row_B (mk_len s1 t1)) (ixa (c := 1) (xs := xs) rfl (by omega) hL).1 (ixa (c := 1) (xs := xs) rfl (by omega) hL).2 ?_
  refine w_la rfl rfl ?_
  refine w_li rfl rfl ?_
  refine w_ci rfl ?_
  refine w_iadd rfl ?_
  refine w_ia rfl (row_B (mk_len s1 t1)) (ixa (c := 2) (xs := xs) rfl (by omega) hL).1 (ixa (c := 2) (xs := xs) rfl (by omega) hL).2 ?_
  refine w_vi2 (pl_KK L xs) rfl (mg_51 s1 t1) (Nat.le_of_ble_eq_true rfl) (T_X6_prove e2) (fun r2 h2 q => by rw [q.2]; rfl) (fun r2 h2 q => ?_)
  obtain ⟨rfl, rfl⟩ := q
  refine w_pop rfl rfl ?_
  refine w_go rfl ?_
  exact hN s2 t2 h2
set_option maxRecDepth 100000 in
set_option maxHeartbeats 400000 in
theorem arm_29 {L i : Nat} {xs : Nat → Int32} {s : SS} {t : TT} (hi : i + 5 ≤ L) (hL : L ≤ 2560) (h : Rel s t (12 * i)) (hN : ∀ (s9 : SS) (t9 : TT), Rel s9 t9 (12 * i + 60) → Wp (pl_K L xs) 220 1579 [some (.ref pm_B), some (.ref 0), some (.ref 51), some (.int (nI i))] [] (mk s9 t9) PL) : Wp (pl_K L xs) 220 1107 [some (.ref pm_B), some (.ref 0), some (.ref 51), some (.int (nI i))] [] (mk s t) PL := by
  obtain ⟨r, s1, s2, t1, t2, e1, e2, h2⟩ := s_row (xs (i + 1)) (xs (i + 2)) h
  refine w_la rfl rfl ?_
  refine w_la rfl rfl ?_
  refine w_li rfl rfl ?_
  refine w_ci rfl ?_
  refine w_iadd rfl ?_
  refine w_ia rfl (row_B (mk_len s t)) (ixa (c := 1) (xs := xs) rfl (by omega) hL).1 (ixa (c := 1) (xs := xs) rfl (by omega) hL).2 ?_
  refine w_la rfl rfl ?_
  refine w_li rfl rfl ?_
  refine w_ci rfl ?_
  refine w_iadd rfl ?_
  refine w_ia rfl (row_B (mk_len s t)) (ixa (c := 2) (xs := xs) rfl (by omega) hL).1 (ixa (c := 2) (xs := xs) rfl (by omega) hL).2 ?_
  refine w_vi2 (pl_KK L xs) rfl (mg_0 s t) (Nat.le_of_ble_eq_true rfl) (T_X5_row e1) (fun r2 h2 q => by rw [q.2]; rfl) (fun r2 h2 q => ?_)
  obtain ⟨rfl, rfl⟩ := q
  refine w_pop rfl rfl ?_
  refine w_la rfl rfl ?_
  refine w_la rfl rfl ?_
  refine w_li rfl rfl ?_
  refine w_ci rfl ?_
  refine w_iadd rfl ?_
  refine w_ia rfl (row_B (mk_len s1 t1)) (ixa (c := 1) (xs := xs) rfl (by omega) hL).1 (ixa (c := 1) (xs := xs) rfl (by omega) hL).2 ?_
  refine w_la rfl rfl ?_
  refine w_li rfl rfl ?_
  refine w_ci rfl ?_
  refine w_iadd rfl ?_
  refine w_ia rfl (row_B (mk_len s1 t1)) (ixa (c := 2) (xs := xs) rfl (by omega) hL).1 (ixa (c := 2) (xs := xs) rfl (by omega) hL).2 ?_
  refine w_vi2 (pl_KK L xs) rfl (mg_51 s1 t1) (Nat.le_of_ble_eq_true rfl) (T_X6_row e2) (fun r2 h2 q => by rw [q.2]; rfl) (fun r2 h2 q => ?_)
  obtain ⟨rfl, rfl⟩ := q
  refine w_pop rfl rfl ?_
  refine w_go rfl ?_
  exact hN s2 t2 h2
set_option maxRecDepth 100000 in
set_option maxHeartbeats 400000 in
theorem arm_30 {L i : Nat} {xs : Nat → Int32} {s : SS} {t : TT} (hi : i + 5 ≤ L) (hL : L ≤ 2560) (h : Rel s t (12 * i)) (hN : ∀ (s9 : SS) (t9 : TT), Rel s9 t9 (12 * i + 60) → Wp (pl_K L xs) 220 1579 [some (.ref pm_B), some (.ref 0), some (.ref 51), some (.int (nI i))] [] (mk s9 t9) PL) : Wp (pl_K L xs) 220 1140 [some (.ref pm_B), some (.ref 0), some (.ref 51), some (.int (nI i))] [] (mk s t) PL := by
  obtain ⟨r, s1, s2, t1, t2, e1, e2, h2⟩ := s_alterRow (xs (i + 1)) (xs (i + 2)) (xs (i + 3)) h
  refine w_la rfl rfl ?_
  refine w_la rfl rfl ?_
  refine w_li rfl rfl ?_
  refine w_ci rfl ?_
  refine w_iadd rfl ?_
  refine w_ia rfl (row_B (mk_len s t)) (ixa (c := 1) (xs := xs) rfl (by omega) hL).1 (ixa (c := 1) (xs := xs) rfl (by omega) hL).2 ?_
  refine w_la rfl rfl ?_
  refine w_li rfl rfl ?_
  refine w_ci rfl ?_
  refine w_iadd rfl ?_
  refine w_ia rfl (row_B (mk_len s t)) (ixa (c := 2) (xs := xs) rfl (by omega) hL).1 (ixa (c := 2) (xs := xs) rfl (by omega) hL).2 ?_
  refine w_la rfl rfl ?_
  refine w_li rfl rfl ?_
  refine w_ci rfl ?_
  refine w_iadd rfl ?_
  refine w_ia rfl (row_B (mk_len s t)) (ixa (c := 3) (xs := xs) rfl (by omega) hL).1 (ixa (c := 3) (xs := xs) rfl (by omega) hL).2 ?_
  refine w_vi3 (pl_KK L xs) rfl (mg_0 s t) (Nat.le_of_ble_eq_true rfl) (T_X5_alterRow e1) (fun r2 h2 q => by rw [q.2]; rfl) (fun r2 h2 q => ?_)
  obtain ⟨rfl, rfl⟩ := q
  refine w_pop rfl rfl ?_
  refine w_la rfl rfl ?_
  refine w_la rfl rfl ?_
  refine w_li rfl rfl ?_
  refine w_ci rfl ?_
  refine w_iadd rfl ?_
  refine w_ia rfl (row_B (mk_len s1 t1)) (ixa (c := 1) (xs := xs) rfl (by omega) hL).1 (ixa (c := 1) (xs := xs) rfl (by omega) hL).2 ?_
  refine w_la rfl rfl ?_
  refine w_li rfl rfl ?_
  refine w_ci rfl ?_
  refine w_iadd rfl ?_
  refine w_ia rfl (row_B (mk_len s1 t1)) (ixa (c := 2) (xs := xs) rfl (by omega) hL).1 (ixa (c := 2) (xs := xs) rfl (by omega) hL).2 ?_
  refine w_la rfl rfl ?_
  refine w_li rfl rfl ?_
  refine w_ci rfl ?_
  refine w_iadd rfl ?_
  refine w_ia rfl (row_B (mk_len s1 t1)) (ixa (c := 3) (xs := xs) rfl (by omega) hL).1 (ixa (c := 3) (xs := xs) rfl (by omega) hL).2 ?_
  refine w_vi3 (pl_KK L xs) rfl (mg_51 s1 t1) (Nat.le_of_ble_eq_true rfl) (T_X6_alterRow e2) (fun r2 h2 q => by rw [q.2]; rfl) (fun r2 h2 q => ?_)
  obtain ⟨rfl, rfl⟩ := q
  refine w_pop rfl rfl ?_
  refine w_go rfl ?_
  exact hN s2 t2 h2
set_option maxRecDepth 100000 in
set_option maxHeartbeats 400000 in
theorem arm_31 {L i : Nat} {xs : Nat → Int32} {s : SS} {t : TT} (hi : i + 5 ≤ L) (hL : L ≤ 2560) (h : Rel s t (12 * i)) (hN : ∀ (s9 : SS) (t9 : TT), Rel s9 t9 (12 * i + 60) → Wp (pl_K L xs) 220 1579 [some (.ref pm_B), some (.ref 0), some (.ref 51), some (.int (nI i))] [] (mk s9 t9) PL) : Wp (pl_K L xs) 220 1183 [some (.ref pm_B), some (.ref 0), some (.ref 51), some (.int (nI i))] [] (mk s t) PL := by
  obtain ⟨r, s1, s2, t1, t2, e1, e2, h2⟩ := s_judge (by omega) (xs (i + 1)) h
  refine w_la rfl rfl ?_
  refine w_la rfl rfl ?_
  refine w_li rfl rfl ?_
  refine w_ci rfl ?_
  refine w_iadd rfl ?_
  refine w_ia rfl (row_B (mk_len s t)) (ixa (c := 1) (xs := xs) rfl (by omega) hL).1 (ixa (c := 1) (xs := xs) rfl (by omega) hL).2 ?_
  refine w_vi1 (pl_KK L xs) rfl (mg_0 s t) (Nat.le_of_ble_eq_true rfl) (T_X5_judge e1) (fun r2 h2 q => by rw [q.2]; rfl) (fun r2 h2 q => ?_)
  obtain ⟨rfl, rfl⟩ := q
  refine w_pop rfl rfl ?_
  refine w_la rfl rfl ?_
  refine w_la rfl rfl ?_
  refine w_li rfl rfl ?_
  refine w_ci rfl ?_
  refine w_iadd rfl ?_
  refine w_ia rfl (row_B (mk_len s1 t1)) (ixa (c := 1) (xs := xs) rfl (by omega) hL).1 (ixa (c := 1) (xs := xs) rfl (by omega) hL).2 ?_
  refine w_vi1 (pl_KK L xs) rfl (mg_51 s1 t1) (Nat.le_of_ble_eq_true rfl) (T_X6_judge e2) (fun r2 h2 q => by rw [q.2]; rfl) (fun r2 h2 q => ?_)
  obtain ⟨rfl, rfl⟩ := q
  refine w_pop rfl rfl ?_
  refine w_go rfl ?_
  exact hN s2 t2 h2
set_option maxRecDepth 100000 in
set_option maxHeartbeats 400000 in
theorem arm_32 {L i : Nat} {xs : Nat → Int32} {s : SS} {t : TT} (hi : i + 5 ≤ L) (hL : L ≤ 2560) (h : Rel s t (12 * i)) (hN : ∀ (s9 : SS) (t9 : TT), Rel s9 t9 (12 * i + 60) → Wp (pl_K L xs) 220 1579 [some (.ref pm_B), some (.ref 0), some (.ref 51), some (.int (nI i))] [] (mk s9 t9) PL) : Wp (pl_K L xs) 220 1206 [some (.ref pm_B), some (.ref 0), some (.ref 51), some (.int (nI i))] [] (mk s t) PL := by
  obtain ⟨r, s1, s2, t1, t2, e1, e2, h2⟩ := s_minds (xs (i + 1)) (xs (i + 2)) (xs (i + 3)) (xs (i + 4)) h
  refine w_la rfl rfl ?_
  refine w_la rfl rfl ?_
  refine w_li rfl rfl ?_
  refine w_ci rfl ?_
  refine w_iadd rfl ?_
  refine w_ia rfl (row_B (mk_len s t)) (ixa (c := 1) (xs := xs) rfl (by omega) hL).1 (ixa (c := 1) (xs := xs) rfl (by omega) hL).2 ?_
  refine w_la rfl rfl ?_
  refine w_li rfl rfl ?_
  refine w_ci rfl ?_
  refine w_iadd rfl ?_
  refine w_ia rfl (row_B (mk_len s t)) (ixa (c := 2) (xs := xs) rfl (by omega) hL).1 (ixa (c := 2) (xs := xs) rfl (by omega) hL).2 ?_
  refine w_la rfl rfl ?_
  refine w_li rfl rfl ?_
  refine w_ci rfl ?_
  refine w_iadd rfl ?_
  refine w_ia rfl (row_B (mk_len s t)) (ixa (c := 3) (xs := xs) rfl (by omega) hL).1 (ixa (c := 3) (xs := xs) rfl (by omega) hL).2 ?_
  refine w_la rfl rfl ?_
  refine w_li rfl rfl ?_
  refine w_ci rfl ?_
  refine w_iadd rfl ?_
  refine w_ia rfl (row_B (mk_len s t)) (ixa (c := 4) (xs := xs) rfl (by omega) hL).1 (ixa (c := 4) (xs := xs) rfl (by omega) hL).2 ?_
  refine w_vi4 (pl_KK L xs) rfl (mg_0 s t) (Nat.le_of_ble_eq_true rfl) (T_X5_minds e1) (fun r2 h2 q => by rw [q.2]; rfl) (fun r2 h2 q => ?_)
  obtain ⟨rfl, rfl⟩ := q
  refine w_pop rfl rfl ?_
  refine w_la rfl rfl ?_
  refine w_la rfl rfl ?_
  refine w_li rfl rfl ?_
  refine w_ci rfl ?_
  refine w_iadd rfl ?_
  refine w_ia rfl (row_B (mk_len s1 t1)) (ixa (c := 1) (xs := xs) rfl (by omega) hL).1 (ixa (c := 1) (xs := xs) rfl (by omega) hL).2 ?_
  refine w_la rfl rfl ?_
  refine w_li rfl rfl ?_
  refine w_ci rfl ?_
  refine w_iadd rfl ?_
  refine w_ia rfl (row_B (mk_len s1 t1)) (ixa (c := 2) (xs := xs) rfl (by omega) hL).1 (ixa (c := 2) (xs := xs) rfl (by omega) hL).2 ?_
  refine w_la rfl rfl ?_
  refine w_li rfl rfl ?_
  refine w_ci rfl ?_
  refine w_iadd rfl ?_
  refine w_ia rfl (row_B (mk_len s1 t1)) (ixa (c := 3) (xs := xs) rfl (by omega) hL).1 (ixa (c := 3) (xs := xs) rfl (by omega) hL).2 ?_
  refine w_la rfl rfl ?_
  refine w_li rfl rfl ?_
  refine w_ci rfl ?_
  refine w_iadd rfl ?_
  refine w_ia rfl (row_B (mk_len s1 t1)) (ixa (c := 4) (xs := xs) rfl (by omega) hL).1 (ixa (c := 4) (xs := xs) rfl (by omega) hL).2 ?_
  refine w_vi4 (pl_KK L xs) rfl (mg_51 s1 t1) (Nat.le_of_ble_eq_true rfl) (T_X6_minds e2) (fun r2 h2 q => by rw [q.2]; rfl) (fun r2 h2 q => ?_)
  obtain ⟨rfl, rfl⟩ := q
  refine w_pop rfl rfl ?_
  refine w_go rfl ?_
  exact hN s2 t2 h2
set_option maxRecDepth 100000 in
set_option maxHeartbeats 400000 in
theorem arm_33 {L i : Nat} {xs : Nat → Int32} {s : SS} {t : TT} (hi : i + 5 ≤ L) (hL : L ≤ 2560) (h : Rel s t (12 * i)) (hN : ∀ (s9 : SS) (t9 : TT), Rel s9 t9 (12 * i + 60) → Wp (pl_K L xs) 220 1579 [some (.ref pm_B), some (.ref 0), some (.ref 51), some (.int (nI i))] [] (mk s9 t9) PL) : Wp (pl_K L xs) 220 1259 [some (.ref pm_B), some (.ref 0), some (.ref 51), some (.int (nI i))] [] (mk s t) PL := by
  obtain ⟨r, s1, s2, t1, t2, e1, e2, h2⟩ := s_sheet (xs (i + 1)) (xs (i + 2)) (xs (i + 3)) h
  refine w_la rfl rfl ?_
  refine w_la rfl rfl ?_
  refine w_li rfl rfl ?_
  refine w_ci rfl ?_
  refine w_iadd rfl ?_
  refine w_ia rfl (row_B (mk_len s t)) (ixa (c := 1) (xs := xs) rfl (by omega) hL).1 (ixa (c := 1) (xs := xs) rfl (by omega) hL).2 ?_
  refine w_la rfl rfl ?_
  refine w_li rfl rfl ?_
  refine w_ci rfl ?_
  refine w_iadd rfl ?_
  refine w_ia rfl (row_B (mk_len s t)) (ixa (c := 2) (xs := xs) rfl (by omega) hL).1 (ixa (c := 2) (xs := xs) rfl (by omega) hL).2 ?_
  refine w_la rfl rfl ?_
  refine w_li rfl rfl ?_
  refine w_ci rfl ?_
  refine w_iadd rfl ?_
  refine w_ia rfl (row_B (mk_len s t)) (ixa (c := 3) (xs := xs) rfl (by omega) hL).1 (ixa (c := 3) (xs := xs) rfl (by omega) hL).2 ?_
  refine w_vi3 (pl_KK L xs) rfl (mg_0 s t) (Nat.le_of_ble_eq_true rfl) (T_X5_sheet e1) (fun r2 h2 q => by rw [q.2]; rfl) (fun r2 h2 q => ?_)
  obtain ⟨rfl, rfl⟩ := q
  refine w_pop rfl rfl ?_
  refine w_la rfl rfl ?_
  refine w_la rfl rfl ?_
  refine w_li rfl rfl ?_
  refine w_ci rfl ?_
  refine w_iadd rfl ?_
  refine w_ia rfl (row_B (mk_len s1 t1)) (ixa (c := 1) (xs := xs) rfl (by omega) hL).1 (ixa (c := 1) (xs := xs) rfl (by omega) hL).2 ?_
  refine w_la rfl rfl ?_
  refine w_li rfl rfl ?_
  refine w_ci rfl ?_
  refine w_iadd rfl ?_
  refine w_ia rfl (row_B (mk_len s1 t1)) (ixa (c := 2) (xs := xs) rfl (by omega) hL).1 (ixa (c := 2) (xs := xs) rfl (by omega) hL).2 ?_
  refine w_la rfl rfl ?_
  refine w_li rfl rfl ?_
  refine w_ci rfl ?_
  refine w_iadd rfl ?_
  refine w_ia rfl (row_B (mk_len s1 t1)) (ixa (c := 3) (xs := xs) rfl (by omega) hL).1 (ixa (c := 3) (xs := xs) rfl (by omega) hL).2 ?_
  refine w_vi3 (pl_KK L xs) rfl (mg_51 s1 t1) (Nat.le_of_ble_eq_true rfl) (T_X6_sheet e2) (fun r2 h2 q => by rw [q.2]; rfl) (fun r2 h2 q => ?_)
  obtain ⟨rfl, rfl⟩ := q
  refine w_pop rfl rfl ?_
  refine w_go rfl ?_
  exact hN s2 t2 h2
set_option maxRecDepth 100000 in
set_option maxHeartbeats 400000 in
theorem arm_34 {L i : Nat} {xs : Nat → Int32} {s : SS} {t : TT} (hi : i + 5 ≤ L) (hL : L ≤ 2560) (h : Rel s t (12 * i)) (hN : ∀ (s9 : SS) (t9 : TT), Rel s9 t9 (12 * i + 60) → Wp (pl_K L xs) 220 1579 [some (.ref pm_B), some (.ref 0), some (.ref 51), some (.int (nI i))] [] (mk s9 t9) PL) : Wp (pl_K L xs) 220 1302 [some (.ref pm_B), some (.ref 0), some (.ref 51), some (.int (nI i))] [] (mk s t) PL := by
  obtain ⟨r, s1, s2, t1, t2, e1, e2, h2⟩ := s_put (xs (i + 1)) (xs (i + 2)) (xs (i + 3)) h
  refine w_la rfl rfl ?_
  refine w_la rfl rfl ?_
  refine w_li rfl rfl ?_
  refine w_ci rfl ?_
  refine w_iadd rfl ?_
  refine w_ia rfl (row_B (mk_len s t)) (ixa (c := 1) (xs := xs) rfl (by omega) hL).1 (ixa (c := 1) (xs := xs) rfl (by omega) hL).2 ?_
  refine w_la rfl rfl ?_
  refine w_li rfl rfl ?_
  refine w_ci rfl ?_
  refine w_iadd rfl ?_
  refine w_ia rfl (row_B (mk_len s t)) (ixa (c := 2) (xs := xs) rfl (by omega) hL).1 (ixa (c := 2) (xs := xs) rfl (by omega) hL).2 ?_
  refine w_la rfl rfl ?_
  refine w_li rfl rfl ?_
  refine w_ci rfl ?_
  refine w_iadd rfl ?_
  refine w_ia rfl (row_B (mk_len s t)) (ixa (c := 3) (xs := xs) rfl (by omega) hL).1 (ixa (c := 3) (xs := xs) rfl (by omega) hL).2 ?_
  refine w_vi3 (pl_KK L xs) rfl (mg_0 s t) (Nat.le_of_ble_eq_true rfl) (T_X5_put e1) (fun r2 h2 q => by rw [q.2]; rfl) (fun r2 h2 q => ?_)
  obtain ⟨rfl, rfl⟩ := q
  refine w_pop rfl rfl ?_
  refine w_la rfl rfl ?_
  refine w_la rfl rfl ?_
  refine w_li rfl rfl ?_
  refine w_ci rfl ?_
  refine w_iadd rfl ?_
  refine w_ia rfl (row_B (mk_len s1 t1)) (ixa (c := 1) (xs := xs) rfl (by omega) hL).1 (ixa (c := 1) (xs := xs) rfl (by omega) hL).2 ?_
  refine w_la rfl rfl ?_
  refine w_li rfl rfl ?_
  refine w_ci rfl ?_
  refine w_iadd rfl ?_
  refine w_ia rfl (row_B (mk_len s1 t1)) (ixa (c := 2) (xs := xs) rfl (by omega) hL).1 (ixa (c := 2) (xs := xs) rfl (by omega) hL).2 ?_
  refine w_la rfl rfl ?_
  refine w_li rfl rfl ?_
  refine w_ci rfl ?_
  refine w_iadd rfl ?_
  refine w_ia rfl (row_B (mk_len s1 t1)) (ixa (c := 3) (xs := xs) rfl (by omega) hL).1 (ixa (c := 3) (xs := xs) rfl (by omega) hL).2 ?_
  refine w_vi3 (pl_KK L xs) rfl (mg_51 s1 t1) (Nat.le_of_ble_eq_true rfl) (T_X6_put e2) (fun r2 h2 q => by rw [q.2]; rfl) (fun r2 h2 q => ?_)
  obtain ⟨rfl, rfl⟩ := q
  refine w_pop rfl rfl ?_
  refine w_go rfl ?_
  exact hN s2 t2 h2
set_option maxRecDepth 100000 in
set_option maxHeartbeats 400000 in
theorem arm_35 {L i : Nat} {xs : Nat → Int32} {s : SS} {t : TT} (hi : i + 5 ≤ L) (hL : L ≤ 2560) (h : Rel s t (12 * i)) (hN : ∀ (s9 : SS) (t9 : TT), Rel s9 t9 (12 * i + 60) → Wp (pl_K L xs) 220 1579 [some (.ref pm_B), some (.ref 0), some (.ref 51), some (.int (nI i))] [] (mk s9 t9) PL) : Wp (pl_K L xs) 220 1345 [some (.ref pm_B), some (.ref 0), some (.ref 51), some (.int (nI i))] [] (mk s t) PL := by
  obtain ⟨r, s1, s2, t1, t2, e1, e2, h2⟩ := s_item (xs (i + 1)) (xs (i + 2)) (xs (i + 3)) h
  refine w_la rfl rfl ?_
  refine w_la rfl rfl ?_
  refine w_li rfl rfl ?_
  refine w_ci rfl ?_
  refine w_iadd rfl ?_
  refine w_ia rfl (row_B (mk_len s t)) (ixa (c := 1) (xs := xs) rfl (by omega) hL).1 (ixa (c := 1) (xs := xs) rfl (by omega) hL).2 ?_
  refine w_la rfl rfl ?_
  refine w_li rfl rfl ?_
  refine w_ci rfl ?_
  refine w_iadd rfl ?_
  refine w_ia rfl (row_B (mk_len s t)) (ixa (c := 2) (xs := xs) rfl (by omega) hL).1 (ixa (c := 2) (xs := xs) rfl (by omega) hL).2 ?_
  refine w_la rfl rfl ?_
  refine w_li rfl rfl ?_
  refine w_ci rfl ?_
  refine w_iadd rfl ?_
  refine w_ia rfl (row_B (mk_len s t)) (ixa (c := 3) (xs := xs) rfl (by omega) hL).1 (ixa (c := 3) (xs := xs) rfl (by omega) hL).2 ?_
  refine w_vi3 (pl_KK L xs) rfl (mg_0 s t) (Nat.le_of_ble_eq_true rfl) (T_X5_item e1) (fun r2 h2 q => by rw [q.2]; rfl) (fun r2 h2 q => ?_)
  obtain ⟨rfl, rfl⟩ := q
  refine w_pop rfl rfl ?_
  refine w_la rfl rfl ?_
  refine w_la rfl rfl ?_
  refine w_li rfl rfl ?_
  refine w_ci rfl ?_
  refine w_iadd rfl ?_
  refine w_ia rfl (row_B (mk_len s1 t1)) (ixa (c := 1) (xs := xs) rfl (by omega) hL).1 (ixa (c := 1) (xs := xs) rfl (by omega) hL).2 ?_
  refine w_la rfl rfl ?_
  refine w_li rfl rfl ?_
  refine w_ci rfl ?_
  refine w_iadd rfl ?_
  refine w_ia rfl (row_B (mk_len s1 t1)) (ixa (c := 2) (xs := xs) rfl (by omega) hL).1 (ixa (c := 2) (xs := xs) rfl (by omega) hL).2 ?_
  refine w_la rfl rfl ?_
  refine w_li rfl rfl ?_
  refine w_ci rfl ?_
  refine w_iadd rfl ?_
  refine w_ia rfl (row_B (mk_len s1 t1)) (ixa (c := 3) (xs := xs) rfl (by omega) hL).1 (ixa (c := 3) (xs := xs) rfl (by omega) hL).2 ?_
  refine w_vi3 (pl_KK L xs) rfl (mg_51 s1 t1) (Nat.le_of_ble_eq_true rfl) (T_X6_item e2) (fun r2 h2 q => by rw [q.2]; rfl) (fun r2 h2 q => ?_)
  obtain ⟨rfl, rfl⟩ := q
  refine w_pop rfl rfl ?_
  refine w_go rfl ?_
  exact hN s2 t2 h2
set_option maxRecDepth 100000 in
set_option maxHeartbeats 400000 in
theorem arm_36 {L i : Nat} {xs : Nat → Int32} {s : SS} {t : TT} (hi : i + 5 ≤ L) (hL : L ≤ 2560) (h : Rel s t (12 * i)) (hN : ∀ (s9 : SS) (t9 : TT), Rel s9 t9 (12 * i + 60) → Wp (pl_K L xs) 220 1579 [some (.ref pm_B), some (.ref 0), some (.ref 51), some (.int (nI i))] [] (mk s9 t9) PL) : Wp (pl_K L xs) 220 1388 [some (.ref pm_B), some (.ref 0), some (.ref 51), some (.int (nI i))] [] (mk s t) PL := by
  obtain ⟨r, s1, s2, t1, t2, e1, e2, h2⟩ := s_shelf (xs (i + 1)) (xs (i + 2)) (xs (i + 3)) h
  refine w_la rfl rfl ?_
  refine w_la rfl rfl ?_
  refine w_li rfl rfl ?_
  refine w_ci rfl ?_
  refine w_iadd rfl ?_
  refine w_ia rfl (row_B (mk_len s t)) (ixa (c := 1) (xs := xs) rfl (by omega) hL).1 (ixa (c := 1) (xs := xs) rfl (by omega) hL).2 ?_
  refine w_la rfl rfl ?_
  refine w_li rfl rfl ?_
  refine w_ci rfl ?_
  refine w_iadd rfl ?_
  refine w_ia rfl (row_B (mk_len s t)) (ixa (c := 2) (xs := xs) rfl (by omega) hL).1 (ixa (c := 2) (xs := xs) rfl (by omega) hL).2 ?_
  refine w_la rfl rfl ?_
  refine w_li rfl rfl ?_
  refine w_ci rfl ?_
  refine w_iadd rfl ?_
  refine w_ia rfl (row_B (mk_len s t)) (ixa (c := 3) (xs := xs) rfl (by omega) hL).1 (ixa (c := 3) (xs := xs) rfl (by omega) hL).2 ?_
  refine w_vi3 (pl_KK L xs) rfl (mg_0 s t) (Nat.le_of_ble_eq_true rfl) (T_X5_shelf e1) (fun r2 h2 q => by rw [q.2]; rfl) (fun r2 h2 q => ?_)
  obtain ⟨rfl, rfl⟩ := q
  refine w_pop rfl rfl ?_
  refine w_la rfl rfl ?_
  refine w_la rfl rfl ?_
  refine w_li rfl rfl ?_
  refine w_ci rfl ?_
  refine w_iadd rfl ?_
  refine w_ia rfl (row_B (mk_len s1 t1)) (ixa (c := 1) (xs := xs) rfl (by omega) hL).1 (ixa (c := 1) (xs := xs) rfl (by omega) hL).2 ?_
  refine w_la rfl rfl ?_
  refine w_li rfl rfl ?_
  refine w_ci rfl ?_
  refine w_iadd rfl ?_
  refine w_ia rfl (row_B (mk_len s1 t1)) (ixa (c := 2) (xs := xs) rfl (by omega) hL).1 (ixa (c := 2) (xs := xs) rfl (by omega) hL).2 ?_
  refine w_la rfl rfl ?_
  refine w_li rfl rfl ?_
  refine w_ci rfl ?_
  refine w_iadd rfl ?_
  refine w_ia rfl (row_B (mk_len s1 t1)) (ixa (c := 3) (xs := xs) rfl (by omega) hL).1 (ixa (c := 3) (xs := xs) rfl (by omega) hL).2 ?_
  refine w_vi3 (pl_KK L xs) rfl (mg_51 s1 t1) (Nat.le_of_ble_eq_true rfl) (T_X6_shelf e2) (fun r2 h2 q => by rw [q.2]; rfl) (fun r2 h2 q => ?_)
  obtain ⟨rfl, rfl⟩ := q
  refine w_pop rfl rfl ?_
  refine w_go rfl ?_
  exact hN s2 t2 h2
set_option maxRecDepth 100000 in
set_option maxHeartbeats 400000 in
theorem arm_37 {L i : Nat} {xs : Nat → Int32} {s : SS} {t : TT} (hi : i + 5 ≤ L) (hL : L ≤ 2560) (h : Rel s t (12 * i)) (hN : ∀ (s9 : SS) (t9 : TT), Rel s9 t9 (12 * i + 60) → Wp (pl_K L xs) 220 1579 [some (.ref pm_B), some (.ref 0), some (.ref 51), some (.int (nI i))] [] (mk s9 t9) PL) : Wp (pl_K L xs) 220 1431 [some (.ref pm_B), some (.ref 0), some (.ref 51), some (.int (nI i))] [] (mk s t) PL := by
  obtain ⟨r, s1, s2, t1, t2, e1, e2, h2⟩ := s_taken (xs (i + 1)) (xs (i + 2)) h
  refine w_la rfl rfl ?_
  refine w_la rfl rfl ?_
  refine w_li rfl rfl ?_
  refine w_ci rfl ?_
  refine w_iadd rfl ?_
  refine w_ia rfl (row_B (mk_len s t)) (ixa (c := 1) (xs := xs) rfl (by omega) hL).1 (ixa (c := 1) (xs := xs) rfl (by omega) hL).2 ?_
  refine w_la rfl rfl ?_
  refine w_li rfl rfl ?_
  refine w_ci rfl ?_
  refine w_iadd rfl ?_
  refine w_ia rfl (row_B (mk_len s t)) (ixa (c := 2) (xs := xs) rfl (by omega) hL).1 (ixa (c := 2) (xs := xs) rfl (by omega) hL).2 ?_
  refine w_vi2 (pl_KK L xs) rfl (mg_0 s t) (Nat.le_of_ble_eq_true rfl) (T_X5_taken e1) (fun r2 h2 q => by rw [q.2]; rfl) (fun r2 h2 q => ?_)
  obtain ⟨rfl, rfl⟩ := q
  refine w_pop rfl rfl ?_
  refine w_la rfl rfl ?_
  refine w_la rfl rfl ?_
  refine w_li rfl rfl ?_
  refine w_ci rfl ?_
  refine w_iadd rfl ?_
  refine w_ia rfl (row_B (mk_len s1 t1)) (ixa (c := 1) (xs := xs) rfl (by omega) hL).1 (ixa (c := 1) (xs := xs) rfl (by omega) hL).2 ?_
  refine w_la rfl rfl ?_
  refine w_li rfl rfl ?_
  refine w_ci rfl ?_
  refine w_iadd rfl ?_
  refine w_ia rfl (row_B (mk_len s1 t1)) (ixa (c := 2) (xs := xs) rfl (by omega) hL).1 (ixa (c := 2) (xs := xs) rfl (by omega) hL).2 ?_
  refine w_vi2 (pl_KK L xs) rfl (mg_51 s1 t1) (Nat.le_of_ble_eq_true rfl) (T_X6_taken e2) (fun r2 h2 q => by rw [q.2]; rfl) (fun r2 h2 q => ?_)
  obtain ⟨rfl, rfl⟩ := q
  refine w_pop rfl rfl ?_
  refine w_go rfl ?_
  exact hN s2 t2 h2
set_option maxRecDepth 100000 in
set_option maxHeartbeats 400000 in
theorem arm_38 {L i : Nat} {xs : Nat → Int32} {s : SS} {t : TT} (hi : i + 5 ≤ L) (hL : L ≤ 2560) (h : Rel s t (12 * i)) (hN : ∀ (s9 : SS) (t9 : TT), Rel s9 t9 (12 * i + 60) → Wp (pl_K L xs) 220 1579 [some (.ref pm_B), some (.ref 0), some (.ref 51), some (.int (nI i))] [] (mk s9 t9) PL) : Wp (pl_K L xs) 220 1464 [some (.ref pm_B), some (.ref 0), some (.ref 51), some (.int (nI i))] [] (mk s t) PL := by
  obtain ⟨r, s1, s2, t1, t2, e1, e2, h2⟩ := s_act (xs (i + 1)) (xs (i + 2)) (xs (i + 3)) h
  refine w_la rfl rfl ?_
  refine w_la rfl rfl ?_
  refine w_li rfl rfl ?_
  refine w_ci rfl ?_
  refine w_iadd rfl ?_
  refine w_ia rfl (row_B (mk_len s t)) (ixa (c := 1) (xs := xs) rfl (by omega) hL).1 (ixa (c := 1) (xs := xs) rfl (by omega) hL).2 ?_
  refine w_la rfl rfl ?_
  refine w_li rfl rfl ?_
  refine w_ci rfl ?_
  refine w_iadd rfl ?_
  refine w_ia rfl (row_B (mk_len s t)) (ixa (c := 2) (xs := xs) rfl (by omega) hL).1 (ixa (c := 2) (xs := xs) rfl (by omega) hL).2 ?_
  refine w_la rfl rfl ?_
  refine w_li rfl rfl ?_
  refine w_ci rfl ?_
  refine w_iadd rfl ?_
  refine w_ia rfl (row_B (mk_len s t)) (ixa (c := 3) (xs := xs) rfl (by omega) hL).1 (ixa (c := 3) (xs := xs) rfl (by omega) hL).2 ?_
  refine w_vi3 (pl_KK L xs) rfl (mg_0 s t) (Nat.le_of_ble_eq_true rfl) (T_X5_act e1) (fun r2 h2 q => by rw [q.2]; rfl) (fun r2 h2 q => ?_)
  obtain ⟨rfl, rfl⟩ := q
  refine w_pop rfl rfl ?_
  refine w_la rfl rfl ?_
  refine w_la rfl rfl ?_
  refine w_li rfl rfl ?_
  refine w_ci rfl ?_
  refine w_iadd rfl ?_
  refine w_ia rfl (row_B (mk_len s1 t1)) (ixa (c := 1) (xs := xs) rfl (by omega) hL).1 (ixa (c := 1) (xs := xs) rfl (by omega) hL).2 ?_
  refine w_la rfl rfl ?_
  refine w_li rfl rfl ?_
  refine w_ci rfl ?_
  refine w_iadd rfl ?_
  refine w_ia rfl (row_B (mk_len s1 t1)) (ixa (c := 2) (xs := xs) rfl (by omega) hL).1 (ixa (c := 2) (xs := xs) rfl (by omega) hL).2 ?_
  refine w_la rfl rfl ?_
  refine w_li rfl rfl ?_
  refine w_ci rfl ?_
  refine w_iadd rfl ?_
  refine w_ia rfl (row_B (mk_len s1 t1)) (ixa (c := 3) (xs := xs) rfl (by omega) hL).1 (ixa (c := 3) (xs := xs) rfl (by omega) hL).2 ?_
  refine w_vi3 (pl_KK L xs) rfl (mg_51 s1 t1) (Nat.le_of_ble_eq_true rfl) (T_X6_act e2) (fun r2 h2 q => by rw [q.2]; rfl) (fun r2 h2 q => ?_)
  obtain ⟨rfl, rfl⟩ := q
  refine w_pop rfl rfl ?_
  refine w_go rfl ?_
  exact hN s2 t2 h2
set_option maxRecDepth 100000 in
set_option maxHeartbeats 400000 in
theorem arm_39 {L i : Nat} {xs : Nat → Int32} {s : SS} {t : TT} (hi : i + 5 ≤ L) (hL : L ≤ 2560) (h : Rel s t (12 * i)) (hN : ∀ (s9 : SS) (t9 : TT), Rel s9 t9 (12 * i + 60) → Wp (pl_K L xs) 220 1579 [some (.ref pm_B), some (.ref 0), some (.ref 51), some (.int (nI i))] [] (mk s9 t9) PL) : Wp (pl_K L xs) 220 1507 [some (.ref pm_B), some (.ref 0), some (.ref 51), some (.int (nI i))] [] (mk s t) PL := by
  obtain ⟨r, s1, s2, t1, t2, e1, e2, h2⟩ := s_trace (xs (i + 1)) h
  refine w_la rfl rfl ?_
  refine w_la rfl rfl ?_
  refine w_li rfl rfl ?_
  refine w_ci rfl ?_
  refine w_iadd rfl ?_
  refine w_ia rfl (row_B (mk_len s t)) (ixa (c := 1) (xs := xs) rfl (by omega) hL).1 (ixa (c := 1) (xs := xs) rfl (by omega) hL).2 ?_
  refine w_vi1 (pl_KK L xs) rfl (mg_0 s t) (Nat.le_of_ble_eq_true rfl) (T_X5_trace e1) (fun r2 h2 q => by rw [q.2]; rfl) (fun r2 h2 q => ?_)
  obtain ⟨rfl, rfl⟩ := q
  refine w_pop rfl rfl ?_
  refine w_la rfl rfl ?_
  refine w_la rfl rfl ?_
  refine w_li rfl rfl ?_
  refine w_ci rfl ?_
  refine w_iadd rfl ?_
  refine w_ia rfl (row_B (mk_len s1 t1)) (ixa (c := 1) (xs := xs) rfl (by omega) hL).1 (ixa (c := 1) (xs := xs) rfl (by omega) hL).2 ?_
  refine w_vi1 (pl_KK L xs) rfl (mg_51 s1 t1) (Nat.le_of_ble_eq_true rfl) (T_X6_trace e2) (fun r2 h2 q => by rw [q.2]; rfl) (fun r2 h2 q => ?_)
  obtain ⟨rfl, rfl⟩ := q
  refine w_pop rfl rfl ?_
  refine w_go rfl ?_
  exact hN s2 t2 h2
set_option maxRecDepth 100000 in
set_option maxHeartbeats 400000 in
theorem arm_40 {L i : Nat} {xs : Nat → Int32} {s : SS} {t : TT} (hi : i + 5 ≤ L) (hL : L ≤ 2560) (h : Rel s t (12 * i)) (hN : ∀ (s9 : SS) (t9 : TT), Rel s9 t9 (12 * i + 60) → Wp (pl_K L xs) 220 1579 [some (.ref pm_B), some (.ref 0), some (.ref 51), some (.int (nI i))] [] (mk s9 t9) PL) : Wp (pl_K L xs) 220 1530 [some (.ref pm_B), some (.ref 0), some (.ref 51), some (.int (nI i))] [] (mk s t) PL := by
  obtain ⟨r, s1, s2, t1, t2, e1, e2, h2⟩ := s_many (xs (i + 1)) h
  refine w_la rfl rfl ?_
  refine w_la rfl rfl ?_
  refine w_li rfl rfl ?_
  refine w_ci rfl ?_
  refine w_iadd rfl ?_
  refine w_ia rfl (row_B (mk_len s t)) (ixa (c := 1) (xs := xs) rfl (by omega) hL).1 (ixa (c := 1) (xs := xs) rfl (by omega) hL).2 ?_
  refine w_vi1 (pl_KK L xs) rfl (mg_0 s t) (Nat.le_of_ble_eq_true rfl) (T_X5_many e1) (fun r2 h2 q => by rw [q.2]; rfl) (fun r2 h2 q => ?_)
  obtain ⟨rfl, rfl⟩ := q
  refine w_pop rfl rfl ?_
  refine w_la rfl rfl ?_
  refine w_la rfl rfl ?_
  refine w_li rfl rfl ?_
  refine w_ci rfl ?_
  refine w_iadd rfl ?_
  refine w_ia rfl (row_B (mk_len s1 t1)) (ixa (c := 1) (xs := xs) rfl (by omega) hL).1 (ixa (c := 1) (xs := xs) rfl (by omega) hL).2 ?_
  refine w_vi1 (pl_KK L xs) rfl (mg_51 s1 t1) (Nat.le_of_ble_eq_true rfl) (T_X6_many e2) (fun r2 h2 q => by rw [q.2]; rfl) (fun r2 h2 q => ?_)
  obtain ⟨rfl, rfl⟩ := q
  refine w_pop rfl rfl ?_
  refine w_go rfl ?_
  exact hN s2 t2 h2
set_option maxRecDepth 100000 in
set_option maxHeartbeats 400000 in
theorem arm_41 {L i : Nat} {xs : Nat → Int32} {s : SS} {t : TT} (hi : i + 5 ≤ L) (hL : L ≤ 2560) (h : Rel s t (12 * i)) (hN : ∀ (s9 : SS) (t9 : TT), Rel s9 t9 (12 * i + 60) → Wp (pl_K L xs) 220 1579 [some (.ref pm_B), some (.ref 0), some (.ref 51), some (.int (nI i))] [] (mk s9 t9) PL) : Wp (pl_K L xs) 220 1553 [some (.ref pm_B), some (.ref 0), some (.ref 51), some (.int (nI i))] [] (mk s t) PL := by
  obtain ⟨r, s1, s2, t1, t2, e1, e2, h2⟩ := s_keep  h
  refine w_la rfl rfl ?_
  refine w_vi0 (pl_KK L xs) rfl (mg_0 s t) (Nat.le_of_ble_eq_true rfl) (T_X5_keep e1) (fun r2 h2 q => by rw [q.2]; rfl) (fun r2 h2 q => ?_)
  obtain ⟨rfl, rfl⟩ := q
  refine w_pop rfl rfl ?_
  refine w_la rfl rfl ?_
  refine w_vi0 (pl_KK L xs) rfl (mg_51 s1 t1) (Nat.le_of_ble_eq_true rfl) (T_X6_keep e2) (fun r2 h2 q => by rw [q.2]; rfl) (fun r2 h2 q => ?_)
  obtain ⟨rfl, rfl⟩ := q
  refine w_pop rfl rfl ?_
  refine w_go rfl ?_
  exact hN s2 t2 h2
set_option maxRecDepth 100000 in
set_option maxHeartbeats 400000 in
theorem arm_42 {L i : Nat} {xs : Nat → Int32} {s : SS} {t : TT} (hi : i + 5 ≤ L) (hL : L ≤ 2560) (h : Rel s t (12 * i)) (hN : ∀ (s9 : SS) (t9 : TT), Rel s9 t9 (12 * i + 60) → Wp (pl_K L xs) 220 1579 [some (.ref pm_B), some (.ref 0), some (.ref 51), some (.int (nI i))] [] (mk s9 t9) PL) : Wp (pl_K L xs) 220 1566 [some (.ref pm_B), some (.ref 0), some (.ref 51), some (.int (nI i))] [] (mk s t) PL := by
  obtain ⟨r, s1, s2, t1, t2, e1, e2, h2⟩ := s_again  h
  refine w_la rfl rfl ?_
  refine w_vi0 (pl_KK L xs) rfl (mg_0 s t) (Nat.le_of_ble_eq_true rfl) (T_X5_again e1) (fun r2 h2 q => by rw [q.2]; rfl) (fun r2 h2 q => ?_)
  obtain ⟨rfl, rfl⟩ := q
  refine w_la rfl rfl ?_
  refine w_vi0 (pl_KK L xs) rfl (mg_51 s1 t1) (Nat.le_of_ble_eq_true rfl) (T_X6_again e2) (fun r2 h2 q => by rw [q.2]; rfl) (fun r2 h2 q => ?_)
  obtain ⟨rfl, rfl⟩ := q
  exact w_ic_eq rfl (fun _ => hN s2 t2 h2) (fun c => absurd rfl c)
