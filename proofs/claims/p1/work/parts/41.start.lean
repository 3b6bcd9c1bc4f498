/-! p1: the law, the switch and the start -/
theorem law_sw {xs : Nat → Int32} : ∀ j : Nat, j < 64 → Wp (pl_K 5 xs) 213 32 [some (.ref pm_B), some (.ref 0), some (.ref 51), some (.int 0)] [.int (nI j)] (mk s0 t0) PL := by
  intro j hj
  match j, hj with
  | 0, _ => exact w_swI rfl (show _ = 220 from by decide) arm_0
  | 1, _ => exact w_swI rfl (show _ = 283 from by decide) arm_1
  | 2, _ => exact w_swI rfl (show _ = 296 from by decide) arm_2
  | 3, _ => exact w_swI rfl (show _ = 329 from by decide) arm_3
  | 4, _ => exact w_swI rfl (show _ = 352 from by decide) arm_4
  | 5, _ => exact w_swI rfl (show _ = 405 from by decide) arm_5
  | 6, _ => exact w_swI rfl (show _ = 438 from by decide) arm_6
  | 7, _ => exact w_swI rfl (show _ = 471 from by decide) arm_7
  | 8, _ => exact w_swI rfl (show _ = 514 from by decide) arm_8
  | 9, _ => exact w_swI rfl (show _ = 547 from by decide) arm_9
  | 10, _ => exact w_swI rfl (show _ = 580 from by decide) arm_10
  | 11, _ => exact w_swI rfl (show _ = 613 from by decide) arm_11
  | 12, _ => exact w_swI rfl (show _ = 636 from by decide) arm_12
  | 13, _ => exact w_swI rfl (show _ = 659 from by decide) arm_13
  | 14, _ => exact w_swI rfl (show _ = 672 from by decide) arm_14
  | 15, _ => exact w_swI rfl (show _ = 695 from by decide) arm_15
  | 16, _ => exact w_swI rfl (show _ = 718 from by decide) arm_16
  | 17, _ => exact w_swI rfl (show _ = 741 from by decide) arm_17
  | 18, _ => exact w_swI rfl (show _ = 764 from by decide) arm_18
  | 19, _ => exact w_swI rfl (show _ = 777 from by decide) arm_19
  | 20, _ => exact w_swI rfl (show _ = 810 from by decide) arm_20
  | 21, _ => exact w_swI rfl (show _ = 843 from by decide) arm_21
  | 22, _ => exact w_swI rfl (show _ = 876 from by decide) arm_22
  | 23, _ => exact w_swI rfl (show _ = 899 from by decide) arm_23
  | 24, _ => exact w_swI rfl (show _ = 932 from by decide) arm_24
  | 25, _ => exact w_swI rfl (show _ = 955 from by decide) arm_25
  | 26, _ => exact w_swI rfl (show _ = 998 from by decide) arm_26
  | 27, _ => exact w_swI rfl (show _ = 1042 from by decide) arm_27
  | 28, _ => exact w_swI rfl (show _ = 1076 from by decide) arm_28
  | 29, _ => exact w_swI rfl (show _ = 1109 from by decide) arm_29
  | 30, _ => exact w_swI rfl (show _ = 1142 from by decide) arm_30
  | 31, _ => exact w_swI rfl (show _ = 1185 from by decide) arm_31
  | 32, _ => exact w_swI rfl (show _ = 1208 from by decide) arm_32
  | 33, _ => exact w_swI rfl (show _ = 1261 from by decide) arm_33
  | 34, _ => exact w_swI rfl (show _ = 1304 from by decide) arm_34
  | 35, _ => exact w_swI rfl (show _ = 1347 from by decide) arm_35
  | 36, _ => exact w_swI rfl (show _ = 1390 from by decide) arm_36
  | 37, _ => exact w_swI rfl (show _ = 1433 from by decide) arm_37
  | 38, _ => exact w_swI rfl (show _ = 1466 from by decide) arm_38
  | 39, _ => exact w_swI rfl (show _ = 1509 from by decide) arm_39
  | 40, _ => exact w_swI rfl (show _ = 1532 from by decide) arm_40
  | 41, _ => exact w_swI rfl (show _ = 1555 from by decide) arm_41
  | 42, _ => exact w_swI rfl (show _ = 1568 from by decide) arm_42
  | j + 43, hj =>
    have hx : wi (nI (j + 43)) 0 (nI 42) = false := wi_gt (nI_lt (by omega) (by omega))
    exact w_swI rfl (sw_out (m := 42) rfl (by decide) hx) (law_tail (mk_len s0 t0) (mk_zs s0 t0))
set_option maxRecDepth 100000 in
set_option maxHeartbeats 400000 in
theorem law_5 {xs : Nat → Int32} : Wp (pl_K 5 xs) 213 18 [some (.ref pm_B), some (.ref 0), some (.ref 51), some (.int 0)] [] (mk s0 t0) PL := by
  have hl : (mk s0 t0).length = 67 := mk_len s0 t0
  refine w_li rfl rfl ?_
  refine w_la rfl rfl ?_
  refine w_len rfl (len_B hl) ?_
  refine w_ci rfl ?_
  refine w_isub rfl ?_
  refine w_ic_gt rfl (fun c => absurd c (show ¬ (Int32.ofNat 5 - 5 < (0 : Int32)) from by decide)) (fun c => ?_)
  refine w_la rfl rfl ?_
  refine w_li rfl rfl ?_
  refine w_ia rfl (row_B hl) (by decide) (x := xs 0) rfl ?_
  refine w_ci rfl ?_
  refine w_iand rfl ?_
  obtain ⟨j, hj, e⟩ := pk_andE (xs 0) (m := 63) 6 (by decide)
  rw [e]
  exact law_sw j (by omega)
set_option maxRecDepth 100000 in
set_option maxHeartbeats 400000 in
theorem law_lo {L : Nat} {xs : Nat → Int32} (hL : L < 5) : Wp (pl_K L xs) 213 18 [some (.ref pm_B), some (.ref 0), some (.ref 51), some (.int 0)] [] (mk s0 t0) PL := by
  have hl : (mk s0 t0).length = 67 := mk_len s0 t0
  refine w_li rfl rfl ?_
  refine w_la rfl rfl ?_
  refine w_len rfl (len_B hl) ?_
  refine w_ci rfl ?_
  refine w_isub rfl ?_
  have h0 : ∀ L : Nat, L < 5 → Int32.ofNat L - 5 < (0 : Int32) := by decide
  refine w_ic_gt rfl (fun c => ?_) (fun c => absurd (h0 L hL) c)
  refine w_ci rfl ?_
  refine w_rz rfl (by decide) ?_
  exact ⟨rfl, hl, mk_zs s0 t0⟩
set_option maxRecDepth 100000 in
set_option maxHeartbeats 400000 in
theorem law_go {L : Nat} {xs : Nat → Int32} (hL : L ≤ 5) : Wp (pl_K L xs) 213 0 [some (.ref pm_B), none, none, none] [] [] PL := by
  refine w_nw (b := 0) rfl rfl rfl ?_
  refine w_dup rfl rfl ?_
  refine w_ct0 (h1 := (mk s0 t0).take 51) (pl_KK L xs) rfl (Nat.le_of_ble_eq_true rfl) (Wm.run run_new5 ⟨rfl, rfl⟩) ⟨rfl, rfl⟩ ?_
  refine w_sa rfl (Nat.le_of_ble_eq_true rfl) rfl ?_
  refine w_nw (b := 51) rfl rfl rfl ?_
  refine w_dup rfl rfl ?_
  refine w_ct0 (h1 := mk s0 t0) (pl_KK L xs) rfl (Nat.le_of_ble_eq_true rfl) (Wm.run run_new6 ⟨rfl, rfl⟩) ⟨rfl, rfl⟩ ?_
  refine w_sa rfl (Nat.le_of_ble_eq_true rfl) rfl ?_
  refine w_ci rfl ?_
  refine w_si rfl (Nat.le_of_ble_eq_true rfl) rfl ?_
  by_cases h5 : L = 5
  · subst h5; exact law_5
  · exact law_lo (by omega)
theorem whole_start {p : Program} {e : Env} {s : State} {m : MethodId} {below : List Frame} {meth : Method} {c : Code} (l : Launch) (hflags : l.flags = flags0) {b L : Nat} {xs : Nat → Int32} (hL : L ≤ 5) (C0 : lw_At p s m meth c b L xs) : W p l e room_1 s m #[Value.ref b] below meth c s.heap [] 0 0 (lw_Z below #[Value.ref b] s) (entryFrame m ([Value.ref b] : List Value).toArray 4) := by
  obtain ⟨r, h', ⟨rfl, hl, hz⟩, hG⟩ := law_go (L := L) (xs := xs) hL
  exact law_sound l (by omega) C0 (fun cR D => by have q := hG cR D; rw [pT_213] at q; exact q) (by rw [hl]; decide) (by omega)
