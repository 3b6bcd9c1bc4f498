/-! the law: its loop and its start -/
theorem law_sw {L i : Nat} {xs : Nat → Int32} {s : SS} {t : TT} (hi : i + 5 ≤ L) (hL : L ≤ 2560) (h : Rel s t (12 * i)) (hN : ∀ (s9 : SS) (t9 : TT), Rel s9 t9 (12 * i + 60) → Wp (pl_K L xs) 220 1579 [some (.ref pm_B), some (.ref 0), some (.ref 51), some (.int (nI i))] [] (mk s9 t9) PL) : ∀ j : Nat, j < 64 → Wp (pl_K L xs) 220 32 [some (.ref pm_B), some (.ref 0), some (.ref 51), some (.int (nI i))] [.int (nI j)] (mk s t) PL := by
  intro j hj
  match j, hj with
  | 0, _ => exact w_swI rfl (show _ = 220 from by decide) (arm_0 hi hL h hN)
  | 1, _ => exact w_swI rfl (show _ = 283 from by decide) (arm_1 hi hL h hN)
  | 2, _ => exact w_swI rfl (show _ = 296 from by decide) (arm_2 hi hL h hN)
  | 3, _ => exact w_swI rfl (show _ = 329 from by decide) (arm_3 hi hL h hN)
  | 4, _ => exact w_swI rfl (show _ = 352 from by decide) (arm_4 hi hL h hN)
  | 5, _ => exact w_swI rfl (show _ = 405 from by decide) (arm_5 hi hL h hN)
  | 6, _ => exact w_swI rfl (show _ = 438 from by decide) (arm_6 hi hL h hN)
  | 7, _ => exact w_swI rfl (show _ = 471 from by decide) (arm_7 hi hL h hN)
  | 8, _ => exact w_swI rfl (show _ = 514 from by decide) (arm_8 hi hL h hN)
  | 9, _ => exact w_swI rfl (show _ = 547 from by decide) (arm_9 hi hL h hN)
  | 10, _ => exact w_swI rfl (show _ = 580 from by decide) (arm_10 hi hL h hN)
  | 11, _ => exact w_swI rfl (show _ = 613 from by decide) (arm_11 hi hL h hN)
  | 12, _ => exact w_swI rfl (show _ = 636 from by decide) (arm_12 hi hL h hN)
  | 13, _ => exact w_swI rfl (show _ = 659 from by decide) (arm_13 hi hL h hN)
  | 14, _ => exact w_swI rfl (show _ = 672 from by decide) (arm_14 hi hL h hN)
  | 15, _ => exact w_swI rfl (show _ = 695 from by decide) (arm_15 hi hL h hN)
  | 16, _ => exact w_swI rfl (show _ = 718 from by decide) (arm_16 hi hL h hN)
  | 17, _ => exact w_swI rfl (show _ = 741 from by decide) (arm_17 hi hL h hN)
  | 18, _ => exact w_swI rfl (show _ = 764 from by decide) (arm_18 hi hL h hN)
  | 19, _ => exact w_swI rfl (show _ = 777 from by decide) (arm_19 hi hL h hN)
  | 20, _ => exact w_swI rfl (show _ = 810 from by decide) (arm_20 hi hL h hN)
  | 21, _ => exact w_swI rfl (show _ = 843 from by decide) (arm_21 hi hL h hN)
  | 22, _ => exact w_swI rfl (show _ = 876 from by decide) (arm_22 hi hL h hN)
  | 23, _ => exact w_swI rfl (show _ = 899 from by decide) (arm_23 hi hL h hN)
  | 24, _ => exact w_swI rfl (show _ = 932 from by decide) (arm_24 hi hL h hN)
  | 25, _ => exact w_swI rfl (show _ = 955 from by decide) (arm_25 hi hL h hN)
  | 26, _ => exact w_swI rfl (show _ = 998 from by decide) (arm_26 hi hL h hN)
  | 27, _ => exact w_swI rfl (show _ = 1041 from by decide) (arm_27 hi hL h hN)
  | 28, _ => exact w_swI rfl (show _ = 1074 from by decide) (arm_28 hi hL h hN)
  | 29, _ => exact w_swI rfl (show _ = 1107 from by decide) (arm_29 hi hL h hN)
  | 30, _ => exact w_swI rfl (show _ = 1140 from by decide) (arm_30 hi hL h hN)
  | 31, _ => exact w_swI rfl (show _ = 1183 from by decide) (arm_31 hi hL h hN)
  | 32, _ => exact w_swI rfl (show _ = 1206 from by decide) (arm_32 hi hL h hN)
  | 33, _ => exact w_swI rfl (show _ = 1259 from by decide) (arm_33 hi hL h hN)
  | 34, _ => exact w_swI rfl (show _ = 1302 from by decide) (arm_34 hi hL h hN)
  | 35, _ => exact w_swI rfl (show _ = 1345 from by decide) (arm_35 hi hL h hN)
  | 36, _ => exact w_swI rfl (show _ = 1388 from by decide) (arm_36 hi hL h hN)
  | 37, _ => exact w_swI rfl (show _ = 1431 from by decide) (arm_37 hi hL h hN)
  | 38, _ => exact w_swI rfl (show _ = 1464 from by decide) (arm_38 hi hL h hN)
  | 39, _ => exact w_swI rfl (show _ = 1507 from by decide) (arm_39 hi hL h hN)
  | 40, _ => exact w_swI rfl (show _ = 1530 from by decide) (arm_40 hi hL h hN)
  | 41, _ => exact w_swI rfl (show _ = 1553 from by decide) (arm_41 hi hL h hN)
  | 42, _ => exact w_swI rfl (show _ = 1566 from by decide) (arm_42 hi hL h hN)
  | j + 43, hj => exact w_swI rfl (sw_out (m := 42) rfl (by decide) ⟨j + 43, by omega, hj, rfl⟩) (hN s t (h.more (by omega)))
set_option maxRecDepth 100000 in
set_option maxHeartbeats 400000 in
theorem law_exit {L i : Nat} {xs : Nat → Int32} {s : SS} {t : TT} (hi : L < i + 5) (hL : L ≤ 2560) (h2 : i ≤ 2570) : Wp (pl_K L xs) 220 18 [some (.ref pm_B), some (.ref 0), some (.ref 51), some (.int (nI i))] [] (mk s t) PL := by
  refine w_li rfl rfl ?_
  refine w_la rfl rfl ?_
  refine w_len rfl (len_B (mk_len s t)) ?_
  refine w_ci rfl ?_
  refine w_isub rfl ?_
  refine w_ic_gt rfl (fun c => ?_) (fun c => absurd ((end_n hL h2).mpr hi) c)
  refine w_ci rfl ?_
  refine w_rz rfl (by decide) ?_
  exact ⟨rfl, mk_len s t, mk_zs s t⟩
set_option maxRecDepth 100000 in
set_option maxHeartbeats 400000 in
theorem law_loop {L : Nat} {xs : Nat → Int32} (hL : L ≤ 2560) : ∀ (d i : Nat) (s : SS) (t : TT), L < i + d → i ≤ L + 5 → Rel s t (12 * i) → Wp (pl_K L xs) 220 18 [some (.ref pm_B), some (.ref 0), some (.ref 51), some (.int (nI i))] [] (mk s t) PL
  | 0, i, s, t, hd, h5, h => law_exit (by omega) hL (by omega)
  | d + 1, i, s, t, hd, h5, h => by
    by_cases c5 : i + 5 ≤ L
    · refine w_li rfl rfl ?_
      refine w_la rfl rfl ?_
      refine w_len rfl (len_B (mk_len s t)) ?_
      refine w_ci rfl ?_
      refine w_isub rfl ?_
      refine w_ic_gt rfl (fun c => absurd ((end_n hL (by omega)).mp c) (by omega)) (fun c => ?_)
      refine w_la rfl rfl ?_
      refine w_li rfl rfl ?_
      refine w_ia rfl (row_B (mk_len s t)) (ixz (xs := xs) (by omega) hL).1 (ixz (xs := xs) (by omega) hL).2 ?_
      refine w_ci rfl ?_
      refine w_iand rfl ?_
      obtain ⟨j, hj, e⟩ := pk_andE (xs i) (m := 63) 6 (by decide)
      rw [e]
      refine law_sw c5 hL h (fun s9 t9 h9 => ?_) j (by omega)
      have ih := law_loop (xs := xs) hL d (i + 5) s9 t9 (by omega) (by omega) (by rw [Nat.mul_add]; exact h9)
      rw [show nI (i + 5) = nI i + 5 from (nI_add i 5).symm] at ih
      refine w_inc rfl rfl rfl ?_
      exact w_go rfl ih
    · exact law_exit (by omega) hL (by omega)
theorem Rel_0 : Rel s0 t0 0 := by
  have k0 : ∀ k : Nat, k < 4 → s0 2 k = s0 52 k := by decide +kernel
  have kS : ∀ q : Nat, q < 4 → s0 (37 + 3 * q) 1 = -1 ∧ s0 60 q = -1 := by decide +kernel
  have kF : ∀ q : Nat, q < 4 → (s0 (39 + 3 * q) 0 = 0 ∧ s0 63 q = 0 ∧ s0 (39 + 3 * q) 1 = s0 64 q) ∨ (s0 (39 + 3 * q) 0 = 1 ∧ s0 63 q = 1 ∧ s0 (39 + 3 * q) 2 = s0 64 q ∧ s0 (39 + 3 * q) 3 = s0 65 q) ∨ (s0 (39 + 3 * q) 0 = 2 ∧ s0 63 q = -1) := by decide +kernel
  refine ⟨⟨0, ⟨by omega, by decide +kernel, fun k hk => ?_, bd_c 0 (by decide +kernel) (by omega), bd_c 0 (by decide +kernel) (by omega), fun p hp => by omega⟩, by decide +kernel, by decide +kernel, k0, by decide +kernel, by decide +kernel, by decide +kernel, fun p hp => by omega⟩, Or.inl ⟨by decide +kernel, by decide +kernel⟩, ⟨0, by omega, by decide +kernel, by decide +kernel, fun i hi => by omega⟩, ⟨0, by omega, by decide +kernel, by decide +kernel, fun i hi => by omega⟩, fun q hq => Or.inl (kS q hq), fun q hq => kF q hq, ⟨0, by omega, by decide +kernel, by decide +kernel, fun i hi => by omega⟩, by decide +kernel⟩
  have hb : ∀ k : Nat, k < 4 → s0 52 k = nI ([3, 2, 1, 20].getD k 0) ∧ [3, 2, 1, 20].getD k 0 ≤ ml k := by decide +kernel
  exact ⟨_, (hb k hk).2, (hb k hk).1⟩
set_option maxRecDepth 100000 in
set_option maxHeartbeats 400000 in
theorem law_go {L : Nat} {xs : Nat → Int32} (hL : L ≤ 2560) : Wp (pl_K L xs) 220 0 [some (.ref pm_B), none, none, none] [] [] PL := by
  refine w_nw (b := 0) rfl rfl rfl ?_
  refine w_dup rfl rfl ?_
  refine w_ct0 (h1 := (mk s0 t0).take 51) (pl_KK L xs) rfl (Nat.le_of_ble_eq_true rfl) (Wm.run run_new5 ⟨rfl, rfl⟩) ⟨rfl, rfl⟩ ?_
  refine w_sa rfl (Nat.le_of_ble_eq_true rfl) rfl ?_
  refine w_nw (b := 51) rfl rfl rfl ?_
  refine w_dup rfl rfl ?_
  refine w_ct0 (h1 := mk s0 t0) (pl_KK L xs) rfl (Nat.le_of_ble_eq_true rfl) (Wm.run run_new6 ⟨rfl, rfl⟩) ⟨rfl, rfl⟩ ?_
  refine w_sa rfl (Nat.le_of_ble_eq_true rfl) rfl ?_
  refine w_ci rfl ?_
  refine w_si rfl (Nat.le_of_ble_eq_true rfl) rfl ?_
  exact law_loop hL (L + 1) 0 s0 t0 (by omega) (by omega) Rel_0
theorem whole_start {p : Program} {e : Env} {s : State} {m : MethodId} {below : List Frame} {meth : Method} {c : Code} (l : Launch) (hflags : l.flags = flags0) {b L : Nat} {xs : Nat → Int32} (hL : L ≤ 2560) (C0 : lw_At p s m meth c b L xs) : W p l e room_1 s m #[Value.ref b] below meth c s.heap [] 0 0 (lw_Z below #[Value.ref b] s) (entryFrame m ([Value.ref b] : List Value).toArray 4) := by
  obtain ⟨r, h', ⟨rfl, hl, hz⟩, hG⟩ := law_go (L := L) (xs := xs) hL
  exact law_sound l (by omega) C0 (fun cR D => by have q := hG cR D; rw [pT_220] at q; exact q) (by rw [hl]; decide) (by omega)
