/-! calls on the class's own words: length, charAt -/
theorem eqE_rf : ∀ a : pm_E, eqE a a = true
  | .inl a => by simp [eqE]
  | .inr (.inl a) => by simp [eqE]
  | .inr (.inr (.inl a)) => by simp [eqE]
  | .inr (.inr (.inr a)) => by simp [eqE]
theorem eqH_rf : ∀ a : pm_H, eqH a a = true
  | [] => rfl
  | a :: s => by simp only [eqH, eqE_rf a, eqH_rf s, Bool.and_self]
theorem eqR_rf (r : Option Value) (h : pm_H) : eqR (some (r, h)) r h = true := by simp [eqR, eqH_rf]
section STR
variable {K : pm_K} {k pc nx : Nat} {L L2 : pm_L} {st st2 : List Value} {h : pm_H} {P : Option Value → pm_H → Prop}
theorem w_gc (hC : pm_C0 k pc = pms_gc nx) (hg : Wp K k nx L (.int 1 :: st) h P) : Wp K k pc L st h P := Wp.one hC (fun call cont y hy => hy) hg
theorem w_sgc {i : Nat} (hC : pm_C0 k pc = pms_sgc nx) (hi : i < 14) (hg : Wp K k nx L (.int 0 :: st) h P) : Wp K k pc L (.ref (pm_B + 100 + i) :: st) h P :=
  Wp.one hC (fun call cont y hy => by
    show (if pm_B + 100 ≤ pm_B + 100 + i ∧ pm_B + 100 + i < pm_B + 114 then cont nx L (.int 0 :: st) h else none) = y
    rw [if_pos ⟨by omega, by omega⟩]; exact hy) hg
theorem w_sgv {i : Nat} (hC : pm_C0 k pc = pms_sgv nx) (hi : i < 14) (hg : Wp K k nx L (.ref (pm_B + 200 + i) :: st) h P) : Wp K k pc L (.ref (pm_B + 100 + i) :: st) h P :=
  Wp.one hC (fun call cont y hy => by
    show (if pm_B + 100 ≤ pm_B + 100 + i ∧ pm_B + 100 + i < pm_B + 114 then cont nx L (.ref (pm_B + 100 + i + 100) :: st) h else none) = y
    rw [if_pos ⟨by omega, by omega⟩, show pm_B + 100 + i + 100 = pm_B + 200 + i from by omega]; exact hy) hg
theorem w_bl {i : Nat} (hC : pm_C0 k pc = pms_bl nx) (hi : i < 14) (hg : Wp K k nx L (.int (Int32.ofNat (pm_sl.getD i 0)) :: st) h P) : Wp K k pc L (.ref (pm_B + 200 + i) :: st) h P :=
  Wp.one hC (fun call cont y hy => by
    show (if pm_B + 200 ≤ pm_B + 200 + i ∧ pm_B + 200 + i < pm_B + 214 then cont nx L (.int (Int32.ofNat (pm_sl.getD (Nat.sub (pm_B + 200 + i) (pm_B + 200)) 0)) :: st) h else none) = y
    rw [if_pos ⟨by omega, by omega⟩, show Nat.sub (pm_B + 200 + i) (pm_B + 200) = i from Nat.add_sub_cancel_left (pm_B + 200) i]; exact hy) hg
theorem w_bb {i : Nat} {x : Int32} (hC : pm_C0 k pc = pms_bb nx) (hi : i < 14) (hx : ¬ x < 0) (hl : x.toNatClampNeg < pm_sl.getD i 0) (hg : Wp K k nx L (.int ((pm_sb.getD i []).getD x.toNatClampNeg 0) :: st) h P) : Wp K k pc L (.int x :: .ref (pm_B + 200 + i) :: st) h P :=
  Wp.one hC (fun call cont y hy => by
    show (if (pm_B + 200 ≤ pm_B + 200 + i ∧ pm_B + 200 + i < pm_B + 214) ∧ ¬ x < 0 ∧ x.toNatClampNeg < pm_sl.getD (Nat.sub (pm_B + 200 + i) (pm_B + 200)) 0 then cont nx L (.int ((pm_sb.getD (Nat.sub (pm_B + 200 + i) (pm_B + 200)) []).getD x.toNatClampNeg 0) :: st) h else none) = y
    rw [show Nat.sub (pm_B + 200 + i) (pm_B + 200) = i from Nat.add_sub_cancel_left (pm_B + 200) i, if_pos ⟨⟨by omega, by omega⟩, hx, hl⟩]; exact hy) hg
theorem w_i2c {x : Int32} (hC : pm_C0 k pc = pms_u pmf_i2c nx) (hg : Wp K k nx L (.int (pmf_i2c x) :: st) h P) : Wp K k pc L (.int x :: st) h P := Wp.one hC (fun call cont z hz => hz) hg
theorem w_rc {x : Int32} (hC : pm_C0 k pc = pms_rc) (hx : (x.toUInt32 % 65536).toInt32 = x) (hP : P (some (.int x)) h) : Wp K k pc L [.int x] h P := Wp.ret hC (fun _ _ => by
  show (if (x.toUInt32 % 65536).toInt32 = x then some (some (Value.int x), h) else none) = some (some (Value.int x), h)
  rw [if_pos hx]) hP
theorem w_rb {x : Int32} (hC : pm_C0 k pc = pms_rb) (hx : x.toInt8.toInt32 = x) (hP : P (some (.int x)) h) : Wp K k pc L [.int x] h P := Wp.ret hC (fun _ _ => by
  show (if x.toInt8.toInt32 = x then some (some (Value.int x), h) else none) = some (some (Value.int x), h)
  rw [if_pos hx]) hP
theorem w_gq {r : Option Value} {h' : pm_H} (hC : pm_C0 k pc = pms_gq nx) (h1 : Wp K k nx L (.null :: st) h (fun a b => a = r ∧ b = h')) (h2 : Wp K k nx L (.ref (pm_B + 99) :: st) h (fun a b => a = r ∧ b = h')) (hP : P r h') : Wp K k pc L st h P := by
  classical
  obtain ⟨r1, q1, ⟨e1, e2⟩, G1⟩ := h1
  obtain ⟨r2, q2, ⟨e3, e4⟩, G2⟩ := h2
  subst e1 e2
  rw [e3, e4] at G2
  refine ⟨r1, q1, hP, fun cR D => ?_⟩
  have hok := pm_C0_ok (K := K) (cR := cR) (D := D) k pc
  rw [hC] at hok
  refine hok (fun _ _ _ => none) (fun a b c d => if a = nx ∧ b = L ∧ (c = .null :: st ∨ c = .ref (pm_B + 99) :: st) ∧ d = h then some (r1, q1) else none) (fun _ _ _ _ _ e => by cases e) (fun a b c d r9 h9 e => ?_) L st h r1 q1 ?_
  · split at e
    · next q =>
      obtain ⟨rfl, rfl, q, rfl⟩ := q
      cases e
      rcases q with rfl | rfl
      · exact G1 cR D
      · exact G2 cR D
    · cases e
  · unfold pms_gq
    simp [eqR_rf]
theorem w_vs0 {c i : Nat} {rest : List Value} {v : Int32} (hKK : pl_sub K) (hC : pm_C0 k pc = pms_vs c 0 nx) (hi : i < 14) (hcat : (rest.map fun v => v.category).sum ≤ 8) (hm : Wm c [.ref (pm_B + 100 + i)] h (fun r h' => r = some (.int v) ∧ h' = h)) (hg : Wp K k nx L (.int v :: rest) h P) : Wp K k pc L (.ref (pm_B + 100 + i) :: rest) h P :=
  Wp.call (as := [.ref (pm_B + 100 + i)]) (rest := rest) hKK hC (fun call cont => by
    show (if 0 ≤ (Value.ref (pm_B + 100 + i) :: rest).length then (if pm_B + 100 ≤ pm_B + 100 + i ∧ pm_B + 100 + i < pm_B + 114 then pm_back cont nx L rest h (call c [.ref (pm_B + 100 + i)] h) else none) else none) = _
    rw [if_pos (Nat.zero_le _), if_pos ⟨by omega, by omega⟩]) hcat hm (fun r2 h2 q => Or.inl (by rw [q.2])) (fun r2 h2 q => by rw [q.1, q.2]; exact hg)
theorem w_vs1 {c i : Nat} {rest : List Value} {v0 : Value} {v : Int32} (hKK : pl_sub K) (hC : pm_C0 k pc = pms_vs c 1 nx) (hi : i < 14) (hcat : (rest.map fun v => v.category).sum ≤ 8) (hm : Wm c [.ref (pm_B + 100 + i), v0] h (fun r h' => r = some (.int v) ∧ h' = h)) (hg : Wp K k nx L (.int v :: rest) h P) : Wp K k pc L (v0 :: .ref (pm_B + 100 + i) :: rest) h P :=
  Wp.call (as := [.ref (pm_B + 100 + i), v0]) (rest := rest) hKK hC (fun call cont => by
    show (if 1 ≤ (v0 :: Value.ref (pm_B + 100 + i) :: rest).length then (if pm_B + 100 ≤ pm_B + 100 + i ∧ pm_B + 100 + i < pm_B + 114 then pm_back cont nx L rest h (call c [.ref (pm_B + 100 + i), v0] h) else none) else none) = _
    rw [if_pos (show 1 ≤ (v0 :: Value.ref (pm_B + 100 + i) :: rest).length from Nat.succ_le_succ (Nat.zero_le _)), if_pos ⟨by omega, by omega⟩]) hcat hm (fun r2 h2 q => Or.inl (by rw [q.2])) (fun r2 h2 q => by rw [q.1, q.2]; exact hg)
end STR
theorem st_coder {i : Nat} {h : pm_H} (hi : i < 14) : Wm 215 [.ref (pm_B + 100 + i)] h (fun r h' => r = some (.int 0) ∧ h' = h) := by
  refine Wm.of pT_215 (Nat.le_of_ble_eq_true rfl) (L0 := [some (.ref (pm_B + 100 + i))]) rfl ?_
  refine w_gc rfl ?_
  refine w_if_eq rfl (fun c => absurd c (by decide)) (fun c => ?_)
  refine w_la rfl rfl ?_
  refine w_sgc rfl hi ?_
  refine w_go rfl ?_
  exact w_rb rfl (by decide) ⟨rfl, rfl⟩
theorem st_isL {i : Nat} {h : pm_H} (hi : i < 14) : Wm 216 [.ref (pm_B + 100 + i)] h (fun r h' => r = some (.int 1) ∧ h' = h) := by
  refine Wm.of pT_216 (Nat.le_of_ble_eq_true rfl) (L0 := [some (.ref (pm_B + 100 + i))]) rfl ?_
  refine w_gc rfl ?_
  refine w_if_eq rfl (fun c => absurd c (by decide)) (fun c => ?_)
  refine w_la rfl rfl ?_
  refine w_sgc rfl hi ?_
  refine w_if_ne rfl (fun c => absurd rfl c) (fun c => ?_)
  refine w_ci rfl ?_
  refine w_go rfl ?_
  exact w_rz rfl (by decide) ⟨rfl, rfl⟩
theorem st_len0 : ∀ i : Nat, i < 14 → Int32.ofNat (pm_sl.getD i 0) >>> ((0 : Int32) &&& 31) = Int32.ofNat (pm_sl.getD i 0) := by decide +kernel
theorem st_len {i : Nat} {h : pm_H} (hi : i < 14) : Wm 213 [.ref (pm_B + 100 + i)] h (fun r h' => r = some (.int (Int32.ofNat (pm_sl.getD i 0))) ∧ h' = h) := by
  refine Wm.of pT_213 (Nat.le_of_ble_eq_true rfl) (L0 := [some (.ref (pm_B + 100 + i))]) rfl ?_
  refine w_la rfl rfl ?_
  refine w_sgv rfl hi ?_
  refine w_bl rfl hi ?_
  refine w_la rfl rfl ?_
  refine w_vs0 pl_sub_c rfl hi (Nat.le_of_ble_eq_true rfl) (st_coder hi) ?_
  refine w_ishr rfl ?_
  rw [st_len0 i hi]
  exact w_ri rfl ⟨rfl, rfl⟩
theorem st_chk3 {x y : Int32} {v : Value} {h : pm_H} (hl : (pm_la [.int x, .int y, v]).length ≤ 3) (hx : ¬ x < 0) (hy : x < y) : Wm 219 [.int x, .int y, v] h (fun r h' => r = some (.int x) ∧ h' = h) := by
  refine Wm.of pT_219 hl (L0 := pm_en 3 [.int x, .int y, v]) rfl ?_
  refine w_li rfl rfl ?_
  refine w_if_lt rfl (fun c => absurd c hx) (fun c => ?_)
  refine w_li rfl rfl ?_
  refine w_li rfl rfl ?_
  refine w_ic_lt rfl (fun c => ?_) (fun c => absurd hy c)
  refine w_li rfl rfl ?_
  exact w_ri rfl ⟨rfl, rfl⟩
theorem st_chk {x y : Int32} {h : pm_H} (hx : ¬ x < 0) (hy : x < y) : Wm 217 [.int x, .int y] h (fun r h' => r = none ∧ h' = h) := by
  refine Wm.of pT_217 (Nat.le_of_ble_eq_true rfl) (L0 := [some (.int x), some (.int y)]) rfl ?_
  refine w_li rfl rfl ?_
  refine w_li rfl rfl ?_
  refine w_gq (r := none) (h' := h) rfl ?_ ?_ ⟨rfl, rfl⟩
  · refine w_st3r pl_sub_c rfl (Nat.le_of_ble_eq_true rfl) (st_chk3 (Nat.le_of_ble_eq_true rfl) hx hy) ?_
    refine w_pop rfl rfl ?_
    exact w_rv rfl ⟨rfl, rfl⟩
  · refine w_st3r pl_sub_c rfl (Nat.le_of_ble_eq_true rfl) (st_chk3 (Nat.le_of_ble_eq_true rfl) hx hy) ?_
    refine w_pop rfl rfl ?_
    exact w_rv rfl ⟨rfl, rfl⟩
theorem st_c0 : ∀ i : Nat, i < 14 → ∀ j : Nat, j < pm_sl.getD i 0 → pmf_i2c ((pm_sb.getD i []).getD j 0 &&& 255) = (pm_sb.getD i []).getD j 0 ∧ ((((pm_sb.getD i []).getD j 0).toUInt32 % 65536).toInt32 = (pm_sb.getD i []).getD j 0) := by decide +kernel
theorem st_l8 : ∀ i : Nat, i < 14 → pm_sl.getD i 0 < 9 := by decide +kernel
theorem st_lt {x : Int32} {n : Nat} (hn : n < 9) (hl : x.toNatClampNeg < n) : x < Int32.ofNat n := by
  rw [Int32.lt_iff_toInt_lt, Int32.toInt_ofNat_of_lt (by omega)]
  have h : x.toNatClampNeg = x.toInt.toNat := rfl
  omega
theorem st_ch1 {i : Nat} {x : Int32} {h : pm_H} (hi : i < 14) (hx : ¬ x < 0) (hl : x.toNatClampNeg < pm_sl.getD i 0) : Wm 218 [.ref (pm_B + 200 + i), .int x] h (fun r h' => r = some (.int ((pm_sb.getD i []).getD x.toNatClampNeg 0)) ∧ h' = h) := by
  refine Wm.of pT_218 (Nat.le_of_ble_eq_true rfl) (L0 := [some (.ref (pm_B + 200 + i)), some (.int x)]) rfl ?_
  refine w_li rfl rfl ?_
  refine w_la rfl rfl ?_
  refine w_bl rfl hi ?_
  refine w_st2 pl_sub_c rfl (Nat.le_of_ble_eq_true rfl) (st_chk hx (st_lt (st_l8 i hi) hl)) (fun r2 h2 q => by rw [q.2]) (fun r2 h2 q => ?_)
  rw [q.1, q.2]
  refine w_la rfl rfl ?_
  refine w_li rfl rfl ?_
  refine w_bb rfl hi hx hl ?_
  refine w_ci rfl ?_
  refine w_iand rfl ?_
  refine w_i2c rfl ?_
  rw [(st_c0 i hi _ hl).1]
  exact w_rc rfl (st_c0 i hi _ hl).2 ⟨rfl, rfl⟩
theorem st_char {i : Nat} {x : Int32} {h : pm_H} (hi : i < 14) (hx : ¬ x < 0) (hl : x.toNatClampNeg < pm_sl.getD i 0) : Wm 214 [.ref (pm_B + 100 + i), .int x] h (fun r h' => r = some (.int ((pm_sb.getD i []).getD x.toNatClampNeg 0)) ∧ h' = h) := by
  refine Wm.of pT_214 (Nat.le_of_ble_eq_true rfl) (L0 := [some (.ref (pm_B + 100 + i)), some (.int x)]) rfl ?_
  refine w_la rfl rfl ?_
  refine w_vs0 pl_sub_c rfl hi (Nat.le_of_ble_eq_true rfl) (st_isL hi) ?_
  refine w_if_eq rfl (fun c => absurd c (by decide)) (fun c => ?_)
  refine w_la rfl rfl ?_
  refine w_sgv rfl hi ?_
  refine w_li rfl rfl ?_
  refine w_st2r pl_sub_c rfl (Nat.le_of_ble_eq_true rfl) (st_ch1 hi hx hl) ?_
  exact w_rc rfl (st_c0 i hi _ hl).2 ⟨rfl, rfl⟩
section ASTR
variable {k pc nx : Nat} {L : pm_L} {st : List Value} {s : SS} {t : TT} {P : Option Value → pm_H → Prop}
theorem a_vsl {i j : Nat} (hC : pm_C0 k pc = pms_vs 213 0 nx) (hcat : (st.map fun v => v.category).sum ≤ 8) (e : rs i = some j) (hg : Wp pl_Kc k nx L (.int (Int32.ofNat (pm_sl.getD i 0)) :: st) (mk s t) P) : Wp pl_Kc k pc L (.ref (pm_B + 100 + i) :: st) (mk s t) P :=
  w_vs0 pl_sub_c hC (rs_of e) hcat (st_len (rs_of e)) hg
theorem a_vsc {i j m : Nat} {x : Int32} (hC : pm_C0 k pc = pms_vs 214 1 nx) (hcat : (st.map fun v => v.category).sum ≤ 8) (e : rs i = some j) (w : rx (pm_sl.getD i 0) x = some m) (hg : Wp pl_Kc k nx L (.int ((pm_sb.getD i []).getD m 0) :: st) (mk s t) P) : Wp pl_Kc k pc L (.int x :: .ref (pm_B + 100 + i) :: st) (mk s t) P := by
  obtain ⟨h1, h2, h3⟩ := rx_of w
  refine w_vs1 pl_sub_c hC (rs_of e) hcat (st_char (rs_of e) h1 (by rw [h2]; exact h3)) ?_
  rw [h2]
  exact hg
end ASTR
