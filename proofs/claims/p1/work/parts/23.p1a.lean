/-! p1: the first call on a fresh object, method by method -/
/-- the reference's cells are fresh -/
def mx {α : Type} (z s : Nat → Nat → α) : Nat → Nat → α := fun c => if c < 51 then s c else z c
abbrev mS (s : Nat → Nat → Int32) : Nat → Nat → Int32 := mx s0 s
abbrev mT (t : Nat → Nat → Int64) : Nat → Nat → Int64 := mx t0 t
def Mod (s : Nat → Nat → Int32) (t : Nat → Nat → Int64) : Prop := ∀ c : Nat, 51 ≤ c → s c = s0 c ∧ t c = t0 c
theorem Mod.to {s : Nat → Nat → Int32} {t : Nat → Nat → Int64} (h : Mod s t) : mk s t = mk (mS s) (mT t) := by
  have e1 : s = mS s := by
    funext c
    by_cases hc : c < 51
    · simp [mS, mx, hc]
    · simp [mS, mx, hc, (h c (by omega)).1]
  have e2 : t = mT t := by
    funext c
    by_cases hc : c < 51
    · simp [mT, mx, hc]
    · simp [mT, mx, hc, (h c (by omega)).2]
  rw [← e1, ← e2]
theorem Mod0 : Mod s0 t0 := fun _ _ => ⟨rfl, rfl⟩
theorem Mod.up {s : Nat → Nat → Int32} {t : Nat → Nat → Int64} (h : Mod s t) {c i : Nat} {v : Int32} (hc : c < 51) : Mod (up2 s c i v) t := fun a ha => ⟨by
  have h1 : a ≠ c := by omega
  have h2 : up2 s c i v a = s a := by funext b; exact up2_n (Or.inl h1)
  rw [h2]; exact (h a ha).1, (h a ha).2⟩
theorem Mod.upl {s : Nat → Nat → Int32} {t : Nat → Nat → Int64} (h : Mod s t) {c i : Nat} {v : Int64} (hc : c < 51) : Mod s (up2 t c i v) := fun a ha => ⟨(h a ha).1, by
  have h1 : a ≠ c := by omega
  have h2 : up2 t c i v a = t a := by funext b; exact up2_n (Or.inl h1)
  rw [h2]; exact (h a ha).2⟩
/-- both sides, one call on the fresh objects -/
def kd (k : Nat) (v : Value) : Bool := match v with
  | .int _ => !(Nat.beq k 79 || Nat.beq k 78)
  | .long _ => Nat.beq k 79 || Nat.beq k 78
  | _ => false
def Bth (k5 k6 : Nat) (as : List Value) : Prop := ∃ v : Value, kd k5 v = true ∧ Wm k5 (.ref 0 :: as) (mk s0 t0) (fun r h => r = some v ∧ h.length = 67 ∧ (∃ fs, h[51]? = some (pm_ob 6 fs)) ∧ Wm k6 (.ref 51 :: as) h (fun r2 h2 => r2 = some v ∧ h2.length = 67 ∧ pm_zs h2 ≤ 100000))
theorem mk_zs (s : Nat → Nat → Int32) (t : Nat → Nat → Int64) : pm_zs (mk s t) ≤ 100000 := by
  have h : pm_zs (mk s t) = pm_zs (mk s0 t0) := by simp [mk, pm_zs, pm_z, ar_len, pm_ob, pm_qr]
  rw [h]
  exact Nat.le_of_ble_eq_true (by decide +kernel)
/-- what a method of the class leaves, what one of the reference leaves -/
def Pc (v : Value) : Option Value → pm_H → Prop := fun r h => r = some v ∧ ∃ s t, h = mk s t ∧ Mod s t
def Pm (v : Value) : Option Value → pm_H → Prop := fun r h => r = some v ∧ ∃ s t, h = mk s t
theorem Bth.of {k5 k6 : Nat} {as : List Value} {v : Value} (h5 : Wm k5 (.ref 0 :: as) (mk s0 t0) (Pc v)) (h6 : ∀ s t, Wm k6 (.ref 51 :: as) (mk (mS s) (mT t)) (Pm v)) (hk : kd k5 v = true := by rfl) : Bth k5 k6 as := by
  refine ⟨v, hk, h5.mono (fun r h q => ?_)⟩
  obtain ⟨q1, s, t, rfl, hm⟩ := q
  refine ⟨q1, mk_len s t, ⟨_, mg_51 s t⟩, ?_⟩
  rw [hm.to]
  refine (h6 s t).mono (fun r2 h2 q2 => ?_)
  obtain ⟨q3, s', t', rfl⟩ := q2
  exact ⟨q3, mk_len s' t', mk_zs s' t'⟩
def is6 (c : Option pm_E) : Bool := match c with
  | some (.inr (.inr (.inr (k, _)))) => Nat.beq k 6
  | _ => false
theorem is6_ob {c : Option pm_E} (h : is6 c = true) : ∃ fs, c = some (pm_ob 6 fs) := by
  unfold is6 at h
  split at h
  · next k fs => exact ⟨fs, by rw [Nat.eq_of_beq_eq_true h]⟩
  · cases h
noncomputable def chk (n k5 k6 : Nat) (as : List Value) : Bool := match pm_call pm_C0 pm_T0 pl_Kc n k5 (.ref 0 :: as) (mk s0 t0) with
  | some (some v, h) => kd k5 v && (Nat.beq h.length 67 && (is6 h[51]? && (match pm_call pm_C0 pm_T0 pl_Kc n k6 (.ref 51 :: as) h with
    | some (some v2, h2) => decide (v2 = v) && (Nat.beq h2.length 67 && Nat.ble (pm_zs h2) 100000)
    | _ => false)))
  | _ => false
theorem Bth.of_chk {n k5 k6 : Nat} {as : List Value} (h : chk n k5 k6 as = true) : Bth k5 k6 as := by
  unfold chk at h
  split at h
  · next v h1 e1 =>
    simp only [Bool.and_eq_true] at h
    obtain ⟨hk, hl, h6, h⟩ := h
    split at h
    · next v2 h2 e2 =>
      simp only [Bool.and_eq_true, decide_eq_true_eq] at h
      obtain ⟨rfl, hl2, hz⟩ := h
      exact ⟨v2, hk, Wm.run e1 ⟨rfl, Nat.eq_of_beq_eq_true hl, is6_ob h6, Wm.run e2 ⟨rfl, Nat.eq_of_beq_eq_true hl2, Nat.le_of_ble_eq_true hz⟩⟩⟩
    · cases h
  · cases h
theorem wi_m1 (p : Int32) : wi p 0 (-1) = false := by
  by_cases h : p < 0
  · exact wi_lt h
  · refine wi_gt ?_
    rw [Int32.lt_iff_toInt_lt] at *
    have e1 : (-1 : Int32).toInt = -1 := by decide
    have e0 : (0 : Int32).toInt = 0 := by decide
    rw [e0] at h
    rw [e1]
    omega
set_option maxRecDepth 100000 in
theorem c_of {p w : Int32}  : Wm 57 [.ref 0, .int p, .int w] (mk s0 t0) (Pc (.int (-1))) := by
  have hp : ∀ x : Int32, b2 (wi x 0 (s0 1 8 - 1)) = 0 := fun x => by rw [show s0 1 8 - 1 = -1 from by decide, wi_m1]; rfl
  refine Wm.of pT_57 (Nat.le_of_ble_eq_true rfl) (L0 := [some (.ref 0), some (.int p), some (.int w)]) rfl ?_
  refine w_la rfl rfl ?_
  refine w_gf rfl (mg_0 _ _) rfl ?_
  refine w_li rfl rfl ?_
  refine w_vi1r pl_sub_c rfl (mg_1 _ _) (Nat.le_of_ble_eq_true rfl) (r_has_1) ?_
  refine w_if_ne rfl (fun c8 => absurd c8 (fun z => z (hp _))) (fun c8 => ?_)
  refine w_ci rfl ?_
  refine w_ri rfl ?_
  exact ⟨by first | rfl | simp [*] | decide, s0, t0, rfl, Mod0⟩

set_option maxRecDepth 100000 in
theorem d_of {p w : Int32} (s : Nat → Nat → Int32) (t : Nat → Nat → Int64) : Wm 138 [.ref 51, .int p, .int w] (mk (mS s) (mT t)) (Pm (.int (-1))) := by
  have hp : ∀ x : Int32, b2 (wi x 0 (mS s 52 6 - 1)) = 0 := fun x => by rw [show mS s 52 6 - 1 = -1 from (by show s0 52 6 - 1 = -1; decide), wi_m1]; rfl
  refine Wm.of pT_138 (Nat.le_of_ble_eq_true rfl) (L0 := [some (.ref 51), some (.int p), some (.int w)]) rfl ?_
  refine w_la rfl rfl ?_
  refine w_li rfl rfl ?_
  refine w_vi1r pl_sub_c rfl (mg_51 _ _) (Nat.le_of_ble_eq_true rfl) (m_isOne) ?_
  refine w_if_eq rfl (fun c5 => ?_) (fun c5 => absurd ((hp _)) c5)
  refine w_ci rfl ?_
  refine w_ri rfl ?_
  exact ⟨by first | rfl | simp [*] | decide, mS s, mT t, rfl⟩

theorem b_of {p w : Int32} : Bth 57 138 [.int p, .int w] := Bth.of (c_of ) (fun s t => d_of  s t)
set_option maxRecDepth 100000 in
theorem c_does {p w : Int32}  : Wm 58 [.ref 0, .int p, .int w] (mk s0 t0) (Pc (.int (-1))) := by
  have hp : ∀ x : Int32, b2 (wi x 0 (s0 1 8 - 1)) = 0 := fun x => by rw [show s0 1 8 - 1 = -1 from by decide, wi_m1]; rfl
  refine Wm.of pT_58 (Nat.le_of_ble_eq_true rfl) (L0 := [some (.ref 0), some (.int p), some (.int w)]) rfl ?_
  refine w_la rfl rfl ?_
  refine w_gf rfl (mg_0 _ _) rfl ?_
  refine w_li rfl rfl ?_
  refine w_vi1r pl_sub_c rfl (mg_1 _ _) (Nat.le_of_ble_eq_true rfl) (r_has_1) ?_
  refine w_if_ne rfl (fun c8 => absurd c8 (fun z => z (hp _))) (fun c8 => ?_)
  refine w_ci rfl ?_
  refine w_ri rfl ?_
  exact ⟨by first | rfl | simp [*] | decide, s0, t0, rfl, Mod0⟩

set_option maxRecDepth 100000 in
theorem d_does {p w : Int32} (s : Nat → Nat → Int32) (t : Nat → Nat → Int64) : Wm 143 [.ref 51, .int p, .int w] (mk (mS s) (mT t)) (Pm (.int (-1))) := by
  have hp : ∀ x : Int32, b2 (wi x 0 (mS s 52 6 - 1)) = 0 := fun x => by rw [show mS s 52 6 - 1 = -1 from (by show s0 52 6 - 1 = -1; decide), wi_m1]; rfl
  refine Wm.of pT_143 (Nat.le_of_ble_eq_true rfl) (L0 := [some (.ref 51), some (.int p), some (.int w)]) rfl ?_
  refine w_la rfl rfl ?_
  refine w_li rfl rfl ?_
  refine w_vi1r pl_sub_c rfl (mg_51 _ _) (Nat.le_of_ble_eq_true rfl) (m_isOne) ?_
  refine w_if_ne rfl (fun c5 => absurd c5 (fun z => z (hp _))) (fun c5 => ?_)
  refine w_ci rfl ?_
  refine w_ri rfl ?_
  exact ⟨by first | rfl | simp [*] | decide, mS s, mT t, rfl⟩

theorem b_does {p w : Int32} : Bth 58 143 [.int p, .int w] := Bth.of (c_does ) (fun s t => d_does  s t)
set_option maxRecDepth 100000 in
theorem c_mind {p k q : Int32}  : Wm 59 [.ref 0, .int p, .int k, .int q] (mk s0 t0) (Pc (.int (-1))) := by
  have hp : ∀ x : Int32, b2 (wi x 0 (s0 1 8 - 1)) = 0 := fun x => by rw [show s0 1 8 - 1 = -1 from by decide, wi_m1]; rfl
  refine Wm.of pT_59 (Nat.le_of_ble_eq_true rfl) (L0 := [some (.ref 0), some (.int p), some (.int k), some (.int q), none]) rfl ?_
  refine w_la rfl rfl ?_
  refine w_gf rfl (mg_0 _ _) rfl ?_
  refine w_li rfl rfl ?_
  refine w_vi1r pl_sub_c rfl (mg_1 _ _) (Nat.le_of_ble_eq_true rfl) (r_has_1) ?_
  refine w_if_eq rfl (fun c8 => ?_) (fun c8 => absurd ((hp _)) c8)
  refine w_ci rfl ?_
  refine w_ri rfl ?_
  exact ⟨by first | rfl | simp [*] | decide, s0, t0, rfl, Mod0⟩

set_option maxRecDepth 100000 in
theorem d_mind {p k q : Int32} (s : Nat → Nat → Int32) (t : Nat → Nat → Int64) : Wm 144 [.ref 51, .int p, .int k, .int q] (mk (mS s) (mT t)) (Pm (.int (-1))) := by
  have hp : ∀ x : Int32, b2 (wi x 0 (mS s 52 6 - 1)) = 0 := fun x => by rw [show mS s 52 6 - 1 = -1 from (by show s0 52 6 - 1 = -1; decide), wi_m1]; rfl
  refine Wm.of pT_144 (Nat.le_of_ble_eq_true rfl) (L0 := [some (.ref 51), some (.int p), some (.int k), some (.int q)]) rfl ?_
  refine w_la rfl rfl ?_
  refine w_li rfl rfl ?_
  refine w_vi1r pl_sub_c rfl (mg_51 _ _) (Nat.le_of_ble_eq_true rfl) (m_isOne) ?_
  refine w_if_eq rfl (fun c5 => ?_) (fun c5 => absurd ((hp _)) c5)
  refine w_ci rfl ?_
  refine w_ri rfl ?_
  exact ⟨by first | rfl | simp [*] | decide, mS s, mT t, rfl⟩

theorem b_mind {p k q : Int32} : Bth 59 144 [.int p, .int k, .int q] := Bth.of (c_mind ) (fun s t => d_mind  s t)
set_option maxRecDepth 100000 in
theorem c_thought {p v : Int32}  : Wm 60 [.ref 0, .int p, .int v] (mk s0 t0) (Pc (.int (-1))) := by
  have hp : ∀ x : Int32, b2 (wi x 0 (s0 1 8 - 1)) = 0 := fun x => by rw [show s0 1 8 - 1 = -1 from by decide, wi_m1]; rfl
  refine Wm.of pT_60 (Nat.le_of_ble_eq_true rfl) (L0 := [some (.ref 0), some (.int p), some (.int v), none]) rfl ?_
  refine w_la rfl rfl ?_
  refine w_gf rfl (mg_0 _ _) rfl ?_
  refine w_li rfl rfl ?_
  refine w_vi1r pl_sub_c rfl (mg_1 _ _) (Nat.le_of_ble_eq_true rfl) (r_has_1) ?_
  refine w_if_eq rfl (fun c8 => ?_) (fun c8 => absurd ((hp _)) c8)
  refine w_ci rfl ?_
  refine w_ri rfl ?_
  exact ⟨by first | rfl | simp [*] | decide, s0, t0, rfl, Mod0⟩

set_option maxRecDepth 100000 in
theorem d_thought {p v : Int32} (s : Nat → Nat → Int32) (t : Nat → Nat → Int64) : Wm 145 [.ref 51, .int p, .int v] (mk (mS s) (mT t)) (Pm (.int (-1))) := by
  have hp : ∀ x : Int32, b2 (wi x 0 (mS s 52 6 - 1)) = 0 := fun x => by rw [show mS s 52 6 - 1 = -1 from (by show s0 52 6 - 1 = -1; decide), wi_m1]; rfl
  refine Wm.of pT_145 (Nat.le_of_ble_eq_true rfl) (L0 := [some (.ref 51), some (.int p), some (.int v)]) rfl ?_
  refine w_la rfl rfl ?_
  refine w_li rfl rfl ?_
  refine w_vi1r pl_sub_c rfl (mg_51 _ _) (Nat.le_of_ble_eq_true rfl) (m_isOne) ?_
  refine w_if_eq rfl (fun c5 => ?_) (fun c5 => absurd ((hp _)) c5)
  refine w_ci rfl ?_
  refine w_ri rfl ?_
  exact ⟨by first | rfl | simp [*] | decide, mS s, mT t, rfl⟩

theorem b_thought {p v : Int32} : Bth 60 145 [.int p, .int v] := Bth.of (c_thought ) (fun s t => d_thought  s t)
set_option maxRecDepth 100000 in
theorem c_own {p v : Int32}  : Wm 61 [.ref 0, .int p, .int v] (mk s0 t0) (Pc (.int (-1))) := by
  have hp : ∀ x : Int32, b2 (wi x 0 (s0 1 8 - 1)) = 0 := fun x => by rw [show s0 1 8 - 1 = -1 from by decide, wi_m1]; rfl
  refine Wm.of pT_61 (Nat.le_of_ble_eq_true rfl) (L0 := [some (.ref 0), some (.int p), some (.int v), none]) rfl ?_
  refine w_la rfl rfl ?_
  refine w_gf rfl (mg_0 _ _) rfl ?_
  refine w_li rfl rfl ?_
  refine w_vi1r pl_sub_c rfl (mg_1 _ _) (Nat.le_of_ble_eq_true rfl) (r_has_1) ?_
  refine w_if_eq rfl (fun c8 => ?_) (fun c8 => absurd ((hp _)) c8)
  refine w_ci rfl ?_
  refine w_ri rfl ?_
  exact ⟨by first | rfl | simp [*] | decide, s0, t0, rfl, Mod0⟩

set_option maxRecDepth 100000 in
theorem d_own {p v : Int32} (s : Nat → Nat → Int32) (t : Nat → Nat → Int64) : Wm 146 [.ref 51, .int p, .int v] (mk (mS s) (mT t)) (Pm (.int (-1))) := by
  have hp : ∀ x : Int32, b2 (wi x 0 (mS s 52 6 - 1)) = 0 := fun x => by rw [show mS s 52 6 - 1 = -1 from (by show s0 52 6 - 1 = -1; decide), wi_m1]; rfl
  refine Wm.of pT_146 (Nat.le_of_ble_eq_true rfl) (L0 := [some (.ref 51), some (.int p), some (.int v)]) rfl ?_
  refine w_la rfl rfl ?_
  refine w_li rfl rfl ?_
  refine w_vi1r pl_sub_c rfl (mg_51 _ _) (Nat.le_of_ble_eq_true rfl) (m_isOne) ?_
  refine w_if_eq rfl (fun c5 => ?_) (fun c5 => absurd ((hp _)) c5)
  refine w_ci rfl ?_
  refine w_ri rfl ?_
  exact ⟨by first | rfl | simp [*] | decide, mS s, mT t, rfl⟩

theorem b_own {p v : Int32} : Bth 61 146 [.int p, .int v] := Bth.of (c_own ) (fun s t => d_own  s t)
set_option maxRecDepth 100000 in
theorem c_give {p q : Int32}  : Wm 62 [.ref 0, .int p, .int q] (mk s0 t0) (Pc (.int (-1))) := by
  have hp : ∀ x : Int32, b2 (wi x 0 (s0 1 8 - 1)) = 0 := fun x => by rw [show s0 1 8 - 1 = -1 from by decide, wi_m1]; rfl
  refine Wm.of pT_62 (Nat.le_of_ble_eq_true rfl) (L0 := [some (.ref 0), some (.int p), some (.int q)]) rfl ?_
  refine w_la rfl rfl ?_
  refine w_gf rfl (mg_0 _ _) rfl ?_
  refine w_li rfl rfl ?_
  refine w_vi1r pl_sub_c rfl (mg_1 _ _) (Nat.le_of_ble_eq_true rfl) (r_has_1) ?_
  refine w_if_eq rfl (fun c8 => ?_) (fun c8 => absurd ((hp _)) c8)
  refine w_ci rfl ?_
  refine w_ri rfl ?_
  exact ⟨by first | rfl | simp [*] | decide, s0, t0, rfl, Mod0⟩

set_option maxRecDepth 100000 in
theorem d_give {p q : Int32} (s : Nat → Nat → Int32) (t : Nat → Nat → Int64) : Wm 147 [.ref 51, .int p, .int q] (mk (mS s) (mT t)) (Pm (.int (-1))) := by
  have hp : ∀ x : Int32, b2 (wi x 0 (mS s 52 6 - 1)) = 0 := fun x => by rw [show mS s 52 6 - 1 = -1 from (by show s0 52 6 - 1 = -1; decide), wi_m1]; rfl
  refine Wm.of pT_147 (Nat.le_of_ble_eq_true rfl) (L0 := [some (.ref 51), some (.int p), some (.int q)]) rfl ?_
  refine w_la rfl rfl ?_
  refine w_li rfl rfl ?_
  refine w_vi1r pl_sub_c rfl (mg_51 _ _) (Nat.le_of_ble_eq_true rfl) (m_isOne) ?_
  refine w_if_eq rfl (fun c5 => ?_) (fun c5 => absurd ((hp _)) c5)
  refine w_ci rfl ?_
  refine w_ri rfl ?_
  exact ⟨by first | rfl | simp [*] | decide, mS s, mT t, rfl⟩

theorem b_give {p q : Int32} : Bth 62 147 [.int p, .int q] := Bth.of (c_give ) (fun s t => d_give  s t)
set_option maxRecDepth 100000 in
theorem c_gets {p : Int32}  : Wm 69 [.ref 0, .int p] (mk s0 t0) (Pc (.int (-1))) := by
  have hp : ∀ x : Int32, b2 (wi x 0 (s0 1 8 - 1)) = 0 := fun x => by rw [show s0 1 8 - 1 = -1 from by decide, wi_m1]; rfl
  refine Wm.of pT_69 (Nat.le_of_ble_eq_true rfl) (L0 := [some (.ref 0), some (.int p), none, none]) rfl ?_
  refine w_la rfl rfl ?_
  refine w_gf rfl (mg_0 _ _) rfl ?_
  refine w_li rfl rfl ?_
  refine w_vi1r pl_sub_c rfl (mg_1 _ _) (Nat.le_of_ble_eq_true rfl) (r_has_1) ?_
  refine w_if_ne rfl (fun c8 => absurd c8 (fun z => z (hp _))) (fun c8 => ?_)
  refine w_ci rfl ?_
  refine w_ri rfl ?_
  exact ⟨by first | rfl | simp [*] | decide, s0, t0, rfl, Mod0⟩

set_option maxRecDepth 100000 in
theorem d_gets {p : Int32} (s : Nat → Nat → Int32) (t : Nat → Nat → Int64) : Wm 164 [.ref 51, .int p] (mk (mS s) (mT t)) (Pm (.int (-1))) := by
  have hp : ∀ x : Int32, b2 (wi x 0 (mS s 52 6 - 1)) = 0 := fun x => by rw [show mS s 52 6 - 1 = -1 from (by show s0 52 6 - 1 = -1; decide), wi_m1]; rfl
  refine Wm.of pT_164 (Nat.le_of_ble_eq_true rfl) (L0 := [some (.ref 51), some (.int p), none, none]) rfl ?_
  refine w_la rfl rfl ?_
  refine w_li rfl rfl ?_
  refine w_vi1r pl_sub_c rfl (mg_51 _ _) (Nat.le_of_ble_eq_true rfl) (m_isOne) ?_
  refine w_if_ne rfl (fun c5 => absurd c5 (fun z => z (hp _))) (fun c5 => ?_)
  refine w_ci rfl ?_
  refine w_ri rfl ?_
  exact ⟨by first | rfl | simp [*] | decide, mS s, mT t, rfl⟩

theorem b_gets {p : Int32} : Bth 69 164 [.int p] := Bth.of (c_gets ) (fun s t => d_gets  s t)
set_option maxRecDepth 100000 in
theorem c_kindFor {p n : Int32}  : Wm 72 [.ref 0, .int p, .int n] (mk s0 t0) (Pc (.int (-1))) := by
  have hp : ∀ x : Int32, b2 (wi x 0 (s0 1 8 - 1)) = 0 := fun x => by rw [show s0 1 8 - 1 = -1 from by decide, wi_m1]; rfl
  refine Wm.of pT_72 (Nat.le_of_ble_eq_true rfl) (L0 := [some (.ref 0), some (.int p), some (.int n), none, none, none, none, none]) rfl ?_
  refine w_la rfl rfl ?_
  refine w_gf rfl (mg_0 _ _) rfl ?_
  refine w_li rfl rfl ?_
  refine w_vi1r pl_sub_c rfl (mg_1 _ _) (Nat.le_of_ble_eq_true rfl) (r_has_1) ?_
  refine w_if_eq rfl (fun c8 => ?_) (fun c8 => absurd ((hp _)) c8)
  refine w_ci rfl ?_
  refine w_ri rfl ?_
  exact ⟨by first | rfl | simp [*] | decide, s0, t0, rfl, Mod0⟩

set_option maxRecDepth 100000 in
theorem d_kindFor {p n : Int32} (s : Nat → Nat → Int32) (t : Nat → Nat → Int64) : Wm 167 [.ref 51, .int p, .int n] (mk (mS s) (mT t)) (Pm (.int (-1))) := by
  have hp : ∀ x : Int32, b2 (wi x 0 (mS s 52 6 - 1)) = 0 := fun x => by rw [show mS s 52 6 - 1 = -1 from (by show s0 52 6 - 1 = -1; decide), wi_m1]; rfl
  refine Wm.of pT_167 (Nat.le_of_ble_eq_true rfl) (L0 := [some (.ref 51), some (.int p), some (.int n), none, none, none, none]) rfl ?_
  refine w_la rfl rfl ?_
  refine w_li rfl rfl ?_
  refine w_vi1r pl_sub_c rfl (mg_51 _ _) (Nat.le_of_ble_eq_true rfl) (m_isOne) ?_
  refine w_if_eq rfl (fun c5 => ?_) (fun c5 => absurd ((hp _)) c5)
  refine w_ci rfl ?_
  refine w_ri rfl ?_
  exact ⟨by first | rfl | simp [*] | decide, mS s, mT t, rfl⟩

theorem b_kindFor {p n : Int32} : Bth 72 167 [.int p, .int n] := Bth.of (c_kindFor ) (fun s t => d_kindFor  s t)
set_option maxRecDepth 100000 in
theorem c_thoughtFor {p n : Int32}  : Wm 73 [.ref 0, .int p, .int n] (mk s0 t0) (Pc (.int (-1))) := by
  have hp : ∀ x : Int32, b2 (wi x 0 (s0 1 8 - 1)) = 0 := fun x => by rw [show s0 1 8 - 1 = -1 from by decide, wi_m1]; rfl
  refine Wm.of pT_73 (Nat.le_of_ble_eq_true rfl) (L0 := [some (.ref 0), some (.int p), some (.int n), none, none, none]) rfl ?_
  refine w_la rfl rfl ?_
  refine w_gf rfl (mg_0 _ _) rfl ?_
  refine w_li rfl rfl ?_
  refine w_vi1r pl_sub_c rfl (mg_1 _ _) (Nat.le_of_ble_eq_true rfl) (r_has_1) ?_
  refine w_if_eq rfl (fun c8 => ?_) (fun c8 => absurd ((hp _)) c8)
  refine w_ci rfl ?_
  refine w_ri rfl ?_
  exact ⟨by first | rfl | simp [*] | decide, s0, t0, rfl, Mod0⟩

set_option maxRecDepth 100000 in
theorem d_thoughtFor {p n : Int32} (s : Nat → Nat → Int32) (t : Nat → Nat → Int64) : Wm 168 [.ref 51, .int p, .int n] (mk (mS s) (mT t)) (Pm (.int (-1))) := by
  have hp : ∀ x : Int32, b2 (wi x 0 (mS s 52 6 - 1)) = 0 := fun x => by rw [show mS s 52 6 - 1 = -1 from (by show s0 52 6 - 1 = -1; decide), wi_m1]; rfl
  refine Wm.of pT_168 (Nat.le_of_ble_eq_true rfl) (L0 := [some (.ref 51), some (.int p), some (.int n), none, none, none]) rfl ?_
  refine w_la rfl rfl ?_
  refine w_li rfl rfl ?_
  refine w_vi1r pl_sub_c rfl (mg_51 _ _) (Nat.le_of_ble_eq_true rfl) (m_isOne) ?_
  refine w_if_eq rfl (fun c5 => ?_) (fun c5 => absurd ((hp _)) c5)
  refine w_ci rfl ?_
  refine w_ri rfl ?_
  exact ⟨by first | rfl | simp [*] | decide, mS s, mT t, rfl⟩

theorem b_thoughtFor {p n : Int32} : Bth 73 168 [.int p, .int n] := Bth.of (c_thoughtFor ) (fun s t => d_thoughtFor  s t)
set_option maxRecDepth 100000 in
theorem c_prove {p n : Int32}  : Wm 80 [.ref 0, .int p, .int n] (mk s0 t0) (Pc (.int (-1))) := by
  have hp : ∀ x : Int32, b2 (wi x 0 (s0 1 8 - 1)) = 0 := fun x => by rw [show s0 1 8 - 1 = -1 from by decide, wi_m1]; rfl
  refine Wm.of pT_80 (Nat.le_of_ble_eq_true rfl) (L0 := [some (.ref 0), some (.int p), some (.int n), none, none, none]) rfl ?_
  refine w_la rfl rfl ?_
  refine w_gf rfl (mg_0 _ _) rfl ?_
  refine w_li rfl rfl ?_
  refine w_vi1r pl_sub_c rfl (mg_1 _ _) (Nat.le_of_ble_eq_true rfl) (r_has_1) ?_
  refine w_if_eq rfl (fun c8 => ?_) (fun c8 => absurd ((hp _)) c8)
  refine w_ci rfl ?_
  refine w_ri rfl ?_
  exact ⟨by first | rfl | simp [*] | decide, s0, t0, rfl, Mod0⟩

set_option maxRecDepth 100000 in
theorem d_prove {p n : Int32} (s : Nat → Nat → Int32) (t : Nat → Nat → Int64) : Wm 180 [.ref 51, .int p, .int n] (mk (mS s) (mT t)) (Pm (.int (-1))) := by
  have hp : ∀ x : Int32, b2 (wi x 0 (mS s 52 6 - 1)) = 0 := fun x => by rw [show mS s 52 6 - 1 = -1 from (by show s0 52 6 - 1 = -1; decide), wi_m1]; rfl
  refine Wm.of pT_180 (Nat.le_of_ble_eq_true rfl) (L0 := [some (.ref 51), some (.int p), some (.int n), none]) rfl ?_
  refine w_la rfl rfl ?_
  refine w_li rfl rfl ?_
  refine w_vi1r pl_sub_c rfl (mg_51 _ _) (Nat.le_of_ble_eq_true rfl) (m_isOne) ?_
  refine w_if_eq rfl (fun c5 => ?_) (fun c5 => absurd ((hp _)) c5)
  refine w_ci rfl ?_
  refine w_ri rfl ?_
  exact ⟨by first | rfl | simp [*] | decide, mS s, mT t, rfl⟩

theorem b_prove {p n : Int32} : Bth 80 180 [.int p, .int n] := Bth.of (c_prove ) (fun s t => d_prove  s t)
set_option maxRecDepth 100000 in
theorem c_judge {p : Int32}  : Wm 83 [.ref 0, .int p] (mk s0 t0) (Pc (.int (-1))) := by
  have hp : ∀ x : Int32, b2 (wi x 0 (s0 1 8 - 1)) = 0 := fun x => by rw [show s0 1 8 - 1 = -1 from by decide, wi_m1]; rfl
  refine Wm.of pT_83 (Nat.le_of_ble_eq_true rfl) (L0 := [some (.ref 0), some (.int p), none, none, none]) rfl ?_
  refine w_la rfl rfl ?_
  refine w_gf rfl (mg_0 _ _) rfl ?_
  refine w_li rfl rfl ?_
  refine w_vi1r pl_sub_c rfl (mg_1 _ _) (Nat.le_of_ble_eq_true rfl) (r_has_1) ?_
  refine w_if_ne rfl (fun c8 => absurd c8 (fun z => z (hp _))) (fun c8 => ?_)
  refine w_ci rfl ?_
  refine w_ri rfl ?_
  exact ⟨by first | rfl | simp [*] | decide, s0, t0, rfl, Mod0⟩

set_option maxRecDepth 100000 in
theorem d_judge {p : Int32} (s : Nat → Nat → Int32) (t : Nat → Nat → Int64) : Wm 184 [.ref 51, .int p] (mk (mS s) (mT t)) (Pm (.int (-1))) := by
  have hp : ∀ x : Int32, b2 (wi x 0 (mS s 52 6 - 1)) = 0 := fun x => by rw [show mS s 52 6 - 1 = -1 from (by show s0 52 6 - 1 = -1; decide), wi_m1]; rfl
  refine Wm.of pT_184 (Nat.le_of_ble_eq_true rfl) (L0 := [some (.ref 51), some (.int p), none]) rfl ?_
  refine w_la rfl rfl ?_
  refine w_li rfl rfl ?_
  refine w_vi1r pl_sub_c rfl (mg_51 _ _) (Nat.le_of_ble_eq_true rfl) (m_isOne) ?_
  refine w_if_ne rfl (fun c5 => absurd c5 (fun z => z (hp _))) (fun c5 => ?_)
  refine w_ci rfl ?_
  refine w_ri rfl ?_
  exact ⟨by first | rfl | simp [*] | decide, mS s, mT t, rfl⟩

theorem b_judge {p : Int32} : Bth 83 184 [.int p] := Bth.of (c_judge ) (fun s t => d_judge  s t)
set_option maxRecDepth 100000 in
theorem c_fits {z p w : Int32}  : Wm 77 [.ref 0, .int z, .int p, .int w] (mk s0 t0) (Pc (.int (-1))) := by
  have hp : ∀ x : Int32, b2 (wi x 0 (s0 1 8 - 1)) = 0 := fun x => by rw [show s0 1 8 - 1 = -1 from by decide, wi_m1]; rfl
  refine Wm.of pT_77 (Nat.le_of_ble_eq_true rfl) (L0 := [some (.ref 0), some (.int z), some (.int p), some (.int w), none, none, none, none]) rfl ?_
  refine w_li rfl rfl ?_
  refine w_st1r pl_sub_c rfl (Nat.le_of_ble_eq_true rfl) (r_isPlace) ?_
  refine w_if_eq rfl (fun c4 => ?_) (fun c4 => ?_)
  · skip
    replace c4 := b2_0 c4
    refine w_ci rfl ?_
    refine w_ri rfl ?_
    exact ⟨by first | rfl | simp [*] | decide, s0, t0, rfl, Mod0⟩
  · skip
    replace c4 := b2_n c4
    refine w_la rfl rfl ?_
    refine w_gf rfl (mg_0 _ _) rfl ?_
    refine w_li rfl rfl ?_
    refine w_vi1r pl_sub_c rfl (mg_1 _ _) (Nat.le_of_ble_eq_true rfl) (r_has_1) ?_
    refine w_if_eq rfl (fun c15 => ?_) (fun c15 => absurd ((hp _)) c15)
    refine w_ci rfl ?_
    refine w_ri rfl ?_
    exact ⟨by first | rfl | simp [*] | decide, s0, t0, rfl, Mod0⟩

set_option maxRecDepth 100000 in
theorem d_fits {z p w : Int32} (s : Nat → Nat → Int32) (t : Nat → Nat → Int64) : Wm 174 [.ref 51, .int z, .int p, .int w] (mk (mS s) (mT t)) (Pm (.int (-1))) := by
  have hp : ∀ x : Int32, b2 (wi x 0 (mS s 52 6 - 1)) = 0 := fun x => by rw [show mS s 52 6 - 1 = -1 from (by show s0 52 6 - 1 = -1; decide), wi_m1]; rfl
  refine Wm.of pT_174 (Nat.le_of_ble_eq_true rfl) (L0 := [some (.ref 51), some (.int z), some (.int p), some (.int w), none, none, none, none]) rfl ?_
  refine w_li rfl rfl ?_
  refine w_st1r pl_sub_c rfl (Nat.le_of_ble_eq_true rfl) (m_isShelf) ?_
  refine w_if_eq rfl (fun c4 => ?_) (fun c4 => ?_)
  · skip
    replace c4 := b2_0 c4
    refine w_ci rfl ?_
    refine w_ri rfl ?_
    exact ⟨by first | rfl | simp [*] | decide, mS s, mT t, rfl⟩
  · skip
    replace c4 := b2_n c4
    refine w_la rfl rfl ?_
    refine w_li rfl rfl ?_
    refine w_vi1r pl_sub_c rfl (mg_51 _ _) (Nat.le_of_ble_eq_true rfl) (m_isOne) ?_
    refine w_if_eq rfl (fun c12 => ?_) (fun c12 => absurd ((hp _)) c12)
    refine w_ci rfl ?_
    refine w_ri rfl ?_
    exact ⟨by first | rfl | simp [*] | decide, mS s, mT t, rfl⟩

theorem b_fits {z p w : Int32} : Bth 77 174 [.int z, .int p, .int w] := Bth.of (c_fits ) (fun s t => d_fits  s t)
set_option maxRecDepth 100000 in
theorem c_minds {z i p n : Int32}  : Wm 84 [.ref 0, .int z, .int i, .int p, .int n] (mk s0 t0) (Pc (.int (-1))) := by
  have hp : ∀ x : Int32, b2 (wi x 0 (s0 1 8 - 1)) = 0 := fun x => by rw [show s0 1 8 - 1 = -1 from by decide, wi_m1]; rfl
  refine Wm.of pT_84 (Nat.le_of_ble_eq_true rfl) (L0 := [some (.ref 0), some (.int z), some (.int i), some (.int p), some (.int n), none, none, none]) rfl ?_
  refine w_li rfl rfl ?_
  refine w_st1r pl_sub_c rfl (Nat.le_of_ble_eq_true rfl) (r_isPlace) ?_
  refine w_if_eq rfl (fun c4 => ?_) (fun c4 => ?_)
  · skip
    replace c4 := b2_0 c4
    refine w_ci rfl ?_
    refine w_ri rfl ?_
    exact ⟨by first | rfl | simp [*] | decide, s0, t0, rfl, Mod0⟩
  · skip
    replace c4 := b2_n c4
    refine w_la rfl rfl ?_
    refine w_gf rfl (mg_0 _ _) rfl ?_
    refine w_li rfl rfl ?_
    refine w_vi1r pl_sub_c rfl (mg_1 _ _) (Nat.le_of_ble_eq_true rfl) (r_has_1) ?_
    refine w_if_eq rfl (fun c15 => ?_) (fun c15 => absurd ((hp _)) c15)
    refine w_ci rfl ?_
    refine w_ri rfl ?_
    exact ⟨by first | rfl | simp [*] | decide, s0, t0, rfl, Mod0⟩

set_option maxRecDepth 100000 in
theorem d_minds {z i p n : Int32} (s : Nat → Nat → Int32) (t : Nat → Nat → Int64) : Wm 185 [.ref 51, .int z, .int i, .int p, .int n] (mk (mS s) (mT t)) (Pm (.int (-1))) := by
  have hp : ∀ x : Int32, b2 (wi x 0 (mS s 52 6 - 1)) = 0 := fun x => by rw [show mS s 52 6 - 1 = -1 from (by show s0 52 6 - 1 = -1; decide), wi_m1]; rfl
  refine Wm.of pT_185 (Nat.le_of_ble_eq_true rfl) (L0 := [some (.ref 51), some (.int z), some (.int i), some (.int p), some (.int n), none, none]) rfl ?_
  refine w_li rfl rfl ?_
  refine w_st1r pl_sub_c rfl (Nat.le_of_ble_eq_true rfl) (m_isShelf) ?_
  refine w_if_eq rfl (fun c4 => ?_) (fun c4 => ?_)
  · skip
    replace c4 := b2_0 c4
    refine w_ci rfl ?_
    refine w_ri rfl ?_
    exact ⟨by first | rfl | simp [*] | decide, mS s, mT t, rfl⟩
  · skip
    replace c4 := b2_n c4
    refine w_la rfl rfl ?_
    refine w_li rfl rfl ?_
    refine w_vi1r pl_sub_c rfl (mg_51 _ _) (Nat.le_of_ble_eq_true rfl) (m_isOne) ?_
    refine w_if_eq rfl (fun c12 => ?_) (fun c12 => absurd ((hp _)) c12)
    refine w_ci rfl ?_
    refine w_ri rfl ?_
    exact ⟨by first | rfl | simp [*] | decide, mS s, mT t, rfl⟩

theorem b_minds {z i p n : Int32} : Bth 84 185 [.int z, .int i, .int p, .int n] := Bth.of (c_minds ) (fun s t => d_minds  s t)
set_option maxRecDepth 100000 in
theorem c_row {i w : Int32}  : Wm 81 [.ref 0, .int i, .int w] (mk s0 t0) (Pc (.int (-9))) := by
  have hp : ∀ x y : Int32, b2 (wi x 0 (s0 0 9 - 1) && wi y 0 2) = 0 := fun x y => by rw [show s0 0 9 - 1 = -1 from by decide, wi_m1]; rfl
  refine Wm.of pT_81 (Nat.le_of_ble_eq_true rfl) (L0 := [some (.ref 0), some (.int i), some (.int w)]) rfl ?_
  refine w_la rfl rfl ?_
  refine w_li rfl rfl ?_
  refine w_li rfl rfl ?_
  refine w_vi2r pl_sub_c rfl (mg_0 _ _) (Nat.le_of_ble_eq_true rfl) (r_isInRow) ?_
  refine w_if_eq rfl (fun c6 => ?_) (fun c6 => absurd ((hp _ _)) c6)
  refine w_ci rfl ?_
  refine w_ri rfl ?_
  exact ⟨by first | rfl | simp [*] | decide, s0, t0, rfl, Mod0⟩

set_option maxRecDepth 100000 in
theorem d_row {i w : Int32} (s : Nat → Nat → Int32) (t : Nat → Nat → Int64) : Wm 182 [.ref 51, .int i, .int w] (mk (mS s) (mT t)) (Pm (.int (-9))) := by
  have hp : ∀ x y : Int32, b2 (wi x 0 (mS s 51 17 - 1) && wi y 0 2) = 0 := fun x y => by rw [show mS s 51 17 - 1 = -1 from (by show s0 51 17 - 1 = -1; decide), wi_m1]; rfl
  refine Wm.of pT_182 (Nat.le_of_ble_eq_true rfl) (L0 := [some (.ref 51), some (.int i), some (.int w)]) rfl ?_
  refine w_la rfl rfl ?_
  refine w_li rfl rfl ?_
  refine w_li rfl rfl ?_
  refine w_vi2r pl_sub_c rfl (mg_51 _ _) (Nat.le_of_ble_eq_true rfl) (m_isRow) ?_
  refine w_if_eq rfl (fun c6 => ?_) (fun c6 => absurd ((hp _ _)) c6)
  refine w_ci rfl ?_
  refine w_ri rfl ?_
  exact ⟨by first | rfl | simp [*] | decide, mS s, mT t, rfl⟩

theorem b_row {i w : Int32} : Bth 81 182 [.int i, .int w] := Bth.of (c_row ) (fun s t => d_row  s t)
set_option maxRecDepth 100000 in
theorem c_alterRow {i w v : Int32}  : Wm 82 [.ref 0, .int i, .int w, .int v] (mk s0 t0) (Pc (.int (-9))) := by
  have hp : ∀ x y : Int32, b2 (wi x 0 (s0 0 9 - 1) && wi y 0 2) = 0 := fun x y => by rw [show s0 0 9 - 1 = -1 from by decide, wi_m1]; rfl
  refine Wm.of pT_82 (Nat.le_of_ble_eq_true rfl) (L0 := [some (.ref 0), some (.int i), some (.int w), some (.int v), none]) rfl ?_
  refine w_la rfl rfl ?_
  refine w_li rfl rfl ?_
  refine w_li rfl rfl ?_
  refine w_vi2r pl_sub_c rfl (mg_0 _ _) (Nat.le_of_ble_eq_true rfl) (r_isInRow) ?_
  refine w_if_ne rfl (fun c6 => absurd c6 (fun z => z (hp _ _))) (fun c6 => ?_)
  refine w_ci rfl ?_
  refine w_ri rfl ?_
  exact ⟨by first | rfl | simp [*] | decide, s0, t0, rfl, Mod0⟩

set_option maxRecDepth 100000 in
theorem d_alterRow {i w v : Int32} (s : Nat → Nat → Int32) (t : Nat → Nat → Int64) : Wm 183 [.ref 51, .int i, .int w, .int v] (mk (mS s) (mT t)) (Pm (.int (-9))) := by
  have hp : ∀ x y : Int32, b2 (wi x 0 (mS s 51 17 - 1) && wi y 0 2) = 0 := fun x y => by rw [show mS s 51 17 - 1 = -1 from (by show s0 51 17 - 1 = -1; decide), wi_m1]; rfl
  refine Wm.of pT_183 (Nat.le_of_ble_eq_true rfl) (L0 := [some (.ref 51), some (.int i), some (.int w), some (.int v), none]) rfl ?_
  refine w_la rfl rfl ?_
  refine w_li rfl rfl ?_
  refine w_li rfl rfl ?_
  refine w_vi2r pl_sub_c rfl (mg_51 _ _) (Nat.le_of_ble_eq_true rfl) (m_isRow) ?_
  refine w_if_ne rfl (fun c6 => absurd c6 (fun z => z (hp _ _))) (fun c6 => ?_)
  refine w_ci rfl ?_
  refine w_ri rfl ?_
  exact ⟨by first | rfl | simp [*] | decide, mS s, mT t, rfl⟩

theorem b_alterRow {i w v : Int32} : Bth 82 183 [.int i, .int w, .int v] := Bth.of (c_alterRow ) (fun s t => d_alterRow  s t)
set_option maxRecDepth 100000 in
theorem c_trace {i : Int32}  : Wm 91 [.ref 0, .int i] (mk s0 t0) (Pc (.int (-3))) := by
  have hp : ∀ x : Int32, b2 (wi x 0 (s0 33 1 - 1)) = 0 := fun x => by rw [show s0 33 1 - 1 = -1 from by decide, wi_m1]; rfl
  refine Wm.of pT_91 (Nat.le_of_ble_eq_true rfl) (L0 := [some (.ref 0), some (.int i)]) rfl ?_
  refine w_li rfl rfl ?_
  refine w_ci rfl ?_
  refine w_la rfl rfl ?_
  refine w_gf rfl (mg_0 _ _) rfl ?_
  refine w_gf rfl (mg_33 _ _) rfl ?_
  refine w_ci rfl ?_
  refine w_isub rfl ?_
  refine w_st3r pl_sub_c rfl (Nat.le_of_ble_eq_true rfl) (r_isWithin) ?_
  refine w_if_eq rfl (fun c14 => ?_) (fun c14 => absurd ((hp _)) c14)
  refine w_ci rfl ?_
  refine w_ri rfl ?_
  exact ⟨by first | rfl | simp [*] | decide, s0, t0, rfl, Mod0⟩

set_option maxRecDepth 100000 in
theorem d_trace {i : Int32} (s : Nat → Nat → Int32) (t : Nat → Nat → Int64) : Wm 207 [.ref 51, .int i] (mk (mS s) (mT t)) (Pm (.int (-3))) := by
  have hp : ∀ x : Int32, b2 (wi x 0 (mS s 51 28 - 1)) = 0 := fun x => by rw [show mS s 51 28 - 1 = -1 from (by show s0 51 28 - 1 = -1; decide), wi_m1]; rfl
  refine Wm.of pT_207 (Nat.le_of_ble_eq_true rfl) (L0 := [some (.ref 51), some (.int i)]) rfl ?_
  refine w_li rfl rfl ?_
  refine w_ci rfl ?_
  refine w_la rfl rfl ?_
  refine w_gf rfl (mg_51 _ _) rfl ?_
  refine w_ci rfl ?_
  refine w_isub rfl ?_
  refine w_st3r pl_sub_c rfl (Nat.le_of_ble_eq_true rfl) (m_in) ?_
  refine w_if_eq rfl (fun c11 => ?_) (fun c11 => absurd ((hp _)) c11)
  refine w_ci rfl ?_
  refine w_ri rfl ?_
  exact ⟨by first | rfl | simp [*] | decide, mS s, mT t, rfl⟩

theorem b_trace {i : Int32} : Bth 91 207 [.int i] := Bth.of (c_trace ) (fun s t => d_trace  s t)
set_option maxRecDepth 100000 in
theorem c_lawOf_out {i : Int32} (hi : wi i 0 3 = false) : Wm 55 [.ref 0, .int i] (mk s0 t0) (Pc (.int (-1))) := by
  have hb : b2 (wi i 0 3) = 0 := by rw [hi]; rfl
  refine Wm.of pT_55 (Nat.le_of_ble_eq_true rfl) (L0 := [some (.ref 0), some (.int i)]) rfl ?_
  refine w_li rfl rfl ?_
  refine w_ci rfl ?_
  refine w_ci rfl ?_
  refine w_st3r pl_sub_c rfl (Nat.le_of_ble_eq_true rfl) (r_isWithin) ?_
  refine w_if_eq rfl (fun c6 => ?_) (fun c6 => absurd (hb) c6)
  refine w_ci rfl ?_
  refine w_ri rfl ?_
  exact ⟨by first | rfl | simp [*] | decide, s0, t0, rfl, Mod0⟩

set_option maxRecDepth 100000 in
theorem d_lawOf_out {i : Int32} (hi : wi i 0 3 = false) (s : Nat → Nat → Int32) (t : Nat → Nat → Int64) : Wm 135 [.ref 51, .int i] (mk (mS s) (mT t)) (Pm (.int (-1))) := by
  have hb : b2 (wi i 0 3) = 0 := by rw [hi]; rfl
  refine Wm.of pT_135 (Nat.le_of_ble_eq_true rfl) (L0 := [some (.ref 51), some (.int i)]) rfl ?_
  refine w_li rfl rfl ?_
  refine w_ci rfl ?_
  refine w_ci rfl ?_
  refine w_st3r pl_sub_c rfl (Nat.le_of_ble_eq_true rfl) (m_in) ?_
  refine w_if_eq rfl (fun c6 => ?_) (fun c6 => absurd (hb) c6)
  refine w_ci rfl ?_
  refine w_ri rfl ?_
  exact ⟨by first | rfl | simp [*] | decide, mS s, mT t, rfl⟩

theorem b_lawOf_out {i : Int32} (hi : wi i 0 3 = false) : Bth 55 135 [.int i] := Bth.of (c_lawOf_out hi) (fun s t => d_lawOf_out hi s t)
