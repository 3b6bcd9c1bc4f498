/-! readers: methods that answer an int and leave all as it was -/
def Wr (k : Nat) (as : List Value) (h : pm_H) (v : Int32) : Prop := Wm k as h (fun r h' => r = some (.int v) ∧ h' = h)
def wi (v l m : Int32) : Bool := decide (l ≤ v) && decide (v ≤ m)
theorem wi_lt {v l m : Int32} (h : v < l) : wi v l m = false := by
  have h1 : ¬ l ≤ v := Int32.not_le.mpr h
  simp [wi, h1]
theorem wi_gt {v l m : Int32} (h : m < v) : wi v l m = false := by
  have h1 : ¬ v ≤ m := Int32.not_le.mpr h
  simp [wi, h1]
theorem wi_ok {v l m : Int32} (h : ¬ v < l) (h2 : ¬ m < v) : wi v l m = true := by
  have h1 : l ≤ v := Int32.not_lt.mp h
  have h3 : v ≤ m := Int32.not_lt.mp h2
  simp [wi, h1, h3]
def b2 (b : Bool) : Int32 := bif b then 1 else 0
theorem b2_0 {b : Bool} (h : b2 b = 0) : b = false := by cases b <;> first | rfl | (exact absurd h (by decide))
theorem b2_n {b : Bool} (h : ¬ b2 b = 0) : b = true := by cases b <;> first | rfl | (exact absurd rfl h)
theorem b2_ok (b : Bool) : (b2 b == 0 || b2 b == 1) = true := by cases b <;> decide
section READ
variable {K : pm_K} {k pc nx : Nat} {L L2 : pm_L} {st st2 : List Value} {h h2 : pm_H} {P : Option Value → pm_H → Prop}
theorem w_st0r {c : Nat} {v : Int32} (hKK : pl_sub K) (hC : pm_C0 k pc = pms_st c 0 nx) (hcat : (st.map fun v => v.category).sum ≤ 8) (hm : Wr c [] h v) (hg : Wp K k nx L (.int v :: st) h P) : Wp K k pc L (st) h P :=
  w_st0 hKK hC hcat hm (fun r2 h2 q => by rw [q.2]) (fun r2 h2 q => by rw [q.1, q.2]; exact hg)
theorem w_vi0r {ci c b : Nat} {fs : List Value} {v : Int32} (hKK : pl_sub K) (hC : pm_C0 k pc = pms_vi ci c 0 nx) (hcell : h[b]? = some (pm_ob ci fs)) (hcat : (st.map fun v => v.category).sum ≤ 8) (hm : Wr c [.ref b] h v) (hg : Wp K k nx L (.int v :: st) h P) : Wp K k pc L (.ref b :: st) h P :=
  w_vi0 hKK hC hcell hcat hm (fun r2 h2 q => by rw [q.2]) (fun r2 h2 q => by rw [q.1, q.2]; exact hg)
theorem w_st1r {c : Nat} {v0 : Value} {v : Int32} (hKK : pl_sub K) (hC : pm_C0 k pc = pms_st c 1 nx) (hcat : (st.map fun v => v.category).sum ≤ 8) (hm : Wr c [v0] h v) (hg : Wp K k nx L (.int v :: st) h P) : Wp K k pc L (v0 :: st) h P :=
  w_st1 hKK hC hcat hm (fun r2 h2 q => by rw [q.2]) (fun r2 h2 q => by rw [q.1, q.2]; exact hg)
theorem w_vi1r {ci c b : Nat} {fs : List Value} {v0 : Value} {v : Int32} (hKK : pl_sub K) (hC : pm_C0 k pc = pms_vi ci c 1 nx) (hcell : h[b]? = some (pm_ob ci fs)) (hcat : (st.map fun v => v.category).sum ≤ 8) (hm : Wr c [.ref b, v0] h v) (hg : Wp K k nx L (.int v :: st) h P) : Wp K k pc L (v0 :: .ref b :: st) h P :=
  w_vi1 hKK hC hcell hcat hm (fun r2 h2 q => by rw [q.2]) (fun r2 h2 q => by rw [q.1, q.2]; exact hg)
theorem w_st2r {c : Nat} {v0 v1 : Value} {v : Int32} (hKK : pl_sub K) (hC : pm_C0 k pc = pms_st c 2 nx) (hcat : (st.map fun v => v.category).sum ≤ 8) (hm : Wr c [v0, v1] h v) (hg : Wp K k nx L (.int v :: st) h P) : Wp K k pc L (v1 :: v0 :: st) h P :=
  w_st2 hKK hC hcat hm (fun r2 h2 q => by rw [q.2]) (fun r2 h2 q => by rw [q.1, q.2]; exact hg)
theorem w_vi2r {ci c b : Nat} {fs : List Value} {v0 v1 : Value} {v : Int32} (hKK : pl_sub K) (hC : pm_C0 k pc = pms_vi ci c 2 nx) (hcell : h[b]? = some (pm_ob ci fs)) (hcat : (st.map fun v => v.category).sum ≤ 8) (hm : Wr c [.ref b, v0, v1] h v) (hg : Wp K k nx L (.int v :: st) h P) : Wp K k pc L (v1 :: v0 :: .ref b :: st) h P :=
  w_vi2 hKK hC hcell hcat hm (fun r2 h2 q => by rw [q.2]) (fun r2 h2 q => by rw [q.1, q.2]; exact hg)
theorem w_st3r {c : Nat} {v0 v1 v2 : Value} {v : Int32} (hKK : pl_sub K) (hC : pm_C0 k pc = pms_st c 3 nx) (hcat : (st.map fun v => v.category).sum ≤ 8) (hm : Wr c [v0, v1, v2] h v) (hg : Wp K k nx L (.int v :: st) h P) : Wp K k pc L (v2 :: v1 :: v0 :: st) h P :=
  w_st3 hKK hC hcat hm (fun r2 h2 q => by rw [q.2]) (fun r2 h2 q => by rw [q.1, q.2]; exact hg)
theorem w_vi3r {ci c b : Nat} {fs : List Value} {v0 v1 v2 : Value} {v : Int32} (hKK : pl_sub K) (hC : pm_C0 k pc = pms_vi ci c 3 nx) (hcell : h[b]? = some (pm_ob ci fs)) (hcat : (st.map fun v => v.category).sum ≤ 8) (hm : Wr c [.ref b, v0, v1, v2] h v) (hg : Wp K k nx L (.int v :: st) h P) : Wp K k pc L (v2 :: v1 :: v0 :: .ref b :: st) h P :=
  w_vi3 hKK hC hcell hcat hm (fun r2 h2 q => by rw [q.2]) (fun r2 h2 q => by rw [q.1, q.2]; exact hg)
theorem w_st4r {c : Nat} {v0 v1 v2 v3 : Value} {v : Int32} (hKK : pl_sub K) (hC : pm_C0 k pc = pms_st c 4 nx) (hcat : (st.map fun v => v.category).sum ≤ 8) (hm : Wr c [v0, v1, v2, v3] h v) (hg : Wp K k nx L (.int v :: st) h P) : Wp K k pc L (v3 :: v2 :: v1 :: v0 :: st) h P :=
  w_st4 hKK hC hcat hm (fun r2 h2 q => by rw [q.2]) (fun r2 h2 q => by rw [q.1, q.2]; exact hg)
theorem w_vi4r {ci c b : Nat} {fs : List Value} {v0 v1 v2 v3 : Value} {v : Int32} (hKK : pl_sub K) (hC : pm_C0 k pc = pms_vi ci c 4 nx) (hcell : h[b]? = some (pm_ob ci fs)) (hcat : (st.map fun v => v.category).sum ≤ 8) (hm : Wr c [.ref b, v0, v1, v2, v3] h v) (hg : Wp K k nx L (.int v :: st) h P) : Wp K k pc L (v3 :: v2 :: v1 :: v0 :: .ref b :: st) h P :=
  w_vi4 hKK hC hcell hcat hm (fun r2 h2 q => by rw [q.2]) (fun r2 h2 q => by rw [q.1, q.2]; exact hg)
theorem w_st5r {c : Nat} {v0 v1 v2 v3 v4 : Value} {v : Int32} (hKK : pl_sub K) (hC : pm_C0 k pc = pms_st c 5 nx) (hcat : (st.map fun v => v.category).sum ≤ 8) (hm : Wr c [v0, v1, v2, v3, v4] h v) (hg : Wp K k nx L (.int v :: st) h P) : Wp K k pc L (v4 :: v3 :: v2 :: v1 :: v0 :: st) h P :=
  w_st5 hKK hC hcat hm (fun r2 h2 q => by rw [q.2]) (fun r2 h2 q => by rw [q.1, q.2]; exact hg)
theorem w_vi5r {ci c b : Nat} {fs : List Value} {v0 v1 v2 v3 v4 : Value} {v : Int32} (hKK : pl_sub K) (hC : pm_C0 k pc = pms_vi ci c 5 nx) (hcell : h[b]? = some (pm_ob ci fs)) (hcat : (st.map fun v => v.category).sum ≤ 8) (hm : Wr c [.ref b, v0, v1, v2, v3, v4] h v) (hg : Wp K k nx L (.int v :: st) h P) : Wp K k pc L (v4 :: v3 :: v2 :: v1 :: v0 :: .ref b :: st) h P :=
  w_vi5 hKK hC hcell hcat hm (fun r2 h2 q => by rw [q.2]) (fun r2 h2 q => by rw [q.1, q.2]; exact hg)
end READ
set_option maxRecDepth 100000 in
theorem r_isWithin {h : pm_H} {v l m : Int32} : Wm 95 [.int v, .int l, .int m] h (fun r h' => r = some (.int (b2 (wi v l m))) ∧ h' = h) := by
  refine Wm.of pT_95 (Nat.le_of_ble_eq_true rfl) (L0 := [some (.int v), some (.int l), some (.int m)]) rfl ?_
  refine w_li rfl rfl ?_
  refine w_li rfl rfl ?_
  refine w_ic_lt rfl (fun c2 => ?_) (fun c2 => ?_)
  · skip
    refine w_ci rfl ?_
    refine w_rz rfl (by decide) ?_
    exact ⟨by first | (rw [wi_lt (by assumption)]; rfl) | (rw [wi_gt (by assumption)]; rfl) | (rw [wi_ok (by assumption) (by assumption)]; rfl), rfl⟩
  · skip
    refine w_li rfl rfl ?_
    refine w_li rfl rfl ?_
    refine w_ic_gt rfl (fun c7 => ?_) (fun c7 => ?_)
    · skip
      refine w_ci rfl ?_
      refine w_rz rfl (by decide) ?_
      exact ⟨by first | (rw [wi_lt (by assumption)]; rfl) | (rw [wi_gt (by assumption)]; rfl) | (rw [wi_ok (by assumption) (by assumption)]; rfl), rfl⟩
    · skip
      refine w_ci rfl ?_
      refine w_go rfl ?_
      refine w_rz rfl (by decide) ?_
      exact ⟨by first | (rw [wi_lt (by assumption)]; rfl) | (rw [wi_gt (by assumption)]; rfl) | (rw [wi_ok (by assumption) (by assumption)]; rfl), rfl⟩

set_option maxRecDepth 100000 in
theorem r_isKind {h : pm_H} {v : Int32} : Wm 96 [.int v] h (fun r h' => r = some (.int (b2 (wi v 0 5))) ∧ h' = h) := by
  refine Wm.of pT_96 (Nat.le_of_ble_eq_true rfl) (L0 := [some (.int v)]) rfl ?_
  refine w_li rfl rfl ?_
  refine w_ci rfl ?_
  refine w_ci rfl ?_
  refine w_st3r pl_sub_c rfl (Nat.le_of_ble_eq_true rfl) (r_isWithin) ?_
  refine w_rz rfl (b2_ok _) ?_
  exact ⟨rfl, rfl⟩

set_option maxRecDepth 100000 in
theorem r_isPlace {h : pm_H} {v : Int32} : Wm 97 [.int v] h (fun r h' => r = some (.int (b2 (wi v 0 3))) ∧ h' = h) := by
  refine Wm.of pT_97 (Nat.le_of_ble_eq_true rfl) (L0 := [some (.int v)]) rfl ?_
  refine w_li rfl rfl ?_
  refine w_ci rfl ?_
  refine w_ci rfl ?_
  refine w_st3r pl_sub_c rfl (Nat.le_of_ble_eq_true rfl) (r_isWithin) ?_
  refine w_rz rfl (b2_ok _) ?_
  exact ⟨rfl, rfl⟩

set_option maxRecDepth 100000 in
theorem r_has_1 {s : Nat → Nat → Int32} {t : Nat → Nat → Int64} {p : Int32} : Wm 13 [.ref 1, .int p] (mk s t) (fun r h' => r = some (.int (b2 (wi p 0 (s 1 8 - 1)))) ∧ h' = mk s t) := by
  refine Wm.of pT_13 (Nat.le_of_ble_eq_true rfl) (L0 := [some (.ref 1), some (.int p)]) rfl ?_
  refine w_li rfl rfl ?_
  refine w_ci rfl ?_
  refine w_la rfl rfl ?_
  refine w_gf rfl (mg_1 _ _) rfl ?_
  refine w_ci rfl ?_
  refine w_isub rfl ?_
  refine w_st3r pl_sub_c rfl (Nat.le_of_ble_eq_true rfl) (r_isWithin) ?_
  refine w_rz rfl (b2_ok _) ?_
  exact ⟨rfl, rfl⟩

set_option maxRecDepth 100000 in
theorem r_has_19 {s : Nat → Nat → Int32} {t : Nat → Nat → Int64} {p : Int32} : Wm 13 [.ref 19, .int p] (mk s t) (fun r h' => r = some (.int (b2 (wi p 0 (s 19 8 - 1)))) ∧ h' = mk s t) := by
  refine Wm.of pT_13 (Nat.le_of_ble_eq_true rfl) (L0 := [some (.ref 19), some (.int p)]) rfl ?_
  refine w_li rfl rfl ?_
  refine w_ci rfl ?_
  refine w_la rfl rfl ?_
  refine w_gf rfl (mg_19 _ _) rfl ?_
  refine w_ci rfl ?_
  refine w_isub rfl ?_
  refine w_st3r pl_sub_c rfl (Nat.le_of_ble_eq_true rfl) (r_isWithin) ?_
  refine w_rz rfl (b2_ok _) ?_
  exact ⟨rfl, rfl⟩

set_option maxRecDepth 100000 in
theorem r_isInRow {s : Nat → Nat → Int32} {t : Nat → Nat → Int64} {i w : Int32} : Wm 99 [.ref 0, .int i, .int w] (mk s t) (fun r h' => r = some (.int (b2 (wi i 0 (s 0 9 - 1) && wi w 0 2))) ∧ h' = mk s t) := by
  refine Wm.of pT_99 (Nat.le_of_ble_eq_true rfl) (L0 := [some (.ref 0), some (.int i), some (.int w)]) rfl ?_
  refine w_li rfl rfl ?_
  refine w_ci rfl ?_
  refine w_la rfl rfl ?_
  refine w_gf rfl (mg_0 _ _) rfl ?_
  refine w_ci rfl ?_
  refine w_isub rfl ?_
  refine w_st3r pl_sub_c rfl (Nat.le_of_ble_eq_true rfl) (r_isWithin) ?_
  refine w_if_eq rfl (fun c11 => ?_) (fun c11 => ?_)
  · skip
    replace c11 := b2_0 c11
    refine w_ci rfl ?_
    refine w_rz rfl (by decide) ?_
    exact ⟨by simp [*, b2], rfl⟩
  · skip
    replace c11 := b2_n c11
    refine w_li rfl rfl ?_
    refine w_ci rfl ?_
    refine w_ci rfl ?_
    refine w_st3r pl_sub_c rfl (Nat.le_of_ble_eq_true rfl) (r_isWithin) ?_
    refine w_if_eq rfl (fun c20 => ?_) (fun c20 => ?_)
    · skip
      replace c20 := b2_0 c20
      refine w_ci rfl ?_
      refine w_rz rfl (by decide) ?_
      exact ⟨by simp [*, b2], rfl⟩
    · skip
      replace c20 := b2_n c20
      refine w_ci rfl ?_
      refine w_go rfl ?_
      refine w_rz rfl (by decide) ?_
      exact ⟨by simp [*, b2], rfl⟩

set_option maxRecDepth 100000 in
theorem m_in {h : pm_H} {v l m : Int32} : Wm 110 [.int v, .int l, .int m] h (fun r h' => r = some (.int (b2 (wi v l m))) ∧ h' = h) := by
  refine Wm.of pT_110 (Nat.le_of_ble_eq_true rfl) (L0 := [some (.int v), some (.int l), some (.int m)]) rfl ?_
  refine w_li rfl rfl ?_
  refine w_li rfl rfl ?_
  refine w_ic_lt rfl (fun c2 => ?_) (fun c2 => ?_)
  · skip
    refine w_ci rfl ?_
    refine w_rz rfl (by decide) ?_
    exact ⟨by first | (rw [wi_lt (by assumption)]; rfl) | (rw [wi_gt (by assumption)]; rfl) | (rw [wi_ok (by assumption) (by assumption)]; rfl), rfl⟩
  · skip
    refine w_li rfl rfl ?_
    refine w_li rfl rfl ?_
    refine w_ic_gt rfl (fun c7 => ?_) (fun c7 => ?_)
    · skip
      refine w_ci rfl ?_
      refine w_rz rfl (by decide) ?_
      exact ⟨by first | (rw [wi_lt (by assumption)]; rfl) | (rw [wi_gt (by assumption)]; rfl) | (rw [wi_ok (by assumption) (by assumption)]; rfl), rfl⟩
    · skip
      refine w_ci rfl ?_
      refine w_go rfl ?_
      refine w_rz rfl (by decide) ?_
      exact ⟨by first | (rw [wi_lt (by assumption)]; rfl) | (rw [wi_gt (by assumption)]; rfl) | (rw [wi_ok (by assumption) (by assumption)]; rfl), rfl⟩

set_option maxRecDepth 100000 in
theorem m_isOne {s : Nat → Nat → Int32} {t : Nat → Nat → Int64} {p : Int32} : Wm 113 [.ref 51, .int p] (mk s t) (fun r h' => r = some (.int (b2 (wi p 0 (s 52 6 - 1)))) ∧ h' = mk s t) := by
  refine Wm.of pT_113 (Nat.le_of_ble_eq_true rfl) (L0 := [some (.ref 51), some (.int p)]) rfl ?_
  refine w_li rfl rfl ?_
  refine w_ci rfl ?_
  refine w_la rfl rfl ?_
  refine w_gf rfl (mg_51 _ _) rfl ?_
  refine w_ci rfl ?_
  refine w_ia rfl (mr_52 _ _ _) (by decide) (ar_get (by decide)) ?_
  refine w_ci rfl ?_
  refine w_isub rfl ?_
  refine w_st3r pl_sub_c rfl (Nat.le_of_ble_eq_true rfl) (m_in) ?_
  refine w_rz rfl (b2_ok _) ?_
  exact ⟨rfl, rfl⟩

set_option maxRecDepth 100000 in
theorem m_isShelf {h : pm_H} {v : Int32} : Wm 186 [.int v] h (fun r h' => r = some (.int (b2 (wi v 0 3))) ∧ h' = h) := by
  refine Wm.of pT_186 (Nat.le_of_ble_eq_true rfl) (L0 := [some (.int v)]) rfl ?_
  refine w_li rfl rfl ?_
  refine w_ci rfl ?_
  refine w_ci rfl ?_
  refine w_st3r pl_sub_c rfl (Nat.le_of_ble_eq_true rfl) (m_in) ?_
  refine w_rz rfl (b2_ok _) ?_
  exact ⟨rfl, rfl⟩

set_option maxRecDepth 100000 in
theorem m_isKind {h : pm_H} {v w : Int32} : Wm 136 [.int v, .int w] h (fun r h' => r = some (.int (b2 (wi v 0 5 && wi w 0 9))) ∧ h' = h) := by
  refine Wm.of pT_136 (Nat.le_of_ble_eq_true rfl) (L0 := [some (.int v), some (.int w)]) rfl ?_
  refine w_li rfl rfl ?_
  refine w_ci rfl ?_
  refine w_ci rfl ?_
  refine w_st3r pl_sub_c rfl (Nat.le_of_ble_eq_true rfl) (m_in) ?_
  refine w_if_eq rfl (fun c6 => ?_) (fun c6 => ?_)
  · skip
    replace c6 := b2_0 c6
    refine w_ci rfl ?_
    refine w_rz rfl (by decide) ?_
    exact ⟨by simp [*, b2], rfl⟩
  · skip
    replace c6 := b2_n c6
    refine w_li rfl rfl ?_
    refine w_ci rfl ?_
    refine w_ci rfl ?_
    refine w_st3r pl_sub_c rfl (Nat.le_of_ble_eq_true rfl) (m_in) ?_
    refine w_if_eq rfl (fun c16 => ?_) (fun c16 => ?_)
    · skip
      replace c16 := b2_0 c16
      refine w_ci rfl ?_
      refine w_rz rfl (by decide) ?_
      exact ⟨by simp [*, b2], rfl⟩
    · skip
      replace c16 := b2_n c16
      refine w_ci rfl ?_
      refine w_go rfl ?_
      refine w_rz rfl (by decide) ?_
      exact ⟨by simp [*, b2], rfl⟩

set_option maxRecDepth 100000 in
theorem m_isRow {s : Nat → Nat → Int32} {t : Nat → Nat → Int64} {i w : Int32} : Wm 181 [.ref 51, .int i, .int w] (mk s t) (fun r h' => r = some (.int (b2 (wi i 0 (s 51 17 - 1) && wi w 0 2))) ∧ h' = mk s t) := by
  refine Wm.of pT_181 (Nat.le_of_ble_eq_true rfl) (L0 := [some (.ref 51), some (.int i), some (.int w)]) rfl ?_
  refine w_li rfl rfl ?_
  refine w_ci rfl ?_
  refine w_la rfl rfl ?_
  refine w_gf rfl (mg_51 _ _) rfl ?_
  refine w_ci rfl ?_
  refine w_isub rfl ?_
  refine w_st3r pl_sub_c rfl (Nat.le_of_ble_eq_true rfl) (m_in) ?_
  refine w_if_eq rfl (fun c11 => ?_) (fun c11 => ?_)
  · skip
    replace c11 := b2_0 c11
    refine w_ci rfl ?_
    refine w_rz rfl (by decide) ?_
    exact ⟨by simp [*, b2], rfl⟩
  · skip
    replace c11 := b2_n c11
    refine w_li rfl rfl ?_
    refine w_ci rfl ?_
    refine w_ci rfl ?_
    refine w_st3r pl_sub_c rfl (Nat.le_of_ble_eq_true rfl) (m_in) ?_
    refine w_if_eq rfl (fun c20 => ?_) (fun c20 => ?_)
    · skip
      replace c20 := b2_0 c20
      refine w_ci rfl ?_
      refine w_rz rfl (by decide) ?_
      exact ⟨by simp [*, b2], rfl⟩
    · skip
      replace c20 := b2_n c20
      refine w_ci rfl ?_
      refine w_go rfl ?_
      refine w_rz rfl (by decide) ?_
      exact ⟨by simp [*, b2], rfl⟩

set_option maxRecDepth 100000 in
theorem m_mostOf {h : pm_H} {v : Int32} : Wm 133 [.int v] h (fun r h' => r = some (.int ((if v = 3 then 99 else 9))) ∧ h' = h) := by
  refine Wm.of pT_133 (Nat.le_of_ble_eq_true rfl) (L0 := [some (.int v)]) rfl ?_
  refine w_li rfl rfl ?_
  refine w_ci rfl ?_
  refine w_ic_ne rfl (fun c2 => ?_) (fun c2 => ?_)
  · skip
    refine w_ci rfl ?_
    refine w_ri rfl ?_
    exact ⟨by simp_all, rfl⟩
  · skip
    refine w_ci rfl ?_
    refine w_go rfl ?_
    refine w_ri rfl ?_
    exact ⟨by simp_all, rfl⟩

