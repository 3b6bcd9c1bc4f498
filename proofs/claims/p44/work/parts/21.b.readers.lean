/-! readers: methods that answer an int and leave all as it was -/
def Wr (k : Nat) (as : List Value) (h : pm_H) (v : Int32) : Prop := Wm k as h (fun r h' => r = some (.int v) ∧ h' = h)
def wi (v l m : Int32) : Bool := decide (l ≤ v) && decide (v ≤ m)
theorem wi_lt {v l m : Int32} (h : v < l) : wi v l m = false := by
  have h1 : ¬ l ≤ v := Int32.not_le.mpr h
  simp [wi, h1]
theorem wi_gt {v l m : Int32} (h : m < v) : wi v l m = false := by
  have h1 : ¬ v ≤ m := Int32.not_le.mpr h
  simp [wi, h1]
theorem wi_ok {v l m : Int32} (h : ¬ v < l) (h2 : ¬ m < v) : wi v l m = true := by
  have h1 : l ≤ v := Int32.not_lt.mp h
  have h3 : v ≤ m := Int32.not_lt.mp h2
  simp [wi, h1, h3]
def b2 (b : Bool) : Int32 := bif b then 1 else 0
theorem b2_0 {b : Bool} (h : b2 b = 0) : b = false := by cases b <;> first | rfl | (exact absurd h (by decide))
theorem b2_n {b : Bool} (h : ¬ b2 b = 0) : b = true := by cases b <;> first | rfl | (exact absurd rfl h)
theorem b2_ok (b : Bool) : (b2 b == 0 || b2 b == 1) = true := by cases b <;> decide
section READ
variable {K : pm_K} {k pc nx : Nat} {L L2 : pm_L} {st st2 : List Value} {h h2 : pm_H} {P : Option Value → pm_H → Prop}
theorem w_st0r {c : Nat} {v : Int32} (hKK : pl_sub K) (hC : pm_C0 k pc = pms_st c 0 nx) (hcat : (st.map fun v => v.category).sum ≤ 8) (hm : Wr c [] h v) (hg : Wp K k nx L (.int v :: st) h P) : Wp K k pc L (st) h P :=
  w_st0 hKK hC hcat hm (fun r2 h2 q => by rw [q.2]) (fun r2 h2 q => by rw [q.1, q.2]; exact hg)
theorem w_vi0r {ci c b : Nat} {fs : List Value} {v : Int32} (hKK : pl_sub K) (hC : pm_C0 k pc = pms_vi ci c 0 nx) (hcell : h[b]? = some (pm_ob ci fs)) (hcat : (st.map fun v => v.category).sum ≤ 8) (hm : Wr c [.ref b] h v) (hg : Wp K k nx L (.int v :: st) h P) : Wp K k pc L (.ref b :: st) h P :=
  w_vi0 hKK hC hcell hcat hm (fun r2 h2 q => by rw [q.2]) (fun r2 h2 q => by rw [q.1, q.2]; exact hg)
theorem w_st1r {c : Nat} {v0 : Value} {v : Int32} (hKK : pl_sub K) (hC : pm_C0 k pc = pms_st c 1 nx) (hcat : (st.map fun v => v.category).sum ≤ 8) (hm : Wr c [v0] h v) (hg : Wp K k nx L (.int v :: st) h P) : Wp K k pc L (v0 :: st) h P :=
  w_st1 hKK hC hcat hm (fun r2 h2 q => by rw [q.2]) (fun r2 h2 q => by rw [q.1, q.2]; exact hg)
theorem w_vi1r {ci c b : Nat} {fs : List Value} {v0 : Value} {v : Int32} (hKK : pl_sub K) (hC : pm_C0 k pc = pms_vi ci c 1 nx) (hcell : h[b]? = some (pm_ob ci fs)) (hcat : (st.map fun v => v.category).sum ≤ 8) (hm : Wr c [.ref b, v0] h v) (hg : Wp K k nx L (.int v :: st) h P) : Wp K k pc L (v0 :: .ref b :: st) h P :=
  w_vi1 hKK hC hcell hcat hm (fun r2 h2 q => by rw [q.2]) (fun r2 h2 q => by rw [q.1, q.2]; exact hg)
theorem w_st2r {c : Nat} {v0 v1 : Value} {v : Int32} (hKK : pl_sub K) (hC : pm_C0 k pc = pms_st c 2 nx) (hcat : (st.map fun v => v.category).sum ≤ 8) (hm : Wr c [v0, v1] h v) (hg : Wp K k nx L (.int v :: st) h P) : Wp K k pc L (v1 :: v0 :: st) h P :=
  w_st2 hKK hC hcat hm (fun r2 h2 q => by rw [q.2]) (fun r2 h2 q => by rw [q.1, q.2]; exact hg)
theorem w_vi2r {ci c b : Nat} {fs : List Value} {v0 v1 : Value} {v : Int32} (hKK : pl_sub K) (hC : pm_C0 k pc = pms_vi ci c 2 nx) (hcell : h[b]? = some (pm_ob ci fs)) (hcat : (st.map fun v => v.category).sum ≤ 8) (hm : Wr c [.ref b, v0, v1] h v) (hg : Wp K k nx L (.int v :: st) h P) : Wp K k pc L (v1 :: v0 :: .ref b :: st) h P :=
  w_vi2 hKK hC hcell hcat hm (fun r2 h2 q => by rw [q.2]) (fun r2 h2 q => by rw [q.1, q.2]; exact hg)
theorem w_st3r {c : Nat} {v0 v1 v2 : Value} {v : Int32} (hKK : pl_sub K) (hC : pm_C0 k pc = pms_st c 3 nx) (hcat : (st.map fun v => v.category).sum ≤ 8) (hm : Wr c [v0, v1, v2] h v) (hg : Wp K k nx L (.int v :: st) h P) : Wp K k pc L (v2 :: v1 :: v0 :: st) h P :=
  w_st3 hKK hC hcat hm (fun r2 h2 q => by rw [q.2]) (fun r2 h2 q => by rw [q.1, q.2]; exact hg)
theorem w_vi3r {ci c b : Nat} {fs : List Value} {v0 v1 v2 : Value} {v : Int32} (hKK : pl_sub K) (hC : pm_C0 k pc = pms_vi ci c 3 nx) (hcell : h[b]? = some (pm_ob ci fs)) (hcat : (st.map fun v => v.category).sum ≤ 8) (hm : Wr c [.ref b, v0, v1, v2] h v) (hg : Wp K k nx L (.int v :: st) h P) : Wp K k pc L (v2 :: v1 :: v0 :: .ref b :: st) h P :=
  w_vi3 hKK hC hcell hcat hm (fun r2 h2 q => by rw [q.2]) (fun r2 h2 q => by rw [q.1, q.2]; exact hg)
theorem w_st4r {c : Nat} {v0 v1 v2 v3 : Value} {v : Int32} (hKK : pl_sub K) (hC : pm_C0 k pc = pms_st c 4 nx) (hcat : (st.map fun v => v.category).sum ≤ 8) (hm : Wr c [v0, v1, v2, v3] h v) (hg : Wp K k nx L (.int v :: st) h P) : Wp K k pc L (v3 :: v2 :: v1 :: v0 :: st) h P :=
  w_st4 hKK hC hcat hm (fun r2 h2 q => by rw [q.2]) (fun r2 h2 q => by rw [q.1, q.2]; exact hg)
theorem w_vi4r {ci c b : Nat} {fs : List Value} {v0 v1 v2 v3 : Value} {v : Int32} (hKK : pl_sub K) (hC : pm_C0 k pc = pms_vi ci c 4 nx) (hcell : h[b]? = some (pm_ob ci fs)) (hcat : (st.map fun v => v.category).sum ≤ 8) (hm : Wr c [.ref b, v0, v1, v2, v3] h v) (hg : Wp K k nx L (.int v :: st) h P) : Wp K k pc L (v3 :: v2 :: v1 :: v0 :: .ref b :: st) h P :=
  w_vi4 hKK hC hcell hcat hm (fun r2 h2 q => by rw [q.2]) (fun r2 h2 q => by rw [q.1, q.2]; exact hg)
theorem w_st5r {c : Nat} {v0 v1 v2 v3 v4 : Value} {v : Int32} (hKK : pl_sub K) (hC : pm_C0 k pc = pms_st c 5 nx) (hcat : (st.map fun v => v.category).sum ≤ 8) (hm : Wr c [v0, v1, v2, v3, v4] h v) (hg : Wp K k nx L (.int v :: st) h P) : Wp K k pc L (v4 :: v3 :: v2 :: v1 :: v0 :: st) h P :=
  w_st5 hKK hC hcat hm (fun r2 h2 q => by rw [q.2]) (fun r2 h2 q => by rw [q.1, q.2]; exact hg)
theorem w_vi5r {ci c b : Nat} {fs : List Value} {v0 v1 v2 v3 v4 : Value} {v : Int32} (hKK : pl_sub K) (hC : pm_C0 k pc = pms_vi ci c 5 nx) (hcell : h[b]? = some (pm_ob ci fs)) (hcat : (st.map fun v => v.category).sum ≤ 8) (hm : Wr c [.ref b, v0, v1, v2, v3, v4] h v) (hg : Wp K k nx L (.int v :: st) h P) : Wp K k pc L (v4 :: v3 :: v2 :: v1 :: v0 :: .ref b :: st) h P :=
  w_vi5 hKK hC hcell hcat hm (fun r2 h2 q => by rw [q.2]) (fun r2 h2 q => by rw [q.1, q.2]; exact hg)
end READ
