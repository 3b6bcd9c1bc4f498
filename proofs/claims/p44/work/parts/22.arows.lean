/-! rows for the shallow functions: what a method does to the numbers, as a function that may have no answer -/
abbrev SS : Type := Nat → Nat → Int32
abbrev TT : Type := Nat → Nat → Int64
def rx (m : Nat) (i : Int32) : Option Nat := if ¬ i < 0 ∧ i.toNatClampNeg < m then some i.toNatClampNeg else none
def rs (i : Nat) : Option Nat := if i < 14 then some i else none
def wr {α β : Type} (v : α) (f : α → Option β) : Option β := f v
def it {α β : Type} (b : (α → Option β) → α → Option β) : Nat → α → Option β
  | 0 => fun _ => none
  | n + 1 => b (it b n)
def cp2 {α : Type} (s : Nat → Nat → α) (c : Nat) (f : Nat → α) : Nat → Nat → α := fun a b => if a = c then f b else s a b
theorem rx_of {m : Nat} {i : Int32} {j : Nat} (e : rx m i = some j) : ¬ i < 0 ∧ i.toNatClampNeg = j ∧ j < m := by
  unfold rx at e
  split at e
  · next h => cases e; exact ⟨h.1, rfl, h.2⟩
  · cases e
theorem rs_of {i j : Nat} (e : rs i = some j) : i < 14 := by
  unfold rs at e
  split at e
  · next h => exact h
  · cases e
theorem bnd {α β : Type} {o : Option α} {f : α → Option β} {r : β} (h : o.bind f = some r) : ∃ q : α, o = some q ∧ f q = some r := by
  cases o with
  | none => cases h
  | some q => exact ⟨q, rfl, h⟩
theorem wr_of {α β : Type} {v : α} {f : α → Option β} {r : β} (h : wr v f = some r) (x : α) (e : x = v) : f x = some r := by
  subst e
  exact h
theorem ifp {α : Type} {c : Prop} [Decidable c] {A B R : α} (h : (if c then A else B) = R) (hc : c) : A = R := by
  rw [← h, if_pos hc]
theorem ifn {α : Type} {c : Prop} [Decidable c] {A B R : α} (h : (if c then A else B) = R) (hc : ¬ c) : B = R := by
  rw [← h, if_neg hc]
def Qi (q : Int32 × SS × TT) (r : Option Value) (h : pm_H) : Prop := r = some (.int q.1) ∧ h = mk q.2.1 q.2.2
def Ql (q : Int64 × SS × TT) (r : Option Value) (h : pm_H) : Prop := r = some (.long q.1) ∧ h = mk q.2.1 q.2.2
def Qv (q : SS × TT) (r : Option Value) (h : pm_H) : Prop := r = none ∧ h = mk q.1 q.2
def Qt (q : SS × TT) (r : Option Value) (h : pm_H) : Prop := r = some (.ref 19) ∧ h = mk q.1 q.2
def Qs (q : Nat × SS × TT) (r : Option Value) (h : pm_H) : Prop := r = some (.ref (pm_B + 100 + q.1)) ∧ h = mk q.2.1 q.2.2
def isO (o : Nat) : Prop := o = 1 ∨ o = 10 ∨ o = 19
def isS (o : Nat) : Prop := o = 37 ∨ o = 40 ∨ o = 43 ∨ o = 46
def isH (o : Nat) : Prop := o = 39 ∨ o = 42 ∨ o = 45 ∨ o = 48
def isR8 (a : Nat) : Prop := ∀ (s : SS) (t : TT), (mk s t)[a]? = some (.inl (ar 8 (s a)))
def isR56 (a : Nat) : Prop := a = 52 ∨ a = 53 ∨ a = 54 ∨ a = 55
theorem mrof {K : pm_K} {h : pm_H} {a : Nat} {l : List Int32} (e : h[a]? = some (.inl l)) : pm_row K h a = some l := by
  unfold pm_row
  rw [e]
theorem mlen {K : pm_K} {h : pm_H} {a n : Nat} {f : Nat → Int32} (e : h[a]? = some (.inl (ar n f))) : pm_len K h a = some n := by
  unfold pm_len
  rw [e]
  simp only [ar_len]
theorem mlenj {K : pm_K} {h : pm_H} {a n : Nat} {f : Nat → Int64} (e : h[a]? = some (.inr (.inl (ar n f)))) : pm_len K h a = some n := by
  unfold pm_len
  rw [e]
  simp only [ar_len]
theorem mrB_1 (s : SS) (t : TT) : pm_row pl_Kc (mk s t) (pm_B + 1) = some [9, 9, 9, 99] := rfl
theorem mrB_2 (s : SS) (t : TT) : pm_row pl_Kc (mk s t) (pm_B + 2) = some [3, 2, 1, 20] := rfl
theorem mrB2 (s : SS) (t : TT) : pm_row pl_Kc (mk s t) (pm_B + 2) = some (ar 4 (fun i => ([3, 2, 1, 20] : List Int32).getD i 0)) := rfl
theorem mrR8 {a : Nat} (h : isR8 a) (K : pm_K) (s : SS) (t : TT) : pm_row K (mk s t) a = some (ar 8 (s a)) := mrof (h s t)
theorem mgO {o : Nat} (h : isO o) (s : SS) (t : TT) : (mk s t)[o]? = some (pm_ob 1 [.ref (o + 1), .ref (o + 2), .ref (o + 3), .ref (o + 4), .ref (o + 5), .ref (o + 6), .ref (o + 7), .ref (o + 8), .int (s o 8), .int (s o 9), .int (s o 10), .int (s o 11)]) := by rcases h with rfl | rfl | rfl <;> rfl
theorem msOf_8 {o : Nat} (h : isO o) (s : SS) (t : TT) (v : Int32) : (mk s t).set o (pm_ob 1 ([.ref (o + 1), .ref (o + 2), .ref (o + 3), .ref (o + 4), .ref (o + 5), .ref (o + 6), .ref (o + 7), .ref (o + 8), .int (s o 8), .int (s o 9), .int (s o 10), .int (s o 11)].set 8 (.int v))) = mk (up2 s o 8 v) t := by rcases h with rfl | rfl | rfl <;> rfl
theorem msOf_9 {o : Nat} (h : isO o) (s : SS) (t : TT) (v : Int32) : (mk s t).set o (pm_ob 1 ([.ref (o + 1), .ref (o + 2), .ref (o + 3), .ref (o + 4), .ref (o + 5), .ref (o + 6), .ref (o + 7), .ref (o + 8), .int (s o 8), .int (s o 9), .int (s o 10), .int (s o 11)].set 9 (.int v))) = mk (up2 s o 9 v) t := by rcases h with rfl | rfl | rfl <;> rfl
theorem msOf_10 {o : Nat} (h : isO o) (s : SS) (t : TT) (v : Int32) : (mk s t).set o (pm_ob 1 ([.ref (o + 1), .ref (o + 2), .ref (o + 3), .ref (o + 4), .ref (o + 5), .ref (o + 6), .ref (o + 7), .ref (o + 8), .int (s o 8), .int (s o 9), .int (s o 10), .int (s o 11)].set 10 (.int v))) = mk (up2 s o 10 v) t := by rcases h with rfl | rfl | rfl <;> rfl
theorem msOf_11 {o : Nat} (h : isO o) (s : SS) (t : TT) (v : Int32) : (mk s t).set o (pm_ob 1 ([.ref (o + 1), .ref (o + 2), .ref (o + 3), .ref (o + 4), .ref (o + 5), .ref (o + 6), .ref (o + 7), .ref (o + 8), .int (s o 8), .int (s o 9), .int (s o 10), .int (s o 11)].set 11 (.int v))) = mk (up2 s o 11 v) t := by rcases h with rfl | rfl | rfl <;> rfl
theorem mgO_1 {o : Nat} (h : isO o) (s : SS) (t : TT) : (mk s t)[o + 1]? = some (.inl (ar 4 (s (o + 1)))) := by rcases h with rfl | rfl | rfl <;> rfl
theorem mrO_1 {o : Nat} (h : isO o) (K : pm_K) (s : SS) (t : TT) : pm_row K (mk s t) (o + 1) = some (ar 4 (s (o + 1))) := mrof (mgO_1 h s t)
theorem cpO_1 {o : Nat} (h : isO o) (s : SS) (t : TT) (f : Nat → Int32) : (mk s t).set (o + 1) (.inl (ar 4 f)) = mk (cp2 s (o + 1) f) t := by rcases h with rfl | rfl | rfl <;> rfl
theorem msO_1 {o : Nat} (h : isO o) (s : SS) (t : TT) (i : Nat) (v : Int32) : (mk s t).set (o + 1) (.inl ((ar 4 (s (o + 1))).set i v)) = mk (up2 s (o + 1) i v) t := by rw [ar_set]; rcases h with rfl | rfl | rfl <;> rfl
theorem mgO_2 {o : Nat} (h : isO o) (s : SS) (t : TT) : (mk s t)[o + 2]? = some (.inl (ar 8 (s (o + 2)))) := by rcases h with rfl | rfl | rfl <;> rfl
theorem mrO_2 {o : Nat} (h : isO o) (K : pm_K) (s : SS) (t : TT) : pm_row K (mk s t) (o + 2) = some (ar 8 (s (o + 2))) := mrof (mgO_2 h s t)
theorem cpO_2 {o : Nat} (h : isO o) (s : SS) (t : TT) (f : Nat → Int32) : (mk s t).set (o + 2) (.inl (ar 8 f)) = mk (cp2 s (o + 2) f) t := by rcases h with rfl | rfl | rfl <;> rfl
theorem msO_2 {o : Nat} (h : isO o) (s : SS) (t : TT) (i : Nat) (v : Int32) : (mk s t).set (o + 2) (.inl ((ar 8 (s (o + 2))).set i v)) = mk (up2 s (o + 2) i v) t := by rw [ar_set]; rcases h with rfl | rfl | rfl <;> rfl
theorem isR8_O_2 {o : Nat} (h : isO o) : isR8 (o + 2) := fun s t => mgO_2 h s t
theorem mgO_3 {o : Nat} (h : isO o) (s : SS) (t : TT) : (mk s t)[o + 3]? = some (.inl (ar 8 (s (o + 3)))) := by rcases h with rfl | rfl | rfl <;> rfl
theorem mrO_3 {o : Nat} (h : isO o) (K : pm_K) (s : SS) (t : TT) : pm_row K (mk s t) (o + 3) = some (ar 8 (s (o + 3))) := mrof (mgO_3 h s t)
theorem cpO_3 {o : Nat} (h : isO o) (s : SS) (t : TT) (f : Nat → Int32) : (mk s t).set (o + 3) (.inl (ar 8 f)) = mk (cp2 s (o + 3) f) t := by rcases h with rfl | rfl | rfl <;> rfl
theorem msO_3 {o : Nat} (h : isO o) (s : SS) (t : TT) (i : Nat) (v : Int32) : (mk s t).set (o + 3) (.inl ((ar 8 (s (o + 3))).set i v)) = mk (up2 s (o + 3) i v) t := by rw [ar_set]; rcases h with rfl | rfl | rfl <;> rfl
theorem isR8_O_3 {o : Nat} (h : isO o) : isR8 (o + 3) := fun s t => mgO_3 h s t
theorem mgO_4 {o : Nat} (h : isO o) (s : SS) (t : TT) : (mk s t)[o + 4]? = some (.inl (ar 8 (s (o + 4)))) := by rcases h with rfl | rfl | rfl <;> rfl
theorem mrO_4 {o : Nat} (h : isO o) (K : pm_K) (s : SS) (t : TT) : pm_row K (mk s t) (o + 4) = some (ar 8 (s (o + 4))) := mrof (mgO_4 h s t)
theorem cpO_4 {o : Nat} (h : isO o) (s : SS) (t : TT) (f : Nat → Int32) : (mk s t).set (o + 4) (.inl (ar 8 f)) = mk (cp2 s (o + 4) f) t := by rcases h with rfl | rfl | rfl <;> rfl
theorem msO_4 {o : Nat} (h : isO o) (s : SS) (t : TT) (i : Nat) (v : Int32) : (mk s t).set (o + 4) (.inl ((ar 8 (s (o + 4))).set i v)) = mk (up2 s (o + 4) i v) t := by rw [ar_set]; rcases h with rfl | rfl | rfl <;> rfl
theorem isR8_O_4 {o : Nat} (h : isO o) : isR8 (o + 4) := fun s t => mgO_4 h s t
theorem mgO_5 {o : Nat} (h : isO o) (s : SS) (t : TT) : (mk s t)[o + 5]? = some (.inl (ar 8 (s (o + 5)))) := by rcases h with rfl | rfl | rfl <;> rfl
theorem mrO_5 {o : Nat} (h : isO o) (K : pm_K) (s : SS) (t : TT) : pm_row K (mk s t) (o + 5) = some (ar 8 (s (o + 5))) := mrof (mgO_5 h s t)
theorem cpO_5 {o : Nat} (h : isO o) (s : SS) (t : TT) (f : Nat → Int32) : (mk s t).set (o + 5) (.inl (ar 8 f)) = mk (cp2 s (o + 5) f) t := by rcases h with rfl | rfl | rfl <;> rfl
theorem msO_5 {o : Nat} (h : isO o) (s : SS) (t : TT) (i : Nat) (v : Int32) : (mk s t).set (o + 5) (.inl ((ar 8 (s (o + 5))).set i v)) = mk (up2 s (o + 5) i v) t := by rw [ar_set]; rcases h with rfl | rfl | rfl <;> rfl
theorem isR8_O_5 {o : Nat} (h : isO o) : isR8 (o + 5) := fun s t => mgO_5 h s t
theorem mgO_6 {o : Nat} (h : isO o) (s : SS) (t : TT) : (mk s t)[o + 6]? = some (.inl (ar 8 (s (o + 6)))) := by rcases h with rfl | rfl | rfl <;> rfl
theorem mrO_6 {o : Nat} (h : isO o) (K : pm_K) (s : SS) (t : TT) : pm_row K (mk s t) (o + 6) = some (ar 8 (s (o + 6))) := mrof (mgO_6 h s t)
theorem cpO_6 {o : Nat} (h : isO o) (s : SS) (t : TT) (f : Nat → Int32) : (mk s t).set (o + 6) (.inl (ar 8 f)) = mk (cp2 s (o + 6) f) t := by rcases h with rfl | rfl | rfl <;> rfl
theorem msO_6 {o : Nat} (h : isO o) (s : SS) (t : TT) (i : Nat) (v : Int32) : (mk s t).set (o + 6) (.inl ((ar 8 (s (o + 6))).set i v)) = mk (up2 s (o + 6) i v) t := by rw [ar_set]; rcases h with rfl | rfl | rfl <;> rfl
theorem isR8_O_6 {o : Nat} (h : isO o) : isR8 (o + 6) := fun s t => mgO_6 h s t
theorem mgO_7 {o : Nat} (h : isO o) (s : SS) (t : TT) : (mk s t)[o + 7]? = some (.inl (ar 8 (s (o + 7)))) := by rcases h with rfl | rfl | rfl <;> rfl
theorem mrO_7 {o : Nat} (h : isO o) (K : pm_K) (s : SS) (t : TT) : pm_row K (mk s t) (o + 7) = some (ar 8 (s (o + 7))) := mrof (mgO_7 h s t)
theorem cpO_7 {o : Nat} (h : isO o) (s : SS) (t : TT) (f : Nat → Int32) : (mk s t).set (o + 7) (.inl (ar 8 f)) = mk (cp2 s (o + 7) f) t := by rcases h with rfl | rfl | rfl <;> rfl
theorem msO_7 {o : Nat} (h : isO o) (s : SS) (t : TT) (i : Nat) (v : Int32) : (mk s t).set (o + 7) (.inl ((ar 8 (s (o + 7))).set i v)) = mk (up2 s (o + 7) i v) t := by rw [ar_set]; rcases h with rfl | rfl | rfl <;> rfl
theorem isR8_O_7 {o : Nat} (h : isO o) : isR8 (o + 7) := fun s t => mgO_7 h s t
theorem mgO_8 {o : Nat} (h : isO o) (s : SS) (t : TT) : (mk s t)[o + 8]? = some (.inl (ar 8 (s (o + 8)))) := by rcases h with rfl | rfl | rfl <;> rfl
theorem mrO_8 {o : Nat} (h : isO o) (K : pm_K) (s : SS) (t : TT) : pm_row K (mk s t) (o + 8) = some (ar 8 (s (o + 8))) := mrof (mgO_8 h s t)
theorem cpO_8 {o : Nat} (h : isO o) (s : SS) (t : TT) (f : Nat → Int32) : (mk s t).set (o + 8) (.inl (ar 8 f)) = mk (cp2 s (o + 8) f) t := by rcases h with rfl | rfl | rfl <;> rfl
theorem msO_8 {o : Nat} (h : isO o) (s : SS) (t : TT) (i : Nat) (v : Int32) : (mk s t).set (o + 8) (.inl ((ar 8 (s (o + 8))).set i v)) = mk (up2 s (o + 8) i v) t := by rw [ar_set]; rcases h with rfl | rfl | rfl <;> rfl
theorem isR8_O_8 {o : Nat} (h : isO o) : isR8 (o + 8) := fun s t => mgO_8 h s t
theorem mgS {o : Nat} (h : isS o) (s : SS) (t : TT) : (mk s t)[o]? = some (pm_ob 2 [.ref (o + 1), .int (s o 1), .int (s o 2)]) := by rcases h with rfl | rfl | rfl | rfl <;> rfl
theorem msSf_1 {o : Nat} (h : isS o) (s : SS) (t : TT) (v : Int32) : (mk s t).set o (pm_ob 2 ([.ref (o + 1), .int (s o 1), .int (s o 2)].set 1 (.int v))) = mk (up2 s o 1 v) t := by rcases h with rfl | rfl | rfl | rfl <;> rfl
theorem msSf_2 {o : Nat} (h : isS o) (s : SS) (t : TT) (v : Int32) : (mk s t).set o (pm_ob 2 ([.ref (o + 1), .int (s o 1), .int (s o 2)].set 2 (.int v))) = mk (up2 s o 2 v) t := by rcases h with rfl | rfl | rfl | rfl <;> rfl
theorem mgS_1 {o : Nat} (h : isS o) (s : SS) (t : TT) : (mk s t)[o + 1]? = some (.inr (.inl (ar 40 (t (o + 1))))) := by rcases h with rfl | rfl | rfl | rfl <;> rfl
theorem msS_1 {o : Nat} (h : isS o) (s : SS) (t : TT) (i : Nat) (v : Int64) : (mk s t).set (o + 1) (.inr (.inl ((ar 40 (t (o + 1))).set i v))) = mk s (up2 t (o + 1) i v) := by rw [ar_set]; rcases h with rfl | rfl | rfl | rfl <;> rfl
theorem mgH {o : Nat} (h : isH o) (s : SS) (t : TT) : (mk s t)[o]? = some (pm_ob 3 [.int (s o 0), .int (s o 1), .int (s o 2), .int (s o 3)]) := by rcases h with rfl | rfl | rfl | rfl <;> rfl
theorem msHf_0 {o : Nat} (h : isH o) (s : SS) (t : TT) (v : Int32) : (mk s t).set o (pm_ob 3 ([.int (s o 0), .int (s o 1), .int (s o 2), .int (s o 3)].set 0 (.int v))) = mk (up2 s o 0 v) t := by rcases h with rfl | rfl | rfl | rfl <;> rfl
theorem msHf_1 {o : Nat} (h : isH o) (s : SS) (t : TT) (v : Int32) : (mk s t).set o (pm_ob 3 ([.int (s o 0), .int (s o 1), .int (s o 2), .int (s o 3)].set 1 (.int v))) = mk (up2 s o 1 v) t := by rcases h with rfl | rfl | rfl | rfl <;> rfl
theorem msHf_2 {o : Nat} (h : isH o) (s : SS) (t : TT) (v : Int32) : (mk s t).set o (pm_ob 3 ([.int (s o 0), .int (s o 1), .int (s o 2), .int (s o 3)].set 2 (.int v))) = mk (up2 s o 2 v) t := by rcases h with rfl | rfl | rfl | rfl <;> rfl
theorem msHf_3 {o : Nat} (h : isH o) (s : SS) (t : TT) (v : Int32) : (mk s t).set o (pm_ob 3 ([.int (s o 0), .int (s o 1), .int (s o 2), .int (s o 3)].set 3 (.int v))) = mk (up2 s o 3 v) t := by rcases h with rfl | rfl | rfl | rfl <;> rfl
theorem mgR56 {o : Nat} (h : isR56 o) (s : SS) (t : TT) : (mk s t)[o]? = some (.inl (ar 56 (s o))) := by rcases h with rfl | rfl | rfl | rfl <;> rfl
theorem mrR56 {o : Nat} (h : isR56 o) (K : pm_K) (s : SS) (t : TT) : pm_row K (mk s t) o = some (ar 56 (s o)) := mrof (mgR56 h s t)
theorem msR56 {o : Nat} (h : isR56 o) (s : SS) (t : TT) (i : Nat) (v : Int32) : (mk s t).set o (.inl ((ar 56 (s o)).set i v)) = mk (up2 s o i v) t := by rw [ar_set]; rcases h with rfl | rfl | rfl | rfl <;> rfl
theorem i32ne {x c : Int32} {n : Int} (h : ¬ x = c) (hn : c.toInt = n) : x.toInt ≠ n := fun e => h (Int32.toInt_inj.mp (e.trans hn.symm))
def swc (lo : Int) (ts : List Nat) (d : Nat) (zs : List Int) : Bool := (List.range ts.length).all fun i => ts[i]? == some d || zs.contains (lo + i)
theorem swz_n {x : Int32} : ∀ z ∈ ([] : List Int), x.toInt ≠ z := fun z h => by cases h
theorem swz_c {x : Int32} {a : Int} {l : List Int} (h : x.toInt ≠ a) (hl : ∀ z ∈ l, x.toInt ≠ z) : ∀ z ∈ a :: l, x.toInt ≠ z := fun z hz => by
  rcases List.mem_cons.mp hz with rfl | hz
  · exact h
  · exact hl z hz
theorem sw_df {x : Int32} {lo : Int} {ts : List Nat} {d : Nat} {zs : List Int} (hz : ∀ z ∈ zs, x.toInt ≠ z) (hc : swc lo ts d zs = true) : (if x.toInt < lo then d else (ts[(x.toInt - lo).toNat]?).getD d) = d := by
  by_cases h : x.toInt < lo
  · rw [if_pos h]
  · rw [if_neg h]
    by_cases hl : (x.toInt - lo).toNat < ts.length
    · have h1 := List.all_eq_true.mp hc _ (List.mem_range.mpr hl)
      simp only [Bool.or_eq_true, beq_iff_eq, List.contains_iff_mem] at h1
      rcases h1 with h1 | h1
      · rw [h1]; rfl
      · exact absurd (by omega) (hz _ h1)
    · rw [List.getElem?_eq_none (by omega)]; rfl
def fg : pm_L → pm_L → Prop
  | [], [] => True
  | none :: a, _ :: b => fg a b
  | some v :: a, w :: b => w = some v ∧ fg a b
  | _, _ => False
theorem fg_len : ∀ {a b : pm_L}, fg a b → b.length = a.length
  | [], [], _ => rfl
  | none :: a, _ :: b, h => congrArg (· + 1) (fg_len (a := a) (b := b) h)
  | some v :: a, w :: b, h => congrArg (· + 1) (fg_len (a := a) (b := b) h.2)
  | [], _ :: _, h => h.elim
  | none :: _, [], h => h.elim
  | some _ :: _, [], h => h.elim
theorem fg_of : ∀ {a b : pm_L}, fg a b → ∀ (j : Nat) (v : Value), a[j]? = some (some v) → b[j]? = some (some v)
  | [], [], _, j, v, h => by simp at h
  | none :: a, w :: b, q, 0, v, h => by simp at h
  | none :: a, w :: b, q, j + 1, v, h => by
    simp only [List.getElem?_cons_succ] at h ⊢
    exact fg_of (a := a) (b := b) q j v h
  | some x :: a, w :: b, q, 0, v, h => by
    simp only [List.getElem?_cons_zero, Option.some.injEq] at h ⊢
    rw [q.1, h]
  | some x :: a, w :: b, q, j + 1, v, h => by
    simp only [List.getElem?_cons_succ] at h ⊢
    exact fg_of (a := a) (b := b) q.2 j v h
  | [], _ :: _, h, _, _, _ => h.elim
  | none :: _, [], h, _, _, _ => h.elim
  | some _ :: _, [], h, _, _, _ => h.elim
theorem Wp_fg {K : pm_K} {k pc : Nat} {L L2 : pm_L} {st : List Value} {h : pm_H} {P : Option Value → pm_H → Prop} (hf : fg L L2) (hw : Wp K k pc L st h P) : Wp K k pc L2 st h P := by
  obtain ⟨r, h', hP, hG⟩ := hw
  exact ⟨r, h', hP, fun cR D => (hG cR D).fgt (fg_len hf) (fg_of hf)⟩
theorem fg_e : fg [] [] := trivial
theorem fg_n {a b : pm_L} {w : Option Value} (h : fg a b) : fg (none :: a) (w :: b) := h
theorem fg_s {a b : pm_L} {v : Value} (h : fg a b) : fg (some v :: a) (some v :: b) := ⟨rfl, h⟩
theorem Wp_fgt {K : pm_K} {k pc : Nat} {L L2 : pm_L} {st : List Value} {h : pm_H} {P : Option Value → pm_H → Prop} (hf : fg L L2) (hw : Wp K k pc L st h P) : Wp K k pc L2 st h P := Wp_fg hf hw
section AROWS
variable {k pc nx : Nat} {L L2 : pm_L} {st : List Value} {s : SS} {t : TT} {P : Option Value → pm_H → Prop}
theorem a_ia {a n j : Nat} {i : Int32} (hC : pm_C0 k pc = pms_ia nx) (hrow : pm_row pl_Kc (mk s t) a = some (ar n (s a))) (e : rx n i = some j) (hg : Wp pl_Kc k nx L (.int (s a j) :: st) (mk s t) P) : Wp pl_Kc k pc L (.int i :: .ref a :: st) (mk s t) P := by
  obtain ⟨h1, h2, h3⟩ := rx_of e
  exact w_ia hC hrow h1 (by rw [h2]; exact ar_get h3) hg
theorem a_ic {a j : Nat} {i x0 x1 x2 x3 : Int32} (hC : pm_C0 k pc = pms_ia nx) (hrow : pm_row pl_Kc (mk s t) a = some [x0, x1, x2, x3]) (e : rx 4 i = some j) (hg : Wp pl_Kc k nx L (.int ([x0, x1, x2, x3].getD j 0) :: st) (mk s t) P) : Wp pl_Kc k pc L (.int i :: .ref a :: st) (mk s t) P := by
  obtain ⟨h1, h2, h3⟩ := rx_of e
  refine w_ia hC hrow h1 ?_ hg
  rw [h2]
  match j, h3 with
  | 0, _ => rfl
  | 1, _ => rfl
  | 2, _ => rfl
  | 3, _ => rfl
theorem a_is {a n j : Nat} {i x : Int32} (hC : pm_C0 k pc = pms_is nx) (hcell : (mk s t)[a]? = some (.inl (ar n (s a)))) (hset : ∀ (i : Nat) (v : Int32), (mk s t).set a (.inl ((ar n (s a)).set i v)) = mk (up2 s a i v) t) (e : rx n i = some j) (hg : ∀ s1 : SS, s1 = up2 s a j x → Wp pl_Kc k nx L st (mk s1 t) P) : Wp pl_Kc k pc L (.int x :: .int i :: .ref a :: st) (mk s t) P := by
  obtain ⟨h1, h2, h3⟩ := rx_of e
  exact w_is hC hcell h1 (by rw [ar_len, h2]; exact h3) (by rw [h2]; exact hset j x) (hg _ rfl)
theorem a_ja {a n j : Nat} {i : Int32} (hC : pm_C0 k pc = pms_ja nx) (hcell : (mk s t)[a]? = some (.inr (.inl (ar n (t a))))) (e : rx n i = some j) (hg : Wp pl_Kc k nx L (.long (t a j) :: st) (mk s t) P) : Wp pl_Kc k pc L (.int i :: .ref a :: st) (mk s t) P := by
  obtain ⟨h1, h2, h3⟩ := rx_of e
  exact w_ja hC hcell h1 (by rw [h2]; exact ar_get h3) hg
theorem a_js {a n j : Nat} {i : Int32} {x : Int64} (hC : pm_C0 k pc = pms_js nx) (hcell : (mk s t)[a]? = some (.inr (.inl (ar n (t a))))) (hset : ∀ (i : Nat) (v : Int64), (mk s t).set a (.inr (.inl ((ar n (t a)).set i v))) = mk s (up2 t a i v)) (e : rx n i = some j) (hg : ∀ t1 : TT, t1 = up2 t a j x → Wp pl_Kc k nx L st (mk s t1) P) : Wp pl_Kc k pc L (.long x :: .int i :: .ref a :: st) (mk s t) P := by
  obtain ⟨h1, h2, h3⟩ := rx_of e
  exact w_js hC hcell h1 (by rw [ar_len, h2]; exact h3) (by rw [h2]; exact hset j x) (hg _ rfl)
theorem a_pf {ci j a : Nat} {fs : List Value} {v : Int32} {ck : Value → Bool} (hC : pm_C0 k pc = pms_pf ci j ck nx) (hck : ck (.int v) = true) (hcell : (mk s t)[a]? = some (pm_ob ci fs)) (hj : j < fs.length) (hset : ∀ v : Int32, (mk s t).set a (pm_ob ci (fs.set j (.int v))) = mk (up2 s a j v) t) (hg : ∀ s1 : SS, s1 = up2 s a j v → Wp pl_Kc k nx L st (mk s1 t) P) : Wp pl_Kc k pc L (.int v :: .ref a :: st) (mk s t) P :=
  w_pf hC hck hcell hj (hset v) (hg _ rfl)
theorem a_pfl {ci j a : Nat} {fs : List Value} {v : Int64} {ck : Value → Bool} (hC : pm_C0 k pc = pms_pf ci j ck nx) (hck : ck (.long v) = true) (hcell : (mk s t)[a]? = some (pm_ob ci fs)) (hj : j < fs.length) (hset : ∀ v : Int64, (mk s t).set a (pm_ob ci (fs.set j (.long v))) = mk s (up2 t a j v)) (hg : ∀ t1 : TT, t1 = up2 t a j v → Wp pl_Kc k nx L st (mk s t1) P) : Wp pl_Kc k pc L (.long v :: .ref a :: st) (mk s t) P :=
  w_pf hC hck hcell hj (hset v) (hg _ rfl)
theorem pm_cpy_ar {m : Nat} {f g : Nat → Int32} : pm_cpy (ar m f) (ar m g) 0 0 m = ar m f := by
  unfold pm_cpy
  rw [List.take_zero, List.drop_zero, List.take_of_length_le (by rw [ar_len]; exact Nat.le_refl m), List.drop_of_length_le (by rw [ar_len, Nat.zero_add]; exact Nat.le_refl m), List.append_nil, List.nil_append]
theorem a_cp {a b m : Nat} {n : Int32} {f : Nat → Int32} (hC : pm_C0 k pc = pms_cp nx) (hrow : pm_row pl_Kc (mk s t) a = some (ar m f)) (hcell : (mk s t)[b]? = some (.inl (ar m (s b)))) (hn : n.toNatClampNeg = m) (hn0 : ¬ n < 0) (hcat : (st.map fun v => v.category).sum ≤ 8) (hset : ∀ f : Nat → Int32, (mk s t).set b (.inl (ar m f)) = mk (cp2 s b f) t) (hg : ∀ s1 : SS, s1 = cp2 s b f → Wp pl_Kc k nx L st (mk s1 t) P) : Wp pl_Kc k pc L (.int n :: .int 0 :: .ref b :: .int 0 :: .ref a :: st) (mk s t) P := by
  refine w_cp hC (fun h => ?_) hrow hcell ⟨?_, ?_, hcat⟩ ?_ (hg _ rfl)
  · rcases h with h | h | h
    · exact hn0 h
    · exact absurd h (by decide)
    · exact absurd h (by decide)
  · rw [hn, ar_len, show (0 : Int32).toNatClampNeg = 0 from by decide]; omega
  · rw [hn, ar_len, show (0 : Int32).toNatClampNeg = 0 from by decide]; omega
  · rw [hn, show (0 : Int32).toNatClampNeg = 0 from by decide, pm_cpy_ar]; exact hset f
theorem shS {j q : Nat} (hj : j < 4) (e : q = 37 + 3 * j) : isS q := by unfold isS; omega
theorem shH {j q : Nat} (hj : j < 4) (e : q = 39 + 3 * j) : isH q := by unfold isH; omega
theorem a_aaS {j : Nat} {i : Int32} (hC : pm_C0 k pc = pms_aa 0 nx) (e : rx 4 i = some j) (hg : ∀ q : Nat, q = 37 + 3 * j → isS q → Wp pl_Kc k nx L (.ref q :: st) (mk s t) P) : Wp pl_Kc k pc L (.int i :: .ref 35 :: st) (mk s t) P := by
  obtain ⟨h1, h2, h3⟩ := rx_of e
  refine w_aa hC (mg_35 _ _) h1 (q := 37 + 3 * j) ?_ (hg _ rfl (shS h3 rfl))
  rw [h2]
  match j, h3 with
  | 0, _ => rfl
  | 1, _ => rfl
  | 2, _ => rfl
  | 3, _ => rfl
theorem a_aaH {j : Nat} {i : Int32} (hC : pm_C0 k pc = pms_aa 1 nx) (e : rx 4 i = some j) (hg : ∀ q : Nat, q = 39 + 3 * j → isH q → Wp pl_Kc k nx L (.ref q :: st) (mk s t) P) : Wp pl_Kc k pc L (.int i :: .ref 36 :: st) (mk s t) P := by
  obtain ⟨h1, h2, h3⟩ := rx_of e
  refine w_aa hC (mg_36 _ _) h1 (q := 39 + 3 * j) ?_ (hg _ rfl (shH h3 rfl))
  rw [h2]
  match j, h3 with
  | 0, _ => rfl
  | 1, _ => rfl
  | 2, _ => rfl
  | 3, _ => rfl
theorem a_ri {x : Int32} {q : Int32 × SS × TT} (hC : pm_C0 k pc = pms_ri) (h : some (x, s, t) = some q) : Wp pl_Kc k pc L [.int x] (mk s t) (Qi q) := by
  cases h
  exact w_ri hC ⟨rfl, rfl⟩
theorem a_rl {x : Int64} {q : Int64 × SS × TT} (hC : pm_C0 k pc = pms_rl) (h : some (x, s, t) = some q) : Wp pl_Kc k pc L [.long x] (mk s t) (Ql q) := by
  cases h
  exact w_rl hC ⟨rfl, rfl⟩
theorem a_rz {x : Int32} {q : Int32 × SS × TT} (hC : pm_C0 k pc = pms_rz) (hx : (x == 0 || x == 1) = true) (h : some (x, s, t) = some q) : Wp pl_Kc k pc L [.int x] (mk s t) (Qi q) := by
  cases h
  exact w_rz hC hx ⟨rfl, rfl⟩
theorem a_rzc {x : Int32} {q : Int32 × SS × TT} (hC : pm_C0 k pc = pms_rz) (h : (if (x == 0 || x == 1) = true then some (x, s, t) else none) = some q) : Wp pl_Kc k pc L [.int x] (mk s t) (Qi q) := by
  by_cases hx : (x == 0 || x == 1) = true
  · exact a_rz hC hx (ifp h hx)
  · cases (ifn h hx)
theorem a_rv {q : SS × TT} (hC : pm_C0 k pc = pms_rv) (h : some (s, t) = some q) : Wp pl_Kc k pc L [] (mk s t) (Qv q) := by
  cases h
  exact w_rv hC ⟨rfl, rfl⟩
theorem a_rt {q : SS × TT} (hC : pm_C0 k pc = pms_ra) (h : some (s, t) = some q) : Wp pl_Kc k pc L [.ref 19] (mk s t) (Qt q) := by
  cases h
  exact w_ra hC ⟨rfl, rfl⟩
theorem a_rs {i : Nat} {q : Nat × SS × TT} (hC : pm_C0 k pc = pms_ra) (h : some (i, s, t) = some q) : Wp pl_Kc k pc L [.ref (pm_B + 100 + i)] (mk s t) (Qs q) := by
  cases h
  exact w_ra hC ⟨rfl, rfl⟩
theorem w_lds {i : Nat} {h : pm_H} (hC : pm_C0 k pc = pms_lds i nx) (hg : Wp pl_Kc k nx L (.ref (pm_B + 100 + i) :: st) h P) : Wp pl_Kc k pc L st h P := Wp.one hC (fun call cont y hy => hy) hg
theorem w_pop2 {v : Value} {h : pm_H} {K : pm_K} (hC : pm_C0 k pc = pms_pop2 nx) (hv : v.category = 2) (hg : Wp K k nx L st h P) : Wp K k pc L (v :: st) h P := Wp.one hC (fun call cont z hz => by simp only [pms_pop2, if_pos hv]; exact hz) hg
theorem a_st0i {c : Nat} {q : Int32 × SS × TT} (hC : pm_C0 k pc = pms_st c 0 nx) (hcat : (st.map fun v => v.category).sum ≤ 8) (hm : Wm c [] (mk s t) (Qi q)) (hg : Wp pl_Kc k nx L (.int q.1 :: st) (mk q.2.1 q.2.2) P) : Wp pl_Kc k pc L (st) (mk s t) P :=
  w_st0 pl_sub_c hC hcat hm (fun r2 h2 z => by rw [z.2]; exact (mk_len _ _).trans (mk_len _ _).symm) (fun r2 h2 z => by rw [z.1, z.2]; exact hg)
theorem a_vi0i {ci c b : Nat} {fs : List Value} {q : Int32 × SS × TT} (hC : pm_C0 k pc = pms_vi ci c 0 nx) (hcell : (mk s t)[b]? = some (pm_ob ci fs)) (hcat : (st.map fun v => v.category).sum ≤ 8) (hm : Wm c [.ref b] (mk s t) (Qi q)) (hg : Wp pl_Kc k nx L (.int q.1 :: st) (mk q.2.1 q.2.2) P) : Wp pl_Kc k pc L (.ref b :: st) (mk s t) P :=
  w_vi0 pl_sub_c hC hcell hcat hm (fun r2 h2 z => by rw [z.2]; exact (mk_len _ _).trans (mk_len _ _).symm) (fun r2 h2 z => by rw [z.1, z.2]; exact hg)
theorem a_st0l {c : Nat} {q : Int64 × SS × TT} (hC : pm_C0 k pc = pms_st c 0 nx) (hcat : (st.map fun v => v.category).sum ≤ 8) (hm : Wm c [] (mk s t) (Ql q)) (hg : Wp pl_Kc k nx L (.long q.1 :: st) (mk q.2.1 q.2.2) P) : Wp pl_Kc k pc L (st) (mk s t) P :=
  w_st0 pl_sub_c hC hcat hm (fun r2 h2 z => by rw [z.2]; exact (mk_len _ _).trans (mk_len _ _).symm) (fun r2 h2 z => by rw [z.1, z.2]; exact hg)
theorem a_vi0l {ci c b : Nat} {fs : List Value} {q : Int64 × SS × TT} (hC : pm_C0 k pc = pms_vi ci c 0 nx) (hcell : (mk s t)[b]? = some (pm_ob ci fs)) (hcat : (st.map fun v => v.category).sum ≤ 8) (hm : Wm c [.ref b] (mk s t) (Ql q)) (hg : Wp pl_Kc k nx L (.long q.1 :: st) (mk q.2.1 q.2.2) P) : Wp pl_Kc k pc L (.ref b :: st) (mk s t) P :=
  w_vi0 pl_sub_c hC hcell hcat hm (fun r2 h2 z => by rw [z.2]; exact (mk_len _ _).trans (mk_len _ _).symm) (fun r2 h2 z => by rw [z.1, z.2]; exact hg)
theorem a_st0v {c : Nat} {q : SS × TT} (hC : pm_C0 k pc = pms_st c 0 nx) (hcat : (st.map fun v => v.category).sum ≤ 8) (hm : Wm c [] (mk s t) (Qv q)) (hg : Wp pl_Kc k nx L (st) (mk q.1 q.2) P) : Wp pl_Kc k pc L (st) (mk s t) P :=
  w_st0 pl_sub_c hC hcat hm (fun r2 h2 z => by rw [z.2]; exact (mk_len _ _).trans (mk_len _ _).symm) (fun r2 h2 z => by rw [z.1, z.2]; exact hg)
theorem a_vi0v {ci c b : Nat} {fs : List Value} {q : SS × TT} (hC : pm_C0 k pc = pms_vi ci c 0 nx) (hcell : (mk s t)[b]? = some (pm_ob ci fs)) (hcat : (st.map fun v => v.category).sum ≤ 8) (hm : Wm c [.ref b] (mk s t) (Qv q)) (hg : Wp pl_Kc k nx L (st) (mk q.1 q.2) P) : Wp pl_Kc k pc L (.ref b :: st) (mk s t) P :=
  w_vi0 pl_sub_c hC hcell hcat hm (fun r2 h2 z => by rw [z.2]; exact (mk_len _ _).trans (mk_len _ _).symm) (fun r2 h2 z => by rw [z.1, z.2]; exact hg)
theorem a_st0t {c : Nat} {q : SS × TT} (hC : pm_C0 k pc = pms_st c 0 nx) (hcat : (st.map fun v => v.category).sum ≤ 8) (hm : Wm c [] (mk s t) (Qt q)) (hg : Wp pl_Kc k nx L (.ref 19 :: st) (mk q.1 q.2) P) : Wp pl_Kc k pc L (st) (mk s t) P :=
  w_st0 pl_sub_c hC hcat hm (fun r2 h2 z => by rw [z.2]; exact (mk_len _ _).trans (mk_len _ _).symm) (fun r2 h2 z => by rw [z.1, z.2]; exact hg)
theorem a_vi0t {ci c b : Nat} {fs : List Value} {q : SS × TT} (hC : pm_C0 k pc = pms_vi ci c 0 nx) (hcell : (mk s t)[b]? = some (pm_ob ci fs)) (hcat : (st.map fun v => v.category).sum ≤ 8) (hm : Wm c [.ref b] (mk s t) (Qt q)) (hg : Wp pl_Kc k nx L (.ref 19 :: st) (mk q.1 q.2) P) : Wp pl_Kc k pc L (.ref b :: st) (mk s t) P :=
  w_vi0 pl_sub_c hC hcell hcat hm (fun r2 h2 z => by rw [z.2]; exact (mk_len _ _).trans (mk_len _ _).symm) (fun r2 h2 z => by rw [z.1, z.2]; exact hg)
theorem a_st0s {c : Nat} {q : Nat × SS × TT} (hC : pm_C0 k pc = pms_st c 0 nx) (hcat : (st.map fun v => v.category).sum ≤ 8) (hm : Wm c [] (mk s t) (Qs q)) (hg : Wp pl_Kc k nx L (.ref (pm_B + 100 + q.1) :: st) (mk q.2.1 q.2.2) P) : Wp pl_Kc k pc L (st) (mk s t) P :=
  w_st0 pl_sub_c hC hcat hm (fun r2 h2 z => by rw [z.2]; exact (mk_len _ _).trans (mk_len _ _).symm) (fun r2 h2 z => by rw [z.1, z.2]; exact hg)
theorem a_vi0s {ci c b : Nat} {fs : List Value} {q : Nat × SS × TT} (hC : pm_C0 k pc = pms_vi ci c 0 nx) (hcell : (mk s t)[b]? = some (pm_ob ci fs)) (hcat : (st.map fun v => v.category).sum ≤ 8) (hm : Wm c [.ref b] (mk s t) (Qs q)) (hg : Wp pl_Kc k nx L (.ref (pm_B + 100 + q.1) :: st) (mk q.2.1 q.2.2) P) : Wp pl_Kc k pc L (.ref b :: st) (mk s t) P :=
  w_vi0 pl_sub_c hC hcell hcat hm (fun r2 h2 z => by rw [z.2]; exact (mk_len _ _).trans (mk_len _ _).symm) (fun r2 h2 z => by rw [z.1, z.2]; exact hg)
theorem a_st1i {c : Nat} {v0 : Value} {q : Int32 × SS × TT} (hC : pm_C0 k pc = pms_st c 1 nx) (hcat : (st.map fun v => v.category).sum ≤ 8) (hm : Wm c [v0] (mk s t) (Qi q)) (hg : Wp pl_Kc k nx L (.int q.1 :: st) (mk q.2.1 q.2.2) P) : Wp pl_Kc k pc L (v0 :: st) (mk s t) P :=
  w_st1 pl_sub_c hC hcat hm (fun r2 h2 z => by rw [z.2]; exact (mk_len _ _).trans (mk_len _ _).symm) (fun r2 h2 z => by rw [z.1, z.2]; exact hg)
theorem a_vi1i {ci c b : Nat} {fs : List Value} {v0 : Value} {q : Int32 × SS × TT} (hC : pm_C0 k pc = pms_vi ci c 1 nx) (hcell : (mk s t)[b]? = some (pm_ob ci fs)) (hcat : (st.map fun v => v.category).sum ≤ 8) (hm : Wm c [.ref b, v0] (mk s t) (Qi q)) (hg : Wp pl_Kc k nx L (.int q.1 :: st) (mk q.2.1 q.2.2) P) : Wp pl_Kc k pc L (v0 :: .ref b :: st) (mk s t) P :=
  w_vi1 pl_sub_c hC hcell hcat hm (fun r2 h2 z => by rw [z.2]; exact (mk_len _ _).trans (mk_len _ _).symm) (fun r2 h2 z => by rw [z.1, z.2]; exact hg)
theorem a_st1l {c : Nat} {v0 : Value} {q : Int64 × SS × TT} (hC : pm_C0 k pc = pms_st c 1 nx) (hcat : (st.map fun v => v.category).sum ≤ 8) (hm : Wm c [v0] (mk s t) (Ql q)) (hg : Wp pl_Kc k nx L (.long q.1 :: st) (mk q.2.1 q.2.2) P) : Wp pl_Kc k pc L (v0 :: st) (mk s t) P :=
  w_st1 pl_sub_c hC hcat hm (fun r2 h2 z => by rw [z.2]; exact (mk_len _ _).trans (mk_len _ _).symm) (fun r2 h2 z => by rw [z.1, z.2]; exact hg)
theorem a_vi1l {ci c b : Nat} {fs : List Value} {v0 : Value} {q : Int64 × SS × TT} (hC : pm_C0 k pc = pms_vi ci c 1 nx) (hcell : (mk s t)[b]? = some (pm_ob ci fs)) (hcat : (st.map fun v => v.category).sum ≤ 8) (hm : Wm c [.ref b, v0] (mk s t) (Ql q)) (hg : Wp pl_Kc k nx L (.long q.1 :: st) (mk q.2.1 q.2.2) P) : Wp pl_Kc k pc L (v0 :: .ref b :: st) (mk s t) P :=
  w_vi1 pl_sub_c hC hcell hcat hm (fun r2 h2 z => by rw [z.2]; exact (mk_len _ _).trans (mk_len _ _).symm) (fun r2 h2 z => by rw [z.1, z.2]; exact hg)
theorem a_st1v {c : Nat} {v0 : Value} {q : SS × TT} (hC : pm_C0 k pc = pms_st c 1 nx) (hcat : (st.map fun v => v.category).sum ≤ 8) (hm : Wm c [v0] (mk s t) (Qv q)) (hg : Wp pl_Kc k nx L (st) (mk q.1 q.2) P) : Wp pl_Kc k pc L (v0 :: st) (mk s t) P :=
  w_st1 pl_sub_c hC hcat hm (fun r2 h2 z => by rw [z.2]; exact (mk_len _ _).trans (mk_len _ _).symm) (fun r2 h2 z => by rw [z.1, z.2]; exact hg)
theorem a_vi1v {ci c b : Nat} {fs : List Value} {v0 : Value} {q : SS × TT} (hC : pm_C0 k pc = pms_vi ci c 1 nx) (hcell : (mk s t)[b]? = some (pm_ob ci fs)) (hcat : (st.map fun v => v.category).sum ≤ 8) (hm : Wm c [.ref b, v0] (mk s t) (Qv q)) (hg : Wp pl_Kc k nx L (st) (mk q.1 q.2) P) : Wp pl_Kc k pc L (v0 :: .ref b :: st) (mk s t) P :=
  w_vi1 pl_sub_c hC hcell hcat hm (fun r2 h2 z => by rw [z.2]; exact (mk_len _ _).trans (mk_len _ _).symm) (fun r2 h2 z => by rw [z.1, z.2]; exact hg)
theorem a_st1t {c : Nat} {v0 : Value} {q : SS × TT} (hC : pm_C0 k pc = pms_st c 1 nx) (hcat : (st.map fun v => v.category).sum ≤ 8) (hm : Wm c [v0] (mk s t) (Qt q)) (hg : Wp pl_Kc k nx L (.ref 19 :: st) (mk q.1 q.2) P) : Wp pl_Kc k pc L (v0 :: st) (mk s t) P :=
  w_st1 pl_sub_c hC hcat hm (fun r2 h2 z => by rw [z.2]; exact (mk_len _ _).trans (mk_len _ _).symm) (fun r2 h2 z => by rw [z.1, z.2]; exact hg)
theorem a_vi1t {ci c b : Nat} {fs : List Value} {v0 : Value} {q : SS × TT} (hC : pm_C0 k pc = pms_vi ci c 1 nx) (hcell : (mk s t)[b]? = some (pm_ob ci fs)) (hcat : (st.map fun v => v.category).sum ≤ 8) (hm : Wm c [.ref b, v0] (mk s t) (Qt q)) (hg : Wp pl_Kc k nx L (.ref 19 :: st) (mk q.1 q.2) P) : Wp pl_Kc k pc L (v0 :: .ref b :: st) (mk s t) P :=
  w_vi1 pl_sub_c hC hcell hcat hm (fun r2 h2 z => by rw [z.2]; exact (mk_len _ _).trans (mk_len _ _).symm) (fun r2 h2 z => by rw [z.1, z.2]; exact hg)
theorem a_st1s {c : Nat} {v0 : Value} {q : Nat × SS × TT} (hC : pm_C0 k pc = pms_st c 1 nx) (hcat : (st.map fun v => v.category).sum ≤ 8) (hm : Wm c [v0] (mk s t) (Qs q)) (hg : Wp pl_Kc k nx L (.ref (pm_B + 100 + q.1) :: st) (mk q.2.1 q.2.2) P) : Wp pl_Kc k pc L (v0 :: st) (mk s t) P :=
  w_st1 pl_sub_c hC hcat hm (fun r2 h2 z => by rw [z.2]; exact (mk_len _ _).trans (mk_len _ _).symm) (fun r2 h2 z => by rw [z.1, z.2]; exact hg)
theorem a_vi1s {ci c b : Nat} {fs : List Value} {v0 : Value} {q : Nat × SS × TT} (hC : pm_C0 k pc = pms_vi ci c 1 nx) (hcell : (mk s t)[b]? = some (pm_ob ci fs)) (hcat : (st.map fun v => v.category).sum ≤ 8) (hm : Wm c [.ref b, v0] (mk s t) (Qs q)) (hg : Wp pl_Kc k nx L (.ref (pm_B + 100 + q.1) :: st) (mk q.2.1 q.2.2) P) : Wp pl_Kc k pc L (v0 :: .ref b :: st) (mk s t) P :=
  w_vi1 pl_sub_c hC hcell hcat hm (fun r2 h2 z => by rw [z.2]; exact (mk_len _ _).trans (mk_len _ _).symm) (fun r2 h2 z => by rw [z.1, z.2]; exact hg)
theorem a_st2i {c : Nat} {v0 v1 : Value} {q : Int32 × SS × TT} (hC : pm_C0 k pc = pms_st c 2 nx) (hcat : (st.map fun v => v.category).sum ≤ 8) (hm : Wm c [v0, v1] (mk s t) (Qi q)) (hg : Wp pl_Kc k nx L (.int q.1 :: st) (mk q.2.1 q.2.2) P) : Wp pl_Kc k pc L (v1 :: v0 :: st) (mk s t) P :=
  w_st2 pl_sub_c hC hcat hm (fun r2 h2 z => by rw [z.2]; exact (mk_len _ _).trans (mk_len _ _).symm) (fun r2 h2 z => by rw [z.1, z.2]; exact hg)
theorem a_vi2i {ci c b : Nat} {fs : List Value} {v0 v1 : Value} {q : Int32 × SS × TT} (hC : pm_C0 k pc = pms_vi ci c 2 nx) (hcell : (mk s t)[b]? = some (pm_ob ci fs)) (hcat : (st.map fun v => v.category).sum ≤ 8) (hm : Wm c [.ref b, v0, v1] (mk s t) (Qi q)) (hg : Wp pl_Kc k nx L (.int q.1 :: st) (mk q.2.1 q.2.2) P) : Wp pl_Kc k pc L (v1 :: v0 :: .ref b :: st) (mk s t) P :=
  w_vi2 pl_sub_c hC hcell hcat hm (fun r2 h2 z => by rw [z.2]; exact (mk_len _ _).trans (mk_len _ _).symm) (fun r2 h2 z => by rw [z.1, z.2]; exact hg)
theorem a_st2l {c : Nat} {v0 v1 : Value} {q : Int64 × SS × TT} (hC : pm_C0 k pc = pms_st c 2 nx) (hcat : (st.map fun v => v.category).sum ≤ 8) (hm : Wm c [v0, v1] (mk s t) (Ql q)) (hg : Wp pl_Kc k nx L (.long q.1 :: st) (mk q.2.1 q.2.2) P) : Wp pl_Kc k pc L (v1 :: v0 :: st) (mk s t) P :=
  w_st2 pl_sub_c hC hcat hm (fun r2 h2 z => by rw [z.2]; exact (mk_len _ _).trans (mk_len _ _).symm) (fun r2 h2 z => by rw [z.1, z.2]; exact hg)
theorem a_vi2l {ci c b : Nat} {fs : List Value} {v0 v1 : Value} {q : Int64 × SS × TT} (hC : pm_C0 k pc = pms_vi ci c 2 nx) (hcell : (mk s t)[b]? = some (pm_ob ci fs)) (hcat : (st.map fun v => v.category).sum ≤ 8) (hm : Wm c [.ref b, v0, v1] (mk s t) (Ql q)) (hg : Wp pl_Kc k nx L (.long q.1 :: st) (mk q.2.1 q.2.2) P) : Wp pl_Kc k pc L (v1 :: v0 :: .ref b :: st) (mk s t) P :=
  w_vi2 pl_sub_c hC hcell hcat hm (fun r2 h2 z => by rw [z.2]; exact (mk_len _ _).trans (mk_len _ _).symm) (fun r2 h2 z => by rw [z.1, z.2]; exact hg)
theorem a_st2v {c : Nat} {v0 v1 : Value} {q : SS × TT} (hC : pm_C0 k pc = pms_st c 2 nx) (hcat : (st.map fun v => v.category).sum ≤ 8) (hm : Wm c [v0, v1] (mk s t) (Qv q)) (hg : Wp pl_Kc k nx L (st) (mk q.1 q.2) P) : Wp pl_Kc k pc L (v1 :: v0 :: st) (mk s t) P :=
  w_st2 pl_sub_c hC hcat hm (fun r2 h2 z => by rw [z.2]; exact (mk_len _ _).trans (mk_len _ _).symm) (fun r2 h2 z => by rw [z.1, z.2]; exact hg)
theorem a_vi2v {ci c b : Nat} {fs : List Value} {v0 v1 : Value} {q : SS × TT} (hC : pm_C0 k pc = pms_vi ci c 2 nx) (hcell : (mk s t)[b]? = some (pm_ob ci fs)) (hcat : (st.map fun v => v.category).sum ≤ 8) (hm : Wm c [.ref b, v0, v1] (mk s t) (Qv q)) (hg : Wp pl_Kc k nx L (st) (mk q.1 q.2) P) : Wp pl_Kc k pc L (v1 :: v0 :: .ref b :: st) (mk s t) P :=
  w_vi2 pl_sub_c hC hcell hcat hm (fun r2 h2 z => by rw [z.2]; exact (mk_len _ _).trans (mk_len _ _).symm) (fun r2 h2 z => by rw [z.1, z.2]; exact hg)
theorem a_st2t {c : Nat} {v0 v1 : Value} {q : SS × TT} (hC : pm_C0 k pc = pms_st c 2 nx) (hcat : (st.map fun v => v.category).sum ≤ 8) (hm : Wm c [v0, v1] (mk s t) (Qt q)) (hg : Wp pl_Kc k nx L (.ref 19 :: st) (mk q.1 q.2) P) : Wp pl_Kc k pc L (v1 :: v0 :: st) (mk s t) P :=
  w_st2 pl_sub_c hC hcat hm (fun r2 h2 z => by rw [z.2]; exact (mk_len _ _).trans (mk_len _ _).symm) (fun r2 h2 z => by rw [z.1, z.2]; exact hg)
theorem a_vi2t {ci c b : Nat} {fs : List Value} {v0 v1 : Value} {q : SS × TT} (hC : pm_C0 k pc = pms_vi ci c 2 nx) (hcell : (mk s t)[b]? = some (pm_ob ci fs)) (hcat : (st.map fun v => v.category).sum ≤ 8) (hm : Wm c [.ref b, v0, v1] (mk s t) (Qt q)) (hg : Wp pl_Kc k nx L (.ref 19 :: st) (mk q.1 q.2) P) : Wp pl_Kc k pc L (v1 :: v0 :: .ref b :: st) (mk s t) P :=
  w_vi2 pl_sub_c hC hcell hcat hm (fun r2 h2 z => by rw [z.2]; exact (mk_len _ _).trans (mk_len _ _).symm) (fun r2 h2 z => by rw [z.1, z.2]; exact hg)
theorem a_st2s {c : Nat} {v0 v1 : Value} {q : Nat × SS × TT} (hC : pm_C0 k pc = pms_st c 2 nx) (hcat : (st.map fun v => v.category).sum ≤ 8) (hm : Wm c [v0, v1] (mk s t) (Qs q)) (hg : Wp pl_Kc k nx L (.ref (pm_B + 100 + q.1) :: st) (mk q.2.1 q.2.2) P) : Wp pl_Kc k pc L (v1 :: v0 :: st) (mk s t) P :=
  w_st2 pl_sub_c hC hcat hm (fun r2 h2 z => by rw [z.2]; exact (mk_len _ _).trans (mk_len _ _).symm) (fun r2 h2 z => by rw [z.1, z.2]; exact hg)
theorem a_vi2s {ci c b : Nat} {fs : List Value} {v0 v1 : Value} {q : Nat × SS × TT} (hC : pm_C0 k pc = pms_vi ci c 2 nx) (hcell : (mk s t)[b]? = some (pm_ob ci fs)) (hcat : (st.map fun v => v.category).sum ≤ 8) (hm : Wm c [.ref b, v0, v1] (mk s t) (Qs q)) (hg : Wp pl_Kc k nx L (.ref (pm_B + 100 + q.1) :: st) (mk q.2.1 q.2.2) P) : Wp pl_Kc k pc L (v1 :: v0 :: .ref b :: st) (mk s t) P :=
  w_vi2 pl_sub_c hC hcell hcat hm (fun r2 h2 z => by rw [z.2]; exact (mk_len _ _).trans (mk_len _ _).symm) (fun r2 h2 z => by rw [z.1, z.2]; exact hg)
theorem a_st3i {c : Nat} {v0 v1 v2 : Value} {q : Int32 × SS × TT} (hC : pm_C0 k pc = pms_st c 3 nx) (hcat : (st.map fun v => v.category).sum ≤ 8) (hm : Wm c [v0, v1, v2] (mk s t) (Qi q)) (hg : Wp pl_Kc k nx L (.int q.1 :: st) (mk q.2.1 q.2.2) P) : Wp pl_Kc k pc L (v2 :: v1 :: v0 :: st) (mk s t) P :=
  w_st3 pl_sub_c hC hcat hm (fun r2 h2 z => by rw [z.2]; exact (mk_len _ _).trans (mk_len _ _).symm) (fun r2 h2 z => by rw [z.1, z.2]; exact hg)
theorem a_vi3i {ci c b : Nat} {fs : List Value} {v0 v1 v2 : Value} {q : Int32 × SS × TT} (hC : pm_C0 k pc = pms_vi ci c 3 nx) (hcell : (mk s t)[b]? = some (pm_ob ci fs)) (hcat : (st.map fun v => v.category).sum ≤ 8) (hm : Wm c [.ref b, v0, v1, v2] (mk s t) (Qi q)) (hg : Wp pl_Kc k nx L (.int q.1 :: st) (mk q.2.1 q.2.2) P) : Wp pl_Kc k pc L (v2 :: v1 :: v0 :: .ref b :: st) (mk s t) P :=
  w_vi3 pl_sub_c hC hcell hcat hm (fun r2 h2 z => by rw [z.2]; exact (mk_len _ _).trans (mk_len _ _).symm) (fun r2 h2 z => by rw [z.1, z.2]; exact hg)
theorem a_st3l {c : Nat} {v0 v1 v2 : Value} {q : Int64 × SS × TT} (hC : pm_C0 k pc = pms_st c 3 nx) (hcat : (st.map fun v => v.category).sum ≤ 8) (hm : Wm c [v0, v1, v2] (mk s t) (Ql q)) (hg : Wp pl_Kc k nx L (.long q.1 :: st) (mk q.2.1 q.2.2) P) : Wp pl_Kc k pc L (v2 :: v1 :: v0 :: st) (mk s t) P :=
  w_st3 pl_sub_c hC hcat hm (fun r2 h2 z => by rw [z.2]; exact (mk_len _ _).trans (mk_len _ _).symm) (fun r2 h2 z => by rw [z.1, z.2]; exact hg)
theorem a_vi3l {ci c b : Nat} {fs : List Value} {v0 v1 v2 : Value} {q : Int64 × SS × TT} (hC : pm_C0 k pc = pms_vi ci c 3 nx) (hcell : (mk s t)[b]? = some (pm_ob ci fs)) (hcat : (st.map fun v => v.category).sum ≤ 8) (hm : Wm c [.ref b, v0, v1, v2] (mk s t) (Ql q)) (hg : Wp pl_Kc k nx L (.long q.1 :: st) (mk q.2.1 q.2.2) P) : Wp pl_Kc k pc L (v2 :: v1 :: v0 :: .ref b :: st) (mk s t) P :=
  w_vi3 pl_sub_c hC hcell hcat hm (fun r2 h2 z => by rw [z.2]; exact (mk_len _ _).trans (mk_len _ _).symm) (fun r2 h2 z => by rw [z.1, z.2]; exact hg)
theorem a_st3v {c : Nat} {v0 v1 v2 : Value} {q : SS × TT} (hC : pm_C0 k pc = pms_st c 3 nx) (hcat : (st.map fun v => v.category).sum ≤ 8) (hm : Wm c [v0, v1, v2] (mk s t) (Qv q)) (hg : Wp pl_Kc k nx L (st) (mk q.1 q.2) P) : Wp pl_Kc k pc L (v2 :: v1 :: v0 :: st) (mk s t) P :=
  w_st3 pl_sub_c hC hcat hm (fun r2 h2 z => by rw [z.2]; exact (mk_len _ _).trans (mk_len _ _).symm) (fun r2 h2 z => by rw [z.1, z.2]; exact hg)
theorem a_vi3v {ci c b : Nat} {fs : List Value} {v0 v1 v2 : Value} {q : SS × TT} (hC : pm_C0 k pc = pms_vi ci c 3 nx) (hcell : (mk s t)[b]? = some (pm_ob ci fs)) (hcat : (st.map fun v => v.category).sum ≤ 8) (hm : Wm c [.ref b, v0, v1, v2] (mk s t) (Qv q)) (hg : Wp pl_Kc k nx L (st) (mk q.1 q.2) P) : Wp pl_Kc k pc L (v2 :: v1 :: v0 :: .ref b :: st) (mk s t) P :=
  w_vi3 pl_sub_c hC hcell hcat hm (fun r2 h2 z => by rw [z.2]; exact (mk_len _ _).trans (mk_len _ _).symm) (fun r2 h2 z => by rw [z.1, z.2]; exact hg)
theorem a_st3t {c : Nat} {v0 v1 v2 : Value} {q : SS × TT} (hC : pm_C0 k pc = pms_st c 3 nx) (hcat : (st.map fun v => v.category).sum ≤ 8) (hm : Wm c [v0, v1, v2] (mk s t) (Qt q)) (hg : Wp pl_Kc k nx L (.ref 19 :: st) (mk q.1 q.2) P) : Wp pl_Kc k pc L (v2 :: v1 :: v0 :: st) (mk s t) P :=
  w_st3 pl_sub_c hC hcat hm (fun r2 h2 z => by rw [z.2]; exact (mk_len _ _).trans (mk_len _ _).symm) (fun r2 h2 z => by rw [z.1, z.2]; exact hg)
theorem a_vi3t {ci c b : Nat} {fs : List Value} {v0 v1 v2 : Value} {q : SS × TT} (hC : pm_C0 k pc = pms_vi ci c 3 nx) (hcell : (mk s t)[b]? = some (pm_ob ci fs)) (hcat : (st.map fun v => v.category).sum ≤ 8) (hm : Wm c [.ref b, v0, v1, v2] (mk s t) (Qt q)) (hg : Wp pl_Kc k nx L (.ref 19 :: st) (mk q.1 q.2) P) : Wp pl_Kc k pc L (v2 :: v1 :: v0 :: .ref b :: st) (mk s t) P :=
  w_vi3 pl_sub_c hC hcell hcat hm (fun r2 h2 z => by rw [z.2]; exact (mk_len _ _).trans (mk_len _ _).symm) (fun r2 h2 z => by rw [z.1, z.2]; exact hg)
theorem a_st3s {c : Nat} {v0 v1 v2 : Value} {q : Nat × SS × TT} (hC : pm_C0 k pc = pms_st c 3 nx) (hcat : (st.map fun v => v.category).sum ≤ 8) (hm : Wm c [v0, v1, v2] (mk s t) (Qs q)) (hg : Wp pl_Kc k nx L (.ref (pm_B + 100 + q.1) :: st) (mk q.2.1 q.2.2) P) : Wp pl_Kc k pc L (v2 :: v1 :: v0 :: st) (mk s t) P :=
  w_st3 pl_sub_c hC hcat hm (fun r2 h2 z => by rw [z.2]; exact (mk_len _ _).trans (mk_len _ _).symm) (fun r2 h2 z => by rw [z.1, z.2]; exact hg)
theorem a_vi3s {ci c b : Nat} {fs : List Value} {v0 v1 v2 : Value} {q : Nat × SS × TT} (hC : pm_C0 k pc = pms_vi ci c 3 nx) (hcell : (mk s t)[b]? = some (pm_ob ci fs)) (hcat : (st.map fun v => v.category).sum ≤ 8) (hm : Wm c [.ref b, v0, v1, v2] (mk s t) (Qs q)) (hg : Wp pl_Kc k nx L (.ref (pm_B + 100 + q.1) :: st) (mk q.2.1 q.2.2) P) : Wp pl_Kc k pc L (v2 :: v1 :: v0 :: .ref b :: st) (mk s t) P :=
  w_vi3 pl_sub_c hC hcell hcat hm (fun r2 h2 z => by rw [z.2]; exact (mk_len _ _).trans (mk_len _ _).symm) (fun r2 h2 z => by rw [z.1, z.2]; exact hg)
theorem a_st4i {c : Nat} {v0 v1 v2 v3 : Value} {q : Int32 × SS × TT} (hC : pm_C0 k pc = pms_st c 4 nx) (hcat : (st.map fun v => v.category).sum ≤ 8) (hm : Wm c [v0, v1, v2, v3] (mk s t) (Qi q)) (hg : Wp pl_Kc k nx L (.int q.1 :: st) (mk q.2.1 q.2.2) P) : Wp pl_Kc k pc L (v3 :: v2 :: v1 :: v0 :: st) (mk s t) P :=
  w_st4 pl_sub_c hC hcat hm (fun r2 h2 z => by rw [z.2]; exact (mk_len _ _).trans (mk_len _ _).symm) (fun r2 h2 z => by rw [z.1, z.2]; exact hg)
theorem a_vi4i {ci c b : Nat} {fs : List Value} {v0 v1 v2 v3 : Value} {q : Int32 × SS × TT} (hC : pm_C0 k pc = pms_vi ci c 4 nx) (hcell : (mk s t)[b]? = some (pm_ob ci fs)) (hcat : (st.map fun v => v.category).sum ≤ 8) (hm : Wm c [.ref b, v0, v1, v2, v3] (mk s t) (Qi q)) (hg : Wp pl_Kc k nx L (.int q.1 :: st) (mk q.2.1 q.2.2) P) : Wp pl_Kc k pc L (v3 :: v2 :: v1 :: v0 :: .ref b :: st) (mk s t) P :=
  w_vi4 pl_sub_c hC hcell hcat hm (fun r2 h2 z => by rw [z.2]; exact (mk_len _ _).trans (mk_len _ _).symm) (fun r2 h2 z => by rw [z.1, z.2]; exact hg)
theorem a_st4l {c : Nat} {v0 v1 v2 v3 : Value} {q : Int64 × SS × TT} (hC : pm_C0 k pc = pms_st c 4 nx) (hcat : (st.map fun v => v.category).sum ≤ 8) (hm : Wm c [v0, v1, v2, v3] (mk s t) (Ql q)) (hg : Wp pl_Kc k nx L (.long q.1 :: st) (mk q.2.1 q.2.2) P) : Wp pl_Kc k pc L (v3 :: v2 :: v1 :: v0 :: st) (mk s t) P :=
  w_st4 pl_sub_c hC hcat hm (fun r2 h2 z => by rw [z.2]; exact (mk_len _ _).trans (mk_len _ _).symm) (fun r2 h2 z => by rw [z.1, z.2]; exact hg)
theorem a_vi4l {ci c b : Nat} {fs : List Value} {v0 v1 v2 v3 : Value} {q : Int64 × SS × TT} (hC : pm_C0 k pc = pms_vi ci c 4 nx) (hcell : (mk s t)[b]? = some (pm_ob ci fs)) (hcat : (st.map fun v => v.category).sum ≤ 8) (hm : Wm c [.ref b, v0, v1, v2, v3] (mk s t) (Ql q)) (hg : Wp pl_Kc k nx L (.long q.1 :: st) (mk q.2.1 q.2.2) P) : Wp pl_Kc k pc L (v3 :: v2 :: v1 :: v0 :: .ref b :: st) (mk s t) P :=
  w_vi4 pl_sub_c hC hcell hcat hm (fun r2 h2 z => by rw [z.2]; exact (mk_len _ _).trans (mk_len _ _).symm) (fun r2 h2 z => by rw [z.1, z.2]; exact hg)
theorem a_st4v {c : Nat} {v0 v1 v2 v3 : Value} {q : SS × TT} (hC : pm_C0 k pc = pms_st c 4 nx) (hcat : (st.map fun v => v.category).sum ≤ 8) (hm : Wm c [v0, v1, v2, v3] (mk s t) (Qv q)) (hg : Wp pl_Kc k nx L (st) (mk q.1 q.2) P) : Wp pl_Kc k pc L (v3 :: v2 :: v1 :: v0 :: st) (mk s t) P :=
  w_st4 pl_sub_c hC hcat hm (fun r2 h2 z => by rw [z.2]; exact (mk_len _ _).trans (mk_len _ _).symm) (fun r2 h2 z => by rw [z.1, z.2]; exact hg)
theorem a_vi4v {ci c b : Nat} {fs : List Value} {v0 v1 v2 v3 : Value} {q : SS × TT} (hC : pm_C0 k pc = pms_vi ci c 4 nx) (hcell : (mk s t)[b]? = some (pm_ob ci fs)) (hcat : (st.map fun v => v.category).sum ≤ 8) (hm : Wm c [.ref b, v0, v1, v2, v3] (mk s t) (Qv q)) (hg : Wp pl_Kc k nx L (st) (mk q.1 q.2) P) : Wp pl_Kc k pc L (v3 :: v2 :: v1 :: v0 :: .ref b :: st) (mk s t) P :=
  w_vi4 pl_sub_c hC hcell hcat hm (fun r2 h2 z => by rw [z.2]; exact (mk_len _ _).trans (mk_len _ _).symm) (fun r2 h2 z => by rw [z.1, z.2]; exact hg)
theorem a_st4t {c : Nat} {v0 v1 v2 v3 : Value} {q : SS × TT} (hC : pm_C0 k pc = pms_st c 4 nx) (hcat : (st.map fun v => v.category).sum ≤ 8) (hm : Wm c [v0, v1, v2, v3] (mk s t) (Qt q)) (hg : Wp pl_Kc k nx L (.ref 19 :: st) (mk q.1 q.2) P) : Wp pl_Kc k pc L (v3 :: v2 :: v1 :: v0 :: st) (mk s t) P :=
  w_st4 pl_sub_c hC hcat hm (fun r2 h2 z => by rw [z.2]; exact (mk_len _ _).trans (mk_len _ _).symm) (fun r2 h2 z => by rw [z.1, z.2]; exact hg)
theorem a_vi4t {ci c b : Nat} {fs : List Value} {v0 v1 v2 v3 : Value} {q : SS × TT} (hC : pm_C0 k pc = pms_vi ci c 4 nx) (hcell : (mk s t)[b]? = some (pm_ob ci fs)) (hcat : (st.map fun v => v.category).sum ≤ 8) (hm : Wm c [.ref b, v0, v1, v2, v3] (mk s t) (Qt q)) (hg : Wp pl_Kc k nx L (.ref 19 :: st) (mk q.1 q.2) P) : Wp pl_Kc k pc L (v3 :: v2 :: v1 :: v0 :: .ref b :: st) (mk s t) P :=
  w_vi4 pl_sub_c hC hcell hcat hm (fun r2 h2 z => by rw [z.2]; exact (mk_len _ _).trans (mk_len _ _).symm) (fun r2 h2 z => by rw [z.1, z.2]; exact hg)
theorem a_st4s {c : Nat} {v0 v1 v2 v3 : Value} {q : Nat × SS × TT} (hC : pm_C0 k pc = pms_st c 4 nx) (hcat : (st.map fun v => v.category).sum ≤ 8) (hm : Wm c [v0, v1, v2, v3] (mk s t) (Qs q)) (hg : Wp pl_Kc k nx L (.ref (pm_B + 100 + q.1) :: st) (mk q.2.1 q.2.2) P) : Wp pl_Kc k pc L (v3 :: v2 :: v1 :: v0 :: st) (mk s t) P :=
  w_st4 pl_sub_c hC hcat hm (fun r2 h2 z => by rw [z.2]; exact (mk_len _ _).trans (mk_len _ _).symm) (fun r2 h2 z => by rw [z.1, z.2]; exact hg)
theorem a_vi4s {ci c b : Nat} {fs : List Value} {v0 v1 v2 v3 : Value} {q : Nat × SS × TT} (hC : pm_C0 k pc = pms_vi ci c 4 nx) (hcell : (mk s t)[b]? = some (pm_ob ci fs)) (hcat : (st.map fun v => v.category).sum ≤ 8) (hm : Wm c [.ref b, v0, v1, v2, v3] (mk s t) (Qs q)) (hg : Wp pl_Kc k nx L (.ref (pm_B + 100 + q.1) :: st) (mk q.2.1 q.2.2) P) : Wp pl_Kc k pc L (v3 :: v2 :: v1 :: v0 :: .ref b :: st) (mk s t) P :=
  w_vi4 pl_sub_c hC hcell hcat hm (fun r2 h2 z => by rw [z.2]; exact (mk_len _ _).trans (mk_len _ _).symm) (fun r2 h2 z => by rw [z.1, z.2]; exact hg)
theorem a_st5i {c : Nat} {v0 v1 v2 v3 v4 : Value} {q : Int32 × SS × TT} (hC : pm_C0 k pc = pms_st c 5 nx) (hcat : (st.map fun v => v.category).sum ≤ 8) (hm : Wm c [v0, v1, v2, v3, v4] (mk s t) (Qi q)) (hg : Wp pl_Kc k nx L (.int q.1 :: st) (mk q.2.1 q.2.2) P) : Wp pl_Kc k pc L (v4 :: v3 :: v2 :: v1 :: v0 :: st) (mk s t) P :=
  w_st5 pl_sub_c hC hcat hm (fun r2 h2 z => by rw [z.2]; exact (mk_len _ _).trans (mk_len _ _).symm) (fun r2 h2 z => by rw [z.1, z.2]; exact hg)
theorem a_vi5i {ci c b : Nat} {fs : List Value} {v0 v1 v2 v3 v4 : Value} {q : Int32 × SS × TT} (hC : pm_C0 k pc = pms_vi ci c 5 nx) (hcell : (mk s t)[b]? = some (pm_ob ci fs)) (hcat : (st.map fun v => v.category).sum ≤ 8) (hm : Wm c [.ref b, v0, v1, v2, v3, v4] (mk s t) (Qi q)) (hg : Wp pl_Kc k nx L (.int q.1 :: st) (mk q.2.1 q.2.2) P) : Wp pl_Kc k pc L (v4 :: v3 :: v2 :: v1 :: v0 :: .ref b :: st) (mk s t) P :=
  w_vi5 pl_sub_c hC hcell hcat hm (fun r2 h2 z => by rw [z.2]; exact (mk_len _ _).trans (mk_len _ _).symm) (fun r2 h2 z => by rw [z.1, z.2]; exact hg)
theorem a_st5l {c : Nat} {v0 v1 v2 v3 v4 : Value} {q : Int64 × SS × TT} (hC : pm_C0 k pc = pms_st c 5 nx) (hcat : (st.map fun v => v.category).sum ≤ 8) (hm : Wm c [v0, v1, v2, v3, v4] (mk s t) (Ql q)) (hg : Wp pl_Kc k nx L (.long q.1 :: st) (mk q.2.1 q.2.2) P) : Wp pl_Kc k pc L (v4 :: v3 :: v2 :: v1 :: v0 :: st) (mk s t) P :=
  w_st5 pl_sub_c hC hcat hm (fun r2 h2 z => by rw [z.2]; exact (mk_len _ _).trans (mk_len _ _).symm) (fun r2 h2 z => by rw [z.1, z.2]; exact hg)
theorem a_vi5l {ci c b : Nat} {fs : List Value} {v0 v1 v2 v3 v4 : Value} {q : Int64 × SS × TT} (hC : pm_C0 k pc = pms_vi ci c 5 nx) (hcell : (mk s t)[b]? = some (pm_ob ci fs)) (hcat : (st.map fun v => v.category).sum ≤ 8) (hm : Wm c [.ref b, v0, v1, v2, v3, v4] (mk s t) (Ql q)) (hg : Wp pl_Kc k nx L (.long q.1 :: st) (mk q.2.1 q.2.2) P) : Wp pl_Kc k pc L (v4 :: v3 :: v2 :: v1 :: v0 :: .ref b :: st) (mk s t) P :=
  w_vi5 pl_sub_c hC hcell hcat hm (fun r2 h2 z => by rw [z.2]; exact (mk_len _ _).trans (mk_len _ _).symm) (fun r2 h2 z => by rw [z.1, z.2]; exact hg)
theorem a_st5v {c : Nat} {v0 v1 v2 v3 v4 : Value} {q : SS × TT} (hC : pm_C0 k pc = pms_st c 5 nx) (hcat : (st.map fun v => v.category).sum ≤ 8) (hm : Wm c [v0, v1, v2, v3, v4] (mk s t) (Qv q)) (hg : Wp pl_Kc k nx L (st) (mk q.1 q.2) P) : Wp pl_Kc k pc L (v4 :: v3 :: v2 :: v1 :: v0 :: st) (mk s t) P :=
  w_st5 pl_sub_c hC hcat hm (fun r2 h2 z => by rw [z.2]; exact (mk_len _ _).trans (mk_len _ _).symm) (fun r2 h2 z => by rw [z.1, z.2]; exact hg)
theorem a_vi5v {ci c b : Nat} {fs : List Value} {v0 v1 v2 v3 v4 : Value} {q : SS × TT} (hC : pm_C0 k pc = pms_vi ci c 5 nx) (hcell : (mk s t)[b]? = some (pm_ob ci fs)) (hcat : (st.map fun v => v.category).sum ≤ 8) (hm : Wm c [.ref b, v0, v1, v2, v3, v4] (mk s t) (Qv q)) (hg : Wp pl_Kc k nx L (st) (mk q.1 q.2) P) : Wp pl_Kc k pc L (v4 :: v3 :: v2 :: v1 :: v0 :: .ref b :: st) (mk s t) P :=
  w_vi5 pl_sub_c hC hcell hcat hm (fun r2 h2 z => by rw [z.2]; exact (mk_len _ _).trans (mk_len _ _).symm) (fun r2 h2 z => by rw [z.1, z.2]; exact hg)
theorem a_st5t {c : Nat} {v0 v1 v2 v3 v4 : Value} {q : SS × TT} (hC : pm_C0 k pc = pms_st c 5 nx) (hcat : (st.map fun v => v.category).sum ≤ 8) (hm : Wm c [v0, v1, v2, v3, v4] (mk s t) (Qt q)) (hg : Wp pl_Kc k nx L (.ref 19 :: st) (mk q.1 q.2) P) : Wp pl_Kc k pc L (v4 :: v3 :: v2 :: v1 :: v0 :: st) (mk s t) P :=
  w_st5 pl_sub_c hC hcat hm (fun r2 h2 z => by rw [z.2]; exact (mk_len _ _).trans (mk_len _ _).symm) (fun r2 h2 z => by rw [z.1, z.2]; exact hg)
theorem a_vi5t {ci c b : Nat} {fs : List Value} {v0 v1 v2 v3 v4 : Value} {q : SS × TT} (hC : pm_C0 k pc = pms_vi ci c 5 nx) (hcell : (mk s t)[b]? = some (pm_ob ci fs)) (hcat : (st.map fun v => v.category).sum ≤ 8) (hm : Wm c [.ref b, v0, v1, v2, v3, v4] (mk s t) (Qt q)) (hg : Wp pl_Kc k nx L (.ref 19 :: st) (mk q.1 q.2) P) : Wp pl_Kc k pc L (v4 :: v3 :: v2 :: v1 :: v0 :: .ref b :: st) (mk s t) P :=
  w_vi5 pl_sub_c hC hcell hcat hm (fun r2 h2 z => by rw [z.2]; exact (mk_len _ _).trans (mk_len _ _).symm) (fun r2 h2 z => by rw [z.1, z.2]; exact hg)
theorem a_st5s {c : Nat} {v0 v1 v2 v3 v4 : Value} {q : Nat × SS × TT} (hC : pm_C0 k pc = pms_st c 5 nx) (hcat : (st.map fun v => v.category).sum ≤ 8) (hm : Wm c [v0, v1, v2, v3, v4] (mk s t) (Qs q)) (hg : Wp pl_Kc k nx L (.ref (pm_B + 100 + q.1) :: st) (mk q.2.1 q.2.2) P) : Wp pl_Kc k pc L (v4 :: v3 :: v2 :: v1 :: v0 :: st) (mk s t) P :=
  w_st5 pl_sub_c hC hcat hm (fun r2 h2 z => by rw [z.2]; exact (mk_len _ _).trans (mk_len _ _).symm) (fun r2 h2 z => by rw [z.1, z.2]; exact hg)
theorem a_vi5s {ci c b : Nat} {fs : List Value} {v0 v1 v2 v3 v4 : Value} {q : Nat × SS × TT} (hC : pm_C0 k pc = pms_vi ci c 5 nx) (hcell : (mk s t)[b]? = some (pm_ob ci fs)) (hcat : (st.map fun v => v.category).sum ≤ 8) (hm : Wm c [.ref b, v0, v1, v2, v3, v4] (mk s t) (Qs q)) (hg : Wp pl_Kc k nx L (.ref (pm_B + 100 + q.1) :: st) (mk q.2.1 q.2.2) P) : Wp pl_Kc k pc L (v4 :: v3 :: v2 :: v1 :: v0 :: .ref b :: st) (mk s t) P :=
  w_vi5 pl_sub_c hC hcell hcat hm (fun r2 h2 z => by rw [z.2]; exact (mk_len _ _).trans (mk_len _ _).symm) (fun r2 h2 z => by rw [z.1, z.2]; exact hg)
end AROWS
