/-! both objects' cells as numbers: s c i is what stands in cell c at place i (ints), t c i the same (longs) -/
def ar {α : Type} (n : Nat) (f : Nat → α) : List α := (List.range n).map f
def up2 {α : Type} (s : Nat → Nat → α) (c i : Nat) (v : α) : Nat → Nat → α := fun a b => if a = c then (if b = i then v else s c b) else s a b
theorem ar_len {α : Type} {n : Nat} {f : Nat → α} : (ar n f).length = n := by simp [ar]
theorem ar_get {α : Type} {n i : Nat} {f : Nat → α} (h : i < n) : (ar n f)[i]? = some (f i) := by simp [ar, h]
theorem ar_set {α : Type} {n c i : Nat} {s : Nat → Nat → α} {v : α} : (ar n (s c)).set i v = ar n (up2 s c i v c) := by
  apply List.ext_getElem?
  intro j
  by_cases hj : j < n
  · by_cases hi : j = i
    · subst hi
      rw [List.getElem?_set_self (by rw [ar_len]; exact hj), ar_get hj]
      simp [up2]
    · rw [List.getElem?_set_ne (Ne.symm hi), ar_get hj, ar_get hj]
      simp [up2, hi]
  · rw [List.getElem?_eq_none (by rw [List.length_set, ar_len]; omega), List.getElem?_eq_none (by rw [ar_len]; omega)]
theorem up2_s {α : Type} {s : Nat → Nat → α} {c i : Nat} {v : α} : up2 s c i v c i = v := by simp [up2]
theorem up2_n {α : Type} {s : Nat → Nat → α} {c i a b : Nat} {v : α} (h : a ≠ c ∨ b ≠ i) : up2 s c i v a b = s a b := by
  unfold up2
  by_cases h1 : a = c
  · subst h1
    rcases h with h | h
    · exact absurd rfl h
    · rw [if_pos rfl, if_neg h]
  · rw [if_neg h1]
def mk (s : Nat → Nat → Int32) (t : Nat → Nat → Int64) : pm_H := [pm_ob 5 [.ref 1, .ref 10, .ref 19, .ref 28, .ref 33, .ref 35, .ref 36, .ref 49, .ref 50, .int (s 0 9), .int (s 0 10)], pm_ob 1 [.ref 2, .ref 3, .ref 4, .ref 5, .ref 6, .ref 7, .ref 8, .ref 9, .int (s 1 8), .int (s 1 9), .int (s 1 10), .int (s 1 11)], .inl (ar 4 (s 2)), .inl (ar 8 (s 3)), .inl (ar 8 (s 4)), .inl (ar 8 (s 5)), .inl (ar 8 (s 6)), .inl (ar 8 (s 7)), .inl (ar 8 (s 8)), .inl (ar 8 (s 9)), pm_ob 1 [.ref 11, .ref 12, .ref 13, .ref 14, .ref 15, .ref 16, .ref 17, .ref 18, .int (s 10 8), .int (s 10 9), .int (s 10 10), .int (s 10 11)], .inl (ar 4 (s 11)), .inl (ar 8 (s 12)), .inl (ar 8 (s 13)), .inl (ar 8 (s 14)), .inl (ar 8 (s 15)), .inl (ar 8 (s 16)), .inl (ar 8 (s 17)), .inl (ar 8 (s 18)), pm_ob 1 [.ref 20, .ref 21, .ref 22, .ref 23, .ref 24, .ref 25, .ref 26, .ref 27, .int (s 19 8), .int (s 19 9), .int (s 19 10), .int (s 19 11)], .inl (ar 4 (s 20)), .inl (ar 8 (s 21)), .inl (ar 8 (s 22)), .inl (ar 8 (s 23)), .inl (ar 8 (s 24)), .inl (ar 8 (s 25)), .inl (ar 8 (s 26)), .inl (ar 8 (s 27)), pm_ob 4 [.ref 29, .ref 30, .ref 31, .ref 32, .int (s 28 4), .int (s 28 5), .int (s 28 6), .int (s 28 7)], .inl (ar 200 (s 29)), .inl (ar 201 (s 30)), .inl (ar 201 (s 31)), .inl (ar 201 (s 32)), pm_ob 0 [.ref 34, .int (s 33 1), .int (s 33 2), .int (s 33 3), .int (s 33 4), .int (s 33 5)], .inl (ar 30 (s 34)), pm_qr 0 [some 37, some 40, some 43, some 46], pm_qr 1 [some 39, some 42, some 45, some 48], pm_ob 2 [.ref 38, .int (s 37 1), .int (s 37 2)], .inr (.inl (ar 40 (t 38))), pm_ob 3 [.int (s 39 0), .int (s 39 1), .int (s 39 2), .int (s 39 3)], pm_ob 2 [.ref 41, .int (s 40 1), .int (s 40 2)], .inr (.inl (ar 40 (t 41))), pm_ob 3 [.int (s 42 0), .int (s 42 1), .int (s 42 2), .int (s 42 3)], pm_ob 2 [.ref 44, .int (s 43 1), .int (s 43 2)], .inr (.inl (ar 40 (t 44))), pm_ob 3 [.int (s 45 0), .int (s 45 1), .int (s 45 2), .int (s 45 3)], pm_ob 2 [.ref 47, .int (s 46 1), .int (s 46 2)], .inr (.inl (ar 40 (t 47))), pm_ob 3 [.int (s 48 0), .int (s 48 1), .int (s 48 2), .int (s 48 3)], .inl (ar 30 (s 49)), .inl (ar 256 (s 50)), pm_ob 6 [.ref 52, .ref 53, .ref 54, .ref 55, .int (s 51 4), .int (s 51 5), .ref 56, .int (s 51 7), .int (s 51 8), .int (s 51 9), .int (s 51 10), .long (t 51 11), .int (s 51 12), .int (s 51 13), .ref 57, .ref 58, .ref 59, .int (s 51 17), .ref 60, .ref 61, .ref 62, .ref 63, .ref 64, .ref 65, .int (s 51 24), .int (s 51 25), .int (s 51 26), .ref 66, .int (s 51 28), .int (s 51 29)], .inl (ar 56 (s 52)), .inl (ar 56 (s 53)), .inl (ar 56 (s 54)), .inl (ar 56 (s 55)), .inl (ar 200 (s 56)), .inl (ar 256 (s 57)), .inl (ar 30 (s 58)), .inl (ar 30 (s 59)), .inl (ar 4 (s 60)), .inl (ar 4 (s 61)), .inr (.inl (ar 160 (t 62))), .inl (ar 4 (s 63)), .inl (ar 4 (s 64)), .inl (ar 4 (s 65)), .inl (ar 30 (s 66))]
theorem mk_len (s : Nat → Nat → Int32) (t : Nat → Nat → Int64) : (mk s t).length = 67 := rfl
theorem mg_0 (s : Nat → Nat → Int32) (t : Nat → Nat → Int64) : (mk s t)[0]? = some (pm_ob 5 [.ref 1, .ref 10, .ref 19, .ref 28, .ref 33, .ref 35, .ref 36, .ref 49, .ref 50, .int (s 0 9), .int (s 0 10)]) := rfl
theorem ms_0_9 (s : Nat → Nat → Int32) (t : Nat → Nat → Int64) (v : Int32) : (mk s t).set 0 (pm_ob 5 ([.ref 1, .ref 10, .ref 19, .ref 28, .ref 33, .ref 35, .ref 36, .ref 49, .ref 50, .int (s 0 9), .int (s 0 10)].set 9 (.int v))) = mk (up2 s 0 9 v) t := rfl
theorem ms_0_10 (s : Nat → Nat → Int32) (t : Nat → Nat → Int64) (v : Int32) : (mk s t).set 0 (pm_ob 5 ([.ref 1, .ref 10, .ref 19, .ref 28, .ref 33, .ref 35, .ref 36, .ref 49, .ref 50, .int (s 0 9), .int (s 0 10)].set 10 (.int v))) = mk (up2 s 0 10 v) t := rfl
theorem mg_1 (s : Nat → Nat → Int32) (t : Nat → Nat → Int64) : (mk s t)[1]? = some (pm_ob 1 [.ref 2, .ref 3, .ref 4, .ref 5, .ref 6, .ref 7, .ref 8, .ref 9, .int (s 1 8), .int (s 1 9), .int (s 1 10), .int (s 1 11)]) := rfl
theorem ms_1_8 (s : Nat → Nat → Int32) (t : Nat → Nat → Int64) (v : Int32) : (mk s t).set 1 (pm_ob 1 ([.ref 2, .ref 3, .ref 4, .ref 5, .ref 6, .ref 7, .ref 8, .ref 9, .int (s 1 8), .int (s 1 9), .int (s 1 10), .int (s 1 11)].set 8 (.int v))) = mk (up2 s 1 8 v) t := rfl
theorem ms_1_9 (s : Nat → Nat → Int32) (t : Nat → Nat → Int64) (v : Int32) : (mk s t).set 1 (pm_ob 1 ([.ref 2, .ref 3, .ref 4, .ref 5, .ref 6, .ref 7, .ref 8, .ref 9, .int (s 1 8), .int (s 1 9), .int (s 1 10), .int (s 1 11)].set 9 (.int v))) = mk (up2 s 1 9 v) t := rfl
theorem ms_1_10 (s : Nat → Nat → Int32) (t : Nat → Nat → Int64) (v : Int32) : (mk s t).set 1 (pm_ob 1 ([.ref 2, .ref 3, .ref 4, .ref 5, .ref 6, .ref 7, .ref 8, .ref 9, .int (s 1 8), .int (s 1 9), .int (s 1 10), .int (s 1 11)].set 10 (.int v))) = mk (up2 s 1 10 v) t := rfl
theorem ms_1_11 (s : Nat → Nat → Int32) (t : Nat → Nat → Int64) (v : Int32) : (mk s t).set 1 (pm_ob 1 ([.ref 2, .ref 3, .ref 4, .ref 5, .ref 6, .ref 7, .ref 8, .ref 9, .int (s 1 8), .int (s 1 9), .int (s 1 10), .int (s 1 11)].set 11 (.int v))) = mk (up2 s 1 11 v) t := rfl
theorem mg_2 (s : Nat → Nat → Int32) (t : Nat → Nat → Int64) : (mk s t)[2]? = some (.inl (ar 4 (s 2))) := rfl
theorem mr_2 (K : pm_K) (s : Nat → Nat → Int32) (t : Nat → Nat → Int64) : pm_row K (mk s t) 2 = some (ar 4 (s 2)) := rfl
theorem ms_2 (s : Nat → Nat → Int32) (t : Nat → Nat → Int64) (i : Nat) (v : Int32) : (mk s t).set 2 (.inl ((ar 4 (s 2)).set i v)) = mk (up2 s 2 i v) t := by rw [ar_set]; rfl
theorem mg_3 (s : Nat → Nat → Int32) (t : Nat → Nat → Int64) : (mk s t)[3]? = some (.inl (ar 8 (s 3))) := rfl
theorem mr_3 (K : pm_K) (s : Nat → Nat → Int32) (t : Nat → Nat → Int64) : pm_row K (mk s t) 3 = some (ar 8 (s 3)) := rfl
theorem ms_3 (s : Nat → Nat → Int32) (t : Nat → Nat → Int64) (i : Nat) (v : Int32) : (mk s t).set 3 (.inl ((ar 8 (s 3)).set i v)) = mk (up2 s 3 i v) t := by rw [ar_set]; rfl
theorem mg_4 (s : Nat → Nat → Int32) (t : Nat → Nat → Int64) : (mk s t)[4]? = some (.inl (ar 8 (s 4))) := rfl
theorem mr_4 (K : pm_K) (s : Nat → Nat → Int32) (t : Nat → Nat → Int64) : pm_row K (mk s t) 4 = some (ar 8 (s 4)) := rfl
theorem ms_4 (s : Nat → Nat → Int32) (t : Nat → Nat → Int64) (i : Nat) (v : Int32) : (mk s t).set 4 (.inl ((ar 8 (s 4)).set i v)) = mk (up2 s 4 i v) t := by rw [ar_set]; rfl
theorem mg_5 (s : Nat → Nat → Int32) (t : Nat → Nat → Int64) : (mk s t)[5]? = some (.inl (ar 8 (s 5))) := rfl
theorem mr_5 (K : pm_K) (s : Nat → Nat → Int32) (t : Nat → Nat → Int64) : pm_row K (mk s t) 5 = some (ar 8 (s 5)) := rfl
theorem ms_5 (s : Nat → Nat → Int32) (t : Nat → Nat → Int64) (i : Nat) (v : Int32) : (mk s t).set 5 (.inl ((ar 8 (s 5)).set i v)) = mk (up2 s 5 i v) t := by rw [ar_set]; rfl
theorem mg_6 (s : Nat → Nat → Int32) (t : Nat → Nat → Int64) : (mk s t)[6]? = some (.inl (ar 8 (s 6))) := rfl
theorem mr_6 (K : pm_K) (s : Nat → Nat → Int32) (t : Nat → Nat → Int64) : pm_row K (mk s t) 6 = some (ar 8 (s 6)) := rfl
theorem ms_6 (s : Nat → Nat → Int32) (t : Nat → Nat → Int64) (i : Nat) (v : Int32) : (mk s t).set 6 (.inl ((ar 8 (s 6)).set i v)) = mk (up2 s 6 i v) t := by rw [ar_set]; rfl
theorem mg_7 (s : Nat → Nat → Int32) (t : Nat → Nat → Int64) : (mk s t)[7]? = some (.inl (ar 8 (s 7))) := rfl
theorem mr_7 (K : pm_K) (s : Nat → Nat → Int32) (t : Nat → Nat → Int64) : pm_row K (mk s t) 7 = some (ar 8 (s 7)) := rfl
theorem ms_7 (s : Nat → Nat → Int32) (t : Nat → Nat → Int64) (i : Nat) (v : Int32) : (mk s t).set 7 (.inl ((ar 8 (s 7)).set i v)) = mk (up2 s 7 i v) t := by rw [ar_set]; rfl
theorem mg_8 (s : Nat → Nat → Int32) (t : Nat → Nat → Int64) : (mk s t)[8]? = some (.inl (ar 8 (s 8))) := rfl
theorem mr_8 (K : pm_K) (s : Nat → Nat → Int32) (t : Nat → Nat → Int64) : pm_row K (mk s t) 8 = some (ar 8 (s 8)) := rfl
theorem ms_8 (s : Nat → Nat → Int32) (t : Nat → Nat → Int64) (i : Nat) (v : Int32) : (mk s t).set 8 (.inl ((ar 8 (s 8)).set i v)) = mk (up2 s 8 i v) t := by rw [ar_set]; rfl
theorem mg_9 (s : Nat → Nat → Int32) (t : Nat → Nat → Int64) : (mk s t)[9]? = some (.inl (ar 8 (s 9))) := rfl
theorem mr_9 (K : pm_K) (s : Nat → Nat → Int32) (t : Nat → Nat → Int64) : pm_row K (mk s t) 9 = some (ar 8 (s 9)) := rfl
theorem ms_9 (s : Nat → Nat → Int32) (t : Nat → Nat → Int64) (i : Nat) (v : Int32) : (mk s t).set 9 (.inl ((ar 8 (s 9)).set i v)) = mk (up2 s 9 i v) t := by rw [ar_set]; rfl
theorem mg_10 (s : Nat → Nat → Int32) (t : Nat → Nat → Int64) : (mk s t)[10]? = some (pm_ob 1 [.ref 11, .ref 12, .ref 13, .ref 14, .ref 15, .ref 16, .ref 17, .ref 18, .int (s 10 8), .int (s 10 9), .int (s 10 10), .int (s 10 11)]) := rfl
theorem ms_10_8 (s : Nat → Nat → Int32) (t : Nat → Nat → Int64) (v : Int32) : (mk s t).set 10 (pm_ob 1 ([.ref 11, .ref 12, .ref 13, .ref 14, .ref 15, .ref 16, .ref 17, .ref 18, .int (s 10 8), .int (s 10 9), .int (s 10 10), .int (s 10 11)].set 8 (.int v))) = mk (up2 s 10 8 v) t := rfl
theorem ms_10_9 (s : Nat → Nat → Int32) (t : Nat → Nat → Int64) (v : Int32) : (mk s t).set 10 (pm_ob 1 ([.ref 11, .ref 12, .ref 13, .ref 14, .ref 15, .ref 16, .ref 17, .ref 18, .int (s 10 8), .int (s 10 9), .int (s 10 10), .int (s 10 11)].set 9 (.int v))) = mk (up2 s 10 9 v) t := rfl
theorem ms_10_10 (s : Nat → Nat → Int32) (t : Nat → Nat → Int64) (v : Int32) : (mk s t).set 10 (pm_ob 1 ([.ref 11, .ref 12, .ref 13, .ref 14, .ref 15, .ref 16, .ref 17, .ref 18, .int (s 10 8), .int (s 10 9), .int (s 10 10), .int (s 10 11)].set 10 (.int v))) = mk (up2 s 10 10 v) t := rfl
theorem ms_10_11 (s : Nat → Nat → Int32) (t : Nat → Nat → Int64) (v : Int32) : (mk s t).set 10 (pm_ob 1 ([.ref 11, .ref 12, .ref 13, .ref 14, .ref 15, .ref 16, .ref 17, .ref 18, .int (s 10 8), .int (s 10 9), .int (s 10 10), .int (s 10 11)].set 11 (.int v))) = mk (up2 s 10 11 v) t := rfl
theorem mg_11 (s : Nat → Nat → Int32) (t : Nat → Nat → Int64) : (mk s t)[11]? = some (.inl (ar 4 (s 11))) := rfl
theorem mr_11 (K : pm_K) (s : Nat → Nat → Int32) (t : Nat → Nat → Int64) : pm_row K (mk s t) 11 = some (ar 4 (s 11)) := rfl
theorem ms_11 (s : Nat → Nat → Int32) (t : Nat → Nat → Int64) (i : Nat) (v : Int32) : (mk s t).set 11 (.inl ((ar 4 (s 11)).set i v)) = mk (up2 s 11 i v) t := by rw [ar_set]; rfl
theorem mg_12 (s : Nat → Nat → Int32) (t : Nat → Nat → Int64) : (mk s t)[12]? = some (.inl (ar 8 (s 12))) := rfl
theorem mr_12 (K : pm_K) (s : Nat → Nat → Int32) (t : Nat → Nat → Int64) : pm_row K (mk s t) 12 = some (ar 8 (s 12)) := rfl
theorem ms_12 (s : Nat → Nat → Int32) (t : Nat → Nat → Int64) (i : Nat) (v : Int32) : (mk s t).set 12 (.inl ((ar 8 (s 12)).set i v)) = mk (up2 s 12 i v) t := by rw [ar_set]; rfl
theorem mg_13 (s : Nat → Nat → Int32) (t : Nat → Nat → Int64) : (mk s t)[13]? = some (.inl (ar 8 (s 13))) := rfl
theorem mr_13 (K : pm_K) (s : Nat → Nat → Int32) (t : Nat → Nat → Int64) : pm_row K (mk s t) 13 = some (ar 8 (s 13)) := rfl
theorem ms_13 (s : Nat → Nat → Int32) (t : Nat → Nat → Int64) (i : Nat) (v : Int32) : (mk s t).set 13 (.inl ((ar 8 (s 13)).set i v)) = mk (up2 s 13 i v) t := by rw [ar_set]; rfl
theorem mg_14 (s : Nat → Nat → Int32) (t : Nat → Nat → Int64) : (mk s t)[14]? = some (.inl (ar 8 (s 14))) := rfl
theorem mr_14 (K : pm_K) (s : Nat → Nat → Int32) (t : Nat → Nat → Int64) : pm_row K (mk s t) 14 = some (ar 8 (s 14)) := rfl
theorem ms_14 (s : Nat → Nat → Int32) (t : Nat → Nat → Int64) (i : Nat) (v : Int32) : (mk s t).set 14 (.inl ((ar 8 (s 14)).set i v)) = mk (up2 s 14 i v) t := by rw [ar_set]; rfl
theorem mg_15 (s : Nat → Nat → Int32) (t : Nat → Nat → Int64) : (mk s t)[15]? = some (.inl (ar 8 (s 15))) := rfl
theorem mr_15 (K : pm_K) (s : Nat → Nat → Int32) (t : Nat → Nat → Int64) : pm_row K (mk s t) 15 = some (ar 8 (s 15)) := rfl
theorem ms_15 (s : Nat → Nat → Int32) (t : Nat → Nat → Int64) (i : Nat) (v : Int32) : (mk s t).set 15 (.inl ((ar 8 (s 15)).set i v)) = mk (up2 s 15 i v) t := by rw [ar_set]; rfl
theorem mg_16 (s : Nat → Nat → Int32) (t : Nat → Nat → Int64) : (mk s t)[16]? = some (.inl (ar 8 (s 16))) := rfl
theorem mr_16 (K : pm_K) (s : Nat → Nat → Int32) (t : Nat → Nat → Int64) : pm_row K (mk s t) 16 = some (ar 8 (s 16)) := rfl
theorem ms_16 (s : Nat → Nat → Int32) (t : Nat → Nat → Int64) (i : Nat) (v : Int32) : (mk s t).set 16 (.inl ((ar 8 (s 16)).set i v)) = mk (up2 s 16 i v) t := by rw [ar_set]; rfl
theorem mg_17 (s : Nat → Nat → Int32) (t : Nat → Nat → Int64) : (mk s t)[17]? = some (.inl (ar 8 (s 17))) := rfl
theorem mr_17 (K : pm_K) (s : Nat → Nat → Int32) (t : Nat → Nat → Int64) : pm_row K (mk s t) 17 = some (ar 8 (s 17)) := rfl
theorem ms_17 (s : Nat → Nat → Int32) (t : Nat → Nat → Int64) (i : Nat) (v : Int32) : (mk s t).set 17 (.inl ((ar 8 (s 17)).set i v)) = mk (up2 s 17 i v) t := by rw [ar_set]; rfl
theorem mg_18 (s : Nat → Nat → Int32) (t : Nat → Nat → Int64) : (mk s t)[18]? = some (.inl (ar 8 (s 18))) := rfl
theorem mr_18 (K : pm_K) (s : Nat → Nat → Int32) (t : Nat → Nat → Int64) : pm_row K (mk s t) 18 = some (ar 8 (s 18)) := rfl
theorem ms_18 (s : Nat → Nat → Int32) (t : Nat → Nat → Int64) (i : Nat) (v : Int32) : (mk s t).set 18 (.inl ((ar 8 (s 18)).set i v)) = mk (up2 s 18 i v) t := by rw [ar_set]; rfl
theorem mg_19 (s : Nat → Nat → Int32) (t : Nat → Nat → Int64) : (mk s t)[19]? = some (pm_ob 1 [.ref 20, .ref 21, .ref 22, .ref 23, .ref 24, .ref 25, .ref 26, .ref 27, .int (s 19 8), .int (s 19 9), .int (s 19 10), .int (s 19 11)]) := rfl
theorem ms_19_8 (s : Nat → Nat → Int32) (t : Nat → Nat → Int64) (v : Int32) : (mk s t).set 19 (pm_ob 1 ([.ref 20, .ref 21, .ref 22, .ref 23, .ref 24, .ref 25, .ref 26, .ref 27, .int (s 19 8), .int (s 19 9), .int (s 19 10), .int (s 19 11)].set 8 (.int v))) = mk (up2 s 19 8 v) t := rfl
theorem ms_19_9 (s : Nat → Nat → Int32) (t : Nat → Nat → Int64) (v : Int32) : (mk s t).set 19 (pm_ob 1 ([.ref 20, .ref 21, .ref 22, .ref 23, .ref 24, .ref 25, .ref 26, .ref 27, .int (s 19 8), .int (s 19 9), .int (s 19 10), .int (s 19 11)].set 9 (.int v))) = mk (up2 s 19 9 v) t := rfl
theorem ms_19_10 (s : Nat → Nat → Int32) (t : Nat → Nat → Int64) (v : Int32) : (mk s t).set 19 (pm_ob 1 ([.ref 20, .ref 21, .ref 22, .ref 23, .ref 24, .ref 25, .ref 26, .ref 27, .int (s 19 8), .int (s 19 9), .int (s 19 10), .int (s 19 11)].set 10 (.int v))) = mk (up2 s 19 10 v) t := rfl
theorem ms_19_11 (s : Nat → Nat → Int32) (t : Nat → Nat → Int64) (v : Int32) : (mk s t).set 19 (pm_ob 1 ([.ref 20, .ref 21, .ref 22, .ref 23, .ref 24, .ref 25, .ref 26, .ref 27, .int (s 19 8), .int (s 19 9), .int (s 19 10), .int (s 19 11)].set 11 (.int v))) = mk (up2 s 19 11 v) t := rfl
theorem mg_20 (s : Nat → Nat → Int32) (t : Nat → Nat → Int64) : (mk s t)[20]? = some (.inl (ar 4 (s 20))) := rfl
theorem mr_20 (K : pm_K) (s : Nat → Nat → Int32) (t : Nat → Nat → Int64) : pm_row K (mk s t) 20 = some (ar 4 (s 20)) := rfl
theorem ms_20 (s : Nat → Nat → Int32) (t : Nat → Nat → Int64) (i : Nat) (v : Int32) : (mk s t).set 20 (.inl ((ar 4 (s 20)).set i v)) = mk (up2 s 20 i v) t := by rw [ar_set]; rfl
theorem mg_21 (s : Nat → Nat → Int32) (t : Nat → Nat → Int64) : (mk s t)[21]? = some (.inl (ar 8 (s 21))) := rfl
theorem mr_21 (K : pm_K) (s : Nat → Nat → Int32) (t : Nat → Nat → Int64) : pm_row K (mk s t) 21 = some (ar 8 (s 21)) := rfl
theorem ms_21 (s : Nat → Nat → Int32) (t : Nat → Nat → Int64) (i : Nat) (v : Int32) : (mk s t).set 21 (.inl ((ar 8 (s 21)).set i v)) = mk (up2 s 21 i v) t := by rw [ar_set]; rfl
theorem mg_22 (s : Nat → Nat → Int32) (t : Nat → Nat → Int64) : (mk s t)[22]? = some (.inl (ar 8 (s 22))) := rfl
theorem mr_22 (K : pm_K) (s : Nat → Nat → Int32) (t : Nat → Nat → Int64) : pm_row K (mk s t) 22 = some (ar 8 (s 22)) := rfl
theorem ms_22 (s : Nat → Nat → Int32) (t : Nat → Nat → Int64) (i : Nat) (v : Int32) : (mk s t).set 22 (.inl ((ar 8 (s 22)).set i v)) = mk (up2 s 22 i v) t := by rw [ar_set]; rfl
theorem mg_23 (s : Nat → Nat → Int32) (t : Nat → Nat → Int64) : (mk s t)[23]? = some (.inl (ar 8 (s 23))) := rfl
theorem mr_23 (K : pm_K) (s : Nat → Nat → Int32) (t : Nat → Nat → Int64) : pm_row K (mk s t) 23 = some (ar 8 (s 23)) := rfl
theorem ms_23 (s : Nat → Nat → Int32) (t : Nat → Nat → Int64) (i : Nat) (v : Int32) : (mk s t).set 23 (.inl ((ar 8 (s 23)).set i v)) = mk (up2 s 23 i v) t := by rw [ar_set]; rfl
theorem mg_24 (s : Nat → Nat → Int32) (t : Nat → Nat → Int64) : (mk s t)[24]? = some (.inl (ar 8 (s 24))) := rfl
theorem mr_24 (K : pm_K) (s : Nat → Nat → Int32) (t : Nat → Nat → Int64) : pm_row K (mk s t) 24 = some (ar 8 (s 24)) := rfl
theorem ms_24 (s : Nat → Nat → Int32) (t : Nat → Nat → Int64) (i : Nat) (v : Int32) : (mk s t).set 24 (.inl ((ar 8 (s 24)).set i v)) = mk (up2 s 24 i v) t := by rw [ar_set]; rfl
theorem mg_25 (s : Nat → Nat → Int32) (t : Nat → Nat → Int64) : (mk s t)[25]? = some (.inl (ar 8 (s 25))) := rfl
theorem mr_25 (K : pm_K) (s : Nat → Nat → Int32) (t : Nat → Nat → Int64) : pm_row K (mk s t) 25 = some (ar 8 (s 25)) := rfl
theorem ms_25 (s : Nat → Nat → Int32) (t : Nat → Nat → Int64) (i : Nat) (v : Int32) : (mk s t).set 25 (.inl ((ar 8 (s 25)).set i v)) = mk (up2 s 25 i v) t := by rw [ar_set]; rfl
theorem mg_26 (s : Nat → Nat → Int32) (t : Nat → Nat → Int64) : (mk s t)[26]? = some (.inl (ar 8 (s 26))) := rfl
theorem mr_26 (K : pm_K) (s : Nat → Nat → Int32) (t : Nat → Nat → Int64) : pm_row K (mk s t) 26 = some (ar 8 (s 26)) := rfl
theorem ms_26 (s : Nat → Nat → Int32) (t : Nat → Nat → Int64) (i : Nat) (v : Int32) : (mk s t).set 26 (.inl ((ar 8 (s 26)).set i v)) = mk (up2 s 26 i v) t := by rw [ar_set]; rfl
theorem mg_27 (s : Nat → Nat → Int32) (t : Nat → Nat → Int64) : (mk s t)[27]? = some (.inl (ar 8 (s 27))) := rfl
theorem mr_27 (K : pm_K) (s : Nat → Nat → Int32) (t : Nat → Nat → Int64) : pm_row K (mk s t) 27 = some (ar 8 (s 27)) := rfl
theorem ms_27 (s : Nat → Nat → Int32) (t : Nat → Nat → Int64) (i : Nat) (v : Int32) : (mk s t).set 27 (.inl ((ar 8 (s 27)).set i v)) = mk (up2 s 27 i v) t := by rw [ar_set]; rfl
theorem mg_28 (s : Nat → Nat → Int32) (t : Nat → Nat → Int64) : (mk s t)[28]? = some (pm_ob 4 [.ref 29, .ref 30, .ref 31, .ref 32, .int (s 28 4), .int (s 28 5), .int (s 28 6), .int (s 28 7)]) := rfl
theorem ms_28_4 (s : Nat → Nat → Int32) (t : Nat → Nat → Int64) (v : Int32) : (mk s t).set 28 (pm_ob 4 ([.ref 29, .ref 30, .ref 31, .ref 32, .int (s 28 4), .int (s 28 5), .int (s 28 6), .int (s 28 7)].set 4 (.int v))) = mk (up2 s 28 4 v) t := rfl
theorem ms_28_5 (s : Nat → Nat → Int32) (t : Nat → Nat → Int64) (v : Int32) : (mk s t).set 28 (pm_ob 4 ([.ref 29, .ref 30, .ref 31, .ref 32, .int (s 28 4), .int (s 28 5), .int (s 28 6), .int (s 28 7)].set 5 (.int v))) = mk (up2 s 28 5 v) t := rfl
theorem ms_28_6 (s : Nat → Nat → Int32) (t : Nat → Nat → Int64) (v : Int32) : (mk s t).set 28 (pm_ob 4 ([.ref 29, .ref 30, .ref 31, .ref 32, .int (s 28 4), .int (s 28 5), .int (s 28 6), .int (s 28 7)].set 6 (.int v))) = mk (up2 s 28 6 v) t := rfl
theorem ms_28_7 (s : Nat → Nat → Int32) (t : Nat → Nat → Int64) (v : Int32) : (mk s t).set 28 (pm_ob 4 ([.ref 29, .ref 30, .ref 31, .ref 32, .int (s 28 4), .int (s 28 5), .int (s 28 6), .int (s 28 7)].set 7 (.int v))) = mk (up2 s 28 7 v) t := rfl
theorem mg_29 (s : Nat → Nat → Int32) (t : Nat → Nat → Int64) : (mk s t)[29]? = some (.inl (ar 200 (s 29))) := rfl
theorem mr_29 (K : pm_K) (s : Nat → Nat → Int32) (t : Nat → Nat → Int64) : pm_row K (mk s t) 29 = some (ar 200 (s 29)) := rfl
theorem ms_29 (s : Nat → Nat → Int32) (t : Nat → Nat → Int64) (i : Nat) (v : Int32) : (mk s t).set 29 (.inl ((ar 200 (s 29)).set i v)) = mk (up2 s 29 i v) t := by rw [ar_set]; rfl
theorem mg_30 (s : Nat → Nat → Int32) (t : Nat → Nat → Int64) : (mk s t)[30]? = some (.inl (ar 201 (s 30))) := rfl
theorem mr_30 (K : pm_K) (s : Nat → Nat → Int32) (t : Nat → Nat → Int64) : pm_row K (mk s t) 30 = some (ar 201 (s 30)) := rfl
theorem ms_30 (s : Nat → Nat → Int32) (t : Nat → Nat → Int64) (i : Nat) (v : Int32) : (mk s t).set 30 (.inl ((ar 201 (s 30)).set i v)) = mk (up2 s 30 i v) t := by rw [ar_set]; rfl
theorem mg_31 (s : Nat → Nat → Int32) (t : Nat → Nat → Int64) : (mk s t)[31]? = some (.inl (ar 201 (s 31))) := rfl
theorem mr_31 (K : pm_K) (s : Nat → Nat → Int32) (t : Nat → Nat → Int64) : pm_row K (mk s t) 31 = some (ar 201 (s 31)) := rfl
theorem ms_31 (s : Nat → Nat → Int32) (t : Nat → Nat → Int64) (i : Nat) (v : Int32) : (mk s t).set 31 (.inl ((ar 201 (s 31)).set i v)) = mk (up2 s 31 i v) t := by rw [ar_set]; rfl
theorem mg_32 (s : Nat → Nat → Int32) (t : Nat → Nat → Int64) : (mk s t)[32]? = some (.inl (ar 201 (s 32))) := rfl
theorem mr_32 (K : pm_K) (s : Nat → Nat → Int32) (t : Nat → Nat → Int64) : pm_row K (mk s t) 32 = some (ar 201 (s 32)) := rfl
theorem ms_32 (s : Nat → Nat → Int32) (t : Nat → Nat → Int64) (i : Nat) (v : Int32) : (mk s t).set 32 (.inl ((ar 201 (s 32)).set i v)) = mk (up2 s 32 i v) t := by rw [ar_set]; rfl
theorem mg_33 (s : Nat → Nat → Int32) (t : Nat → Nat → Int64) : (mk s t)[33]? = some (pm_ob 0 [.ref 34, .int (s 33 1), .int (s 33 2), .int (s 33 3), .int (s 33 4), .int (s 33 5)]) := rfl
theorem ms_33_1 (s : Nat → Nat → Int32) (t : Nat → Nat → Int64) (v : Int32) : (mk s t).set 33 (pm_ob 0 ([.ref 34, .int (s 33 1), .int (s 33 2), .int (s 33 3), .int (s 33 4), .int (s 33 5)].set 1 (.int v))) = mk (up2 s 33 1 v) t := rfl
theorem ms_33_2 (s : Nat → Nat → Int32) (t : Nat → Nat → Int64) (v : Int32) : (mk s t).set 33 (pm_ob 0 ([.ref 34, .int (s 33 1), .int (s 33 2), .int (s 33 3), .int (s 33 4), .int (s 33 5)].set 2 (.int v))) = mk (up2 s 33 2 v) t := rfl
theorem ms_33_3 (s : Nat → Nat → Int32) (t : Nat → Nat → Int64) (v : Int32) : (mk s t).set 33 (pm_ob 0 ([.ref 34, .int (s 33 1), .int (s 33 2), .int (s 33 3), .int (s 33 4), .int (s 33 5)].set 3 (.int v))) = mk (up2 s 33 3 v) t := rfl
theorem ms_33_4 (s : Nat → Nat → Int32) (t : Nat → Nat → Int64) (v : Int32) : (mk s t).set 33 (pm_ob 0 ([.ref 34, .int (s 33 1), .int (s 33 2), .int (s 33 3), .int (s 33 4), .int (s 33 5)].set 4 (.int v))) = mk (up2 s 33 4 v) t := rfl
theorem ms_33_5 (s : Nat → Nat → Int32) (t : Nat → Nat → Int64) (v : Int32) : (mk s t).set 33 (pm_ob 0 ([.ref 34, .int (s 33 1), .int (s 33 2), .int (s 33 3), .int (s 33 4), .int (s 33 5)].set 5 (.int v))) = mk (up2 s 33 5 v) t := rfl
theorem mg_34 (s : Nat → Nat → Int32) (t : Nat → Nat → Int64) : (mk s t)[34]? = some (.inl (ar 30 (s 34))) := rfl
theorem mr_34 (K : pm_K) (s : Nat → Nat → Int32) (t : Nat → Nat → Int64) : pm_row K (mk s t) 34 = some (ar 30 (s 34)) := rfl
theorem ms_34 (s : Nat → Nat → Int32) (t : Nat → Nat → Int64) (i : Nat) (v : Int32) : (mk s t).set 34 (.inl ((ar 30 (s 34)).set i v)) = mk (up2 s 34 i v) t := by rw [ar_set]; rfl
theorem mg_35 (s : Nat → Nat → Int32) (t : Nat → Nat → Int64) : (mk s t)[35]? = some (pm_qr 0 [some 37, some 40, some 43, some 46]) := rfl
theorem mg_36 (s : Nat → Nat → Int32) (t : Nat → Nat → Int64) : (mk s t)[36]? = some (pm_qr 1 [some 39, some 42, some 45, some 48]) := rfl
theorem mg_37 (s : Nat → Nat → Int32) (t : Nat → Nat → Int64) : (mk s t)[37]? = some (pm_ob 2 [.ref 38, .int (s 37 1), .int (s 37 2)]) := rfl
theorem ms_37_1 (s : Nat → Nat → Int32) (t : Nat → Nat → Int64) (v : Int32) : (mk s t).set 37 (pm_ob 2 ([.ref 38, .int (s 37 1), .int (s 37 2)].set 1 (.int v))) = mk (up2 s 37 1 v) t := rfl
theorem ms_37_2 (s : Nat → Nat → Int32) (t : Nat → Nat → Int64) (v : Int32) : (mk s t).set 37 (pm_ob 2 ([.ref 38, .int (s 37 1), .int (s 37 2)].set 2 (.int v))) = mk (up2 s 37 2 v) t := rfl
theorem mg_38 (s : Nat → Nat → Int32) (t : Nat → Nat → Int64) : (mk s t)[38]? = some (.inr (.inl (ar 40 (t 38)))) := rfl
theorem ms_38 (s : Nat → Nat → Int32) (t : Nat → Nat → Int64) (i : Nat) (v : Int64) : (mk s t).set 38 (.inr (.inl ((ar 40 (t 38)).set i v))) = mk s (up2 t 38 i v) := by rw [ar_set]; rfl
theorem mg_39 (s : Nat → Nat → Int32) (t : Nat → Nat → Int64) : (mk s t)[39]? = some (pm_ob 3 [.int (s 39 0), .int (s 39 1), .int (s 39 2), .int (s 39 3)]) := rfl
theorem ms_39_0 (s : Nat → Nat → Int32) (t : Nat → Nat → Int64) (v : Int32) : (mk s t).set 39 (pm_ob 3 ([.int (s 39 0), .int (s 39 1), .int (s 39 2), .int (s 39 3)].set 0 (.int v))) = mk (up2 s 39 0 v) t := rfl
theorem ms_39_1 (s : Nat → Nat → Int32) (t : Nat → Nat → Int64) (v : Int32) : (mk s t).set 39 (pm_ob 3 ([.int (s 39 0), .int (s 39 1), .int (s 39 2), .int (s 39 3)].set 1 (.int v))) = mk (up2 s 39 1 v) t := rfl
theorem ms_39_2 (s : Nat → Nat → Int32) (t : Nat → Nat → Int64) (v : Int32) : (mk s t).set 39 (pm_ob 3 ([.int (s 39 0), .int (s 39 1), .int (s 39 2), .int (s 39 3)].set 2 (.int v))) = mk (up2 s 39 2 v) t := rfl
theorem ms_39_3 (s : Nat → Nat → Int32) (t : Nat → Nat → Int64) (v : Int32) : (mk s t).set 39 (pm_ob 3 ([.int (s 39 0), .int (s 39 1), .int (s 39 2), .int (s 39 3)].set 3 (.int v))) = mk (up2 s 39 3 v) t := rfl
theorem mg_40 (s : Nat → Nat → Int32) (t : Nat → Nat → Int64) : (mk s t)[40]? = some (pm_ob 2 [.ref 41, .int (s 40 1), .int (s 40 2)]) := rfl
theorem ms_40_1 (s : Nat → Nat → Int32) (t : Nat → Nat → Int64) (v : Int32) : (mk s t).set 40 (pm_ob 2 ([.ref 41, .int (s 40 1), .int (s 40 2)].set 1 (.int v))) = mk (up2 s 40 1 v) t := rfl
theorem ms_40_2 (s : Nat → Nat → Int32) (t : Nat → Nat → Int64) (v : Int32) : (mk s t).set 40 (pm_ob 2 ([.ref 41, .int (s 40 1), .int (s 40 2)].set 2 (.int v))) = mk (up2 s 40 2 v) t := rfl
theorem mg_41 (s : Nat → Nat → Int32) (t : Nat → Nat → Int64) : (mk s t)[41]? = some (.inr (.inl (ar 40 (t 41)))) := rfl
theorem ms_41 (s : Nat → Nat → Int32) (t : Nat → Nat → Int64) (i : Nat) (v : Int64) : (mk s t).set 41 (.inr (.inl ((ar 40 (t 41)).set i v))) = mk s (up2 t 41 i v) := by rw [ar_set]; rfl
theorem mg_42 (s : Nat → Nat → Int32) (t : Nat → Nat → Int64) : (mk s t)[42]? = some (pm_ob 3 [.int (s 42 0), .int (s 42 1), .int (s 42 2), .int (s 42 3)]) := rfl
theorem ms_42_0 (s : Nat → Nat → Int32) (t : Nat → Nat → Int64) (v : Int32) : (mk s t).set 42 (pm_ob 3 ([.int (s 42 0), .int (s 42 1), .int (s 42 2), .int (s 42 3)].set 0 (.int v))) = mk (up2 s 42 0 v) t := rfl
theorem ms_42_1 (s : Nat → Nat → Int32) (t : Nat → Nat → Int64) (v : Int32) : (mk s t).set 42 (pm_ob 3 ([.int (s 42 0), .int (s 42 1), .int (s 42 2), .int (s 42 3)].set 1 (.int v))) = mk (up2 s 42 1 v) t := rfl
theorem ms_42_2 (s : Nat → Nat → Int32) (t : Nat → Nat → Int64) (v : Int32) : (mk s t).set 42 (pm_ob 3 ([.int (s 42 0), .int (s 42 1), .int (s 42 2), .int (s 42 3)].set 2 (.int v))) = mk (up2 s 42 2 v) t := rfl
theorem ms_42_3 (s : Nat → Nat → Int32) (t : Nat → Nat → Int64) (v : Int32) : (mk s t).set 42 (pm_ob 3 ([.int (s 42 0), .int (s 42 1), .int (s 42 2), .int (s 42 3)].set 3 (.int v))) = mk (up2 s 42 3 v) t := rfl
theorem mg_43 (s : Nat → Nat → Int32) (t : Nat → Nat → Int64) : (mk s t)[43]? = some (pm_ob 2 [.ref 44, .int (s 43 1), .int (s 43 2)]) := rfl
theorem ms_43_1 (s : Nat → Nat → Int32) (t : Nat → Nat → Int64) (v : Int32) : (mk s t).set 43 (pm_ob 2 ([.ref 44, .int (s 43 1), .int (s 43 2)].set 1 (.int v))) = mk (up2 s 43 1 v) t := rfl
theorem ms_43_2 (s : Nat → Nat → Int32) (t : Nat → Nat → Int64) (v : Int32) : (mk s t).set 43 (pm_ob 2 ([.ref 44, .int (s 43 1), .int (s 43 2)].set 2 (.int v))) = mk (up2 s 43 2 v) t := rfl
theorem mg_44 (s : Nat → Nat → Int32) (t : Nat → Nat → Int64) : (mk s t)[44]? = some (.inr (.inl (ar 40 (t 44)))) := rfl
theorem ms_44 (s : Nat → Nat → Int32) (t : Nat → Nat → Int64) (i : Nat) (v : Int64) : (mk s t).set 44 (.inr (.inl ((ar 40 (t 44)).set i v))) = mk s (up2 t 44 i v) := by rw [ar_set]; rfl
theorem mg_45 (s : Nat → Nat → Int32) (t : Nat → Nat → Int64) : (mk s t)[45]? = some (pm_ob 3 [.int (s 45 0), .int (s 45 1), .int (s 45 2), .int (s 45 3)]) := rfl
theorem ms_45_0 (s : Nat → Nat → Int32) (t : Nat → Nat → Int64) (v : Int32) : (mk s t).set 45 (pm_ob 3 ([.int (s 45 0), .int (s 45 1), .int (s 45 2), .int (s 45 3)].set 0 (.int v))) = mk (up2 s 45 0 v) t := rfl
theorem ms_45_1 (s : Nat → Nat → Int32) (t : Nat → Nat → Int64) (v : Int32) : (mk s t).set 45 (pm_ob 3 ([.int (s 45 0), .int (s 45 1), .int (s 45 2), .int (s 45 3)].set 1 (.int v))) = mk (up2 s 45 1 v) t := rfl
theorem ms_45_2 (s : Nat → Nat → Int32) (t : Nat → Nat → Int64) (v : Int32) : (mk s t).set 45 (pm_ob 3 ([.int (s 45 0), .int (s 45 1), .int (s 45 2), .int (s 45 3)].set 2 (.int v))) = mk (up2 s 45 2 v) t := rfl
theorem ms_45_3 (s : Nat → Nat → Int32) (t : Nat → Nat → Int64) (v : Int32) : (mk s t).set 45 (pm_ob 3 ([.int (s 45 0), .int (s 45 1), .int (s 45 2), .int (s 45 3)].set 3 (.int v))) = mk (up2 s 45 3 v) t := rfl
theorem mg_46 (s : Nat → Nat → Int32) (t : Nat → Nat → Int64) : (mk s t)[46]? = some (pm_ob 2 [.ref 47, .int (s 46 1), .int (s 46 2)]) := rfl
theorem ms_46_1 (s : Nat → Nat → Int32) (t : Nat → Nat → Int64) (v : Int32) : (mk s t).set 46 (pm_ob 2 ([.ref 47, .int (s 46 1), .int (s 46 2)].set 1 (.int v))) = mk (up2 s 46 1 v) t := rfl
theorem ms_46_2 (s : Nat → Nat → Int32) (t : Nat → Nat → Int64) (v : Int32) : (mk s t).set 46 (pm_ob 2 ([.ref 47, .int (s 46 1), .int (s 46 2)].set 2 (.int v))) = mk (up2 s 46 2 v) t := rfl
theorem mg_47 (s : Nat → Nat → Int32) (t : Nat → Nat → Int64) : (mk s t)[47]? = some (.inr (.inl (ar 40 (t 47)))) := rfl
theorem ms_47 (s : Nat → Nat → Int32) (t : Nat → Nat → Int64) (i : Nat) (v : Int64) : (mk s t).set 47 (.inr (.inl ((ar 40 (t 47)).set i v))) = mk s (up2 t 47 i v) := by rw [ar_set]; rfl
theorem mg_48 (s : Nat → Nat → Int32) (t : Nat → Nat → Int64) : (mk s t)[48]? = some (pm_ob 3 [.int (s 48 0), .int (s 48 1), .int (s 48 2), .int (s 48 3)]) := rfl
theorem ms_48_0 (s : Nat → Nat → Int32) (t : Nat → Nat → Int64) (v : Int32) : (mk s t).set 48 (pm_ob 3 ([.int (s 48 0), .int (s 48 1), .int (s 48 2), .int (s 48 3)].set 0 (.int v))) = mk (up2 s 48 0 v) t := rfl
theorem ms_48_1 (s : Nat → Nat → Int32) (t : Nat → Nat → Int64) (v : Int32) : (mk s t).set 48 (pm_ob 3 ([.int (s 48 0), .int (s 48 1), .int (s 48 2), .int (s 48 3)].set 1 (.int v))) = mk (up2 s 48 1 v) t := rfl
theorem ms_48_2 (s : Nat → Nat → Int32) (t : Nat → Nat → Int64) (v : Int32) : (mk s t).set 48 (pm_ob 3 ([.int (s 48 0), .int (s 48 1), .int (s 48 2), .int (s 48 3)].set 2 (.int v))) = mk (up2 s 48 2 v) t := rfl
theorem ms_48_3 (s : Nat → Nat → Int32) (t : Nat → Nat → Int64) (v : Int32) : (mk s t).set 48 (pm_ob 3 ([.int (s 48 0), .int (s 48 1), .int (s 48 2), .int (s 48 3)].set 3 (.int v))) = mk (up2 s 48 3 v) t := rfl
theorem mg_49 (s : Nat → Nat → Int32) (t : Nat → Nat → Int64) : (mk s t)[49]? = some (.inl (ar 30 (s 49))) := rfl
theorem mr_49 (K : pm_K) (s : Nat → Nat → Int32) (t : Nat → Nat → Int64) : pm_row K (mk s t) 49 = some (ar 30 (s 49)) := rfl
theorem ms_49 (s : Nat → Nat → Int32) (t : Nat → Nat → Int64) (i : Nat) (v : Int32) : (mk s t).set 49 (.inl ((ar 30 (s 49)).set i v)) = mk (up2 s 49 i v) t := by rw [ar_set]; rfl
theorem mg_50 (s : Nat → Nat → Int32) (t : Nat → Nat → Int64) : (mk s t)[50]? = some (.inl (ar 256 (s 50))) := rfl
theorem mr_50 (K : pm_K) (s : Nat → Nat → Int32) (t : Nat → Nat → Int64) : pm_row K (mk s t) 50 = some (ar 256 (s 50)) := rfl
theorem ms_50 (s : Nat → Nat → Int32) (t : Nat → Nat → Int64) (i : Nat) (v : Int32) : (mk s t).set 50 (.inl ((ar 256 (s 50)).set i v)) = mk (up2 s 50 i v) t := by rw [ar_set]; rfl
theorem mg_51 (s : Nat → Nat → Int32) (t : Nat → Nat → Int64) : (mk s t)[51]? = some (pm_ob 6 [.ref 52, .ref 53, .ref 54, .ref 55, .int (s 51 4), .int (s 51 5), .ref 56, .int (s 51 7), .int (s 51 8), .int (s 51 9), .int (s 51 10), .long (t 51 11), .int (s 51 12), .int (s 51 13), .ref 57, .ref 58, .ref 59, .int (s 51 17), .ref 60, .ref 61, .ref 62, .ref 63, .ref 64, .ref 65, .int (s 51 24), .int (s 51 25), .int (s 51 26), .ref 66, .int (s 51 28), .int (s 51 29)]) := rfl
theorem ms_51_4 (s : Nat → Nat → Int32) (t : Nat → Nat → Int64) (v : Int32) : (mk s t).set 51 (pm_ob 6 ([.ref 52, .ref 53, .ref 54, .ref 55, .int (s 51 4), .int (s 51 5), .ref 56, .int (s 51 7), .int (s 51 8), .int (s 51 9), .int (s 51 10), .long (t 51 11), .int (s 51 12), .int (s 51 13), .ref 57, .ref 58, .ref 59, .int (s 51 17), .ref 60, .ref 61, .ref 62, .ref 63, .ref 64, .ref 65, .int (s 51 24), .int (s 51 25), .int (s 51 26), .ref 66, .int (s 51 28), .int (s 51 29)].set 4 (.int v))) = mk (up2 s 51 4 v) t := rfl
theorem ms_51_5 (s : Nat → Nat → Int32) (t : Nat → Nat → Int64) (v : Int32) : (mk s t).set 51 (pm_ob 6 ([.ref 52, .ref 53, .ref 54, .ref 55, .int (s 51 4), .int (s 51 5), .ref 56, .int (s 51 7), .int (s 51 8), .int (s 51 9), .int (s 51 10), .long (t 51 11), .int (s 51 12), .int (s 51 13), .ref 57, .ref 58, .ref 59, .int (s 51 17), .ref 60, .ref 61, .ref 62, .ref 63, .ref 64, .ref 65, .int (s 51 24), .int (s 51 25), .int (s 51 26), .ref 66, .int (s 51 28), .int (s 51 29)].set 5 (.int v))) = mk (up2 s 51 5 v) t := rfl
theorem ms_51_7 (s : Nat → Nat → Int32) (t : Nat → Nat → Int64) (v : Int32) : (mk s t).set 51 (pm_ob 6 ([.ref 52, .ref 53, .ref 54, .ref 55, .int (s 51 4), .int (s 51 5), .ref 56, .int (s 51 7), .int (s 51 8), .int (s 51 9), .int (s 51 10), .long (t 51 11), .int (s 51 12), .int (s 51 13), .ref 57, .ref 58, .ref 59, .int (s 51 17), .ref 60, .ref 61, .ref 62, .ref 63, .ref 64, .ref 65, .int (s 51 24), .int (s 51 25), .int (s 51 26), .ref 66, .int (s 51 28), .int (s 51 29)].set 7 (.int v))) = mk (up2 s 51 7 v) t := rfl
theorem ms_51_8 (s : Nat → Nat → Int32) (t : Nat → Nat → Int64) (v : Int32) : (mk s t).set 51 (pm_ob 6 ([.ref 52, .ref 53, .ref 54, .ref 55, .int (s 51 4), .int (s 51 5), .ref 56, .int (s 51 7), .int (s 51 8), .int (s 51 9), .int (s 51 10), .long (t 51 11), .int (s 51 12), .int (s 51 13), .ref 57, .ref 58, .ref 59, .int (s 51 17), .ref 60, .ref 61, .ref 62, .ref 63, .ref 64, .ref 65, .int (s 51 24), .int (s 51 25), .int (s 51 26), .ref 66, .int (s 51 28), .int (s 51 29)].set 8 (.int v))) = mk (up2 s 51 8 v) t := rfl
theorem ms_51_9 (s : Nat → Nat → Int32) (t : Nat → Nat → Int64) (v : Int32) : (mk s t).set 51 (pm_ob 6 ([.ref 52, .ref 53, .ref 54, .ref 55, .int (s 51 4), .int (s 51 5), .ref 56, .int (s 51 7), .int (s 51 8), .int (s 51 9), .int (s 51 10), .long (t 51 11), .int (s 51 12), .int (s 51 13), .ref 57, .ref 58, .ref 59, .int (s 51 17), .ref 60, .ref 61, .ref 62, .ref 63, .ref 64, .ref 65, .int (s 51 24), .int (s 51 25), .int (s 51 26), .ref 66, .int (s 51 28), .int (s 51 29)].set 9 (.int v))) = mk (up2 s 51 9 v) t := rfl
theorem ms_51_10 (s : Nat → Nat → Int32) (t : Nat → Nat → Int64) (v : Int32) : (mk s t).set 51 (pm_ob 6 ([.ref 52, .ref 53, .ref 54, .ref 55, .int (s 51 4), .int (s 51 5), .ref 56, .int (s 51 7), .int (s 51 8), .int (s 51 9), .int (s 51 10), .long (t 51 11), .int (s 51 12), .int (s 51 13), .ref 57, .ref 58, .ref 59, .int (s 51 17), .ref 60, .ref 61, .ref 62, .ref 63, .ref 64, .ref 65, .int (s 51 24), .int (s 51 25), .int (s 51 26), .ref 66, .int (s 51 28), .int (s 51 29)].set 10 (.int v))) = mk (up2 s 51 10 v) t := rfl
theorem ms_51_11 (s : Nat → Nat → Int32) (t : Nat → Nat → Int64) (v : Int64) : (mk s t).set 51 (pm_ob 6 ([.ref 52, .ref 53, .ref 54, .ref 55, .int (s 51 4), .int (s 51 5), .ref 56, .int (s 51 7), .int (s 51 8), .int (s 51 9), .int (s 51 10), .long (t 51 11), .int (s 51 12), .int (s 51 13), .ref 57, .ref 58, .ref 59, .int (s 51 17), .ref 60, .ref 61, .ref 62, .ref 63, .ref 64, .ref 65, .int (s 51 24), .int (s 51 25), .int (s 51 26), .ref 66, .int (s 51 28), .int (s 51 29)].set 11 (.long v))) = mk s (up2 t 51 11 v) := rfl
theorem ms_51_12 (s : Nat → Nat → Int32) (t : Nat → Nat → Int64) (v : Int32) : (mk s t).set 51 (pm_ob 6 ([.ref 52, .ref 53, .ref 54, .ref 55, .int (s 51 4), .int (s 51 5), .ref 56, .int (s 51 7), .int (s 51 8), .int (s 51 9), .int (s 51 10), .long (t 51 11), .int (s 51 12), .int (s 51 13), .ref 57, .ref 58, .ref 59, .int (s 51 17), .ref 60, .ref 61, .ref 62, .ref 63, .ref 64, .ref 65, .int (s 51 24), .int (s 51 25), .int (s 51 26), .ref 66, .int (s 51 28), .int (s 51 29)].set 12 (.int v))) = mk (up2 s 51 12 v) t := rfl
theorem ms_51_13 (s : Nat → Nat → Int32) (t : Nat → Nat → Int64) (v : Int32) : (mk s t).set 51 (pm_ob 6 ([.ref 52, .ref 53, .ref 54, .ref 55, .int (s 51 4), .int (s 51 5), .ref 56, .int (s 51 7), .int (s 51 8), .int (s 51 9), .int (s 51 10), .long (t 51 11), .int (s 51 12), .int (s 51 13), .ref 57, .ref 58, .ref 59, .int (s 51 17), .ref 60, .ref 61, .ref 62, .ref 63, .ref 64, .ref 65, .int (s 51 24), .int (s 51 25), .int (s 51 26), .ref 66, .int (s 51 28), .int (s 51 29)].set 13 (.int v))) = mk (up2 s 51 13 v) t := rfl
theorem ms_51_17 (s : Nat → Nat → Int32) (t : Nat → Nat → Int64) (v : Int32) : (mk s t).set 51 (pm_ob 6 ([.ref 52, .ref 53, .ref 54, .ref 55, .int (s 51 4), .int (s 51 5), .ref 56, .int (s 51 7), .int (s 51 8), .int (s 51 9), .int (s 51 10), .long (t 51 11), .int (s 51 12), .int (s 51 13), .ref 57, .ref 58, .ref 59, .int (s 51 17), .ref 60, .ref 61, .ref 62, .ref 63, .ref 64, .ref 65, .int (s 51 24), .int (s 51 25), .int (s 51 26), .ref 66, .int (s 51 28), .int (s 51 29)].set 17 (.int v))) = mk (up2 s 51 17 v) t := rfl
theorem ms_51_24 (s : Nat → Nat → Int32) (t : Nat → Nat → Int64) (v : Int32) : (mk s t).set 51 (pm_ob 6 ([.ref 52, .ref 53, .ref 54, .ref 55, .int (s 51 4), .int (s 51 5), .ref 56, .int (s 51 7), .int (s 51 8), .int (s 51 9), .int (s 51 10), .long (t 51 11), .int (s 51 12), .int (s 51 13), .ref 57, .ref 58, .ref 59, .int (s 51 17), .ref 60, .ref 61, .ref 62, .ref 63, .ref 64, .ref 65, .int (s 51 24), .int (s 51 25), .int (s 51 26), .ref 66, .int (s 51 28), .int (s 51 29)].set 24 (.int v))) = mk (up2 s 51 24 v) t := rfl
theorem ms_51_25 (s : Nat → Nat → Int32) (t : Nat → Nat → Int64) (v : Int32) : (mk s t).set 51 (pm_ob 6 ([.ref 52, .ref 53, .ref 54, .ref 55, .int (s 51 4), .int (s 51 5), .ref 56, .int (s 51 7), .int (s 51 8), .int (s 51 9), .int (s 51 10), .long (t 51 11), .int (s 51 12), .int (s 51 13), .ref 57, .ref 58, .ref 59, .int (s 51 17), .ref 60, .ref 61, .ref 62, .ref 63, .ref 64, .ref 65, .int (s 51 24), .int (s 51 25), .int (s 51 26), .ref 66, .int (s 51 28), .int (s 51 29)].set 25 (.int v))) = mk (up2 s 51 25 v) t := rfl
theorem ms_51_26 (s : Nat → Nat → Int32) (t : Nat → Nat → Int64) (v : Int32) : (mk s t).set 51 (pm_ob 6 ([.ref 52, .ref 53, .ref 54, .ref 55, .int (s 51 4), .int (s 51 5), .ref 56, .int (s 51 7), .int (s 51 8), .int (s 51 9), .int (s 51 10), .long (t 51 11), .int (s 51 12), .int (s 51 13), .ref 57, .ref 58, .ref 59, .int (s 51 17), .ref 60, .ref 61, .ref 62, .ref 63, .ref 64, .ref 65, .int (s 51 24), .int (s 51 25), .int (s 51 26), .ref 66, .int (s 51 28), .int (s 51 29)].set 26 (.int v))) = mk (up2 s 51 26 v) t := rfl
theorem ms_51_28 (s : Nat → Nat → Int32) (t : Nat → Nat → Int64) (v : Int32) : (mk s t).set 51 (pm_ob 6 ([.ref 52, .ref 53, .ref 54, .ref 55, .int (s 51 4), .int (s 51 5), .ref 56, .int (s 51 7), .int (s 51 8), .int (s 51 9), .int (s 51 10), .long (t 51 11), .int (s 51 12), .int (s 51 13), .ref 57, .ref 58, .ref 59, .int (s 51 17), .ref 60, .ref 61, .ref 62, .ref 63, .ref 64, .ref 65, .int (s 51 24), .int (s 51 25), .int (s 51 26), .ref 66, .int (s 51 28), .int (s 51 29)].set 28 (.int v))) = mk (up2 s 51 28 v) t := rfl
theorem ms_51_29 (s : Nat → Nat → Int32) (t : Nat → Nat → Int64) (v : Int32) : (mk s t).set 51 (pm_ob 6 ([.ref 52, .ref 53, .ref 54, .ref 55, .int (s 51 4), .int (s 51 5), .ref 56, .int (s 51 7), .int (s 51 8), .int (s 51 9), .int (s 51 10), .long (t 51 11), .int (s 51 12), .int (s 51 13), .ref 57, .ref 58, .ref 59, .int (s 51 17), .ref 60, .ref 61, .ref 62, .ref 63, .ref 64, .ref 65, .int (s 51 24), .int (s 51 25), .int (s 51 26), .ref 66, .int (s 51 28), .int (s 51 29)].set 29 (.int v))) = mk (up2 s 51 29 v) t := rfl
theorem mg_52 (s : Nat → Nat → Int32) (t : Nat → Nat → Int64) : (mk s t)[52]? = some (.inl (ar 56 (s 52))) := rfl
theorem mr_52 (K : pm_K) (s : Nat → Nat → Int32) (t : Nat → Nat → Int64) : pm_row K (mk s t) 52 = some (ar 56 (s 52)) := rfl
theorem ms_52 (s : Nat → Nat → Int32) (t : Nat → Nat → Int64) (i : Nat) (v : Int32) : (mk s t).set 52 (.inl ((ar 56 (s 52)).set i v)) = mk (up2 s 52 i v) t := by rw [ar_set]; rfl
theorem mg_53 (s : Nat → Nat → Int32) (t : Nat → Nat → Int64) : (mk s t)[53]? = some (.inl (ar 56 (s 53))) := rfl
theorem mr_53 (K : pm_K) (s : Nat → Nat → Int32) (t : Nat → Nat → Int64) : pm_row K (mk s t) 53 = some (ar 56 (s 53)) := rfl
theorem ms_53 (s : Nat → Nat → Int32) (t : Nat → Nat → Int64) (i : Nat) (v : Int32) : (mk s t).set 53 (.inl ((ar 56 (s 53)).set i v)) = mk (up2 s 53 i v) t := by rw [ar_set]; rfl
theorem mg_54 (s : Nat → Nat → Int32) (t : Nat → Nat → Int64) : (mk s t)[54]? = some (.inl (ar 56 (s 54))) := rfl
theorem mr_54 (K : pm_K) (s : Nat → Nat → Int32) (t : Nat → Nat → Int64) : pm_row K (mk s t) 54 = some (ar 56 (s 54)) := rfl
theorem ms_54 (s : Nat → Nat → Int32) (t : Nat → Nat → Int64) (i : Nat) (v : Int32) : (mk s t).set 54 (.inl ((ar 56 (s 54)).set i v)) = mk (up2 s 54 i v) t := by rw [ar_set]; rfl
theorem mg_55 (s : Nat → Nat → Int32) (t : Nat → Nat → Int64) : (mk s t)[55]? = some (.inl (ar 56 (s 55))) := rfl
theorem mr_55 (K : pm_K) (s : Nat → Nat → Int32) (t : Nat → Nat → Int64) : pm_row K (mk s t) 55 = some (ar 56 (s 55)) := rfl
theorem ms_55 (s : Nat → Nat → Int32) (t : Nat → Nat → Int64) (i : Nat) (v : Int32) : (mk s t).set 55 (.inl ((ar 56 (s 55)).set i v)) = mk (up2 s 55 i v) t := by rw [ar_set]; rfl
theorem mg_56 (s : Nat → Nat → Int32) (t : Nat → Nat → Int64) : (mk s t)[56]? = some (.inl (ar 200 (s 56))) := rfl
theorem mr_56 (K : pm_K) (s : Nat → Nat → Int32) (t : Nat → Nat → Int64) : pm_row K (mk s t) 56 = some (ar 200 (s 56)) := rfl
theorem ms_56 (s : Nat → Nat → Int32) (t : Nat → Nat → Int64) (i : Nat) (v : Int32) : (mk s t).set 56 (.inl ((ar 200 (s 56)).set i v)) = mk (up2 s 56 i v) t := by rw [ar_set]; rfl
theorem mg_57 (s : Nat → Nat → Int32) (t : Nat → Nat → Int64) : (mk s t)[57]? = some (.inl (ar 256 (s 57))) := rfl
theorem mr_57 (K : pm_K) (s : Nat → Nat → Int32) (t : Nat → Nat → Int64) : pm_row K (mk s t) 57 = some (ar 256 (s 57)) := rfl
theorem ms_57 (s : Nat → Nat → Int32) (t : Nat → Nat → Int64) (i : Nat) (v : Int32) : (mk s t).set 57 (.inl ((ar 256 (s 57)).set i v)) = mk (up2 s 57 i v) t := by rw [ar_set]; rfl
theorem mg_58 (s : Nat → Nat → Int32) (t : Nat → Nat → Int64) : (mk s t)[58]? = some (.inl (ar 30 (s 58))) := rfl
theorem mr_58 (K : pm_K) (s : Nat → Nat → Int32) (t : Nat → Nat → Int64) : pm_row K (mk s t) 58 = some (ar 30 (s 58)) := rfl
theorem ms_58 (s : Nat → Nat → Int32) (t : Nat → Nat → Int64) (i : Nat) (v : Int32) : (mk s t).set 58 (.inl ((ar 30 (s 58)).set i v)) = mk (up2 s 58 i v) t := by rw [ar_set]; rfl
theorem mg_59 (s : Nat → Nat → Int32) (t : Nat → Nat → Int64) : (mk s t)[59]? = some (.inl (ar 30 (s 59))) := rfl
theorem mr_59 (K : pm_K) (s : Nat → Nat → Int32) (t : Nat → Nat → Int64) : pm_row K (mk s t) 59 = some (ar 30 (s 59)) := rfl
theorem ms_59 (s : Nat → Nat → Int32) (t : Nat → Nat → Int64) (i : Nat) (v : Int32) : (mk s t).set 59 (.inl ((ar 30 (s 59)).set i v)) = mk (up2 s 59 i v) t := by rw [ar_set]; rfl
theorem mg_60 (s : Nat → Nat → Int32) (t : Nat → Nat → Int64) : (mk s t)[60]? = some (.inl (ar 4 (s 60))) := rfl
theorem mr_60 (K : pm_K) (s : Nat → Nat → Int32) (t : Nat → Nat → Int64) : pm_row K (mk s t) 60 = some (ar 4 (s 60)) := rfl
theorem ms_60 (s : Nat → Nat → Int32) (t : Nat → Nat → Int64) (i : Nat) (v : Int32) : (mk s t).set 60 (.inl ((ar 4 (s 60)).set i v)) = mk (up2 s 60 i v) t := by rw [ar_set]; rfl
theorem mg_61 (s : Nat → Nat → Int32) (t : Nat → Nat → Int64) : (mk s t)[61]? = some (.inl (ar 4 (s 61))) := rfl
theorem mr_61 (K : pm_K) (s : Nat → Nat → Int32) (t : Nat → Nat → Int64) : pm_row K (mk s t) 61 = some (ar 4 (s 61)) := rfl
theorem ms_61 (s : Nat → Nat → Int32) (t : Nat → Nat → Int64) (i : Nat) (v : Int32) : (mk s t).set 61 (.inl ((ar 4 (s 61)).set i v)) = mk (up2 s 61 i v) t := by rw [ar_set]; rfl
theorem mg_62 (s : Nat → Nat → Int32) (t : Nat → Nat → Int64) : (mk s t)[62]? = some (.inr (.inl (ar 160 (t 62)))) := rfl
theorem ms_62 (s : Nat → Nat → Int32) (t : Nat → Nat → Int64) (i : Nat) (v : Int64) : (mk s t).set 62 (.inr (.inl ((ar 160 (t 62)).set i v))) = mk s (up2 t 62 i v) := by rw [ar_set]; rfl
theorem mg_63 (s : Nat → Nat → Int32) (t : Nat → Nat → Int64) : (mk s t)[63]? = some (.inl (ar 4 (s 63))) := rfl
theorem mr_63 (K : pm_K) (s : Nat → Nat → Int32) (t : Nat → Nat → Int64) : pm_row K (mk s t) 63 = some (ar 4 (s 63)) := rfl
theorem ms_63 (s : Nat → Nat → Int32) (t : Nat → Nat → Int64) (i : Nat) (v : Int32) : (mk s t).set 63 (.inl ((ar 4 (s 63)).set i v)) = mk (up2 s 63 i v) t := by rw [ar_set]; rfl
theorem mg_64 (s : Nat → Nat → Int32) (t : Nat → Nat → Int64) : (mk s t)[64]? = some (.inl (ar 4 (s 64))) := rfl
theorem mr_64 (K : pm_K) (s : Nat → Nat → Int32) (t : Nat → Nat → Int64) : pm_row K (mk s t) 64 = some (ar 4 (s 64)) := rfl
theorem ms_64 (s : Nat → Nat → Int32) (t : Nat → Nat → Int64) (i : Nat) (v : Int32) : (mk s t).set 64 (.inl ((ar 4 (s 64)).set i v)) = mk (up2 s 64 i v) t := by rw [ar_set]; rfl
theorem mg_65 (s : Nat → Nat → Int32) (t : Nat → Nat → Int64) : (mk s t)[65]? = some (.inl (ar 4 (s 65))) := rfl
theorem mr_65 (K : pm_K) (s : Nat → Nat → Int32) (t : Nat → Nat → Int64) : pm_row K (mk s t) 65 = some (ar 4 (s 65)) := rfl
theorem ms_65 (s : Nat → Nat → Int32) (t : Nat → Nat → Int64) (i : Nat) (v : Int32) : (mk s t).set 65 (.inl ((ar 4 (s 65)).set i v)) = mk (up2 s 65 i v) t := by rw [ar_set]; rfl
theorem mg_66 (s : Nat → Nat → Int32) (t : Nat → Nat → Int64) : (mk s t)[66]? = some (.inl (ar 30 (s 66))) := rfl
theorem mr_66 (K : pm_K) (s : Nat → Nat → Int32) (t : Nat → Nat → Int64) : pm_row K (mk s t) 66 = some (ar 30 (s 66)) := rfl
theorem ms_66 (s : Nat → Nat → Int32) (t : Nat → Nat → Int64) (i : Nat) (v : Int32) : (mk s t).set 66 (.inl ((ar 30 (s 66)).set i v)) = mk (up2 s 66 i v) t := by rw [ar_set]; rfl
/-- what stands there behind the constructors -/
def s0 : Nat → Nat → Int32 := fun c i =>
  if c = 2 ∨ c = 11 ∨ c = 20 then ([3, 2, 1, 20] : List Int32).getD i 0
  else if c = 1 ∨ c = 10 ∨ c = 19 then (if i = 11 then 1 else 0)
  else if c = 37 ∨ c = 40 ∨ c = 43 ∨ c = 46 then (if i = 1 then -1 else 0)
  else if c = 39 ∨ c = 42 ∨ c = 45 ∨ c = 48 then (if i = 0 then 2 else 0)
  else if c = 52 then ([3, 2, 1, 20, 0, 0, 0, 1] : List Int32).getD i 0
  else if c = 60 ∨ c = 63 then -1 else 0
def t0 : Nat → Nat → Int64 := fun _ _ => 0
theorem run_new5 : pm_call pm_C0 pm_T0 pl_Kc 2000 51 [.ref 0] [pm_ob 5 [.null, .null, .null, .null, .null, .null, .null, .null, .null, .int 0, .int 0]] = some (none, (mk s0 t0).take 51) := eqR_of (by decide +kernel)
theorem run_new6 : pm_call pm_C0 pm_T0 pl_Kc 2000 108 [.ref 51] ((mk s0 t0).take 51 ++ [pm_ob 6 [.null, .null, .null, .null, .int 0, .int 0, .null, .int 0, .int 0, .int 0, .int 0, .long 0, .int 0, .int 0, .null, .null, .null, .int 0, .null, .null, .null, .null, .null, .null, .int 0, .int 0, .int 0, .null, .int 0, .int 0]]) = some (none, mk s0 t0) := eqR_of (by decide +kernel)
