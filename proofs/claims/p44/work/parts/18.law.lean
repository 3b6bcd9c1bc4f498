/-! the law's walk out of a run of the pure machine -/
def pl_K (L : Nat) (xs : Nat → Int32) : pm_K := fun j => if j = 0 then some ((List.range L).map xs) else if j = 1 then some [9, 9, 9, 99] else if j = 2 then some [3, 2, 1, 20] else none
def pl_Kc : pm_K := fun j => if j = 1 then some [9, 9, 9, 99] else if j = 2 then some [3, 2, 1, 20] else none
theorem pl_KK (L : Nat) (xs : Nat → Int32) (j : Nat) (l : List Int32) (h : pl_Kc j = some l) : pl_K L xs j = some l := by
  unfold pl_Kc at h
  unfold pl_K
  by_cases h0 : j = 0
  · subst h0
    simp at h
  · rw [if_neg h0]; exact h
theorem pl_aI {s : State} {args : Array Value} (h : (Cond.arrayClass .int).before args s = true) : ∃ cA : ClassId, ArrOfT s cA .int ∧ va_RA s cA .int := by
  obtain ⟨c, k, comp, h1, h2, h3⟩ := Cond.arrayClass_spec h
  exact ⟨c, fun n z => ⟨fun k h => (by cases h), k, h2, comp, h3⟩, h1⟩
theorem pl_aJ {s : State} {args : Array Value} (h : (Cond.arrayClass .long).before args s = true) : ∃ cA : ClassId, ArrOfT s cA .long ∧ va_RA s cA .long := by
  obtain ⟨c, k, comp, h1, h2, h3⟩ := Cond.arrayClass_spec h
  exact ⟨c, fun n z => ⟨fun k h => (by cases h), k, h2, comp, h3⟩, h1⟩
theorem pl_aO {s : State} {args : Array Value} {C : String} (h : (Cond.arrayOver (.object C)).before args s = true) : ∃ cA : ClassId, ArrOfT s cA (.object C) ∧ va_RA s cA (.object C) := by
  obtain ⟨comp, c, k, h1, -, h2, h3, h4⟩ := Cond.arrayOver_spec h
  exact ⟨c, fun n z => ⟨fun k h => (by cases h), k, h2, comp, h3⟩, k, comp, h2, h3, h1, h4⟩
def pl_tm (i : Nat) : Term := Term.string "BlankRations$Tape" (pm_si.getD i 0)
set_option maxRecDepth 100000 in
theorem pl_flat : flatC (Jvm.Cond.and given_1 narrow_1) = flatC (Jvm.Cond.and given_1 narrow_1) := rfl
theorem pq_L {a b c : Jvm.Cond} (h : c ∈ flatC a) : c ∈ flatC (Jvm.Cond.and a b) := List.mem_append_left (flatC b) h
theorem pq_R {a b c : Jvm.Cond} (h : c ∈ flatC b) : c ∈ flatC (Jvm.Cond.and a b) := List.mem_append_right (flatC a) h
theorem pq_x {t : Term} {C : String} : Cond.exactly t C ∈ flatC (Cond.exactly t C) := by
  show Cond.exactly t C ∈ [Cond.exactly t C]
  exact List.mem_singleton.mpr rfl
theorem pq_e {a b : Term} : Cond.eq a b ∈ flatC (Cond.eq a b) := by
  show Cond.eq a b ∈ [Cond.eq a b]
  exact List.mem_singleton.mpr rfl
theorem pq_a {t : Term} {y : FieldType} : Cond.arrayOf t y ∈ flatC (Cond.arrayOf t y) := by
  show Cond.arrayOf t y ∈ [Cond.arrayOf t y]
  exact List.mem_singleton.mpr rfl
theorem pq_n {c : Cond} : Cond.not c ∈ flatC (Cond.not c) := by
  show Cond.not c ∈ [Cond.not c]
  exact List.mem_singleton.mpr rfl
theorem pl_sx : ∀ i : Nat, i < 14 → Cond.exactly (pl_tm i) "java/lang/String" ∈ flatC (Jvm.Cond.and given_1 narrow_1) := by
  intro i hi
  match i, hi with
  | 0, _ => exact (pq_R (pq_L (pq_L (pq_R (pq_L (pq_L (pq_R (pq_R (pq_L pq_x)))))))))
  | 1, _ => exact (pq_R (pq_L (pq_L (pq_R (pq_L (pq_R (pq_R (pq_R (pq_R pq_x)))))))))
  | 2, _ => exact (pq_R (pq_L (pq_L (pq_R (pq_R (pq_R (pq_R (pq_L (pq_L pq_x)))))))))
  | 3, _ => exact (pq_R (pq_L (pq_R (pq_L (pq_L (pq_R (pq_L (pq_L (pq_L pq_x)))))))))
  | 4, _ => exact (pq_R (pq_L (pq_R (pq_L (pq_R (pq_L (pq_L (pq_R (pq_R pq_x)))))))))
  | 5, _ => exact (pq_R (pq_L (pq_R (pq_R (pq_L (pq_L (pq_L (pq_R (pq_L pq_x)))))))))
  | 6, _ => exact (pq_R (pq_L (pq_R (pq_R (pq_L (pq_R (pq_R (pq_R (pq_L pq_x)))))))))
  | 7, _ => exact (pq_R (pq_L (pq_R (pq_R (pq_R (pq_R (pq_L (pq_R (pq_R pq_x)))))))))
  | 8, _ => exact (pq_R (pq_R (pq_L (pq_L (pq_L (pq_R (pq_R (pq_L (pq_L pq_x)))))))))
  | 9, _ => exact (pq_R (pq_R (pq_L (pq_L (pq_R (pq_R (pq_R (pq_L (pq_L pq_x)))))))))
  | 10, _ => exact (pq_R (pq_R (pq_L (pq_R (pq_L (pq_R (pq_R (pq_R (pq_L pq_x)))))))))
  | 11, _ => exact (pq_R (pq_R (pq_R (pq_L (pq_L (pq_L (pq_R (pq_L (pq_L pq_x)))))))))
  | 12, _ => exact (pq_R (pq_R (pq_R (pq_L (pq_R (pq_L (pq_R (pq_R (pq_R pq_x)))))))))
  | 13, _ => exact (pq_R (pq_R (pq_R (pq_R (pq_L (pq_R (pq_R (pq_L (pq_R pq_x)))))))))
theorem pl_sc : ∀ i : Nat, i < 14 → Cond.eq (.field (pl_tm i) "java/lang/String" "coder" "B") (.int 0) ∈ flatC (Jvm.Cond.and given_1 narrow_1) := by
  intro i hi
  match i, hi with
  | 0, _ => exact (pq_R (pq_L (pq_L (pq_R (pq_L (pq_L (pq_R (pq_R (pq_R pq_e)))))))))
  | 1, _ => exact (pq_R (pq_L (pq_L (pq_R (pq_R (pq_L (pq_L (pq_L (pq_L pq_e)))))))))
  | 2, _ => exact (pq_R (pq_L (pq_L (pq_R (pq_R (pq_R (pq_R (pq_L (pq_R pq_e)))))))))
  | 3, _ => exact (pq_R (pq_L (pq_R (pq_L (pq_L (pq_R (pq_L (pq_L (pq_R pq_e)))))))))
  | 4, _ => exact (pq_R (pq_L (pq_R (pq_L (pq_R (pq_L (pq_R (pq_L (pq_L pq_e)))))))))
  | 5, _ => exact (pq_R (pq_L (pq_R (pq_R (pq_L (pq_L (pq_L (pq_R (pq_R pq_e)))))))))
  | 6, _ => exact (pq_R (pq_L (pq_R (pq_R (pq_L (pq_R (pq_R (pq_R (pq_R pq_e)))))))))
  | 7, _ => exact (pq_R (pq_L (pq_R (pq_R (pq_R (pq_R (pq_R (pq_L (pq_L pq_e)))))))))
  | 8, _ => exact (pq_R (pq_R (pq_L (pq_L (pq_L (pq_R (pq_R (pq_L (pq_R pq_e)))))))))
  | 9, _ => exact (pq_R (pq_R (pq_L (pq_L (pq_R (pq_R (pq_R (pq_L (pq_R pq_e)))))))))
  | 10, _ => exact (pq_R (pq_R (pq_L (pq_R (pq_L (pq_R (pq_R (pq_R (pq_R pq_e)))))))))
  | 11, _ => exact (pq_R (pq_R (pq_R (pq_L (pq_L (pq_L (pq_R (pq_L (pq_R pq_e)))))))))
  | 12, _ => exact (pq_R (pq_R (pq_R (pq_L (pq_R (pq_R (pq_L (pq_L (pq_L pq_e)))))))))
  | 13, _ => exact (pq_R (pq_R (pq_R (pq_R (pq_L (pq_R (pq_R (pq_R (pq_L pq_e)))))))))
theorem pl_sa : ∀ i : Nat, i < 14 → Cond.arrayOf (.field (pl_tm i) "java/lang/String" "value" "[B") .byte ∈ flatC (Jvm.Cond.and given_1 narrow_1) := by
  intro i hi
  match i, hi with
  | 0, _ => exact (pq_R (pq_L (pq_L (pq_R (pq_L (pq_R (pq_L (pq_L (pq_L pq_a)))))))))
  | 1, _ => exact (pq_R (pq_L (pq_L (pq_R (pq_R (pq_L (pq_L (pq_L (pq_R pq_a)))))))))
  | 2, _ => exact (pq_R (pq_L (pq_L (pq_R (pq_R (pq_R (pq_R (pq_R (pq_L pq_a)))))))))
  | 3, _ => exact (pq_R (pq_L (pq_R (pq_L (pq_L (pq_R (pq_L (pq_R (pq_L pq_a)))))))))
  | 4, _ => exact (pq_R (pq_L (pq_R (pq_L (pq_R (pq_L (pq_R (pq_L (pq_R pq_a)))))))))
  | 5, _ => exact (pq_R (pq_L (pq_R (pq_R (pq_L (pq_L (pq_R (pq_L (pq_L pq_a)))))))))
  | 6, _ => exact (pq_R (pq_L (pq_R (pq_R (pq_R (pq_L (pq_L (pq_L (pq_L pq_a)))))))))
  | 7, _ => exact (pq_R (pq_L (pq_R (pq_R (pq_R (pq_R (pq_R (pq_L (pq_R pq_a)))))))))
  | 8, _ => exact (pq_R (pq_R (pq_L (pq_L (pq_L (pq_R (pq_R (pq_R (pq_L pq_a)))))))))
  | 9, _ => exact (pq_R (pq_R (pq_L (pq_L (pq_R (pq_R (pq_R (pq_R (pq_L pq_a)))))))))
  | 10, _ => exact (pq_R (pq_R (pq_L (pq_R (pq_R (pq_L (pq_L (pq_L (pq_L pq_a)))))))))
  | 11, _ => exact (pq_R (pq_R (pq_R (pq_L (pq_L (pq_L (pq_R (pq_R (pq_L pq_a)))))))))
  | 12, _ => exact (pq_R (pq_R (pq_R (pq_L (pq_R (pq_R (pq_L (pq_L (pq_R pq_a)))))))))
  | 13, _ => exact (pq_R (pq_R (pq_R (pq_R (pq_L (pq_R (pq_R (pq_R (pq_R pq_a)))))))))
theorem pl_se : ∀ i : Nat, i < 14 → Cond.eq (.length (.field (pl_tm i) "java/lang/String" "value" "[B")) (.int (Int32.ofNat (pm_sl.getD i 0))) ∈ flatC (Jvm.Cond.and given_1 narrow_1) := by
  intro i hi
  match i, hi with
  | 0, _ => exact (pq_R (pq_L (pq_L (pq_R (pq_L (pq_R (pq_L (pq_L (pq_R pq_e)))))))))
  | 1, _ => exact (pq_R (pq_L (pq_L (pq_R (pq_R (pq_L (pq_L (pq_R (pq_L pq_e)))))))))
  | 2, _ => exact (pq_R (pq_L (pq_L (pq_R (pq_R (pq_R (pq_R (pq_R (pq_R pq_e)))))))))
  | 3, _ => exact (pq_R (pq_L (pq_R (pq_L (pq_L (pq_R (pq_L (pq_R (pq_R pq_e)))))))))
  | 4, _ => exact (pq_R (pq_L (pq_R (pq_L (pq_R (pq_L (pq_R (pq_R (pq_L pq_e)))))))))
  | 5, _ => exact (pq_R (pq_L (pq_R (pq_R (pq_L (pq_L (pq_R (pq_L (pq_R pq_e)))))))))
  | 6, _ => exact (pq_R (pq_L (pq_R (pq_R (pq_R (pq_L (pq_L (pq_L (pq_R pq_e)))))))))
  | 7, _ => exact (pq_R (pq_L (pq_R (pq_R (pq_R (pq_R (pq_R (pq_R (pq_L pq_e)))))))))
  | 8, _ => exact (pq_R (pq_R (pq_L (pq_L (pq_L (pq_R (pq_R (pq_R (pq_R pq_e)))))))))
  | 9, _ => exact (pq_R (pq_R (pq_L (pq_L (pq_R (pq_R (pq_R (pq_R (pq_R pq_e)))))))))
  | 10, _ => exact (pq_R (pq_R (pq_L (pq_R (pq_R (pq_L (pq_L (pq_L (pq_R pq_e)))))))))
  | 11, _ => exact (pq_R (pq_R (pq_R (pq_L (pq_L (pq_L (pq_R (pq_R (pq_R pq_e)))))))))
  | 12, _ => exact (pq_R (pq_R (pq_R (pq_L (pq_R (pq_R (pq_L (pq_R (pq_L pq_e)))))))))
  | 13, _ => exact (pq_R (pq_R (pq_R (pq_R (pq_R (pq_L (pq_L (pq_L (pq_L pq_e)))))))))
theorem pl_sl_0 : ∀ i : Nat, i < 5 → Cond.eq (.elem (.field (pl_tm 0) "java/lang/String" "value" "[B") (.int (Int32.ofNat i))) (.int ((pm_sb.getD 0 []).getD i 0)) ∈ flatC (Jvm.Cond.and given_1 narrow_1) := by
  intro i hi
  match i, hi with
  | 0, _ => exact (pq_R (pq_L (pq_L (pq_R (pq_L (pq_R (pq_L (pq_R (pq_L pq_e)))))))))
  | 1, _ => exact (pq_R (pq_L (pq_L (pq_R (pq_L (pq_R (pq_L (pq_R (pq_R pq_e)))))))))
  | 2, _ => exact (pq_R (pq_L (pq_L (pq_R (pq_L (pq_R (pq_R (pq_L (pq_L pq_e)))))))))
  | 3, _ => exact (pq_R (pq_L (pq_L (pq_R (pq_L (pq_R (pq_R (pq_L (pq_R pq_e)))))))))
  | 4, _ => exact (pq_R (pq_L (pq_L (pq_R (pq_L (pq_R (pq_R (pq_R (pq_L pq_e)))))))))
theorem pl_sl_1 : ∀ i : Nat, i < 8 → Cond.eq (.elem (.field (pl_tm 1) "java/lang/String" "value" "[B") (.int (Int32.ofNat i))) (.int ((pm_sb.getD 1 []).getD i 0)) ∈ flatC (Jvm.Cond.and given_1 narrow_1) := by
  intro i hi
  match i, hi with
  | 0, _ => exact (pq_R (pq_L (pq_L (pq_R (pq_R (pq_L (pq_L (pq_R (pq_R pq_e)))))))))
  | 1, _ => exact (pq_R (pq_L (pq_L (pq_R (pq_R (pq_L (pq_R (pq_L (pq_L pq_e)))))))))
  | 2, _ => exact (pq_R (pq_L (pq_L (pq_R (pq_R (pq_L (pq_R (pq_L (pq_R pq_e)))))))))
  | 3, _ => exact (pq_R (pq_L (pq_L (pq_R (pq_R (pq_L (pq_R (pq_R (pq_L pq_e)))))))))
  | 4, _ => exact (pq_R (pq_L (pq_L (pq_R (pq_R (pq_L (pq_R (pq_R (pq_R pq_e)))))))))
  | 5, _ => exact (pq_R (pq_L (pq_L (pq_R (pq_R (pq_R (pq_L (pq_L (pq_L pq_e)))))))))
  | 6, _ => exact (pq_R (pq_L (pq_L (pq_R (pq_R (pq_R (pq_L (pq_L (pq_R pq_e)))))))))
  | 7, _ => exact (pq_R (pq_L (pq_L (pq_R (pq_R (pq_R (pq_L (pq_R (pq_L pq_e)))))))))
theorem pl_sl_2 : ∀ i : Nat, i < 5 → Cond.eq (.elem (.field (pl_tm 2) "java/lang/String" "value" "[B") (.int (Int32.ofNat i))) (.int ((pm_sb.getD 2 []).getD i 0)) ∈ flatC (Jvm.Cond.and given_1 narrow_1) := by
  intro i hi
  match i, hi with
  | 0, _ => exact (pq_R (pq_L (pq_R (pq_L (pq_L (pq_L (pq_L (pq_L pq_e))))))))
  | 1, _ => exact (pq_R (pq_L (pq_R (pq_L (pq_L (pq_L (pq_L (pq_R (pq_L pq_e)))))))))
  | 2, _ => exact (pq_R (pq_L (pq_R (pq_L (pq_L (pq_L (pq_L (pq_R (pq_R pq_e)))))))))
  | 3, _ => exact (pq_R (pq_L (pq_R (pq_L (pq_L (pq_L (pq_R (pq_L (pq_L pq_e)))))))))
  | 4, _ => exact (pq_R (pq_L (pq_R (pq_L (pq_L (pq_L (pq_R (pq_L (pq_R pq_e)))))))))
theorem pl_sl_3 : ∀ i : Nat, i < 4 → Cond.eq (.elem (.field (pl_tm 3) "java/lang/String" "value" "[B") (.int (Int32.ofNat i))) (.int ((pm_sb.getD 3 []).getD i 0)) ∈ flatC (Jvm.Cond.and given_1 narrow_1) := by
  intro i hi
  match i, hi with
  | 0, _ => exact (pq_R (pq_L (pq_R (pq_L (pq_L (pq_R (pq_R (pq_L (pq_L pq_e)))))))))
  | 1, _ => exact (pq_R (pq_L (pq_R (pq_L (pq_L (pq_R (pq_R (pq_L (pq_R pq_e)))))))))
  | 2, _ => exact (pq_R (pq_L (pq_R (pq_L (pq_L (pq_R (pq_R (pq_R (pq_L pq_e)))))))))
  | 3, _ => exact (pq_R (pq_L (pq_R (pq_L (pq_L (pq_R (pq_R (pq_R (pq_R pq_e)))))))))
theorem pl_sl_4 : ∀ i : Nat, i < 6 → Cond.eq (.elem (.field (pl_tm 4) "java/lang/String" "value" "[B") (.int (Int32.ofNat i))) (.int ((pm_sb.getD 4 []).getD i 0)) ∈ flatC (Jvm.Cond.and given_1 narrow_1) := by
  intro i hi
  match i, hi with
  | 0, _ => exact (pq_R (pq_L (pq_R (pq_L (pq_R (pq_L (pq_R (pq_R (pq_R pq_e)))))))))
  | 1, _ => exact (pq_R (pq_L (pq_R (pq_L (pq_R (pq_R (pq_L (pq_L (pq_L pq_e)))))))))
  | 2, _ => exact (pq_R (pq_L (pq_R (pq_L (pq_R (pq_R (pq_L (pq_L (pq_R pq_e)))))))))
  | 3, _ => exact (pq_R (pq_L (pq_R (pq_L (pq_R (pq_R (pq_L (pq_R (pq_L pq_e)))))))))
  | 4, _ => exact (pq_R (pq_L (pq_R (pq_L (pq_R (pq_R (pq_L (pq_R (pq_R pq_e)))))))))
  | 5, _ => exact (pq_R (pq_L (pq_R (pq_L (pq_R (pq_R (pq_R (pq_L (pq_L pq_e)))))))))
theorem pl_sl_5 : ∀ i : Nat, i < 3 → Cond.eq (.elem (.field (pl_tm 5) "java/lang/String" "value" "[B") (.int (Int32.ofNat i))) (.int ((pm_sb.getD 5 []).getD i 0)) ∈ flatC (Jvm.Cond.and given_1 narrow_1) := by
  intro i hi
  match i, hi with
  | 0, _ => exact (pq_R (pq_L (pq_R (pq_R (pq_L (pq_L (pq_R (pq_R (pq_L pq_e)))))))))
  | 1, _ => exact (pq_R (pq_L (pq_R (pq_R (pq_L (pq_L (pq_R (pq_R (pq_R pq_e)))))))))
  | 2, _ => exact (pq_R (pq_L (pq_R (pq_R (pq_L (pq_R (pq_L (pq_L (pq_L pq_e)))))))))
theorem pl_sl_6 : ∀ i : Nat, i < 3 → Cond.eq (.elem (.field (pl_tm 6) "java/lang/String" "value" "[B") (.int (Int32.ofNat i))) (.int ((pm_sb.getD 6 []).getD i 0)) ∈ flatC (Jvm.Cond.and given_1 narrow_1) := by
  intro i hi
  match i, hi with
  | 0, _ => exact (pq_R (pq_L (pq_R (pq_R (pq_R (pq_L (pq_L (pq_R (pq_L pq_e)))))))))
  | 1, _ => exact (pq_R (pq_L (pq_R (pq_R (pq_R (pq_L (pq_L (pq_R (pq_R pq_e)))))))))
  | 2, _ => exact (pq_R (pq_L (pq_R (pq_R (pq_R (pq_L (pq_R (pq_L (pq_L pq_e)))))))))
theorem pl_sl_7 : ∀ i : Nat, i < 5 → Cond.eq (.elem (.field (pl_tm 7) "java/lang/String" "value" "[B") (.int (Int32.ofNat i))) (.int ((pm_sb.getD 7 []).getD i 0)) ∈ flatC (Jvm.Cond.and given_1 narrow_1) := by
  intro i hi
  match i, hi with
  | 0, _ => exact (pq_R (pq_L (pq_R (pq_R (pq_R (pq_R (pq_R (pq_R (pq_R pq_e)))))))))
  | 1, _ => exact (pq_R (pq_R (pq_L (pq_L (pq_L (pq_L (pq_L (pq_L pq_e))))))))
  | 2, _ => exact (pq_R (pq_R (pq_L (pq_L (pq_L (pq_L (pq_L (pq_R (pq_L pq_e)))))))))
  | 3, _ => exact (pq_R (pq_R (pq_L (pq_L (pq_L (pq_L (pq_L (pq_R (pq_R pq_e)))))))))
  | 4, _ => exact (pq_R (pq_R (pq_L (pq_L (pq_L (pq_L (pq_R (pq_L (pq_L pq_e)))))))))
theorem pl_sl_8 : ∀ i : Nat, i < 3 → Cond.eq (.elem (.field (pl_tm 8) "java/lang/String" "value" "[B") (.int (Int32.ofNat i))) (.int ((pm_sb.getD 8 []).getD i 0)) ∈ flatC (Jvm.Cond.and given_1 narrow_1) := by
  intro i hi
  match i, hi with
  | 0, _ => exact (pq_R (pq_R (pq_L (pq_L (pq_R (pq_L (pq_L (pq_L pq_e))))))))
  | 1, _ => exact (pq_R (pq_R (pq_L (pq_L (pq_R (pq_L (pq_L (pq_R (pq_L pq_e)))))))))
  | 2, _ => exact (pq_R (pq_R (pq_L (pq_L (pq_R (pq_L (pq_L (pq_R (pq_R pq_e)))))))))
theorem pl_sl_9 : ∀ i : Nat, i < 4 → Cond.eq (.elem (.field (pl_tm 9) "java/lang/String" "value" "[B") (.int (Int32.ofNat i))) (.int ((pm_sb.getD 9 []).getD i 0)) ∈ flatC (Jvm.Cond.and given_1 narrow_1) := by
  intro i hi
  match i, hi with
  | 0, _ => exact (pq_R (pq_R (pq_L (pq_R (pq_L (pq_L (pq_L (pq_L pq_e))))))))
  | 1, _ => exact (pq_R (pq_R (pq_L (pq_R (pq_L (pq_L (pq_L (pq_R (pq_L pq_e)))))))))
  | 2, _ => exact (pq_R (pq_R (pq_L (pq_R (pq_L (pq_L (pq_L (pq_R (pq_R pq_e)))))))))
  | 3, _ => exact (pq_R (pq_R (pq_L (pq_R (pq_L (pq_L (pq_R (pq_L (pq_L pq_e)))))))))
theorem pl_sl_10 : ∀ i : Nat, i < 7 → Cond.eq (.elem (.field (pl_tm 10) "java/lang/String" "value" "[B") (.int (Int32.ofNat i))) (.int ((pm_sb.getD 10 []).getD i 0)) ∈ flatC (Jvm.Cond.and given_1 narrow_1) := by
  intro i hi
  match i, hi with
  | 0, _ => exact (pq_R (pq_R (pq_L (pq_R (pq_R (pq_L (pq_L (pq_R (pq_L pq_e)))))))))
  | 1, _ => exact (pq_R (pq_R (pq_L (pq_R (pq_R (pq_L (pq_L (pq_R (pq_R pq_e)))))))))
  | 2, _ => exact (pq_R (pq_R (pq_L (pq_R (pq_R (pq_L (pq_R (pq_L (pq_L pq_e)))))))))
  | 3, _ => exact (pq_R (pq_R (pq_L (pq_R (pq_R (pq_L (pq_R (pq_L (pq_R pq_e)))))))))
  | 4, _ => exact (pq_R (pq_R (pq_L (pq_R (pq_R (pq_L (pq_R (pq_R (pq_L pq_e)))))))))
  | 5, _ => exact (pq_R (pq_R (pq_L (pq_R (pq_R (pq_L (pq_R (pq_R (pq_R pq_e)))))))))
  | 6, _ => exact (pq_R (pq_R (pq_L (pq_R (pq_R (pq_R (pq_L (pq_L (pq_L pq_e)))))))))
theorem pl_sl_11 : ∀ i : Nat, i < 4 → Cond.eq (.elem (.field (pl_tm 11) "java/lang/String" "value" "[B") (.int (Int32.ofNat i))) (.int ((pm_sb.getD 11 []).getD i 0)) ∈ flatC (Jvm.Cond.and given_1 narrow_1) := by
  intro i hi
  match i, hi with
  | 0, _ => exact (pq_R (pq_R (pq_R (pq_L (pq_L (pq_R (pq_L (pq_L (pq_L pq_e)))))))))
  | 1, _ => exact (pq_R (pq_R (pq_R (pq_L (pq_L (pq_R (pq_L (pq_L (pq_R pq_e)))))))))
  | 2, _ => exact (pq_R (pq_R (pq_R (pq_L (pq_L (pq_R (pq_L (pq_R (pq_L pq_e)))))))))
  | 3, _ => exact (pq_R (pq_R (pq_R (pq_L (pq_L (pq_R (pq_L (pq_R (pq_R pq_e)))))))))
theorem pl_sl_12 : ∀ i : Nat, i < 5 → Cond.eq (.elem (.field (pl_tm 12) "java/lang/String" "value" "[B") (.int (Int32.ofNat i))) (.int ((pm_sb.getD 12 []).getD i 0)) ∈ flatC (Jvm.Cond.and given_1 narrow_1) := by
  intro i hi
  match i, hi with
  | 0, _ => exact (pq_R (pq_R (pq_R (pq_L (pq_R (pq_R (pq_L (pq_R (pq_R pq_e)))))))))
  | 1, _ => exact (pq_R (pq_R (pq_R (pq_L (pq_R (pq_R (pq_R (pq_L (pq_L pq_e)))))))))
  | 2, _ => exact (pq_R (pq_R (pq_R (pq_L (pq_R (pq_R (pq_R (pq_L (pq_R pq_e)))))))))
  | 3, _ => exact (pq_R (pq_R (pq_R (pq_L (pq_R (pq_R (pq_R (pq_R (pq_L pq_e)))))))))
  | 4, _ => exact (pq_R (pq_R (pq_R (pq_L (pq_R (pq_R (pq_R (pq_R (pq_R pq_e)))))))))
theorem pl_sl_13 : ∀ i : Nat, i < 0 → Cond.eq (.elem (.field (pl_tm 13) "java/lang/String" "value" "[B") (.int (Int32.ofNat i))) (.int ((pm_sb.getD 13 []).getD i 0)) ∈ flatC (Jvm.Cond.and given_1 narrow_1) := fun i hi => absurd hi (Nat.not_lt_zero i)
theorem pl_sl : ∀ i : Nat, i < 14 → ∀ j : Nat, j < pm_sl.getD i 0 → Cond.eq (.elem (.field (pl_tm i) "java/lang/String" "value" "[B") (.int (Int32.ofNat j))) (.int ((pm_sb.getD i []).getD j 0)) ∈ flatC (Jvm.Cond.and given_1 narrow_1) := by
  intro i hi j hj
  match i, hi with
  | 0, _ => exact pl_sl_0 j hj
  | 1, _ => exact pl_sl_1 j hj
  | 2, _ => exact pl_sl_2 j hj
  | 3, _ => exact pl_sl_3 j hj
  | 4, _ => exact pl_sl_4 j hj
  | 5, _ => exact pl_sl_5 j hj
  | 6, _ => exact pl_sl_6 j hj
  | 7, _ => exact pl_sl_7 j hj
  | 8, _ => exact pl_sl_8 j hj
  | 9, _ => exact pl_sl_9 j hj
  | 10, _ => exact pl_sl_10 j hj
  | 11, _ => exact pl_sl_11 j hj
  | 12, _ => exact pl_sl_12 j hj
  | 13, _ => exact pl_sl_13 j hj
theorem pl_sn_0 : ∀ j : Nat, j < 14 → 0 < j → Cond.not (Cond.eq (pl_tm 0) (pl_tm j)) ∈ flatC (Jvm.Cond.and given_1 narrow_1) := by
  intro j hj h
  match j, hj, h with
  | 0, _, h => exact absurd h (by decide)
  | 1, _, _ => exact (pq_R (pq_L (pq_L (pq_R (pq_R (pq_R (pq_L (pq_R (pq_R pq_n)))))))))
  | 2, _, _ => exact (pq_R (pq_L (pq_R (pq_L (pq_L (pq_L (pq_R (pq_R (pq_L pq_n)))))))))
  | 3, _, _ => exact (pq_R (pq_L (pq_R (pq_L (pq_R (pq_L (pq_L (pq_L (pq_L pq_n)))))))))
  | 4, _, _ => exact (pq_R (pq_L (pq_R (pq_L (pq_R (pq_R (pq_R (pq_L (pq_R pq_n)))))))))
  | 5, _, _ => exact (pq_R (pq_L (pq_R (pq_R (pq_L (pq_R (pq_L (pq_L (pq_R pq_n)))))))))
  | 6, _, _ => exact (pq_R (pq_L (pq_R (pq_R (pq_R (pq_L (pq_R (pq_L (pq_R pq_n)))))))))
  | 7, _, _ => exact (pq_R (pq_R (pq_L (pq_L (pq_L (pq_L (pq_R (pq_L (pq_R pq_n)))))))))
  | 8, _, _ => exact (pq_R (pq_R (pq_L (pq_L (pq_R (pq_L (pq_R (pq_L (pq_L pq_n)))))))))
  | 9, _, _ => exact (pq_R (pq_R (pq_L (pq_R (pq_L (pq_L (pq_R (pq_L (pq_R pq_n)))))))))
  | 10, _, _ => exact (pq_R (pq_R (pq_L (pq_R (pq_R (pq_R (pq_L (pq_L (pq_R pq_n)))))))))
  | 11, _, _ => exact (pq_R (pq_R (pq_R (pq_L (pq_L (pq_R (pq_R (pq_L (pq_L pq_n)))))))))
  | 12, _, _ => exact (pq_R (pq_R (pq_R (pq_R (pq_L (pq_L (pq_L (pq_L pq_n))))))))
  | 13, _, _ => exact (pq_R (pq_R (pq_R (pq_R (pq_R (pq_L (pq_L (pq_L (pq_R pq_n)))))))))
theorem pl_sn_1 : ∀ j : Nat, j < 14 → 1 < j → Cond.not (Cond.eq (pl_tm 1) (pl_tm j)) ∈ flatC (Jvm.Cond.and given_1 narrow_1) := by
  intro j hj h
  match j, hj, h with
  | 0, _, h => exact absurd h (by decide)
  | 1, _, h => exact absurd h (by decide)
  | 2, _, _ => exact (pq_R (pq_L (pq_R (pq_L (pq_L (pq_L (pq_R (pq_R (pq_R pq_n)))))))))
  | 3, _, _ => exact (pq_R (pq_L (pq_R (pq_L (pq_R (pq_L (pq_L (pq_L (pq_R pq_n)))))))))
  | 4, _, _ => exact (pq_R (pq_L (pq_R (pq_L (pq_R (pq_R (pq_R (pq_R (pq_L pq_n)))))))))
  | 5, _, _ => exact (pq_R (pq_L (pq_R (pq_R (pq_L (pq_R (pq_L (pq_R (pq_L pq_n)))))))))
  | 6, _, _ => exact (pq_R (pq_L (pq_R (pq_R (pq_R (pq_L (pq_R (pq_R (pq_L pq_n)))))))))
  | 7, _, _ => exact (pq_R (pq_R (pq_L (pq_L (pq_L (pq_L (pq_R (pq_R (pq_L pq_n)))))))))
  | 8, _, _ => exact (pq_R (pq_R (pq_L (pq_L (pq_R (pq_L (pq_R (pq_L (pq_R pq_n)))))))))
  | 9, _, _ => exact (pq_R (pq_R (pq_L (pq_R (pq_L (pq_L (pq_R (pq_R (pq_L pq_n)))))))))
  | 10, _, _ => exact (pq_R (pq_R (pq_L (pq_R (pq_R (pq_R (pq_L (pq_R (pq_L pq_n)))))))))
  | 11, _, _ => exact (pq_R (pq_R (pq_R (pq_L (pq_L (pq_R (pq_R (pq_L (pq_R pq_n)))))))))
  | 12, _, _ => exact (pq_R (pq_R (pq_R (pq_R (pq_L (pq_L (pq_L (pq_R (pq_L pq_n)))))))))
  | 13, _, _ => exact (pq_R (pq_R (pq_R (pq_R (pq_R (pq_L (pq_L (pq_R (pq_L pq_n)))))))))
theorem pl_sn_2 : ∀ j : Nat, j < 14 → 2 < j → Cond.not (Cond.eq (pl_tm 2) (pl_tm j)) ∈ flatC (Jvm.Cond.and given_1 narrow_1) := by
  intro j hj h
  match j, hj, h with
  | 0, _, h => exact absurd h (by decide)
  | 1, _, h => exact absurd h (by decide)
  | 2, _, h => exact absurd h (by decide)
  | 3, _, _ => exact (pq_R (pq_L (pq_R (pq_L (pq_R (pq_L (pq_L (pq_R (pq_L pq_n)))))))))
  | 4, _, _ => exact (pq_R (pq_L (pq_R (pq_L (pq_R (pq_R (pq_R (pq_R (pq_R pq_n)))))))))
  | 5, _, _ => exact (pq_R (pq_L (pq_R (pq_R (pq_L (pq_R (pq_L (pq_R (pq_R pq_n)))))))))
  | 6, _, _ => exact (pq_R (pq_L (pq_R (pq_R (pq_R (pq_L (pq_R (pq_R (pq_R pq_n)))))))))
  | 7, _, _ => exact (pq_R (pq_R (pq_L (pq_L (pq_L (pq_L (pq_R (pq_R (pq_R pq_n)))))))))
  | 8, _, _ => exact (pq_R (pq_R (pq_L (pq_L (pq_R (pq_L (pq_R (pq_R (pq_L pq_n)))))))))
  | 9, _, _ => exact (pq_R (pq_R (pq_L (pq_R (pq_L (pq_L (pq_R (pq_R (pq_R pq_n)))))))))
  | 10, _, _ => exact (pq_R (pq_R (pq_L (pq_R (pq_R (pq_R (pq_L (pq_R (pq_R pq_n)))))))))
  | 11, _, _ => exact (pq_R (pq_R (pq_R (pq_L (pq_L (pq_R (pq_R (pq_R (pq_L pq_n)))))))))
  | 12, _, _ => exact (pq_R (pq_R (pq_R (pq_R (pq_L (pq_L (pq_L (pq_R (pq_R pq_n)))))))))
  | 13, _, _ => exact (pq_R (pq_R (pq_R (pq_R (pq_R (pq_L (pq_L (pq_R (pq_R pq_n)))))))))
theorem pl_sn_3 : ∀ j : Nat, j < 14 → 3 < j → Cond.not (Cond.eq (pl_tm 3) (pl_tm j)) ∈ flatC (Jvm.Cond.and given_1 narrow_1) := by
  intro j hj h
  match j, hj, h with
  | 0, _, h => exact absurd h (by decide)
  | 1, _, h => exact absurd h (by decide)
  | 2, _, h => exact absurd h (by decide)
  | 3, _, h => exact absurd h (by decide)
  | 4, _, _ => exact (pq_R (pq_L (pq_R (pq_R (pq_L (pq_L (pq_L (pq_L pq_n))))))))
  | 5, _, _ => exact (pq_R (pq_L (pq_R (pq_R (pq_L (pq_R (pq_R (pq_L (pq_L pq_n)))))))))
  | 6, _, _ => exact (pq_R (pq_L (pq_R (pq_R (pq_R (pq_R (pq_L (pq_L (pq_L pq_n)))))))))
  | 7, _, _ => exact (pq_R (pq_R (pq_L (pq_L (pq_L (pq_R (pq_L (pq_L (pq_L pq_n)))))))))
  | 8, _, _ => exact (pq_R (pq_R (pq_L (pq_L (pq_R (pq_L (pq_R (pq_R (pq_R pq_n)))))))))
  | 9, _, _ => exact (pq_R (pq_R (pq_L (pq_R (pq_L (pq_R (pq_L (pq_L (pq_L pq_n)))))))))
  | 10, _, _ => exact (pq_R (pq_R (pq_L (pq_R (pq_R (pq_R (pq_R (pq_L (pq_L pq_n)))))))))
  | 11, _, _ => exact (pq_R (pq_R (pq_R (pq_L (pq_L (pq_R (pq_R (pq_R (pq_R pq_n)))))))))
  | 12, _, _ => exact (pq_R (pq_R (pq_R (pq_R (pq_L (pq_L (pq_R (pq_L (pq_L pq_n)))))))))
  | 13, _, _ => exact (pq_R (pq_R (pq_R (pq_R (pq_R (pq_L (pq_R (pq_L (pq_L pq_n)))))))))
theorem pl_sn_4 : ∀ j : Nat, j < 14 → 4 < j → Cond.not (Cond.eq (pl_tm 4) (pl_tm j)) ∈ flatC (Jvm.Cond.and given_1 narrow_1) := by
  intro j hj h
  match j, hj, h with
  | 0, _, h => exact absurd h (by decide)
  | 1, _, h => exact absurd h (by decide)
  | 2, _, h => exact absurd h (by decide)
  | 3, _, h => exact absurd h (by decide)
  | 4, _, h => exact absurd h (by decide)
  | 5, _, _ => exact (pq_R (pq_L (pq_R (pq_R (pq_L (pq_R (pq_R (pq_L (pq_R pq_n)))))))))
  | 6, _, _ => exact (pq_R (pq_L (pq_R (pq_R (pq_R (pq_R (pq_L (pq_L (pq_R pq_n)))))))))
  | 7, _, _ => exact (pq_R (pq_R (pq_L (pq_L (pq_L (pq_R (pq_L (pq_L (pq_R pq_n)))))))))
  | 8, _, _ => exact (pq_R (pq_R (pq_L (pq_L (pq_R (pq_R (pq_L (pq_L (pq_L pq_n)))))))))
  | 9, _, _ => exact (pq_R (pq_R (pq_L (pq_R (pq_L (pq_R (pq_L (pq_L (pq_R pq_n)))))))))
  | 10, _, _ => exact (pq_R (pq_R (pq_L (pq_R (pq_R (pq_R (pq_R (pq_L (pq_R pq_n)))))))))
  | 11, _, _ => exact (pq_R (pq_R (pq_R (pq_L (pq_R (pq_L (pq_L (pq_L (pq_L pq_n)))))))))
  | 12, _, _ => exact (pq_R (pq_R (pq_R (pq_R (pq_L (pq_L (pq_R (pq_L (pq_R pq_n)))))))))
  | 13, _, _ => exact (pq_R (pq_R (pq_R (pq_R (pq_R (pq_L (pq_R (pq_L (pq_R pq_n)))))))))
theorem pl_sn_5 : ∀ j : Nat, j < 14 → 5 < j → Cond.not (Cond.eq (pl_tm 5) (pl_tm j)) ∈ flatC (Jvm.Cond.and given_1 narrow_1) := by
  intro j hj h
  match j, hj, h with
  | 0, _, h => exact absurd h (by decide)
  | 1, _, h => exact absurd h (by decide)
  | 2, _, h => exact absurd h (by decide)
  | 3, _, h => exact absurd h (by decide)
  | 4, _, h => exact absurd h (by decide)
  | 5, _, h => exact absurd h (by decide)
  | 6, _, _ => exact (pq_R (pq_L (pq_R (pq_R (pq_R (pq_R (pq_L (pq_R (pq_L pq_n)))))))))
  | 7, _, _ => exact (pq_R (pq_R (pq_L (pq_L (pq_L (pq_R (pq_L (pq_R (pq_L pq_n)))))))))
  | 8, _, _ => exact (pq_R (pq_R (pq_L (pq_L (pq_R (pq_R (pq_L (pq_L (pq_R pq_n)))))))))
  | 9, _, _ => exact (pq_R (pq_R (pq_L (pq_R (pq_L (pq_R (pq_L (pq_R (pq_L pq_n)))))))))
  | 10, _, _ => exact (pq_R (pq_R (pq_L (pq_R (pq_R (pq_R (pq_R (pq_R (pq_L pq_n)))))))))
  | 11, _, _ => exact (pq_R (pq_R (pq_R (pq_L (pq_R (pq_L (pq_L (pq_L (pq_R pq_n)))))))))
  | 12, _, _ => exact (pq_R (pq_R (pq_R (pq_R (pq_L (pq_L (pq_R (pq_R (pq_L pq_n)))))))))
  | 13, _, _ => exact (pq_R (pq_R (pq_R (pq_R (pq_R (pq_L (pq_R (pq_R (pq_L pq_n)))))))))
theorem pl_sn_6 : ∀ j : Nat, j < 14 → 6 < j → Cond.not (Cond.eq (pl_tm 6) (pl_tm j)) ∈ flatC (Jvm.Cond.and given_1 narrow_1) := by
  intro j hj h
  match j, hj, h with
  | 0, _, h => exact absurd h (by decide)
  | 1, _, h => exact absurd h (by decide)
  | 2, _, h => exact absurd h (by decide)
  | 3, _, h => exact absurd h (by decide)
  | 4, _, h => exact absurd h (by decide)
  | 5, _, h => exact absurd h (by decide)
  | 6, _, h => exact absurd h (by decide)
  | 7, _, _ => exact (pq_R (pq_R (pq_L (pq_L (pq_L (pq_R (pq_L (pq_R (pq_R pq_n)))))))))
  | 8, _, _ => exact (pq_R (pq_R (pq_L (pq_L (pq_R (pq_R (pq_L (pq_R (pq_L pq_n)))))))))
  | 9, _, _ => exact (pq_R (pq_R (pq_L (pq_R (pq_L (pq_R (pq_L (pq_R (pq_R pq_n)))))))))
  | 10, _, _ => exact (pq_R (pq_R (pq_L (pq_R (pq_R (pq_R (pq_R (pq_R (pq_R pq_n)))))))))
  | 11, _, _ => exact (pq_R (pq_R (pq_R (pq_L (pq_R (pq_L (pq_L (pq_R (pq_L pq_n)))))))))
  | 12, _, _ => exact (pq_R (pq_R (pq_R (pq_R (pq_L (pq_L (pq_R (pq_R (pq_R pq_n)))))))))
  | 13, _, _ => exact (pq_R (pq_R (pq_R (pq_R (pq_R (pq_L (pq_R (pq_R (pq_R pq_n)))))))))
theorem pl_sn_7 : ∀ j : Nat, j < 14 → 7 < j → Cond.not (Cond.eq (pl_tm 7) (pl_tm j)) ∈ flatC (Jvm.Cond.and given_1 narrow_1) := by
  intro j hj h
  match j, hj, h with
  | 0, _, h => exact absurd h (by decide)
  | 1, _, h => exact absurd h (by decide)
  | 2, _, h => exact absurd h (by decide)
  | 3, _, h => exact absurd h (by decide)
  | 4, _, h => exact absurd h (by decide)
  | 5, _, h => exact absurd h (by decide)
  | 6, _, h => exact absurd h (by decide)
  | 7, _, h => exact absurd h (by decide)
  | 8, _, _ => exact (pq_R (pq_R (pq_L (pq_L (pq_R (pq_R (pq_L (pq_R (pq_R pq_n)))))))))
  | 9, _, _ => exact (pq_R (pq_R (pq_L (pq_R (pq_L (pq_R (pq_R (pq_L (pq_L pq_n)))))))))
  | 10, _, _ => exact (pq_R (pq_R (pq_R (pq_L (pq_L (pq_L (pq_L (pq_L pq_n))))))))
  | 11, _, _ => exact (pq_R (pq_R (pq_R (pq_L (pq_R (pq_L (pq_L (pq_R (pq_R pq_n)))))))))
  | 12, _, _ => exact (pq_R (pq_R (pq_R (pq_R (pq_L (pq_R (pq_L (pq_L (pq_L pq_n)))))))))
  | 13, _, _ => exact (pq_R (pq_R (pq_R (pq_R (pq_R (pq_R (pq_L (pq_L (pq_L pq_n)))))))))
theorem pl_sn_8 : ∀ j : Nat, j < 14 → 8 < j → Cond.not (Cond.eq (pl_tm 8) (pl_tm j)) ∈ flatC (Jvm.Cond.and given_1 narrow_1) := by
  intro j hj h
  match j, hj, h with
  | 0, _, h => exact absurd h (by decide)
  | 1, _, h => exact absurd h (by decide)
  | 2, _, h => exact absurd h (by decide)
  | 3, _, h => exact absurd h (by decide)
  | 4, _, h => exact absurd h (by decide)
  | 5, _, h => exact absurd h (by decide)
  | 6, _, h => exact absurd h (by decide)
  | 7, _, h => exact absurd h (by decide)
  | 8, _, h => exact absurd h (by decide)
  | 9, _, _ => exact (pq_R (pq_R (pq_L (pq_R (pq_L (pq_R (pq_R (pq_L (pq_R pq_n)))))))))
  | 10, _, _ => exact (pq_R (pq_R (pq_R (pq_L (pq_L (pq_L (pq_L (pq_R (pq_L pq_n)))))))))
  | 11, _, _ => exact (pq_R (pq_R (pq_R (pq_L (pq_R (pq_L (pq_R (pq_L (pq_L pq_n)))))))))
  | 12, _, _ => exact (pq_R (pq_R (pq_R (pq_R (pq_L (pq_R (pq_L (pq_L (pq_R pq_n)))))))))
  | 13, _, _ => exact (pq_R (pq_R (pq_R (pq_R (pq_R (pq_R (pq_L (pq_L (pq_R pq_n)))))))))
theorem pl_sn_9 : ∀ j : Nat, j < 14 → 9 < j → Cond.not (Cond.eq (pl_tm 9) (pl_tm j)) ∈ flatC (Jvm.Cond.and given_1 narrow_1) := by
  intro j hj h
  match j, hj, h with
  | 0, _, h => exact absurd h (by decide)
  | 1, _, h => exact absurd h (by decide)
  | 2, _, h => exact absurd h (by decide)
  | 3, _, h => exact absurd h (by decide)
  | 4, _, h => exact absurd h (by decide)
  | 5, _, h => exact absurd h (by decide)
  | 6, _, h => exact absurd h (by decide)
  | 7, _, h => exact absurd h (by decide)
  | 8, _, h => exact absurd h (by decide)
  | 9, _, h => exact absurd h (by decide)
  | 10, _, _ => exact (pq_R (pq_R (pq_R (pq_L (pq_L (pq_L (pq_L (pq_R (pq_R pq_n)))))))))
  | 11, _, _ => exact (pq_R (pq_R (pq_R (pq_L (pq_R (pq_L (pq_R (pq_L (pq_R pq_n)))))))))
  | 12, _, _ => exact (pq_R (pq_R (pq_R (pq_R (pq_L (pq_R (pq_L (pq_R (pq_L pq_n)))))))))
  | 13, _, _ => exact (pq_R (pq_R (pq_R (pq_R (pq_R (pq_R (pq_L (pq_R (pq_L pq_n)))))))))
theorem pl_sn_10 : ∀ j : Nat, j < 14 → 10 < j → Cond.not (Cond.eq (pl_tm 10) (pl_tm j)) ∈ flatC (Jvm.Cond.and given_1 narrow_1) := by
  intro j hj h
  match j, hj, h with
  | 0, _, h => exact absurd h (by decide)
  | 1, _, h => exact absurd h (by decide)
  | 2, _, h => exact absurd h (by decide)
  | 3, _, h => exact absurd h (by decide)
  | 4, _, h => exact absurd h (by decide)
  | 5, _, h => exact absurd h (by decide)
  | 6, _, h => exact absurd h (by decide)
  | 7, _, h => exact absurd h (by decide)
  | 8, _, h => exact absurd h (by decide)
  | 9, _, h => exact absurd h (by decide)
  | 10, _, h => exact absurd h (by decide)
  | 11, _, _ => exact (pq_R (pq_R (pq_R (pq_L (pq_R (pq_L (pq_R (pq_R (pq_L pq_n)))))))))
  | 12, _, _ => exact (pq_R (pq_R (pq_R (pq_R (pq_L (pq_R (pq_L (pq_R (pq_R pq_n)))))))))
  | 13, _, _ => exact (pq_R (pq_R (pq_R (pq_R (pq_R (pq_R (pq_L (pq_R (pq_R pq_n)))))))))
theorem pl_sn_11 : ∀ j : Nat, j < 14 → 11 < j → Cond.not (Cond.eq (pl_tm 11) (pl_tm j)) ∈ flatC (Jvm.Cond.and given_1 narrow_1) := by
  intro j hj h
  match j, hj, h with
  | 0, _, h => exact absurd h (by decide)
  | 1, _, h => exact absurd h (by decide)
  | 2, _, h => exact absurd h (by decide)
  | 3, _, h => exact absurd h (by decide)
  | 4, _, h => exact absurd h (by decide)
  | 5, _, h => exact absurd h (by decide)
  | 6, _, h => exact absurd h (by decide)
  | 7, _, h => exact absurd h (by decide)
  | 8, _, h => exact absurd h (by decide)
  | 9, _, h => exact absurd h (by decide)
  | 10, _, h => exact absurd h (by decide)
  | 11, _, h => exact absurd h (by decide)
  | 12, _, _ => exact (pq_R (pq_R (pq_R (pq_R (pq_L (pq_R (pq_R (pq_L (pq_L pq_n)))))))))
  | 13, _, _ => exact (pq_R (pq_R (pq_R (pq_R (pq_R (pq_R (pq_R (pq_L (pq_L pq_n)))))))))
theorem pl_sn_12 : ∀ j : Nat, j < 14 → 12 < j → Cond.not (Cond.eq (pl_tm 12) (pl_tm j)) ∈ flatC (Jvm.Cond.and given_1 narrow_1) := by
  intro j hj h
  match j, hj, h with
  | 0, _, h => exact absurd h (by decide)
  | 1, _, h => exact absurd h (by decide)
  | 2, _, h => exact absurd h (by decide)
  | 3, _, h => exact absurd h (by decide)
  | 4, _, h => exact absurd h (by decide)
  | 5, _, h => exact absurd h (by decide)
  | 6, _, h => exact absurd h (by decide)
  | 7, _, h => exact absurd h (by decide)
  | 8, _, h => exact absurd h (by decide)
  | 9, _, h => exact absurd h (by decide)
  | 10, _, h => exact absurd h (by decide)
  | 11, _, h => exact absurd h (by decide)
  | 12, _, h => exact absurd h (by decide)
  | 13, _, _ => exact (pq_R (pq_R (pq_R (pq_R (pq_R (pq_R (pq_R (pq_L (pq_R pq_n)))))))))
theorem pl_sn_13 : ∀ j : Nat, j < 14 → 13 < j → Cond.not (Cond.eq (pl_tm 13) (pl_tm j)) ∈ flatC (Jvm.Cond.and given_1 narrow_1) := by
  intro j hj h
  match j, hj, h with
  | 0, _, h => exact absurd h (by decide)
  | 1, _, h => exact absurd h (by decide)
  | 2, _, h => exact absurd h (by decide)
  | 3, _, h => exact absurd h (by decide)
  | 4, _, h => exact absurd h (by decide)
  | 5, _, h => exact absurd h (by decide)
  | 6, _, h => exact absurd h (by decide)
  | 7, _, h => exact absurd h (by decide)
  | 8, _, h => exact absurd h (by decide)
  | 9, _, h => exact absurd h (by decide)
  | 10, _, h => exact absurd h (by decide)
  | 11, _, h => exact absurd h (by decide)
  | 12, _, h => exact absurd h (by decide)
  | 13, _, h => exact absurd h (by decide)
theorem pl_sm : ∀ i : Nat, i < 14 → ∀ j : Nat, j < 14 → i < j → Cond.not (Cond.eq (pl_tm i) (pl_tm j)) ∈ flatC (Jvm.Cond.and given_1 narrow_1) := by
  intro i hi j hj hij
  match i, hi with
  | 0, _ => exact pl_sn_0 j hj hij
  | 1, _ => exact pl_sn_1 j hj hij
  | 2, _ => exact pl_sn_2 j hj hij
  | 3, _ => exact pl_sn_3 j hj hij
  | 4, _ => exact pl_sn_4 j hj hij
  | 5, _ => exact pl_sn_5 j hj hij
  | 6, _ => exact pl_sn_6 j hj hij
  | 7, _ => exact pl_sn_7 j hj hij
  | 8, _ => exact pl_sn_8 j hj hij
  | 9, _ => exact pl_sn_9 j hj hij
  | 10, _ => exact pl_sn_10 j hj hij
  | 11, _ => exact pl_sn_11 j hj hij
  | 12, _ => exact pl_sn_12 j hj hij
  | 13, _ => exact pl_sn_13 j hj hij
theorem pl_sn (i : Nat) (hi : i < 14) (j : Nat) (hj : j < 14) (hij : i ≠ j) : Cond.not (Cond.eq (pl_tm i) (pl_tm j)) ∈ flatC (Jvm.Cond.and given_1 narrow_1) ∨ Cond.not (Cond.eq (pl_tm j) (pl_tm i)) ∈ flatC (Jvm.Cond.and given_1 narrow_1) := by
  rcases Nat.lt_or_gt_of_ne hij with h | h
  · exact Or.inl (pl_sm i hi j hj h)
  · exact Or.inr (pl_sm j hj i hi h)
theorem pl_sN : ∀ i : Nat, i < 14 → pm_sl.getD i 0 < 2 ^ 31 := by decide +kernel
theorem pl_sr : ∀ i : Nat, i < 14 → Cond.stringRef "BlankRations$Tape" (pm_si.getD i 0) (pm_sx.getD i "") ∈ lw_tbl := by decide +kernel
theorem pl_mM : ∀ i : Nat, i < 4 → Cond.eq (.elem (.static "BlankRations" "LAW_MOST" "[I") (.int (Int32.ofNat i))) (.int (([9, 9, 9, 99] : List Int32).getD i 0)) ∈ flatC (Jvm.Cond.and given_1 narrow_1) := by
  intro i hi
  match i, hi with
  | 0, _ => exact (pq_R (pq_L (pq_L (pq_L (pq_R (pq_L (pq_L (pq_R (pq_R pq_e)))))))))
  | 1, _ => exact (pq_R (pq_L (pq_L (pq_L (pq_R (pq_L (pq_R (pq_L (pq_L pq_e)))))))))
  | 2, _ => exact (pq_R (pq_L (pq_L (pq_L (pq_R (pq_L (pq_R (pq_L (pq_R pq_e)))))))))
  | 3, _ => exact (pq_R (pq_L (pq_L (pq_L (pq_R (pq_L (pq_R (pq_R (pq_L pq_e)))))))))
theorem pl_mF : ∀ i : Nat, i < 4 → Cond.eq (.elem (.static "BlankRations" "LAW_FIRST" "[I") (.int (Int32.ofNat i))) (.int (([3, 2, 1, 20] : List Int32).getD i 0)) ∈ flatC (Jvm.Cond.and given_1 narrow_1) := by
  intro i hi
  match i, hi with
  | 0, _ => exact (pq_R (pq_L (pq_L (pq_L (pq_L (pq_L (pq_R (pq_R (pq_L pq_e)))))))))
  | 1, _ => exact (pq_R (pq_L (pq_L (pq_L (pq_L (pq_L (pq_R (pq_R (pq_R pq_e)))))))))
  | 2, _ => exact (pq_R (pq_L (pq_L (pq_L (pq_L (pq_R (pq_L (pq_L (pq_L pq_e)))))))))
  | 3, _ => exact (pq_R (pq_L (pq_L (pq_L (pq_L (pq_R (pq_L (pq_L (pq_R pq_e)))))))))
theorem pl_nM : ∀ q ∈ pm_nM, Cond.methodLinkNest q.1 q.2.1 q.2.2 "BlankRations" ∈ lw_tbl := by decide +kernel
theorem pl_nF : ∀ q ∈ pm_nF, Cond.fieldLinkNest q.1 q.2.1 q.2.2.1 q.2.2.2.1 q.2.2.2.2 "BlankRations" ∈ lw_tbl := by decide +kernel
theorem pl_in {w : Cond} {args : Array Value} {s : State} (hts : ∀ w ∈ lw_tbl, w.before args s = true) (hw : w ∈ pm_w) : w.before args s = true := hts w (List.mem_filter.mp hw).1
set_option maxHeartbeats 4000000 in
set_option maxRecDepth 100000 in
theorem law_sound {p : Program} {e : Env} {s : State} {m : MethodId} {below : List Frame} {meth : Method} {c : Code} (l : Launch) {b L : Nat} {xs : Nat → Int32} (hL : L < 2 ^ 31) (C0 : lw_At p s m meth c b L xs) {h' : pm_H}
    (hrun : ∀ (cR : Nat → ClassId) (D : va_G), pm_G (pl_K L xs) cR D iL_law 0 (pm_en 4 [.ref pm_B]) [] [] (some (.int 1)) h') (hc : h'.length ≤ 600000) (hs : pm_zs h' ≤ 7302249) : W p l e room_1 s m #[Value.ref b] below meth c s.heap [] 0 0 (lw_Z below #[Value.ref b] s) (entryFrame m ([Value.ref b] : List Value).toArray 4) := by
  obtain ⟨hx, hb, hr, hml, hown, hts, hX, hbl, hlocks, hgv⟩ := id C0
  have hfl := flat_of_before _ hgv
  have hw : ∀ w ∈ pm_w, w.before #[Value.ref b] s = true := fun w h => pl_in hts h
  have hA : ∀ a : Nat, a < s.heap.size → ¬ s.heap.size ≤ a := fun a h => Nat.not_le.mpr h
  obtain ⟨c0, i0, k0⟩ := u_known (C := RX0) (T := TX0) (N := 6) (n := 6) hw wi_0 (hw _ pw_220)
  obtain ⟨c1, i1, k1⟩ := u_known (C := RX1) (T := TX1) (N := 12) (n := 12) hw wi_1 (hw _ pw_207)
  obtain ⟨c2, i2, k2⟩ := u_known (C := RX2) (T := TX2) (N := 3) (n := 3) hw wi_2 (hw _ pw_228)
  obtain ⟨c3, i3, k3⟩ := u_known (C := RX3) (T := TX3) (N := 4) (n := 4) hw wi_3 (hw _ pw_232)
  obtain ⟨c4, i4, k4⟩ := u_known (C := RX4) (T := TX4) (N := 8) (n := 8) hw wi_4 (hw _ pw_215)
  obtain ⟨c5, i5, k5⟩ := u_known (C := RX5) (T := TX5) (N := 11) (n := 11) hw wi_5 (hw _ pw_677)
  obtain ⟨c6, i6, k6⟩ := u_known (C := RX6) (T := TX6) (N := 30) (n := 30) hw wi_6 (hw _ pw_682)
  obtain ⟨aI, aI1, aI2⟩ := pl_aI (hts (.arrayClass .int) (by decide +kernel))
  obtain ⟨aJ, aJ1, aJ2⟩ := pl_aJ (hts (.arrayClass .long) (by decide +kernel))
  obtain ⟨aS, aS1, aS2⟩ := pl_aO (C := RX2) (hts (.arrayOver (.object RX2)) (by decide +kernel))
  obtain ⟨aH, aH1, aH2⟩ := pl_aO (C := RX3) (hts (.arrayOver (.object RX3)) (by decide +kernel))
  obtain ⟨cR, hR0, hR1, hR2, hR3⟩ : ∃ cR : Nat → ClassId, cR 0 = aI ∧ cR 1 = aJ ∧ cR 2 = aS ∧ cR 3 = aH := ⟨fun k => if k = 0 then aI else if k = 1 then aJ else if k = 2 then aS else aH, rfl, rfl, rfl, rfl⟩
  obtain ⟨D, hD⟩ : ∃ D : va_G, ∀ (k : Nat) (q : vw_C), pm_Cl[k]? = some q → u_Kn s q.1 q.2.1 q.2.2 (D.1 k) (D.2 k) := by
    refine ⟨(fun k => if k = 0 then c0 else if k = 1 then c1 else if k = 2 then c2 else if k = 3 then c3 else if k = 4 then c4 else if k = 5 then c5 else c6, fun k => if k = 0 then i0 else if k = 1 then i1 else if k = 2 then i2 else if k = 3 then i3 else if k = 4 then i4 else if k = 5 then i5 else i6), ?_⟩
    intro k q hq
    match k, hq with
    | 0, hq => cases hq; exact k0
    | 1, hq => cases hq; exact k1
    | 2, hq => cases hq; exact k2
    | 3, hq => cases hq; exact k3
    | 4, hq => cases hq; exact k4
    | 5, hq => cases hq; exact k5
    | 6, hq => cases hq; exact k6
    | k + 7, hq => simp [pm_Cl] at hq
  have hK : va_K D pm_Cl (pm_ty cR) s := by
    refine ⟨hD, fun k q hq => ?_⟩
    match k, hq with
    | 0, hq => cases hq; rw [hR0]; exact ⟨aI1, aI2⟩
    | 1, hq => cases hq; rw [hR1]; exact ⟨aJ1, aJ2⟩
    | 2, hq => cases hq; rw [hR2]; exact ⟨aS1, aS2⟩
    | 3, hq => cases hq; rw [hR3]; exact ⟨aH1, aH2⟩
    | k + 4, hq => simp [pm_ty] at hq
  obtain ⟨tM, hM1, hM2⟩ := va_Tof (N := 4) (f := fun i => .int (([9, 9, 9, 99] : List Int32).getD i 0)) (A := fun q : Nat => s.heap.size ≤ q) (by decide) (hfl (.arrayOf (.static "BlankRations" "LAW_MOST" "[I") .int) (by decide +kernel)) (va_eqt (hfl (.eq (.length (.static "BlankRations" "LAW_MOST" "[I")) (.int 4)) (by decide +kernel))) (fun j hj => va_eqt (hfl _ (pl_mM j hj))) hA
  obtain ⟨tF, hF1, hF2⟩ := va_Tof (N := 4) (f := fun i => .int (([3, 2, 1, 20] : List Int32).getD i 0)) (A := fun q : Nat => s.heap.size ≤ q) (by decide) (hfl (.arrayOf (.static "BlankRations" "LAW_FIRST" "[I") .int) (by decide +kernel)) (va_eqt (hfl (.eq (.length (.static "BlankRations" "LAW_FIRST" "[I")) (.int 4)) (by decide +kernel))) (fun j hj => va_eqt (hfl _ (pl_mF j hj))) hA
  have zM := va_Zref (A := fun q : Nat => s.heap.size ≤ q) (hts (.laysStatic "BlankRations" "LAW_MOST" "[I") (by decide +kernel)) (hts (.initialized "BlankRations") (by decide +kernel)) hM1 hA
  have zF := va_Zref (A := fun q : Nat => s.heap.size ≤ q) (hts (.laysStatic "BlankRations" "LAW_FIRST" "[I") (by decide +kernel)) (hts (.initialized "BlankRations") (by decide +kernel)) hF1 hA
  have zC := va_Zof (A := fun q : Nat => s.heap.size ≤ q) (hts (.laysStatic "java/lang/String" "COMPACT_STRINGS" "Z") (by decide +kernel)) (hts (.initialized "java/lang/String") (by decide +kernel)) (va_eqi (hfl (.eq (.static "java/lang/String" "COMPACT_STRINGS" "Z") (.int 1)) (by decide +kernel))) hA
  have zQ := va_Zqof (A := fun q : Nat => s.heap.size ≤ q) (hts (.laysStatic "jdk/internal/util/Preconditions" "SIOOBE_FORMATTER" "Ljava/util/function/BiFunction;") (by decide +kernel)) (hts (.initialized "jdk/internal/util/Preconditions") (by decide +kernel)) (hfl (.isRef (.static "jdk/internal/util/Preconditions" "SIOOBE_FORMATTER" "Ljava/util/function/BiFunction;")) (by decide +kernel)) hA
  obtain ⟨tQ, zQ⟩ : ∃ tQ : Nat, va_Z "jdk/internal/util/Preconditions" "SIOOBE_FORMATTER" "Ljava/util/function/BiFunction;" .null (fun q : Nat => s.heap.size ≤ q) s s.heap ∨ va_Z "jdk/internal/util/Preconditions" "SIOOBE_FORMATTER" "Ljava/util/function/BiFunction;" (.ref tQ) (fun q : Nat => s.heap.size ≤ q) s s.heap := by
    rcases zQ with z | ⟨t, z⟩
    · exact ⟨0, Or.inl z⟩
    · exact ⟨t, Or.inr z⟩
  obtain ⟨adK, adV, hSt, hSe⟩ := vk_Sof (N := 14) (tm := pl_tm) (len := pm_sl) (byt := pm_sb) (A := fun q : Nat => s.heap.size ≤ q) pl_sN (fun i hi => hfl _ (pl_sx i hi)) (fun i hi => hfl _ (pl_sc i hi)) (fun i hi => hfl _ (pl_sa i hi)) (fun i hi => hfl _ (pl_se i hi)) (fun i hi j hj => hfl _ (pl_sl i hi j hj)) (fun i j hi hj hij => (pl_sn i hi j hj hij).imp (hfl _) (hfl _)) hA
  obtain ⟨ad, ha0, ha1, ha2, ha9, haK, haV⟩ : ∃ ad : Nat → Nat, ad pm_B = b ∧ ad (pm_B + 1) = tM ∧ ad (pm_B + 2) = tF ∧ ad (pm_B + 99) = tQ ∧ (∀ i : Nat, i < 100 → ad (pm_B + 100 + i) = adK i) ∧ ∀ i : Nat, ad (pm_B + 200 + i) = adV i := by
    refine ⟨fun k => if k = pm_B then b else if k = pm_B + 1 then tM else if k = pm_B + 2 then tF else if k = pm_B + 99 then tQ else if k < pm_B + 200 then adK (k - (pm_B + 100)) else adV (k - (pm_B + 200)), if_pos rfl, ?_, ?_, ?_, fun i hi => ?_, fun i => ?_⟩
    · show (if pm_B + 1 = pm_B then b else if pm_B + 1 = pm_B + 1 then tM else _) = tM
      rw [if_neg (by omega), if_pos rfl]
    · show (if pm_B + 2 = pm_B then b else if pm_B + 2 = pm_B + 1 then tM else if pm_B + 2 = pm_B + 2 then tF else _) = tF
      rw [if_neg (by omega), if_neg (by omega), if_pos rfl]
    · show (if pm_B + 99 = pm_B then b else if pm_B + 99 = pm_B + 1 then tM else if pm_B + 99 = pm_B + 2 then tF else if pm_B + 99 = pm_B + 99 then tQ else _) = tQ
      rw [if_neg (by omega), if_neg (by omega), if_neg (by omega), if_pos rfl]
    · show (if pm_B + 100 + i = pm_B then b else if pm_B + 100 + i = pm_B + 1 then tM else if pm_B + 100 + i = pm_B + 2 then tF else if pm_B + 100 + i = pm_B + 99 then tQ else if pm_B + 100 + i < pm_B + 200 then adK (pm_B + 100 + i - (pm_B + 100)) else _) = adK i
      rw [if_neg (by omega), if_neg (by omega), if_neg (by omega), if_neg (by omega), if_pos (by omega), Nat.add_sub_cancel_left]
    · show (if pm_B + 200 + i = pm_B then b else if pm_B + 200 + i = pm_B + 1 then tM else if pm_B + 200 + i = pm_B + 2 then tF else if pm_B + 200 + i = pm_B + 99 then tQ else if pm_B + 200 + i < pm_B + 200 then _ else adV (pm_B + 200 + i - (pm_B + 200))) = adV i
      rw [if_neg (by omega), if_neg (by omega), if_neg (by omega), if_neg (by omega), if_neg (by omega), Nat.add_sub_cancel_left]
  have hkk : pm_k (pl_K L xs) ad (fun q : Nat => s.heap.size ≤ q) s s.heap := by
    refine ⟨fun j r hj hr => ?_, by rw [ha1]; exact zM, by rw [ha2]; exact zF, ⟨fun i hi => ?_, fun i j hi hj hij => ?_⟩, zC, by rw [ha9]; exact zQ⟩
    · match j, hj, hr with
      | 0, _, hr =>
        cases hr
        rw [Nat.add_zero, ha0]
        obtain ⟨scr, x1, x2, x3, x4, x5⟩ := hX
        have hlen : ((List.range L).map xs).length = L := by simp
        refine ⟨scr, x1, x2, x3, Nat.le_of_eq (by rw [hlen, x4]), (by rw [hlen, x4] <;> first | done | rfl), fun j hj => ?_, hA b hbl⟩
        rw [hlen] at hj
        rw [x5 j hj]
        simp [List.getD, hj]
      | 1, _, hr => cases hr; rw [ha1]; exact hM2
      | 2, _, hr => cases hr; rw [ha2]; exact hF2
    · show va_O "java/lang/String" (ad (pm_B + 100 + i)) _ s s.heap ∧ va_OF "java/lang/String" "coder" "B" (.int 0) (ad (pm_B + 100 + i)) _ s s.heap ∧ va_OF "java/lang/String" "value" "[B" (.ref (ad (pm_B + 200 + i))) (ad (pm_B + 100 + i)) _ s s.heap ∧ va_T .byte (ad (pm_B + 200 + i)) _ _ _ s s.heap
      rw [haK i (by omega), haV i]
      exact hSt.1 i hi
    · have hij : ad (pm_B + 100 + i) = ad (pm_B + 100 + j) := hij
      rw [haK i (by omega), haK j (by omega)] at hij
      exact hSt.2 i j hi hj hij
  have hN : pm_N s := ⟨fun q hq => va_Nw.of rfl (hts _ (pl_nM q hq)), fun q hq => va_Nw.of rfl (hts _ (pl_nF q hq)), va_AO.of (hts (.arrayOver (.object RX2)) (by decide +kernel)), va_AO.of (hts (.arrayOver (.object RX3)) (by decide +kernel))⟩
  have hrr : pm_r ad s := fun i hi => by
    rw [haK i (by omega)]
    refine vk_R.of (A := #[Value.ref b]) (hts _ (pl_sr i hi)) ?_
    exact hSe i hi
  have hPs : va_P D pm_Cl (pm_W cR ad 0 []) s.heap := fun k q h => by simp [pm_W] at h
  have hDs : va_D (fun q : Nat => s.heap.size ≤ q) (pm_W cR ad 0 []) := ⟨fun i j p q h => by simp [pm_W] at h, fun k q h => by simp [pm_W] at h⟩
  have hG := hrun cR D
  rw [lg_entry_eq]
  have hb9 : c.code = iL_law.2.1 := hb
  refine hG.2 p l e room_1 s m #[Value.ref b] below meth c (fun q : Nat => s.heap.size ≤ q) (lw_Z below #[Value.ref b] s) ad ad s.heap [] _ 0 0 0 0 ⟨hx, hb, hr, hml, hown, hw, hlocks, (fun z => by cases z), (fun q h => h), hK, (by decide), (by decide), hN⟩ ⟨hPs, hDs, va_S.rf, hkk, Nat.zero_le _, hrr⟩ ?_ rfl rfl ?_ ?_ pm_X.rf ?_
  · have h9 := pm_entry (ad := ad) (nL := 4) (as := [.ref pm_B]) (by decide)
    rw [show [Value.ref pm_B].map (pm_V ad) = [Value.ref b] from by simp only [List.map_cons, List.map_nil, pm_V_ref, ha0]] at h9
    exact h9
  · show h'.length ≤ 0 + 600000
    omega
  · show pm_zs h' ≤ 0 + 7302249
    omega
  · intro pc ls ad' H' locs' cells slots _ hd hP' h1 h2 _
    refine va_forget hP'.2.2.1.2.2 ?_
    refine W.widen (k := 600000) (n := 7302249) (by omega) (by omega) ?_
    exact lw_ret hx hb hr hlocks hd
