section CALL2
variable {T : pm_T} {K : pm_K} {cR : Nat → ClassId} {D : va_G} {M : pm_I} {pc : Nat}
theorem pm_cat (ad : Nat → Nat) (t : List Value) : ((t.map (pm_V ad)).map fun v => v.category).sum = (t.map fun v => v.category).sum := by
  rw [List.map_map]
  have e9 : ((fun v : Value => v.category) ∘ pm_V ad) = fun v : Value => v.category := funext fun v => pm_V_cat ad v
  rw [e9]
theorem pm_take {n : Nat} {st : List Value} (h : n ≤ st.length) (ad : Nat → Nat) : (((st.take n).reverse).map (pm_V ad)).length = n := by
  simp only [List.length_map, List.length_reverse, List.length_take]
  omega
theorem pm_split {n : Nat} {st : List Value} (ad : Nat → Nat) : st.map (pm_V ad) = (((st.take n).reverse).map (pm_V ad)).reverse ++ (st.drop n).map (pm_V ad) := by
  rw [← List.map_reverse, List.reverse_reverse, ← List.map_append, List.take_append_drop]
theorem pm_blind {ad : Nat → Nat} {sz : Nat} {as : List Value} {h : pm_H} : FrameBlind (pm_Pc K cR D ad sz as h) := by
  intro a U g mk q
  obtain ⟨q1, q2, q3, q4, q5, q6, q7, q8, q9⟩ := q
  exact ⟨q1, q2, q3, va_K.moved (u := U) (U := U.calling g mk a) (Vm.Alike.refl U.vm) q4, q5, pm_k.moved (u := U) (U := U.calling g mk a) (Vm.Alike.refl U.vm) q6, q7, pm_N.same (u := U) (U := U.calling g mk a) rfl q8, pm_r.same (u := U) (U := U.calling g mk a) rfl q9⟩
theorem pm_free_in {ad : Nat → Nat} {h : pm_H} {A : Nat → Prop} {s : State} {H : Heap} {locs : List Loc} (hA : ∀ q : Nat, s.heap.size ≤ q → A q) (hP : pm_P K cR D ad h A s H locs) : ∀ q : Nat, va_A (pm_W cR ad 0 h) H.size q → A q := by
  intro q hq
  rcases hq with ⟨k, e, hk⟩ | hq
  · exact hP.2.1.2 k (q, e) hk
  · exact hA q (Nat.le_trans hP.2.2.1.1 hq)
end CALL2
