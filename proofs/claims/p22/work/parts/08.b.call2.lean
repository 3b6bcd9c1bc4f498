section CALL2
variable {T : pm_T} {K : pm_K} {cR : Nat → ClassId} {D : va_G} {M : pm_I} {pc : Nat}
theorem pm_pre {ad : Nat → Nat} {h : pm_H} {A : Nat → Prop} {s : State} {H : Heap} {locs : List Loc} {as : List Value} (hA : ∀ q : Nat, s.heap.size ≤ q → A q) (hK : va_K D pm_Cl (pm_ty cR) s) (hN : pm_N s) (hP : pm_P K cR D ad h A s H locs) : ∀ U : State, U.heap = H → s.WarmedH U.vm → pm_Pc K cR D ad H.size as h (as.map (pm_V ad)).toArray U := by
  intro U hU hW
  have hF := pm_free_in hA hP
  refine ⟨rfl, by rw [hU], by rw [hU]; exact hP.1, va_K.moved hW.alike hK, hP.2.1.weaken (fun _ _ _ _ => trivial), ?_, hP.2.2.2.2.1, hN.warm hW, hP.2.2.2.2.2.warm hW⟩
  rw [hU]
  exact ((hP.2.2.2.1.kept hP.2.2.1.2.1).narrow hF).moved hW.alike
end CALL2
