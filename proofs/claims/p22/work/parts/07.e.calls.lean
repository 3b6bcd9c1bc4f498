section CALLS
variable {T : pm_T} {K : pm_K} {cR : Nat → ClassId} {D : va_G} {M : pm_I} {pc : Nat}
theorem pm_inj {s : State} {cA cB : ClassId} {ty : FieldType} (h1 : va_RA s cA ty) (h2 : va_RA s cB ty) : cA = cB := by
  cases ty with
  | object C =>
    obtain ⟨kA, comp, -, -, -, h4⟩ := h1
    obtain ⟨kB, comp', -, -, -, h5⟩ := h2
    exact Option.some.inj (h4.symm.trans h5)
  | _ => exact Option.some.inj (Eq.trans (Eq.symm h1) h2)
theorem pmk_ni {nx : Nat} (hw : Cond.arrayClass .int ∈ pm_w) (hd : decode M.2.1 pc = .ok (.newarray .int, 2)) (hn : pc + 2 = nx) : pm_ok T K cR D M pc (pms_ni nx) := by
  intro call cont hcall hcont L st h r h' hS
  unfold pms_ni at hS
  split at hS
  · next n t =>
    split at hS
    · cases hS
    · next hn0 =>
      split at hS
      · next hfree =>
        obtain ⟨hsmall, hfree⟩ := hfree
        refine pm_G.of_n hfree (e0 := .inl (List.replicate n.toNatClampNeg 0)) rfl (hcont _ _ _ _ _ _ hS) ?_
        intro p l0 e R s m args below meth c0 A H locs cells slots Q ad ls hC hP hl hcl hsl kk
        obtain ⟨he, hb, -, -, ho, hts, -, -, hA, hK, -⟩ := hC
        subst hn
        have hz : pm_z (.inl (List.replicate n.toNatClampNeg 0)) = n.toNatClampNeg := List.length_replicate
        rw [hz] at hsl kk
        have e0 : (fun i : Nat => (List.replicate n.toNatClampNeg (0 : Int32)).getD i 0) = fun _ => 0 := by
          funext i
          simp only [List.getD, List.getElem?_replicate]
          split <;> rfl
        have e1 : pm_e cR ad (.inl (List.replicate n.toNatClampNeg 0)) = .inl (cR 0, n.toNatClampNeg, .inl (fun _ => 0)) := by simp only [pm_e, e0, List.length_replicate]
        rw [e1] at kk
        refine va_newa (atype := .int) (ty := .int) (a0 := (n.toNatClampNeg, .inl (fun _ => 0))) he hb (hts _ hw) rfl hK hP.1 hP.2.1 hP.2.2.1 hA (fun _ => rfl) hn0 rfl ?_ hcl hsl hd (fun q cA H1 g0 g1 g2 g3 => ?_)
        · show n.toNatClampNeg * 4 ≤ 536870912
          omega
        · have e9 : cA = cR 0 := pm_inj (g0.2 4 (cA, .int) rfl).2 (hK.2 0 (cR 0, .int) rfl).2
          subst e9
          exact kk q H1 g1 g2 g3
      · cases hS
  · cases hS
end CALLS
