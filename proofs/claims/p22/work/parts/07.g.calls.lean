section CALLS
variable {T : pm_T} {K : pm_K} {cR : Nat → ClassId} {D : va_G} {M : pm_I} {pc : Nat}
theorem pmk_na {ty index nx : Nat} {C : String} (ht : (pm_ty cR)[ty + 2]? = some (cR (ty + 2), .object C)) (hw : Cond.classLink M.1 index C ∈ pm_w) (hov : ∀ s : State, pm_N s → va_AO C s) (hd : decode M.2.1 pc = .ok (.anewarray index, 3)) (hn : pc + 3 = nx) : pm_ok T K cR D M pc (pms_na ty nx) := by
  intro call cont hcall hcont L st h r h' hS
  unfold pms_na at hS
  split at hS
  · next n t =>
    split at hS
    · cases hS
    · next hn0 =>
      split at hS
      · next hfree =>
        obtain ⟨hsmall, hfree⟩ := hfree
        have hro : ∀ (lo hi k : Nat), pm_rO lo hi (List.replicate k none) = true := by
          intro lo hi k
          induction k with
          | zero => rfl
          | succ k ih => exact ih
        refine pm_G.of_n hfree (e0 := pm_qr ty (List.replicate n.toNatClampNeg none)) (hro _ _ _) (hcont _ _ _ _ _ _ hS) ?_
        intro p l0 e R s m args below meth c0 A H locs cells slots Q ad ls hC hP hl hcl hsl kk
        obtain ⟨he, hb, -, -, ho, hts, -, -, hA, hK, -, -, hN⟩ := hC
        subst hn
        have hz : pm_z (pm_qr ty (List.replicate n.toNatClampNeg none)) = n.toNatClampNeg := List.length_replicate
        rw [hz] at hsl kk
        have e0 : (fun i : Nat => ((List.replicate n.toNatClampNeg (none : Option Nat)).getD i none).map ad) = fun _ => none := by
          funext i
          simp only [List.getD, List.getElem?_replicate]
          split <;> rfl
        have e1 : pm_e cR ad (pm_qr ty (List.replicate n.toNatClampNeg none)) = .inl (cR (ty + 2), n.toNatClampNeg, .inr (.inr (.inr (.inr (fun _ => none))))) := by simp only [pm_e, e0, List.length_replicate]
        rw [e1] at kk
        have hov2 : va_AO C s := hov s hN
        refine va_newq he hb ho (hts _ hw) hov2 hK hP.1 hP.2.1 hP.2.2.1 hA hn0 rfl (by omega) hcl hsl hd (fun q cA H1 g0 g1 g2 g3 => ?_)
        have e9 : cA = cR (ty + 2) := pm_inj (g0.2 4 (cA, .object C) rfl).2 (hK.2 (ty + 2) (cR (ty + 2), .object C) ht).2
        subst e9
        exact kk q H1 g1 g2 g3
      · cases hS
  · cases hS
end CALLS
