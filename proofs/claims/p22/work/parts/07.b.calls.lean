section CALLS
variable {T : pm_T} {K : pm_K} {cR : Nat → ClassId} {D : va_G} {M : pm_I} {pc : Nat}
theorem pmk_oi {index nx : Nat} (hw1 : Cond.methodLink M.1 index objectInit ∈ pm_w) (hw2 : Cond.instanceMethod objectInit ∈ pm_w) (hw3 : Cond.code objectInit ⟨#[0xb1]⟩ 1 none ∈ pm_w) (hf : 1 ≤ M.2.2.2.2.2.1) (hlo : 21 ≤ M.2.2.2.2.2.2) (hd : decode M.2.1 pc = .ok (.invokespecial index, 3)) (hn : pc + 3 = nx) : pm_ok T K cR D M pc (pms_oi nx) := by
  intro call cont hcall hcont L st h r h' hS
  unfold pms_oi at hS
  split at hS
  · next a t =>
    split at hS
    · next hcat =>
      refine pm_G.of_h rfl rfl (hcont _ _ _ _ _ _ hS) ?_
      intro p l0 e R s m args below meth c0 A H locs cells slots Q ad ls hC hP hl kk
      obtain ⟨he, hb, -, hml, ho, hts, -, -, -, hK, hfr, hlr, -⟩ := hC
      subst hn
      have hcat2 : ((t.map (pm_V ad)).map fun v => v.category).sum ≤ 8 := by
        rw [List.map_map]
        have e9 : ((fun v : Value => v.category) ∘ pm_V ad) = fun v : Value => v.category := funext fun v => pm_V_cat ad v
        rw [e9]
        exact hcat
      refine W.objInit he hb ho (hts _ hw1) (hts _ hw2) (hts _ hw3) rfl (by rw [hml]; exact hl.2.1) rfl hd (Nat.le_trans hf hfr) ?_ ?_
      · show 2 * 0 + ((t.map (pm_V ad)).map fun v => v.category).sum + 12 ≤ R.locals
        omega
      · exact kk H locs ls hP hl
    · cases hS
  · cases hS
end CALLS
