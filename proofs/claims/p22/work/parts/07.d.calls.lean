section CALLS
variable {T : pm_T} {K : pm_K} {cR : Nat → ClassId} {D : va_G} {M : pm_I} {pc : Nat}
theorem pmk_nw {ci index nx N : Nat} {fs : List Value} {C : String} {T0 : u_T} {ty0 : Nat → FieldType} (hc : pm_Cl[ci]? = some (C, T0, N)) (hin : ∀ w ∈ u_ws C T0 N, w ∈ pm_w) (hty : ∀ k, k < N → parseFieldDescriptor (T0 k).2.2.1 = some (ty0 k)) (hfs : ∀ j, j < N → defaultValue (ty0 j) = vp_V fs j) (hN : fs.length = N) (hfV : ∀ ad : Nat → Nat, fs.map (pm_V ad) = fs) (hfr : ∀ n : Nat, pm_rS n (n + 1) fs = true)
    (hw1 : Cond.classLink M.1 index C ∈ pm_w) (hw2 : Cond.instantiable C N ∈ pm_w) (hw3 : Cond.initialized C ∈ pm_w) (hd : decode M.2.1 pc = .ok (.new index, 3)) (hn : pc + 3 = nx) : pm_ok T K cR D M pc (pms_nw ci fs nx) := by
  intro call cont hcall hcont L st h r h' hS
  unfold pms_nw at hS
  split at hS
  · next hfree =>
    refine pm_G.of_n hfree (e0 := pm_ob ci fs) (hfr _) (hcont _ _ _ _ _ _ hS) ?_
    intro p l0 e R s m args below meth c0 A H locs cells slots Q ad ls hC hP hl hcl hsl kk
    obtain ⟨he, hb, -, -, ho, hts, -, -, hA, hK, -⟩ := hC
    subst hn
    have hz : pm_z (pm_ob ci fs) = N := hN
    rw [hz] at hsl kk
    have e1 : pm_e cR ad (pm_ob ci fs) = .inr (ci, fs) := by simp only [pm_e, hfV ad]
    rw [e1] at kk
    exact va_new he hb hts hin ty0 hty ho (hts _ hw1) (hts _ hw2) (hts _ hw3) hK hP.1 hP.2.1 hP.2.2.1 hA hc hfs hcl hsl hd (fun q H1 g1 g2 g3 => kk q H1 g1 g2 g3)
  · cases hS
end CALLS
