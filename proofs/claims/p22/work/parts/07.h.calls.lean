section CALLS
variable {T : pm_T} {K : pm_K} {cR : Nat → ClassId} {D : va_G} {M : pm_I} {pc : Nat}
theorem pmk_ri (hr : M.2.2.2.1 = some .int) (hd : decode M.2.1 pc = .ok (.ireturn, 1)) : pm_ok T K cR D M pc pms_ri := by
  intro call cont hcall hcont L st h r h' hS
  unfold pms_ri at hS
  split at hS
  · cases hS
    exact ⟨⟨Nat.le_refl _, Nat.le_refl _⟩, fun p l e R s m args below meth c A Q ad0 ad H locs ls cells slots n0 z0 hC hP hl h1 h2 h3 h4 hX hQ => hQ pc ls ad H locs cells slots (by rw [hr]; rfl) hd hP h1 h2 hX⟩
  · cases hS
theorem pmk_rz (hr : M.2.2.2.1 = some .boolean) (hd : decode M.2.1 pc = .ok (.ireturn, 1)) : pm_ok T K cR D M pc pms_rz := by
  intro call cont hcall hcont L st h r h' hS
  unfold pms_rz at hS
  split at hS
  · next x =>
    split at hS
    · next hx =>
      cases hS
      exact ⟨⟨Nat.le_refl _, Nat.le_refl _⟩, fun p l e R s m args below meth c A Q ad0 ad H locs ls cells slots n0 z0 hC hP hl h1 h2 h3 h4 hX hQ => hQ pc ls ad H locs cells slots (by rw [hr]; exact hx) hd hP h1 h2 hX⟩
    · cases hS
  · cases hS
theorem pmk_rl (hr : M.2.2.2.1 = some .long) (hd : decode M.2.1 pc = .ok (.lreturn, 1)) : pm_ok T K cR D M pc pms_rl := by
  intro call cont hcall hcont L st h r h' hS
  unfold pms_rl at hS
  split at hS
  · cases hS
    exact ⟨⟨Nat.le_refl _, Nat.le_refl _⟩, fun p l e R s m args below meth c A Q ad0 ad H locs ls cells slots n0 z0 hC hP hl h1 h2 h3 h4 hX hQ => hQ pc ls ad H locs cells slots (by rw [hr]; rfl) hd hP h1 h2 hX⟩
  · cases hS
theorem pmk_ra {C : String} (hr : M.2.2.2.1 = some (.object C)) (hd : decode M.2.1 pc = .ok (.areturn, 1)) : pm_ok T K cR D M pc pms_ra := by
  intro call cont hcall hcont L st h r h' hS
  unfold pms_ra at hS
  split at hS
  · cases hS
    exact ⟨⟨Nat.le_refl _, Nat.le_refl _⟩, fun p l e R s m args below meth c A Q ad0 ad H locs ls cells slots n0 z0 hC hP hl h1 h2 h3 h4 hX hQ => hQ pc ls ad H locs cells slots (by rw [hr]; rfl) hd hP h1 h2 hX⟩
  · cases hS
theorem pmk_rv (hr : M.2.2.2.1 = none) (hd : decode M.2.1 pc = .ok (.return_, 1)) : pm_ok T K cR D M pc pms_rv := by
  intro call cont hcall hcont L st h r h' hS
  unfold pms_rv at hS
  split at hS
  · cases hS
    exact ⟨⟨Nat.le_refl _, Nat.le_refl _⟩, fun p l e R s m args below meth c A Q ad0 ad H locs ls cells slots n0 z0 hC hP hl h1 h2 h3 h4 hX hQ => hQ pc ls ad H locs cells slots (by rw [hr]; rfl) hd hP h1 h2 hX⟩
  · cases hS
end CALLS
