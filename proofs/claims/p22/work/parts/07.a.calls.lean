section CALLS
variable {T : pm_T} {K : pm_K} {cR : Nat → ClassId} {D : va_G} {M : pm_I} {pc : Nat}
theorem pm_dom (a : Nat) (h : pm_B ≤ a ∧ a < pm_B + 3) : ∃ j : Nat, j < 3 ∧ a = pm_B + j := ⟨a - pm_B, by omega, by omega⟩
theorem pmk_len {nx : Nat} (hd : decode M.2.1 pc = .ok (.arraylength, 1)) (hn : pc + 1 = nx) : pm_ok T K cR D M pc (pms_len nx) := by
  intro call cont hcall hcont L st h r h' hS
  unfold pms_len at hS
  split at hS
  · next a t =>
    split at hS
    · next n hlen =>
      refine pm_G.of_h rfl rfl (hcont _ _ _ _ _ _ hS) ?_
      intro p l0 e R s m args below meth c0 A H locs cells slots Q ad ls hC hP hl kk
      obtain ⟨he, hb, -, -, ho, hts, -, -, -, hK, -⟩ := hC
      subst hn
      have k9 := kk H locs ls hP hl
      unfold pm_len at hlen
      split at hlen
      · next l hcell => cases hlen; exact va_alen he hb hK hP.1 a 0 (pm_W_at hcell) rfl rfl hd k9
      · next l hcell => cases hlen; exact va_alen he hb hK hP.1 a 1 (pm_W_at hcell) rfl rfl hd k9
      · next l hcell => cases hlen; exact va_alen he hb hK hP.1 a 2 (pm_W_at hcell) rfl rfl hd k9
      · next l hcell => cases hlen; exact va_alen he hb hK hP.1 a 3 (pm_W_at hcell) rfl rfl hd k9
      · cases hlen
      · split at hlen
        · next hbd =>
          obtain ⟨j, hj, ea⟩ := pm_dom a hbd
          subst ea
          rw [Nat.add_sub_cancel_left] at hlen
          obtain ⟨l, hl1, hl2⟩ := Option.map_eq_some_iff.mp hlen
          subst hl2
          exact va_tlen he hb (hP.2.2.2.1.1 j l hj hl1) hP.2.2.1 rfl hd k9
        · cases hlen
    · cases hS
  · cases hS
theorem pmk_gsM {index nx : Nat} (hw : Cond.fieldLink M.1 index "BlankRations" "LAW_MOST" "[I" ∈ pm_w) (hd : decode M.2.1 pc = .ok (.getstatic index, 3)) (hn : pc + 3 = nx) : pm_ok T K cR D M pc (pms_gs 1 nx) := by
  intro call cont hcall hcont L st h r h' hS
  refine pm_G.of_h rfl rfl (hcont _ _ _ _ _ _ hS) ?_
  intro p l0 e R s m args below meth c0 A H locs cells slots Q ad ls hC hP hl kk
  obtain ⟨he, hb, -, -, ho, hts, -, -, -, hK, -⟩ := hC
  subst hn
  exact va_gets he hb hP.2.2.2.1.2.1 hP.2.2.1 ho (hts _ hw) (fun x h9 => h9) hd (kk H locs ls hP hl)
theorem pmk_gsF {index nx : Nat} (hw : Cond.fieldLink M.1 index "BlankRations" "LAW_FIRST" "[I" ∈ pm_w) (hd : decode M.2.1 pc = .ok (.getstatic index, 3)) (hn : pc + 3 = nx) : pm_ok T K cR D M pc (pms_gs 2 nx) := by
  intro call cont hcall hcont L st h r h' hS
  refine pm_G.of_h rfl rfl (hcont _ _ _ _ _ _ hS) ?_
  intro p l0 e R s m args below meth c0 A H locs cells slots Q ad ls hC hP hl kk
  obtain ⟨he, hb, -, -, ho, hts, -, -, -, hK, -⟩ := hC
  subst hn
  exact va_gets he hb hP.2.2.2.1.2.2.1 hP.2.2.1 ho (hts _ hw) (fun x h9 => h9) hd (kk H locs ls hP hl)
theorem pmk_gsMN {index nx : Nat} (hw : (M.1, index, "BlankRations", "LAW_MOST", "[I") ∈ pm_nF) (hd : decode M.2.1 pc = .ok (.getstatic index, 3)) (hn : pc + 3 = nx) : pm_ok T K cR D M pc (pms_gs 1 nx) := by
  intro call cont hcall hcont L st h r h' hS
  refine pm_G.of_h rfl rfl (hcont _ _ _ _ _ _ hS) ?_
  intro p l0 e R s m args below meth c0 A H locs cells slots Q ad ls hC hP hl kk
  obtain ⟨he, hb, -, -, ho, hts, -, -, -, hK, -, -, hN⟩ := hC
  subst hn
  exact va_getsN he hb hP.2.2.2.1.2.1 hP.2.2.1 ho (va_Nw.use rfl (hN.2.1 _ hw)) (fun x h9 => h9) hd (kk H locs ls hP hl)
theorem pmk_gsFN {index nx : Nat} (hw : (M.1, index, "BlankRations", "LAW_FIRST", "[I") ∈ pm_nF) (hd : decode M.2.1 pc = .ok (.getstatic index, 3)) (hn : pc + 3 = nx) : pm_ok T K cR D M pc (pms_gs 2 nx) := by
  intro call cont hcall hcont L st h r h' hS
  refine pm_G.of_h rfl rfl (hcont _ _ _ _ _ _ hS) ?_
  intro p l0 e R s m args below meth c0 A H locs cells slots Q ad ls hC hP hl kk
  obtain ⟨he, hb, -, -, ho, hts, -, -, -, hK, -, -, hN⟩ := hC
  subst hn
  exact va_getsN he hb hP.2.2.2.1.2.2.1 hP.2.2.1 ho (va_Nw.use rfl (hN.2.1 _ hw)) (fun x h9 => h9) hd (kk H locs ls hP hl)
end CALLS
