section CALL2
variable {T : pm_T} {K : pm_K} {cR : Nat → ClassId} {D : va_G} {M : pm_I} {pc : Nat}
theorem pmk_stN {k n index nx : Nat} {t : MethodName × pm_I} (hT : T k = t) (hc : pm_lk M t n) (hw1 : (M.1, index, t.1) ∈ pm_nM) (hw2 : Cond.static t.1 ∈ pm_w) (hd : decode M.2.1 pc = .ok (.invokestatic index, 3)) (hn : pc + 3 = nx) : pm_ok T K cR D M pc (pms_st k n nx) := by
  intro call cont hcall hcont L st h r h' hS
  unfold pms_st at hS
  split at hS
  · next hlen =>
    obtain ⟨r2, h2, ho, hcat, hx, hS⟩ := pm_back_of hS
    obtain ⟨hm, hM⟩ := hcall _ _ _ _ _ ho
    rw [hT] at hM
    refine pm_G.of_c (as := (st.take n).reverse) hm hx (hcont _ _ _ _ _ _ hS) hn ?_
    intro p l e R s m args below meth c A H locs cells slots ad ls hC hP hl hf
    obtain ⟨he, hb, -, hml, hown, hts, -, -, hA, hK, hfr, hlr, hN⟩ := hC
    obtain ⟨g1, g2, g3, g4, g5⟩ := hc
    exact ⟨_, va_runSN (As := ((st.take n).reverse).map (pm_V ad)) ⟨he, hb, hml, hown, hts⟩ (hM l ad H.size) ⟨va_cnB (host := "BlankRations") n hts (pm_good (pm_ws_in g1)) rfl rfl rfl (hN.1 _ hw1) (hts _ g2) g3 ⟨Nat.le_trans g4 hfr, Nat.le_trans g5 hlr⟩, hts _ hw2, trivial⟩ ⟨pm_blind, pm_pre hA hK hN hP⟩ rfl (pm_take hlen ad) hl.2.1 (pm_split ad) (lv_room (by rw [pm_cat]; exact hcat)) hd hf⟩
  · cases hS
end CALL2
