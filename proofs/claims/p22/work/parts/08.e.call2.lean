section CALL2
variable {T : pm_T} {K : pm_K} {cR : Nat → ClassId} {D : va_G} {M : pm_I} {pc : Nat}
theorem pmk_st {k n index nx : Nat} {t : MethodName × pm_I} (hT : T k = t) (hc : pm_lk M t n) (hw1 : Cond.methodLink M.1 index t.1 ∈ pm_w) (hw2 : Cond.static t.1 ∈ pm_w) (hd : decode M.2.1 pc = .ok (.invokestatic index, 3)) (hn : pc + 3 = nx) : pm_ok T K cR D M pc (pms_st k n nx) := by
  intro call cont hcall hcont L st h r h' hS
  unfold pms_st at hS
  split at hS
  · next hlen =>
    obtain ⟨r2, h2, ho, hcat, hx, hS⟩ := pm_back_of hS
    obtain ⟨hm, hM⟩ := hcall _ _ _ _ _ ho
    rw [hT] at hM
    refine pm_G.of_c (as := (st.take n).reverse) hm hx (hcont _ _ _ _ _ _ hS) hn ?_
    intro p l e R s m args below meth c A H locs cells slots ad ls hC hP hl hf
    obtain ⟨he, hb, -, hml, hown, hts, -, -, hA, hK, hfr, hlr, hN⟩ := hC
    obtain ⟨g1, g2, g3, g4, g5⟩ := hc
    have hG : GoodIn pm_w (va_wsS M.1 index t.1 (pm_ws t)) := pm_good (fun w hw => by
      simp only [va_wsS, List.mem_append, List.mem_cons, List.not_mem_nil, or_false] at hw
      rcases hw with (rfl | rfl | rfl) | hw
      · exact hw1
      · exact hw2
      · exact g2
      · exact pm_ws_in g1 w hw)
    exact ⟨_, va_runS (As := ((st.take n).reverse).map (pm_V ad)) ⟨he, hb, hml, hown, hts⟩ (hM l ad H.size) (va_cwS n hts hG rfl rfl rfl g3 ⟨Nat.le_trans g4 hfr, Nat.le_trans g5 hlr⟩) ⟨pm_blind, pm_pre hA hK hN hP⟩ rfl (pm_take hlen ad) hl.2.1 (pm_split ad) (lv_room (by rw [pm_cat]; exact hcat)) hd hf⟩
  · cases hS
end CALL2
