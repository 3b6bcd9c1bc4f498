section CALL2
variable {T : pm_T} {K : pm_K} {cR : Nat → ClassId} {D : va_G} {M : pm_I} {pc : Nat}
theorem pmk_vi {ci k n index nx : Nat} {t : MethodName × pm_I} {q : vw_C} (hT : T k = t) (hc : pm_lk M t n) (hci : pm_Cl[ci]? = some q) (hq : t.1.cls = q.1) (hw1 : Cond.methodLink M.1 index t.1 ∈ pm_w) (hw2 : Cond.instanceMethod t.1 ∈ pm_w) (hw3 : Cond.selects q.1 t.1 t.1 ∈ pm_w) (hd : decode M.2.1 pc = .ok (.invokevirtual index, 3)) (hn : pc + 3 = nx) : pm_ok T K cR D M pc (pms_vi ci k n nx) := by
  intro call cont hcall hcont L st h r h' hS
  unfold pms_vi at hS
  split at hS
  · next hlen =>
    split at hS
    · next b rest hdrop =>
      split at hS
      · next c9 fs hcell =>
        split at hS
        · next hc9 =>
          subst hc9
          obtain ⟨r2, h2, ho, hcat, hx, hS⟩ := pm_back_of hS
          obtain ⟨hm, hM⟩ := hcall _ _ _ _ _ ho
          rw [hT] at hM
          refine pm_G.of_c (as := .ref b :: (st.take n).reverse) hm hx (hcont _ _ _ _ _ _ hS) hn ?_
          intro p l e R s m args below meth c A H locs cells slots ad ls hC hP hl hf
          obtain ⟨he, hb, -, hml, hown, hts, -, -, hA, hK, hfr, hlr, hN⟩ := hC
          obtain ⟨g1, g2, g3, g4, g5⟩ := hc
          have hG : GoodIn pm_w (wsV M.1 index q.1 t.1 (pm_ws t)) := pm_good (fun w hw => by
            simp only [wsV, List.mem_append, List.mem_cons, List.not_mem_nil, or_false] at hw
            rcases hw with (rfl | rfl | rfl | rfl) | hw
            · exact hw1
            · exact hw2
            · exact hw3
            · rw [← hq]; exact g2
            · exact pm_ws_in g1 w hw)
          have hst : st.map (pm_V ad) = (((st.take n).reverse).map (pm_V ad)).reverse ++ .ref (ad b) :: rest.map (pm_V ad) := by
            rw [pm_split (n := n) ad, hdrop]; rfl
          exact ⟨_, va_runV (As := ((st.take n).reverse).map (pm_V ad)) (b := ad b) ⟨he, hb, hml, hown, hts⟩ (hM l ad H.size) (cwV n hts hG rfl rfl rfl ⟨hq, g3⟩ ⟨Nat.le_trans g4 hfr, Nat.le_trans g5 hlr⟩) ⟨pm_blind, va_recv hK hP.1 hci (pm_W_at hcell), pm_pre (as := .ref b :: (st.take n).reverse) hA hK hN hP⟩ rfl (pm_take hlen ad) hl.2.1 hst (lv_room (by rw [pm_cat]; exact hcat)) hd hf⟩
        · cases hS
      · cases hS
    · cases hS
  · cases hS
end CALL2
