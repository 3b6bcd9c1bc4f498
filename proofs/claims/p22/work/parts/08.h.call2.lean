section CALL2
variable {T : pm_T} {K : pm_K} {cR : Nat → ClassId} {D : va_G} {M : pm_I} {pc : Nat}
theorem pmk_ct {k n index nx : Nat} {t : MethodName × pm_I} (hT : T k = t) (hc : pm_lk M t n) (hret : t.2.2.2.2.1 = none) (hy : t.1.name = "<init>") (hw1 : Cond.methodLink M.1 index t.1 ∈ pm_w) (hw2 : Cond.instanceMethod t.1 ∈ pm_w) (hd : decode M.2.1 pc = .ok (.invokespecial index, 3)) (hn : pc + 3 = nx) : pm_ok T K cR D M pc (pms_ct k n nx) := by
  intro call cont hcall hcont L st h r h' hS
  unfold pms_ct at hS
  split at hS
  · next hlen =>
    split at hS
    · next b rest hdrop =>
      obtain ⟨r2, h2, ho, hcat, hx, hS⟩ := pm_back_of hS
      obtain ⟨hm, hM⟩ := hcall _ _ _ _ _ ho
      rw [hT] at hM
      refine pm_G.of_c (as := .ref b :: (st.take n).reverse) hm hx (hcont _ _ _ _ _ _ hS) hn ?_
      intro p l e R s m args below meth c A H locs cells slots ad ls hC hP hl hf
      obtain ⟨he, hb, -, hml, hown, hts, -, -, hA, hK, hfr, hlr, hN⟩ := hC
      obtain ⟨g1, g2, g3, g4, g5⟩ := hc
      have hst : st.map (pm_V ad) = (((st.take n).reverse).map (pm_V ad)).reverse ++ .ref (ad b) :: rest.map (pm_V ad) := by
        rw [pm_split (n := n) ad, hdrop]; rfl
      have hw : pm_ws t = Cond.code t.1 t.2.2.1 t.2.2.2.1 none :: pm_w := by rw [← hret]; rfl
      exact ⟨_, va_runI (As := ((st.take n).reverse).map (pm_V ad)) (b := ad b) ⟨he, hb, hml, hown, hts⟩ (hM l ad H.size) (cwI n hts (pm_good (pm_ws_in g1)) hw rfl rfl (hts _ g2) (hts _ hw1) (hts _ hw2) hy g3 ⟨Nat.le_trans g4 hfr, Nat.le_trans g5 hlr⟩) ⟨pm_blind, pm_pre (as := .ref b :: (st.take n).reverse) hA hK hN hP⟩ rfl (pm_take hlen ad) hl.2.1 hst (lv_room (by rw [pm_cat]; exact hcat)) hd hf⟩
    · cases hS
  · cases hS
end CALL2
