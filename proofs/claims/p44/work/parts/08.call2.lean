/-! calls and copies -/
section CALL2
variable {T : pm_T} {K : pm_K} {cR : Nat → ClassId} {D : va_G} {M : pm_I} {pc : Nat}
theorem pm_cat (ad : Nat → Nat) (t : List Value) : ((t.map (pm_V ad)).map fun v => v.category).sum = (t.map fun v => v.category).sum := by
  rw [List.map_map]
  have e9 : ((fun v : Value => v.category) ∘ pm_V ad) = fun v : Value => v.category := funext fun v => pm_V_cat ad v
  rw [e9]
theorem pm_take {n : Nat} {st : List Value} (h : n ≤ st.length) (ad : Nat → Nat) : (((st.take n).reverse).map (pm_V ad)).length = n := by
  simp only [List.length_map, List.length_reverse, List.length_take]
  omega
theorem pm_split {n : Nat} {st : List Value} (ad : Nat → Nat) : st.map (pm_V ad) = (((st.take n).reverse).map (pm_V ad)).reverse ++ (st.drop n).map (pm_V ad) := by
  rw [← List.map_reverse, List.reverse_reverse, ← List.map_append, List.take_append_drop]
theorem pm_blind {ad : Nat → Nat} {sz : Nat} {as : List Value} {h : pm_H} : FrameBlind (pm_Pc K cR D ad sz as h) := by
  intro a U g mk q
  obtain ⟨q1, q2, q3, q4, q5, q6, q7, q8, q9⟩ := q
  exact ⟨q1, q2, q3, va_K.moved (u := U) (U := U.calling g mk a) (Vm.Alike.refl U.vm) q4, q5, pm_k.moved (u := U) (U := U.calling g mk a) (Vm.Alike.refl U.vm) q6, q7, pm_N.same (u := U) (U := U.calling g mk a) rfl q8, pm_r.same (u := U) (U := U.calling g mk a) rfl q9⟩
theorem pm_free_in {ad : Nat → Nat} {h : pm_H} {A : Nat → Prop} {s : State} {H : Heap} {locs : List Loc} (hA : ∀ q : Nat, s.heap.size ≤ q → A q) (hP : pm_P K cR D ad h A s H locs) : ∀ q : Nat, va_A (pm_W cR ad 0 h) H.size q → A q := by
  intro q hq
  rcases hq with ⟨k, e, hk⟩ | hq
  · exact hP.2.1.2 k (q, e) hk
  · exact hA q (Nat.le_trans hP.2.2.1.1 hq)
theorem pm_pre {ad : Nat → Nat} {h : pm_H} {A : Nat → Prop} {s : State} {H : Heap} {locs : List Loc} {as : List Value} (hA : ∀ q : Nat, s.heap.size ≤ q → A q) (hK : va_K D pm_Cl (pm_ty cR) s) (hN : pm_N s) (hP : pm_P K cR D ad h A s H locs) : ∀ U : State, U.heap = H → s.WarmedH U.vm → pm_Pc K cR D ad H.size as h (as.map (pm_V ad)).toArray U := by
  intro U hU hW
  have hF := pm_free_in hA hP
  refine ⟨rfl, by rw [hU], by rw [hU]; exact hP.1, va_K.moved hW.alike hK, hP.2.1.weaken (fun _ _ _ _ => trivial), ?_, hP.2.2.2.2.1, hN.warm hW, hP.2.2.2.2.2.warm hW⟩
  rw [hU]
  exact ((hP.2.2.2.1.kept hP.2.2.1.2.1).narrow hF).moved hW.alike
/-- what comes behind a call -/
theorem pm_G.of_c {nx : Nat} {L : pm_L} {st rest as : List Value} {h h2 h' : pm_H} {r r2 : Option Value} (hm : h.length ≤ h2.length ∧ pm_zs h ≤ pm_zs h2) (hx : h2.length = h.length ∨ (pm_rL h.length h2.length L = true ∧ pm_rS h.length h2.length rest = true)) (hg : pm_G K cR D M nx L (r2.toList ++ rest) h2 r h') (hn : pc + 3 = nx)
    (ht : ∀ (p : Program) (l : Launch) (e : Env) (R : Room) (s : State) (m : MethodId) (args : Array Value) (below : List Frame) (meth : Method) (c : Code) (A : Nat → Prop) (H : Heap) (locs : List Loc) (cells slots : Nat) (ad : Nat → Nat) (ls : Array Slot),
      pm_C cR D M p R s m args meth c A → pm_P K cR D ad h A s H locs → pm_l ad M.2.2.1 ls L → cells + (h2.length - h.length) ≤ R.cells ∧ slots + (pm_zs h2 - pm_zs h) ≤ R.slots →
      ∃ ar : Array Value, va_Run p l e R s m args below meth c H locs cells slots (h2.length - h.length) (pm_zs h2 - pm_zs h) (F0 m pc ls (st.map (pm_V ad))) (rest.map (pm_V ad)) (pm_Qc cR D ad H.size h r2 h2 ar) (va_A (pm_W cR ad 0 h) H.size)) : pm_G K cR D M pc L st h r h' := by
  obtain ⟨⟨m1, m2⟩, hg⟩ := hg
  refine ⟨⟨by omega, by omega⟩, ?_⟩
  intro p l e R s m args below meth c A Q ad0 ad H locs ls cells slots n0 z0 hC hP hlo h1 h3 h4 h5 hX hQ
  have hF := pm_free_in hC.2.2.2.2.2.2.2.2.1 hP
  obtain ⟨ar, hrun⟩ := ht p l e R s m args below meth c A H locs cells slots ad ls hC hP hlo ⟨by omega, by omega⟩
  intro T0 hT0 X0
  obtain ⟨v, st₀, t, T', Lc, hh0, X', hL, e1, e2, ⟨ad', x1, hv, hP1, hD1, hFr, hle⟩, stp⟩ := hrun T0 hT0 X0
  cases hv
  have hsz : H.size ≤ t.heap.size := by rw [← hh0]; exact hFr.1
  have hP' : pm_P K cR D ad' h2 A s T'.heap (locs ++ Lc) := by
    refine ⟨by rw [e1]; exact hP1, hD1.weaken (fun _ q _ hq => hF q.1 hq), ⟨?_, ?_, ?_⟩, hP.2.2.2.1.ext x1 hle, hle, hP.2.2.2.2.2.ext x1 hle⟩
    · rw [e1]; exact Nat.le_trans hP.2.2.1.1 hsz
    · intro q q1 q2
      have hq : q < H.size := Nat.lt_of_lt_of_le q1 hP.2.2.1.1
      rw [e1, hFr.2 q (by rw [hh0]; exact hq) (fun z => q2 (hF q z)), hh0]
      exact hP.2.2.1.2.1 q q1 q2
    · intro q hq
      rcases List.mem_append.mp hq with z | z
      · exact hP.2.2.1.2.2 q z
      · exact hF _ (hL q z)
  have hall : h2.length = h.length → ad' = ad := fun z => funext fun k => x1 k (by omega)
  have hl' : pm_l ad' M.2.2.1 ls L := by
    rcases hx with z | z
    · rw [hall z]; exact hlo
    · exact hlo.ext x1 z.1
  have hr' : rest.map (pm_V ad') = rest.map (pm_V ad) := by
    rcases hx with z | z
    · rw [hall z]
    · exact pm_rS_of x1 z.2
  have k9 := hg p l e R s m args below meth c A Q ad0 ad' T'.heap (locs ++ Lc) ls (cells + (h2.length - h.length)) (slots + (pm_zs h2 - pm_zs h)) n0 z0 hC hP' hl' (by omega) (by omega) h4 h5 (hX.tr x1 (by omega) hm.1) hQ
  obtain ⟨t2, a1, b1⟩ := k9 T' rfl X'
  refine ⟨t2, stp t2 ?_, b1⟩
  subst hn
  have e3 : (r2.map (pm_V ad')).toList ++ rest.map (pm_V ad) = (r2.toList ++ rest).map (pm_V ad') := by
    rw [List.map_append, hr']
    cases r2 <;> rfl
  rw [e3]
  exact a1
theorem pm_back_of {cont : Nat → pm_L → List Value → pm_H → pm_R} {nx : Nat} {L : pm_L} {rest : List Value} {h h' : pm_H} {o : pm_R} {r : Option Value} (hb : pm_back cont nx L rest h o = some (r, h')) :
    ∃ (r2 : Option Value) (h2 : pm_H), o = some (r2, h2) ∧ (rest.map fun v => v.category).sum ≤ 8 ∧ (h2.length = h.length ∨ (pm_rL h.length h2.length L = true ∧ pm_rS h.length h2.length rest = true)) ∧ cont nx L (r2.toList ++ rest) h2 = some (r, h') := by
  unfold pm_back at hb
  split at hb
  · next r2 h2 =>
    split at hb
    · next hc => exact ⟨r2, h2, rfl, hc.1, hc.2, hb⟩
    · cases hb
  · cases hb
theorem pm_good {big : List Cond} (h : ∀ w ∈ big, w ∈ pm_w) : GoodIn pm_w big := fun w hw => ⟨h w hw, pm_w_good w (h w hw)⟩
/-- what a call of a method asks of its words and of the room -/
def pm_lk (M : pm_I) (t : MethodName × pm_I) (n : Nat) : Prop := Cond.code t.1 t.2.2.1 t.2.2.2.1 t.2.2.2.2.1 ∈ pm_w ∧ Cond.initialized t.1.cls ∈ pm_w ∧ (t.1.cls ≠ "java/lang/invoke/MethodHandle" ∧ t.1.cls ≠ "java/lang/invoke/VarHandle" ∧ (parseMethodDescriptor t.1.desc).map (fun d => d.parameters.length) = some n) ∧ t.2.2.2.2.2.2.1 + 1 ≤ M.2.2.2.2.2.1 ∧ 8 + (t.2.2.2.1 + 11) + t.2.2.2.2.2.2.2 ≤ M.2.2.2.2.2.2
theorem pm_ws_in {t : MethodName × pm_I} (h : Cond.code t.1 t.2.2.1 t.2.2.2.1 t.2.2.2.2.1 ∈ pm_w) : ∀ w ∈ pm_ws t, w ∈ pm_w := fun w hw => by
  rcases List.mem_cons.mp hw with rfl | z
  · exact h
  · exact z
theorem pmk_st {k n index nx : Nat} {t : MethodName × pm_I} (hT : T k = t) (hc : pm_lk M t n) (hw1 : Cond.methodLink M.1 index t.1 ∈ pm_w) (hw2 : Cond.static t.1 ∈ pm_w) (hd : decode M.2.1 pc = .ok (.invokestatic index, 3)) (hn : pc + 3 = nx) : pm_ok T K cR D M pc (pms_st k n nx) := by
  intro call cont hcall hcont L st h r h' hS
  unfold pms_st at hS
  split at hS
  · next hlen =>
    obtain ⟨r2, h2, ho, hcat, hx, hS⟩ := pm_back_of hS
    obtain ⟨hm, hM⟩ := hcall _ _ _ _ _ ho
    rw [hT] at hM
    refine pm_G.of_c (as := (st.take n).reverse) hm hx (hcont _ _ _ _ _ _ hS) hn ?_
    intro p l e R s m args below meth c A H locs cells slots ad ls hC hP hl hf
    obtain ⟨he, hb, -, hml, hown, hts, -, -, hA, hK, hfr, hlr, hN⟩ := hC
    obtain ⟨g1, g2, g3, g4, g5⟩ := hc
    have hG : GoodIn pm_w (va_wsS M.1 index t.1 (pm_ws t)) := pm_good (fun w hw => by
      simp only [va_wsS, List.mem_append, List.mem_cons, List.not_mem_nil, or_false] at hw
      rcases hw with (rfl | rfl | rfl) | hw
      · exact hw1
      · exact hw2
      · exact g2
      · exact pm_ws_in g1 w hw)
    exact ⟨_, va_runS (As := ((st.take n).reverse).map (pm_V ad)) ⟨he, hb, hml, hown, hts⟩ (hM l ad H.size) (va_cwS n hts hG rfl rfl rfl g3 ⟨Nat.le_trans g4 hfr, Nat.le_trans g5 hlr⟩) ⟨pm_blind, pm_pre hA hK hN hP⟩ rfl (pm_take hlen ad) hl.2.1 (pm_split ad) (lv_room (by rw [pm_cat]; exact hcat)) hd hf⟩
  · cases hS
theorem pmk_stN {k n index nx : Nat} {t : MethodName × pm_I} (hT : T k = t) (hc : pm_lk M t n) (hw1 : (M.1, index, t.1) ∈ pm_nM) (hw2 : Cond.static t.1 ∈ pm_w) (hd : decode M.2.1 pc = .ok (.invokestatic index, 3)) (hn : pc + 3 = nx) : pm_ok T K cR D M pc (pms_st k n nx) := by
  intro call cont hcall hcont L st h r h' hS
  unfold pms_st at hS
  split at hS
  · next hlen =>
    obtain ⟨r2, h2, ho, hcat, hx, hS⟩ := pm_back_of hS
    obtain ⟨hm, hM⟩ := hcall _ _ _ _ _ ho
    rw [hT] at hM
    refine pm_G.of_c (as := (st.take n).reverse) hm hx (hcont _ _ _ _ _ _ hS) hn ?_
    intro p l e R s m args below meth c A H locs cells slots ad ls hC hP hl hf
    obtain ⟨he, hb, -, hml, hown, hts, -, -, hA, hK, hfr, hlr, hN⟩ := hC
    obtain ⟨g1, g2, g3, g4, g5⟩ := hc
    exact ⟨_, va_runSN (As := ((st.take n).reverse).map (pm_V ad)) ⟨he, hb, hml, hown, hts⟩ (hM l ad H.size) ⟨va_cnB (host := "BlankRations") n hts (pm_good (pm_ws_in g1)) rfl rfl rfl (hN.1 (M.1, index, t.1) hw1) (hts _ g2) g3 ⟨Nat.le_trans g4 hfr, Nat.le_trans g5 hlr⟩, hts _ hw2, trivial⟩ ⟨pm_blind, pm_pre hA hK hN hP⟩ rfl (pm_take hlen ad) hl.2.1 (pm_split ad) (lv_room (by rw [pm_cat]; exact hcat)) hd hf⟩
  · cases hS
theorem pmk_vi {ci k n index nx : Nat} {t : MethodName × pm_I} {q : vw_C} (hT : T k = t) (hc : pm_lk M t n) (hci : pm_Cl[ci]? = some q) (hq : t.1.cls = q.1) (hw1 : Cond.methodLink M.1 index t.1 ∈ pm_w) (hw2 : Cond.instanceMethod t.1 ∈ pm_w) (hw3 : Cond.selects q.1 t.1 t.1 ∈ pm_w) (hd : decode M.2.1 pc = .ok (.invokevirtual index, 3)) (hn : pc + 3 = nx) : pm_ok T K cR D M pc (pms_vi ci k n nx) := by
  intro call cont hcall hcont L st h r h' hS
  unfold pms_vi at hS
  split at hS
  · next hlen =>
    split at hS
    · next b rest hdrop =>
      split at hS
      · next c9 fs hcell =>
        split at hS
        · next hc9 =>
          subst hc9
          obtain ⟨r2, h2, ho, hcat, hx, hS⟩ := pm_back_of hS
          obtain ⟨hm, hM⟩ := hcall _ _ _ _ _ ho
          rw [hT] at hM
          refine pm_G.of_c (as := .ref b :: (st.take n).reverse) hm hx (hcont _ _ _ _ _ _ hS) hn ?_
          intro p l e R s m args below meth c A H locs cells slots ad ls hC hP hl hf
          obtain ⟨he, hb, -, hml, hown, hts, -, -, hA, hK, hfr, hlr, hN⟩ := hC
          obtain ⟨g1, g2, g3, g4, g5⟩ := hc
          have hG : GoodIn pm_w (wsV M.1 index q.1 t.1 (pm_ws t)) := pm_good (fun w hw => by
            simp only [wsV, List.mem_append, List.mem_cons, List.not_mem_nil, or_false] at hw
            rcases hw with (rfl | rfl | rfl | rfl) | hw
            · exact hw1
            · exact hw2
            · exact hw3
            · rw [← hq]; exact g2
            · exact pm_ws_in g1 w hw)
          have hst : st.map (pm_V ad) = (((st.take n).reverse).map (pm_V ad)).reverse ++ .ref (ad b) :: rest.map (pm_V ad) := by
            rw [pm_split (n := n) ad, hdrop]; rfl
          exact ⟨_, va_runV (As := ((st.take n).reverse).map (pm_V ad)) (b := ad b) ⟨he, hb, hml, hown, hts⟩ (hM l ad H.size) (cwV n hts hG rfl rfl rfl ⟨hq, g3⟩ ⟨Nat.le_trans g4 hfr, Nat.le_trans g5 hlr⟩) ⟨pm_blind, va_recv hK hP.1 hci (pm_W_at hcell), pm_pre (as := .ref b :: (st.take n).reverse) hA hK hN hP⟩ rfl (pm_take hlen ad) hl.2.1 hst (lv_room (by rw [pm_cat]; exact hcat)) hd hf⟩
        · cases hS
      · cases hS
    · cases hS
  · cases hS
theorem pmk_ct {k n index nx : Nat} {t : MethodName × pm_I} (hT : T k = t) (hc : pm_lk M t n) (hret : t.2.2.2.2.1 = none) (hy : t.1.name = "<init>") (hw1 : Cond.methodLink M.1 index t.1 ∈ pm_w) (hw2 : Cond.instanceMethod t.1 ∈ pm_w) (hd : decode M.2.1 pc = .ok (.invokespecial index, 3)) (hn : pc + 3 = nx) : pm_ok T K cR D M pc (pms_ct k n nx) := by
  intro call cont hcall hcont L st h r h' hS
  unfold pms_ct at hS
  split at hS
  · next hlen =>
    split at hS
    · next b rest hdrop =>
      obtain ⟨r2, h2, ho, hcat, hx, hS⟩ := pm_back_of hS
      obtain ⟨hm, hM⟩ := hcall _ _ _ _ _ ho
      rw [hT] at hM
      refine pm_G.of_c (as := .ref b :: (st.take n).reverse) hm hx (hcont _ _ _ _ _ _ hS) hn ?_
      intro p l e R s m args below meth c A H locs cells slots ad ls hC hP hl hf
      obtain ⟨he, hb, -, hml, hown, hts, -, -, hA, hK, hfr, hlr, hN⟩ := hC
      obtain ⟨g1, g2, g3, g4, g5⟩ := hc
      have hst : st.map (pm_V ad) = (((st.take n).reverse).map (pm_V ad)).reverse ++ .ref (ad b) :: rest.map (pm_V ad) := by
        rw [pm_split (n := n) ad, hdrop]; rfl
      have hw : pm_ws t = Cond.code t.1 t.2.2.1 t.2.2.2.1 none :: pm_w := by rw [← hret]; rfl
      exact ⟨_, va_runI (As := ((st.take n).reverse).map (pm_V ad)) (b := ad b) ⟨he, hb, hml, hown, hts⟩ (hM l ad H.size) (cwI n hts (pm_good (pm_ws_in g1)) hw rfl rfl (hts _ g2) (hts _ hw1) (hts _ hw2) hy g3 ⟨Nat.le_trans g4 hfr, Nat.le_trans g5 hlr⟩) ⟨pm_blind, pm_pre (as := .ref b :: (st.take n).reverse) hA hK hN hP⟩ rfl (pm_take hlen ad) hl.2.1 hst (lv_room (by rw [pm_cat]; exact hcat)) hd hf⟩
    · cases hS
  · cases hS
theorem pmk_ctN {k n index nx : Nat} {t : MethodName × pm_I} (hT : T k = t) (hc : pm_lk M t n) (hret : t.2.2.2.2.1 = none) (hy : t.1.name = "<init>") (hw1 : (M.1, index, t.1) ∈ pm_nM) (hw2 : Cond.instanceMethod t.1 ∈ pm_w) (hd : decode M.2.1 pc = .ok (.invokespecial index, 3)) (hn : pc + 3 = nx) : pm_ok T K cR D M pc (pms_ct k n nx) := by
  intro call cont hcall hcont L st h r h' hS
  unfold pms_ct at hS
  split at hS
  · next hlen =>
    split at hS
    · next b rest hdrop =>
      obtain ⟨r2, h2, ho, hcat, hx, hS⟩ := pm_back_of hS
      obtain ⟨hm, hM⟩ := hcall _ _ _ _ _ ho
      rw [hT] at hM
      refine pm_G.of_c (as := .ref b :: (st.take n).reverse) hm hx (hcont _ _ _ _ _ _ hS) hn ?_
      intro p l e R s m args below meth c A H locs cells slots ad ls hC hP hl hf
      obtain ⟨he, hb, -, hml, hown, hts, -, -, hA, hK, hfr, hlr, hN⟩ := hC
      obtain ⟨g1, g2, g3, g4, g5⟩ := hc
      have hst : st.map (pm_V ad) = (((st.take n).reverse).map (pm_V ad)).reverse ++ .ref (ad b) :: rest.map (pm_V ad) := by
        rw [pm_split (n := n) ad, hdrop]; rfl
      have hw : pm_ws t = Cond.code t.1 t.2.2.1 t.2.2.2.1 none :: pm_w := by rw [← hret]; rfl
      exact ⟨_, va_runIN (As := ((st.take n).reverse).map (pm_V ad)) (b := ad b) ⟨he, hb, hml, hown, hts⟩ (hM l ad H.size) ⟨va_cnB (host := "BlankRations") n hts (pm_good (pm_ws_in g1)) hw rfl rfl (hN.1 (M.1, index, t.1) hw1) (hts _ g2) g3 ⟨Nat.le_trans g4 hfr, Nat.le_trans g5 hlr⟩, hy, hts _ hw2⟩ ⟨pm_blind, pm_pre (as := .ref b :: (st.take n).reverse) hA hK hN hP⟩ rfl (pm_take hlen ad) hl.2.1 hst (lv_room (by rw [pm_cat]; exact hcat)) hd hf⟩
    · cases hS
  · cases hS
end CALL2
