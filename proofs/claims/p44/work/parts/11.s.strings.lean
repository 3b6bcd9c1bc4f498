/-! the words of the class: String constants -/
def pms_lds (i nx : Nat) : pm_S := fun _ _ cont L st h => cont nx L (.ref (pm_B + 100 + i) :: st) h
/-- a String constant's own cells: its row of letters, its coder -/
def pms_sgv (nx : Nat) : pm_S := fun _ _ cont L st h => match st with
  | .ref q :: t => if pm_B + 100 ≤ q ∧ q < pm_B + 114 then cont nx L (.ref (q + 100) :: t) h else none
  | _ => none
def pms_sgc (nx : Nat) : pm_S := fun _ _ cont L st h => match st with
  | .ref q :: t => if pm_B + 100 ≤ q ∧ q < pm_B + 114 then cont nx L (.int 0 :: t) h else none
  | _ => none
def pms_gc (nx : Nat) : pm_S := fun _ _ cont L st h => cont nx L (.int 1 :: st) h
section STRS
variable {T : pm_T} {K : pm_K} {cR : Nat → ClassId} {D : va_G} {M : pm_I} {pc nx : Nat}
theorem pmk_lds {i index : Nat} (hi : i < 14) (hx : pm_si.getD i 0 = index) (hM : M.1 = RX4) (hd : decode M.2.1 pc = .ok (.ldc index, 2)) (hn : pc + 2 = nx) : pm_ok T K cR D M pc (pms_lds i nx) := by
  intro call cont hcall hcont L st h r h' hS
  refine pm_G.of_h rfl rfl (hcont _ _ _ _ _ _ hS) ?_
  intro p l0 e R s m args below meth c0 A H locs cells slots Q ad ls hC hP hl kk
  obtain ⟨he, hb, -, -, ho, hts, -, -, -, hK, -⟩ := hC
  subst hn
  have hr := hP.2.2.2.2.2 i hi
  rw [hx] at hr
  exact va_ldcS he hb (own := RX4) (by rw [← hM]; exact ho) hr hd (kk H locs ls hP hl)
theorem pmk_gc {index : Nat} (hw : Cond.fieldLink M.1 index "java/lang/String" "COMPACT_STRINGS" "Z" ∈ pm_w) (hd : decode M.2.1 pc = .ok (.getstatic index, 3)) (hn : pc + 3 = nx) : pm_ok T K cR D M pc (pms_gc nx) := by
  intro call cont hcall hcont L st h r h' hS
  refine pm_G.of_h rfl rfl (hcont _ _ _ _ _ _ hS) ?_
  intro p l0 e R s m args below meth c0 A H locs cells slots Q ad ls hC hP hl kk
  obtain ⟨he, hb, -, -, ho, hts, -, -, -, hK, -⟩ := hC
  subst hn
  exact va_gets he hb hP.2.2.2.1.2.2.2.2.1 hP.2.2.1 ho (hts _ hw) (fun x h9 => h9) hd (kk H locs ls hP hl)
theorem pmk_sgv {index : Nat} (hw : Cond.fieldLink M.1 index "java/lang/String" "value" "[B" ∈ pm_w) (hd : decode M.2.1 pc = .ok (.getfield index, 3)) (hn : pc + 3 = nx) : pm_ok T K cR D M pc (pms_sgv nx) := by
  intro call cont hcall hcont L st h r h' hS
  unfold pms_sgv at hS
  split at hS
  · next q t =>
    split at hS
    · next hq =>
      refine pm_G.of_h rfl rfl (hcont _ _ _ _ _ _ hS) ?_
      intro p l0 e R s m args below meth c0 A H locs cells slots Q ad ls hC hP hl kk
      obtain ⟨he, hb, -, -, ho, hts, -, -, -, hK, -⟩ := hC
      subst hn
      obtain ⟨i, rfl⟩ := Nat.exists_eq_add_of_le hq.1
      have hi : i < 14 := Nat.lt_of_add_lt_add_left (show pm_B + 100 + i < pm_B + 100 + 14 from hq.2)
      have hv := (hP.2.2.2.1.2.2.2.1.1 i hi).2.2.1
      rw [show pm_B + 100 + i + 100 = pm_B + 200 + i from Nat.add_right_comm (pm_B + 100) i 100] at kk
      exact vk_getf he hb hv hP.2.2.1 ho (hts _ hw) (fun x h9 => h9) hd (kk H locs ls hP hl)
    · cases hS
  · cases hS
theorem pmk_sgc {index : Nat} (hw : Cond.fieldLink M.1 index "java/lang/String" "coder" "B" ∈ pm_w) (hd : decode M.2.1 pc = .ok (.getfield index, 3)) (hn : pc + 3 = nx) : pm_ok T K cR D M pc (pms_sgc nx) := by
  intro call cont hcall hcont L st h r h' hS
  unfold pms_sgc at hS
  split at hS
  · next q t =>
    split at hS
    · next hq =>
      refine pm_G.of_h rfl rfl (hcont _ _ _ _ _ _ hS) ?_
      intro p l0 e R s m args below meth c0 A H locs cells slots Q ad ls hC hP hl kk
      obtain ⟨he, hb, -, -, ho, hts, -, -, -, hK, -⟩ := hC
      subst hn
      obtain ⟨i, rfl⟩ := Nat.exists_eq_add_of_le hq.1
      have hi : i < 14 := Nat.lt_of_add_lt_add_left (show pm_B + 100 + i < pm_B + 100 + 14 from hq.2)
      have hv := (hP.2.2.2.1.2.2.2.1.1 i hi).2.1
      exact vk_getf he hb hv hP.2.2.1 ho (hts _ hw) (fun x h9 => h9) hd (kk H locs ls hP hl)
    · cases hS
  · cases hS
end STRS
section STRS2
variable {T : pm_T} {K : pm_K} {cR : Nat → ClassId} {D : va_G} {M : pm_I} {pc nx : Nat}
end STRS2
/-- a String's row of letters: its length, its letters -/
def pms_bl (nx : Nat) : pm_S := fun _ _ cont L st h => match st with
  | .ref q :: t => if pm_B + 200 ≤ q ∧ q < pm_B + 214 then cont nx L (.int (Int32.ofNat (pm_sl.getD (Nat.sub q (pm_B + 200)) 0)) :: t) h else none
  | _ => none
def pms_bb (nx : Nat) : pm_S := fun _ _ cont L st h => match st with
  | .int i :: .ref q :: t => if (pm_B + 200 ≤ q ∧ q < pm_B + 214) ∧ ¬ i < 0 ∧ i.toNatClampNeg < pm_sl.getD (Nat.sub q (pm_B + 200)) 0 then cont nx L (.int ((pm_sb.getD (Nat.sub q (pm_B + 200)) []).getD i.toNatClampNeg 0) :: t) h else none
  | _ => none
section STRS3
variable {T : pm_T} {K : pm_K} {cR : Nat → ClassId} {D : va_G} {M : pm_I} {pc nx : Nat}
theorem pmk_bl (hd : decode M.2.1 pc = .ok (.arraylength, 1)) (hn : pc + 1 = nx) : pm_ok T K cR D M pc (pms_bl nx) := by
  intro call cont hcall hcont L st h r h' hS
  unfold pms_bl at hS
  split at hS
  · next q t =>
    split at hS
    · next hq =>
      refine pm_G.of_h rfl rfl (hcont _ _ _ _ _ _ hS) ?_
      intro p l0 e R s m args below meth c0 A H locs cells slots Q ad ls hC hP hl kk
      obtain ⟨he, hb, -, -, ho, hts, -, -, -, hK, -⟩ := hC
      subst hn
      obtain ⟨i, rfl⟩ := Nat.exists_eq_add_of_le hq.1
      have hi : i < 14 := Nat.lt_of_add_lt_add_left (show pm_B + 200 + i < pm_B + 200 + 14 from hq.2)
      have e1 : Nat.sub (pm_B + 200 + i) (pm_B + 200) = i := Nat.add_sub_cancel_left _ _
      rw [e1] at kk
      have hv := (hP.2.2.2.1.2.2.2.1.1 i hi).2.2.2
      exact va_tlen he hb hv hP.2.2.1 rfl hd (kk H locs ls hP hl)
    · cases hS
  · cases hS
theorem pmk_bb (hd : decode M.2.1 pc = .ok (.baload, 1)) (hn : pc + 1 = nx) : pm_ok T K cR D M pc (pms_bb nx) := by
  intro call cont hcall hcont L st h r h' hS
  unfold pms_bb at hS
  split at hS
  · next i q t =>
    split at hS
    · next hq =>
      refine pm_G.of_h rfl rfl (hcont _ _ _ _ _ _ hS) ?_
      intro p l0 e R s m args below meth c0 A H locs cells slots Q ad ls hC hP hl kk
      obtain ⟨he, hb, -, -, ho, hts, -, -, -, hK, -⟩ := hC
      subst hn
      obtain ⟨hq, h0, h1⟩ := hq
      obtain ⟨j, rfl⟩ := Nat.exists_eq_add_of_le hq.1
      have hi : j < 14 := Nat.lt_of_add_lt_add_left (show pm_B + 200 + j < pm_B + 200 + 14 from hq.2)
      have e1 : Nat.sub (pm_B + 200 + j) (pm_B + 200) = j := Nat.add_sub_cancel_left _ _
      rw [e1] at kk h1
      have hv := (hP.2.2.2.1.2.2.2.1.1 j hi).2.2.2
      exact va_tb he hb hv hP.2.2.1 (pm_in h0 h1) rfl hd (kk H locs ls hP hl)
    · cases hS
  · cases hS
end STRS3
/-- a call on a String constant -/
def pms_vs (k n nx : Nat) : pm_S := fun _ call cont L st h =>
  if n ≤ st.length then (match st.drop n with
    | .ref b :: rest => if pm_B + 100 ≤ b ∧ b < pm_B + 114 then pm_back cont nx L rest h (call k (.ref b :: (st.take n).reverse) h) else none
    | _ => none) else none
section STRS4
variable {T : pm_T} {K : pm_K} {cR : Nat → ClassId} {D : va_G} {M : pm_I} {pc : Nat}
theorem pmk_vs {k n index nx : Nat} {t : MethodName × pm_I} (hT : T k = t) (hc : pm_lk M t n) (hq : t.1.cls = "java/lang/String") (hw1 : Cond.methodLink M.1 index t.1 ∈ pm_w) (hw2 : Cond.instanceMethod t.1 ∈ pm_w) (hw3 : Cond.selects "java/lang/String" t.1 t.1 ∈ pm_w) (hd : decode M.2.1 pc = .ok (.invokevirtual index, 3)) (hn : pc + 3 = nx) : pm_ok T K cR D M pc (pms_vs k n nx) := by
  intro call cont hcall hcont L st h r h' hS
  unfold pms_vs at hS
  split at hS
  · next hlen =>
    split at hS
    · next b rest hdrop =>
      split at hS
      · next hq9 =>
        obtain ⟨j, rfl⟩ := Nat.exists_eq_add_of_le hq9.1
        have hi : j < 14 := Nat.lt_of_add_lt_add_left (show pm_B + 100 + j < pm_B + 100 + 14 from hq9.2)
        obtain ⟨r2, h2, ho, hcat, hx, hS⟩ := pm_back_of hS
        obtain ⟨hm, hM⟩ := hcall _ _ _ _ _ ho
        rw [hT] at hM
        refine pm_G.of_c (as := .ref (pm_B + 100 + j) :: (st.take n).reverse) hm hx (hcont _ _ _ _ _ _ hS) hn ?_
        intro p l e R s m args below meth c A H locs cells slots ad ls hC hP hl hf
        obtain ⟨he, hb, -, hml, hown, hts, -, -, hA, hK, hfr, hlr, hN⟩ := hC
        obtain ⟨g1, g2, g3, g4, g5⟩ := hc
        have hG : GoodIn pm_w (wsV M.1 index "java/lang/String" t.1 (pm_ws t)) := pm_good (fun w hw => by
          simp only [wsV, List.mem_append, List.mem_cons, List.not_mem_nil, or_false] at hw
          rcases hw with (rfl | rfl | rfl | rfl) | hw
          · exact hw1
          · exact hw2
          · exact hw3
          · rw [← hq]; exact g2
          · exact pm_ws_in g1 w hw)
        have hst : st.map (pm_V ad) = (((st.take n).reverse).map (pm_V ad)).reverse ++ .ref (ad (pm_B + 100 + j)) :: rest.map (pm_V ad) := by
          rw [pm_split (n := n) ad, hdrop]; rfl
        exact ⟨_, va_runV (As := ((st.take n).reverse).map (pm_V ad)) (b := ad (pm_B + 100 + j)) ⟨he, hb, hml, hown, hts⟩ (hM l ad H.size) (cwV n hts hG rfl rfl rfl ⟨hq, g3⟩ ⟨Nat.le_trans g4 hfr, Nat.le_trans g5 hlr⟩) ⟨pm_blind, vk_recv (adK := fun i => ad (pm_B + 100 + i)) (i := j) hP.2.2.2.1.2.2.2.1 hi hP.2.2.1, pm_pre (as := .ref (pm_B + 100 + j) :: (st.take n).reverse) hA hK hN hP⟩ rfl (pm_take hlen ad) hl.2.1 hst (lv_room (by rw [pm_cat]; exact hcat)) hd hf⟩
      · cases hS
    · cases hS
  · cases hS
end STRS4
/-- answers of type char and byte -/
def pms_rc : pm_S := fun _ _ _ _ st h => match st with
  | [.int x] => if (x.toUInt32 % 65536).toInt32 = x then some (some (.int x), h) else none
  | _ => none
def pms_rb : pm_S := fun _ _ _ _ st h => match st with
  | [.int x] => if x.toInt8.toInt32 = x then some (some (.int x), h) else none
  | _ => none
def pmf_i2c (x : Int32) : Int32 := (x.toUInt32 % 65536).toInt32
section STRS5
variable {T : pm_T} {K : pm_K} {cR : Nat → ClassId} {D : va_G} {M : pm_I} {pc nx : Nat}
theorem pmk_rc (hr : M.2.2.2.1 = some .char) (hd : decode M.2.1 pc = .ok (.ireturn, 1)) : pm_ok T K cR D M pc pms_rc := by
  intro call cont hcall hcont L st h r h' hS
  unfold pms_rc at hS
  split at hS
  · next x =>
    split at hS
    · next hx =>
      cases hS
      exact ⟨⟨Nat.le_refl _, Nat.le_refl _⟩, fun p l e R s m args below meth c A Q ad0 ad H locs ls cells slots n0 z0 hC hP hl h1 h2 h3 h4 hX hQ => hQ pc ls ad H locs cells slots (by rw [hr]; exact decide_eq_true hx) hd hP h1 h2 hX⟩
    · cases hS
  · cases hS
theorem pmk_rb (hr : M.2.2.2.1 = some .byte) (hd : decode M.2.1 pc = .ok (.ireturn, 1)) : pm_ok T K cR D M pc pms_rb := by
  intro call cont hcall hcont L st h r h' hS
  unfold pms_rb at hS
  split at hS
  · next x =>
    split at hS
    · next hx =>
      cases hS
      exact ⟨⟨Nat.le_refl _, Nat.le_refl _⟩, fun p l e R s m args below meth c A Q ad0 ad H locs ls cells slots n0 z0 hC hP hl h1 h2 h3 h4 hX hQ => hQ pc ls ad H locs cells slots (by rw [hr]; exact decide_eq_true hx) hd hP h1 h2 hX⟩
    · cases hS
  · cases hS
theorem pmk_i2c (hd : decode M.2.1 pc = .ok (.i2c, 1)) (hn : pc + 1 = nx) : pm_ok T K cR D M pc (pms_u pmf_i2c nx) := pmk_u (fun x st L p l e R s m args below meth c H locs cells slots Q ad ls he hb ho hts hl kk => by subst hn; exact lv_i2c he hb hd rfl (kk ls hl))
end STRS5
def eqE : pm_E → pm_E → Bool
  | .inl a, .inl b => decide (a = b)
  | .inr (.inl a), .inr (.inl b) => decide (a = b)
  | .inr (.inr (.inl a)), .inr (.inr (.inl b)) => decide (a = b)
  | .inr (.inr (.inr a)), .inr (.inr (.inr b)) => decide (a = b)
  | _, _ => false
theorem eqE_of {a b : pm_E} (h : eqE a b = true) : a = b := by
  unfold eqE at h
  split at h
  · rw [of_decide_eq_true h]
  · rw [of_decide_eq_true h]
  · rw [of_decide_eq_true h]
  · rw [of_decide_eq_true h]
  · cases h
def eqH : pm_H → pm_H → Bool
  | [], [] => true
  | a :: s, b :: t => eqE a b && eqH s t
  | _, _ => false
theorem eqH_of : ∀ {a b : pm_H}, eqH a b = true → a = b
  | [], [], _ => rfl
  | a :: s, b :: t, h => by
    simp only [eqH, Bool.and_eq_true] at h
    rw [eqE_of h.1, eqH_of h.2]
  | [], _ :: _, h => by cases h
  | _ :: _, [], h => by cases h
def eqR : pm_R → Option Value → pm_H → Bool
  | some (r, h), r2, h2 => decide (r = r2) && eqH h h2
  | none, _, _ => false
theorem eqR_of {x : pm_R} {r : Option Value} {h : pm_H} (e : eqR x r h = true) : x = some (r, h) := by
  unfold eqR at e
  split at e
  · simp only [Bool.and_eq_true, decide_eq_true_eq] at e
    rw [e.1, eqH_of e.2]
  · cases e
/-- a static whose value nobody looks at: null or some object; both ways on lead to one end -/
def pms_gq (nx : Nat) : pm_S := fun _ _ cont L st h => match cont nx L (.null :: st) h, cont nx L (.ref (pm_B + 99) :: st) h with
  | some a, some b => if eqR (some a) b.1 b.2 = true then some a else none
  | _, _ => none
section STRS6
variable {T : pm_T} {K : pm_K} {cR : Nat → ClassId} {D : va_G} {M : pm_I} {pc nx : Nat}
theorem pmk_gq {index : Nat} (hw : Cond.fieldLink M.1 index "jdk/internal/util/Preconditions" "SIOOBE_FORMATTER" "Ljava/util/function/BiFunction;" ∈ pm_w) (hd : decode M.2.1 pc = .ok (.getstatic index, 3)) (hn : pc + 3 = nx) : pm_ok T K cR D M pc (pms_gq nx) := by
  intro call cont hcall hcont L st h r h' hS
  unfold pms_gq at hS
  split at hS
  · next a b ha hb9 =>
    split at hS
    · next hab =>
      have hab := eqR_of hab
      cases hS
      cases hab
      have G1 := hcont _ _ _ _ _ _ ha
      have G2 := hcont _ _ _ _ _ _ hb9
      subst hn
      refine ⟨G1.1, fun p l e R s m args below meth c A Q ad0 ad H locs ls cells slots n0 z0 hC hP hl h1 h2 h3 h4 hX hQ => ?_⟩
      have k1 := G1.2 p l e R s m args below meth c A Q ad0 ad H locs ls cells slots n0 z0 hC hP hl h1 h2 h3 h4 hX hQ
      have k2 := G2.2 p l e R s m args below meth c A Q ad0 ad H locs ls cells slots n0 z0 hC hP hl h1 h2 h3 h4 hX hQ
      obtain ⟨he, hb, -, -, ho, hts, -, -, -, hK, -⟩ := hC
      rcases hP.2.2.2.1.2.2.2.2.2 with hz | hz
      · exact va_gets he hb hz hP.2.2.1 ho (hts _ hw) (fun x h9 => h9) hd k1
      · exact va_gets he hb hz hP.2.2.1 ho (hts _ hw) (fun x h9 => h9) hd k2
    · cases hS
  · cases hS
end STRS6
