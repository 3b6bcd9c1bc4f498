/-! lengths, new cells, statics, calls, copies, returns -/
section CALLS
variable {T : pm_T} {K : pm_K} {cR : Nat → ClassId} {D : va_G} {M : pm_I} {pc : Nat}
theorem pm_dom (a : Nat) (h : pm_B ≤ a ∧ a < pm_B + 3) : ∃ j : Nat, j < 3 ∧ a = pm_B + j := ⟨a - pm_B, by omega, by omega⟩
theorem pmk_len {nx : Nat} (hd : decode M.2.1 pc = .ok (.arraylength, 1)) (hn : pc + 1 = nx) : pm_ok T K cR D M pc (pms_len nx) := by
  intro call cont hcall hcont L st h r h' hS
  unfold pms_len at hS
  split at hS
  · next a t =>
    split at hS
    · next n hlen =>
      refine pm_G.of_h rfl rfl (hcont _ _ _ _ _ _ hS) ?_
      intro p l0 e R s m args below meth c0 A H locs cells slots Q ad ls hC hP hl kk
      obtain ⟨he, hb, -, -, ho, hts, -, -, -, hK, -⟩ := hC
      subst hn
      have k9 := kk H locs ls hP hl
      unfold pm_len at hlen
      split at hlen
      · next l hcell => cases hlen; exact va_alen he hb hK hP.1 a 0 (pm_W_at hcell) rfl rfl hd k9
      · next l hcell => cases hlen; exact va_alen he hb hK hP.1 a 1 (pm_W_at hcell) rfl rfl hd k9
      · next l hcell => cases hlen; exact va_alen he hb hK hP.1 a 2 (pm_W_at hcell) rfl rfl hd k9
      · next l hcell => cases hlen; exact va_alen he hb hK hP.1 a 3 (pm_W_at hcell) rfl rfl hd k9
      · cases hlen
      · split at hlen
        · next hbd =>
          obtain ⟨j, hj, ea⟩ := pm_dom a hbd
          subst ea
          rw [Nat.add_sub_cancel_left] at hlen
          obtain ⟨l, hl1, hl2⟩ := Option.map_eq_some_iff.mp hlen
          subst hl2
          exact va_tlen he hb (hP.2.2.2.1.1 j l hj hl1) hP.2.2.1 rfl hd k9
        · cases hlen
    · cases hS
  · cases hS
theorem pmk_gsM {index nx : Nat} (hw : Cond.fieldLink M.1 index "BlankRations" "LAW_MOST" "[I" ∈ pm_w) (hd : decode M.2.1 pc = .ok (.getstatic index, 3)) (hn : pc + 3 = nx) : pm_ok T K cR D M pc (pms_gs 1 nx) := by
  intro call cont hcall hcont L st h r h' hS
  refine pm_G.of_h rfl rfl (hcont _ _ _ _ _ _ hS) ?_
  intro p l0 e R s m args below meth c0 A H locs cells slots Q ad ls hC hP hl kk
  obtain ⟨he, hb, -, -, ho, hts, -, -, -, hK, -⟩ := hC
  subst hn
  exact va_gets he hb hP.2.2.2.1.2.1 hP.2.2.1 ho (hts _ hw) (fun x h9 => h9) hd (kk H locs ls hP hl)
theorem pmk_gsF {index nx : Nat} (hw : Cond.fieldLink M.1 index "BlankRations" "LAW_FIRST" "[I" ∈ pm_w) (hd : decode M.2.1 pc = .ok (.getstatic index, 3)) (hn : pc + 3 = nx) : pm_ok T K cR D M pc (pms_gs 2 nx) := by
  intro call cont hcall hcont L st h r h' hS
  refine pm_G.of_h rfl rfl (hcont _ _ _ _ _ _ hS) ?_
  intro p l0 e R s m args below meth c0 A H locs cells slots Q ad ls hC hP hl kk
  obtain ⟨he, hb, -, -, ho, hts, -, -, -, hK, -⟩ := hC
  subst hn
  exact va_gets he hb hP.2.2.2.1.2.2.1 hP.2.2.1 ho (hts _ hw) (fun x h9 => h9) hd (kk H locs ls hP hl)
theorem pmk_gsMN {index nx : Nat} (hw : (M.1, index, "BlankRations", "LAW_MOST", "[I") ∈ pm_nF) (hd : decode M.2.1 pc = .ok (.getstatic index, 3)) (hn : pc + 3 = nx) : pm_ok T K cR D M pc (pms_gs 1 nx) := by
  intro call cont hcall hcont L st h r h' hS
  refine pm_G.of_h rfl rfl (hcont _ _ _ _ _ _ hS) ?_
  intro p l0 e R s m args below meth c0 A H locs cells slots Q ad ls hC hP hl kk
  obtain ⟨he, hb, -, -, ho, hts, -, -, -, hK, -, -, hN⟩ := hC
  subst hn
  exact va_getsN he hb hP.2.2.2.1.2.1 hP.2.2.1 ho (va_Nw.use rfl (hN.2.1 (M.1, index, "BlankRations", "LAW_MOST", "[I") hw)) (fun x h9 => h9) hd (kk H locs ls hP hl)
theorem pmk_gsFN {index nx : Nat} (hw : (M.1, index, "BlankRations", "LAW_FIRST", "[I") ∈ pm_nF) (hd : decode M.2.1 pc = .ok (.getstatic index, 3)) (hn : pc + 3 = nx) : pm_ok T K cR D M pc (pms_gs 2 nx) := by
  intro call cont hcall hcont L st h r h' hS
  refine pm_G.of_h rfl rfl (hcont _ _ _ _ _ _ hS) ?_
  intro p l0 e R s m args below meth c0 A H locs cells slots Q ad ls hC hP hl kk
  obtain ⟨he, hb, -, -, ho, hts, -, -, -, hK, -, -, hN⟩ := hC
  subst hn
  exact va_getsN he hb hP.2.2.2.1.2.2.1 hP.2.2.1 ho (va_Nw.use rfl (hN.2.1 (M.1, index, "BlankRations", "LAW_FIRST", "[I") hw)) (fun x h9 => h9) hd (kk H locs ls hP hl)
theorem pmk_oi {index nx : Nat} (hw1 : Cond.methodLink M.1 index objectInit ∈ pm_w) (hw2 : Cond.instanceMethod objectInit ∈ pm_w) (hw3 : Cond.code objectInit ⟨#[0xb1]⟩ 1 none ∈ pm_w) (hf : 1 ≤ M.2.2.2.2.2.1) (hlo : 21 ≤ M.2.2.2.2.2.2) (hd : decode M.2.1 pc = .ok (.invokespecial index, 3)) (hn : pc + 3 = nx) : pm_ok T K cR D M pc (pms_oi nx) := by
  intro call cont hcall hcont L st h r h' hS
  unfold pms_oi at hS
  split at hS
  · next a t =>
    split at hS
    · next hcat =>
      refine pm_G.of_h rfl rfl (hcont _ _ _ _ _ _ hS) ?_
      intro p l0 e R s m args below meth c0 A H locs cells slots Q ad ls hC hP hl kk
      obtain ⟨he, hb, -, hml, ho, hts, -, -, -, hK, hfr, hlr, -⟩ := hC
      subst hn
      have hcat2 : ((t.map (pm_V ad)).map fun v => v.category).sum ≤ 8 := by
        rw [List.map_map]
        have e9 : ((fun v : Value => v.category) ∘ pm_V ad) = fun v : Value => v.category := funext fun v => pm_V_cat ad v
        rw [e9]
        exact hcat
      refine W.objInit he hb ho (hts _ hw1) (hts _ hw2) (hts _ hw3) rfl (by rw [hml]; exact hl.2.1) rfl hd (Nat.le_trans hf hfr) ?_ ?_
      · show 2 * 0 + ((t.map (pm_V ad)).map fun v => v.category).sum + 12 ≤ R.locals
        omega
      · exact kk H locs ls hP hl
    · cases hS
  · cases hS
/-- a step that makes one cell -/
theorem pm_G.of_n {nx : Nat} {L : pm_L} {st st' : List Value} {h h' : pm_H} {r : Option Value} {e0 : pm_E} (hfr : pm_free h.length L st' h = true) (hre : pm_rE h.length (h.length + 1) e0 = true) (hg : pm_G K cR D M nx L (.ref h.length :: st') (h ++ [e0]) r h')
    (ht : ∀ (p : Program) (l : Launch) (e : Env) (R : Room) (s : State) (m : MethodId) (args : Array Value) (below : List Frame) (meth : Method) (c : Code) (A : Nat → Prop) (H : Heap) (locs : List Loc) (cells slots : Nat) (Q : State → Prop) (ad : Nat → Nat) (ls : Array Slot),
      pm_C cR D M p R s m args meth c A → pm_P K cR D ad h A s H locs → pm_l ad M.2.2.1 ls L → cells + 1 ≤ R.cells → slots + pm_z e0 ≤ R.slots →
      (∀ (q : Nat) (H1 : Heap), va_P D pm_Cl (pm_W cR ad 0 h ++ [(q, pm_e cR ad e0)]) H1 → va_D A (pm_W cR ad 0 h ++ [(q, pm_e cR ad e0)]) → va_S A s.heap H1 locs → W p l e R s m args below meth c H1 locs (cells + 1) (slots + pm_z e0) Q (F0 m nx ls (.ref q :: st'.map (pm_V ad)))) →
      W p l e R s m args below meth c H locs cells slots Q (F0 m pc ls (st.map (pm_V ad)))) : pm_G K cR D M pc L st h r h' := by
  have e2 : (h ++ [e0]).length = h.length + 1 := by simp
  have e3 : pm_zs (h ++ [e0]) = pm_zs h + pm_z e0 := pm_zs_app h
  obtain ⟨⟨m1, m2⟩, hg⟩ := hg
  rw [e2] at m1
  rw [e3] at m2
  refine ⟨⟨by omega, by omega⟩, ?_⟩
  intro p l e R s m args below meth c A Q ad0 ad H locs ls cells slots n0 z0 hC hP hlo h1 h2 h3 h4 hX hQ
  simp only [pm_free, Bool.and_eq_true] at hfr
  obtain ⟨hlt, hrL, hrS, hrH⟩ := hfr
  have hlt : h.length < pm_B := Nat.le_of_ble_eq_true hlt
  refine ht p l e R s m args below meth c A H locs cells slots Q ad ls hC hP hlo (by omega) (by omega) (fun q H1 g1 g2 g3 => ?_)
  obtain ⟨ad', had1, had2⟩ : ∃ ad' : Nat → Nat, pm_X ad ad' h.length (h.length + 1) ∧ ad' h.length = q := ⟨fun k => if k = h.length then q else ad k, fun k hk => if_neg (by omega), if_pos rfl⟩
  have w1 : pm_W cR ad' 0 (h ++ [e0]) = pm_W cR ad 0 h ++ [(q, pm_e cR ad e0)] := by
    rw [pm_W_app, pm_rH_of had1 0 (by omega) hrH, Nat.zero_add, had2, pm_rE_of had1 hre]
  have w2 : (Value.ref h.length :: st').map (pm_V ad') = .ref q :: st'.map (pm_V ad) := by
    simp only [List.map_cons, pm_V_ref, had2, pm_rS_of had1 hrS]
  rw [← w2]
  exact hg p l e R s m args below meth c A Q ad0 ad' H1 locs ls (cells + 1) (slots + pm_z e0) n0 z0 hC ⟨by rw [w1]; exact g1, by rw [w1]; exact g2, g3, hP.2.2.2.1.ext had1 hlt, by rw [e2]; exact hlt, hP.2.2.2.2.2.ext had1 hlt⟩ (hlo.ext had1 hrL) (by rw [e2]; omega) (by rw [e3]; omega) h3 h4 (by rw [e2]; exact hX.tr had1 (by omega) (by omega)) hQ
theorem pmk_nw {ci index nx N : Nat} {fs : List Value} {C : String} {T0 : u_T} {ty0 : Nat → FieldType} (hc : pm_Cl[ci]? = some (C, T0, N)) (hin : ∀ w ∈ u_ws C T0 N, w ∈ pm_w) (hty : ∀ k, k < N → parseFieldDescriptor (T0 k).2.2.1 = some (ty0 k)) (hfs : ∀ j, j < N → defaultValue (ty0 j) = vp_V fs j) (hN : fs.length = N) (hfV : ∀ ad : Nat → Nat, fs.map (pm_V ad) = fs) (hfr : ∀ n : Nat, pm_rS n (n + 1) fs = true)
    (hw1 : Cond.classLink M.1 index C ∈ pm_w) (hw2 : Cond.instantiable C N ∈ pm_w) (hw3 : Cond.initialized C ∈ pm_w) (hd : decode M.2.1 pc = .ok (.new index, 3)) (hn : pc + 3 = nx) : pm_ok T K cR D M pc (pms_nw ci fs nx) := by
  intro call cont hcall hcont L st h r h' hS
  unfold pms_nw at hS
  split at hS
  · next hfree =>
    refine pm_G.of_n hfree (e0 := pm_ob ci fs) (hfr _) (hcont _ _ _ _ _ _ hS) ?_
    intro p l0 e R s m args below meth c0 A H locs cells slots Q ad ls hC hP hl hcl hsl kk
    obtain ⟨he, hb, -, -, ho, hts, -, -, hA, hK, -⟩ := hC
    subst hn
    have hz : pm_z (pm_ob ci fs) = N := hN
    rw [hz] at hsl kk
    have e1 : pm_e cR ad (pm_ob ci fs) = .inr (ci, fs) := by simp only [pm_e, hfV ad]
    rw [e1] at kk
    exact va_new he hb hts hin ty0 hty ho (hts _ hw1) (hts _ hw2) (hts _ hw3) hK hP.1 hP.2.1 hP.2.2.1 hA hc hfs hcl hsl hd (fun q H1 g1 g2 g3 => kk q H1 g1 g2 g3)
  · cases hS
theorem pm_inj {s : State} {cA cB : ClassId} {ty : FieldType} (h1 : va_RA s cA ty) (h2 : va_RA s cB ty) : cA = cB := by
  cases ty with
  | object C =>
    obtain ⟨kA, comp, -, -, -, h4⟩ := h1
    obtain ⟨kB, comp', -, -, -, h5⟩ := h2
    exact Option.some.inj (h4.symm.trans h5)
  | _ => exact Option.some.inj (Eq.trans (Eq.symm h1) h2)
theorem pmk_ni {nx : Nat} (hw : Cond.arrayClass .int ∈ pm_w) (hd : decode M.2.1 pc = .ok (.newarray .int, 2)) (hn : pc + 2 = nx) : pm_ok T K cR D M pc (pms_ni nx) := by
  intro call cont hcall hcont L st h r h' hS
  unfold pms_ni at hS
  split at hS
  · next n t =>
    split at hS
    · cases hS
    · next hn0 =>
      split at hS
      · next hfree =>
        obtain ⟨hsmall, hfree⟩ := hfree
        refine pm_G.of_n hfree (e0 := .inl (List.replicate n.toNatClampNeg 0)) rfl (hcont _ _ _ _ _ _ hS) ?_
        intro p l0 e R s m args below meth c0 A H locs cells slots Q ad ls hC hP hl hcl hsl kk
        obtain ⟨he, hb, -, -, ho, hts, -, -, hA, hK, -⟩ := hC
        subst hn
        have hz : pm_z (.inl (List.replicate n.toNatClampNeg 0)) = n.toNatClampNeg := List.length_replicate
        rw [hz] at hsl kk
        have e0 : (fun i : Nat => (List.replicate n.toNatClampNeg (0 : Int32)).getD i 0) = fun _ => 0 := by
          funext i
          simp only [List.getD, List.getElem?_replicate]
          split <;> rfl
        have e1 : pm_e cR ad (.inl (List.replicate n.toNatClampNeg 0)) = .inl (cR 0, n.toNatClampNeg, .inl (fun _ => 0)) := by simp only [pm_e, e0, List.length_replicate]
        rw [e1] at kk
        refine va_newa (atype := .int) (ty := .int) (a0 := (n.toNatClampNeg, .inl (fun _ => 0))) he hb (hts _ hw) rfl hK hP.1 hP.2.1 hP.2.2.1 hA (fun _ => rfl) hn0 rfl ?_ hcl hsl hd (fun q cA H1 g0 g1 g2 g3 => ?_)
        · show n.toNatClampNeg * 4 ≤ 536870912
          omega
        · have e9 : cA = cR 0 := pm_inj (g0.2 4 (cA, .int) rfl).2 (hK.2 0 (cR 0, .int) rfl).2
          subst e9
          exact kk q H1 g1 g2 g3
      · cases hS
  · cases hS
theorem pmk_nj {nx : Nat} (hw : Cond.arrayClass .long ∈ pm_w) (hd : decode M.2.1 pc = .ok (.newarray .long, 2)) (hn : pc + 2 = nx) : pm_ok T K cR D M pc (pms_nj nx) := by
  intro call cont hcall hcont L st h r h' hS
  unfold pms_nj at hS
  split at hS
  · next n t =>
    split at hS
    · cases hS
    · next hn0 =>
      split at hS
      · next hfree =>
        obtain ⟨hsmall, hfree⟩ := hfree
        refine pm_G.of_n hfree (e0 := .inr (.inl (List.replicate n.toNatClampNeg 0))) rfl (hcont _ _ _ _ _ _ hS) ?_
        intro p l0 e R s m args below meth c0 A H locs cells slots Q ad ls hC hP hl hcl hsl kk
        obtain ⟨he, hb, -, -, ho, hts, -, -, hA, hK, -⟩ := hC
        subst hn
        have hz : pm_z (.inr (.inl (List.replicate n.toNatClampNeg 0))) = n.toNatClampNeg := List.length_replicate
        rw [hz] at hsl kk
        have e0 : (fun i : Nat => (List.replicate n.toNatClampNeg (0 : Int64)).getD i 0) = fun _ => 0 := by
          funext i
          simp only [List.getD, List.getElem?_replicate]
          split <;> rfl
        have e1 : pm_e cR ad (.inr (.inl (List.replicate n.toNatClampNeg 0))) = .inl (cR 1, n.toNatClampNeg, .inr (.inl (fun _ => 0))) := by simp only [pm_e, e0, List.length_replicate]
        rw [e1] at kk
        refine va_newa (atype := .long) (ty := .long) (a0 := (n.toNatClampNeg, .inr (.inl (fun _ => 0)))) he hb (hts _ hw) rfl hK hP.1 hP.2.1 hP.2.2.1 hA (fun _ => rfl) hn0 rfl ?_ hcl hsl hd (fun q cA H1 g0 g1 g2 g3 => ?_)
        · show n.toNatClampNeg * 8 ≤ 536870912
          omega
        · have e9 : cA = cR 1 := pm_inj (g0.2 4 (cA, .long) rfl).2 (hK.2 1 (cR 1, .long) rfl).2
          subst e9
          exact kk q H1 g1 g2 g3
      · cases hS
  · cases hS
theorem pmk_na {ty index nx : Nat} {C : String} (ht : (pm_ty cR)[ty + 2]? = some (cR (ty + 2), .object C)) (hw : Cond.classLink M.1 index C ∈ pm_w) (hov : ∀ s : State, pm_N s → va_AO C s) (hd : decode M.2.1 pc = .ok (.anewarray index, 3)) (hn : pc + 3 = nx) : pm_ok T K cR D M pc (pms_na ty nx) := by
  intro call cont hcall hcont L st h r h' hS
  unfold pms_na at hS
  split at hS
  · next n t =>
    split at hS
    · cases hS
    · next hn0 =>
      split at hS
      · next hfree =>
        obtain ⟨hsmall, hfree⟩ := hfree
        have hro : ∀ (lo hi k : Nat), pm_rO lo hi (List.replicate k none) = true := by
          intro lo hi k
          induction k with
          | zero => rfl
          | succ k ih => exact ih
        refine pm_G.of_n hfree (e0 := pm_qr ty (List.replicate n.toNatClampNeg none)) (hro _ _ _) (hcont _ _ _ _ _ _ hS) ?_
        intro p l0 e R s m args below meth c0 A H locs cells slots Q ad ls hC hP hl hcl hsl kk
        obtain ⟨he, hb, -, -, ho, hts, -, -, hA, hK, -, -, hN⟩ := hC
        subst hn
        have hz : pm_z (pm_qr ty (List.replicate n.toNatClampNeg none)) = n.toNatClampNeg := List.length_replicate
        rw [hz] at hsl kk
        have e0 : (fun i : Nat => ((List.replicate n.toNatClampNeg (none : Option Nat)).getD i none).map ad) = fun _ => none := by
          funext i
          simp only [List.getD, List.getElem?_replicate]
          split <;> rfl
        have e1 : pm_e cR ad (pm_qr ty (List.replicate n.toNatClampNeg none)) = .inl (cR (ty + 2), n.toNatClampNeg, .inr (.inr (.inr (.inr (fun _ => none))))) := by simp only [pm_e, e0, List.length_replicate]
        rw [e1] at kk
        have hov2 : va_AO C s := hov s hN
        refine va_newq he hb ho (hts _ hw) hov2 hK hP.1 hP.2.1 hP.2.2.1 hA hn0 rfl (by omega) hcl hsl hd (fun q cA H1 g0 g1 g2 g3 => ?_)
        have e9 : cA = cR (ty + 2) := pm_inj (g0.2 4 (cA, .object C) rfl).2 (hK.2 (ty + 2) (cR (ty + 2), .object C) ht).2
        subst e9
        exact kk q H1 g1 g2 g3
      · cases hS
  · cases hS
theorem pmk_ri (hr : M.2.2.2.1 = some .int) (hd : decode M.2.1 pc = .ok (.ireturn, 1)) : pm_ok T K cR D M pc pms_ri := by
  intro call cont hcall hcont L st h r h' hS
  unfold pms_ri at hS
  split at hS
  · cases hS
    exact ⟨⟨Nat.le_refl _, Nat.le_refl _⟩, fun p l e R s m args below meth c A Q ad0 ad H locs ls cells slots n0 z0 hC hP hl h1 h2 h3 h4 hX hQ => hQ pc ls ad H locs cells slots (by rw [hr]; rfl) hd hP h1 h2 hX⟩
  · cases hS
theorem pmk_rz (hr : M.2.2.2.1 = some .boolean) (hd : decode M.2.1 pc = .ok (.ireturn, 1)) : pm_ok T K cR D M pc pms_rz := by
  intro call cont hcall hcont L st h r h' hS
  unfold pms_rz at hS
  split at hS
  · next x =>
    split at hS
    · next hx =>
      cases hS
      exact ⟨⟨Nat.le_refl _, Nat.le_refl _⟩, fun p l e R s m args below meth c A Q ad0 ad H locs ls cells slots n0 z0 hC hP hl h1 h2 h3 h4 hX hQ => hQ pc ls ad H locs cells slots (by rw [hr]; exact hx) hd hP h1 h2 hX⟩
    · cases hS
  · cases hS
theorem pmk_rl (hr : M.2.2.2.1 = some .long) (hd : decode M.2.1 pc = .ok (.lreturn, 1)) : pm_ok T K cR D M pc pms_rl := by
  intro call cont hcall hcont L st h r h' hS
  unfold pms_rl at hS
  split at hS
  · cases hS
    exact ⟨⟨Nat.le_refl _, Nat.le_refl _⟩, fun p l e R s m args below meth c A Q ad0 ad H locs ls cells slots n0 z0 hC hP hl h1 h2 h3 h4 hX hQ => hQ pc ls ad H locs cells slots (by rw [hr]; rfl) hd hP h1 h2 hX⟩
  · cases hS
theorem pmk_ra {C : String} (hr : M.2.2.2.1 = some (.object C)) (hd : decode M.2.1 pc = .ok (.areturn, 1)) : pm_ok T K cR D M pc pms_ra := by
  intro call cont hcall hcont L st h r h' hS
  unfold pms_ra at hS
  split at hS
  · cases hS
    exact ⟨⟨Nat.le_refl _, Nat.le_refl _⟩, fun p l e R s m args below meth c A Q ad0 ad H locs ls cells slots n0 z0 hC hP hl h1 h2 h3 h4 hX hQ => hQ pc ls ad H locs cells slots (by rw [hr]; rfl) hd hP h1 h2 hX⟩
  · cases hS
theorem pmk_rv (hr : M.2.2.2.1 = none) (hd : decode M.2.1 pc = .ok (.return_, 1)) : pm_ok T K cR D M pc pms_rv := by
  intro call cont hcall hcont L st h r h' hS
  unfold pms_rv at hS
  split at hS
  · cases hS
    exact ⟨⟨Nat.le_refl _, Nat.le_refl _⟩, fun p l e R s m args below meth c A Q ad0 ad H locs ls cells slots n0 z0 hC hP hl h1 h2 h3 h4 hX hQ => hQ pc ls ad H locs cells slots (by rw [hr]; rfl) hd hP h1 h2 hX⟩
  · cases hS
end CALLS
