section CALLS
variable {T : pm_T} {K : pm_K} {cR : Nat → ClassId} {D : va_G} {M : pm_I} {pc : Nat}
/-- a step that makes one cell -/
theorem pm_G.of_n {nx : Nat} {L : pm_L} {st st' : List Value} {h h' : pm_H} {r : Option Value} {e0 : pm_E} (hfr : pm_free h.length L st' h = true) (hre : pm_rE h.length (h.length + 1) e0 = true) (hg : pm_G K cR D M nx L (.ref h.length :: st') (h ++ [e0]) r h')
    (ht : ∀ (p : Program) (l : Launch) (e : Env) (R : Room) (s : State) (m : MethodId) (args : Array Value) (below : List Frame) (meth : Method) (c : Code) (A : Nat → Prop) (H : Heap) (locs : List Loc) (cells slots : Nat) (Q : State → Prop) (ad : Nat → Nat) (ls : Array Slot),
      pm_C cR D M p R s m args meth c A → pm_P K cR D ad h A s H locs → pm_l ad M.2.2.1 ls L → cells + 1 ≤ R.cells → slots + pm_z e0 ≤ R.slots →
      (∀ (q : Nat) (H1 : Heap), va_P D pm_Cl (pm_W cR ad 0 h ++ [(q, pm_e cR ad e0)]) H1 → va_D A (pm_W cR ad 0 h ++ [(q, pm_e cR ad e0)]) → va_S A s.heap H1 locs → W p l e R s m args below meth c H1 locs (cells + 1) (slots + pm_z e0) Q (F0 m nx ls (.ref q :: st'.map (pm_V ad)))) →
      W p l e R s m args below meth c H locs cells slots Q (F0 m pc ls (st.map (pm_V ad)))) : pm_G K cR D M pc L st h r h' := by
  have e2 : (h ++ [e0]).length = h.length + 1 := by simp
  have e3 : pm_zs (h ++ [e0]) = pm_zs h + pm_z e0 := pm_zs_app h
  obtain ⟨⟨m1, m2⟩, hg⟩ := hg
  rw [e2] at m1
  rw [e3] at m2
  refine ⟨⟨by omega, by omega⟩, ?_⟩
  intro p l e R s m args below meth c A Q ad0 ad H locs ls cells slots n0 z0 hC hP hlo h1 h2 h3 h4 hX hQ
  simp only [pm_free, Bool.and_eq_true] at hfr
  obtain ⟨hlt, hrL, hrS, hrH⟩ := hfr
  have hlt : h.length < pm_B := Nat.le_of_ble_eq_true hlt
  refine ht p l e R s m args below meth c A H locs cells slots Q ad ls hC hP hlo (by omega) (by omega) (fun q H1 g1 g2 g3 => ?_)
  obtain ⟨ad', had1, had2⟩ : ∃ ad' : Nat → Nat, pm_X ad ad' h.length (h.length + 1) ∧ ad' h.length = q := ⟨fun k => if k = h.length then q else ad k, fun k hk => if_neg (by omega), if_pos rfl⟩
  have w1 : pm_W cR ad' 0 (h ++ [e0]) = pm_W cR ad 0 h ++ [(q, pm_e cR ad e0)] := by
    rw [pm_W_app, pm_rH_of had1 0 (by omega) hrH, Nat.zero_add, had2, pm_rE_of had1 hre]
  have w2 : (Value.ref h.length :: st').map (pm_V ad') = .ref q :: st'.map (pm_V ad) := by
    simp only [List.map_cons, pm_V_ref, had2, pm_rS_of had1 hrS]
  rw [← w2]
  exact hg p l e R s m args below meth c A Q ad0 ad' H1 locs ls (cells + 1) (slots + pm_z e0) n0 z0 hC ⟨by rw [w1]; exact g1, by rw [w1]; exact g2, g3, hP.2.2.2.1.ext had1 hlt, by rw [e2]; exact hlt, hP.2.2.2.2.2.ext had1 hlt⟩ (hlo.ext had1 hrL) (by rw [e2]; omega) (by rw [e3]; omega) h3 h4 (by rw [e2]; exact hX.tr had1 (by omega) (by omega)) hQ
end CALLS
