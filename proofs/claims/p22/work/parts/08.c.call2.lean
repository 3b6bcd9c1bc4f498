section CALL2
variable {T : pm_T} {K : pm_K} {cR : Nat → ClassId} {D : va_G} {M : pm_I} {pc : Nat}
/-- what comes behind a call -/
theorem pm_G.of_c {nx : Nat} {L : pm_L} {st rest as : List Value} {h h2 h' : pm_H} {r r2 : Option Value} (hm : h.length ≤ h2.length ∧ pm_zs h ≤ pm_zs h2) (hx : h2.length = h.length ∨ (pm_rL h.length h2.length L = true ∧ pm_rS h.length h2.length rest = true)) (hg : pm_G K cR D M nx L (r2.toList ++ rest) h2 r h') (hn : pc + 3 = nx)
    (ht : ∀ (p : Program) (l : Launch) (e : Env) (R : Room) (s : State) (m : MethodId) (args : Array Value) (below : List Frame) (meth : Method) (c : Code) (A : Nat → Prop) (H : Heap) (locs : List Loc) (cells slots : Nat) (ad : Nat → Nat) (ls : Array Slot),
      pm_C cR D M p R s m args meth c A → pm_P K cR D ad h A s H locs → pm_l ad M.2.2.1 ls L → cells + (h2.length - h.length) ≤ R.cells ∧ slots + (pm_zs h2 - pm_zs h) ≤ R.slots →
      ∃ ar : Array Value, va_Run p l e R s m args below meth c H locs cells slots (h2.length - h.length) (pm_zs h2 - pm_zs h) (F0 m pc ls (st.map (pm_V ad))) (rest.map (pm_V ad)) (pm_Qc cR D ad H.size h r2 h2 ar) (va_A (pm_W cR ad 0 h) H.size)) : pm_G K cR D M pc L st h r h' := by
  obtain ⟨⟨m1, m2⟩, hg⟩ := hg
  refine ⟨⟨by omega, by omega⟩, ?_⟩
  intro p l e R s m args below meth c A Q ad0 ad H locs ls cells slots n0 z0 hC hP hlo h1 h3 h4 h5 hX hQ
  have hF := pm_free_in hC.2.2.2.2.2.2.2.2.1 hP
  obtain ⟨ar, hrun⟩ := ht p l e R s m args below meth c A H locs cells slots ad ls hC hP hlo ⟨by omega, by omega⟩
  intro T0 hT0 X0
  obtain ⟨v, st₀, t, T', Lc, hh0, X', hL, e1, e2, ⟨ad', x1, hv, hP1, hD1, hFr, hle⟩, stp⟩ := hrun T0 hT0 X0
  cases hv
  have hsz : H.size ≤ t.heap.size := by rw [← hh0]; exact hFr.1
  have hP' : pm_P K cR D ad' h2 A s T'.heap (locs ++ Lc) := by
    refine ⟨by rw [e1]; exact hP1, hD1.weaken (fun _ q _ hq => hF q.1 hq), ⟨?_, ?_, ?_⟩, hP.2.2.2.1.ext x1 hle, hle, hP.2.2.2.2.2.ext x1 hle⟩
    · rw [e1]; exact Nat.le_trans hP.2.2.1.1 hsz
    · intro q q1 q2
      have hq : q < H.size := Nat.lt_of_lt_of_le q1 hP.2.2.1.1
      rw [e1, hFr.2 q (by rw [hh0]; exact hq) (fun z => q2 (hF q z)), hh0]
      exact hP.2.2.1.2.1 q q1 q2
    · intro q hq
      rcases List.mem_append.mp hq with z | z
      · exact hP.2.2.1.2.2 q z
      · exact hF _ (hL q z)
  have hall : h2.length = h.length → ad' = ad := fun z => funext fun k => x1 k (by omega)
  have hl' : pm_l ad' M.2.2.1 ls L := by
    rcases hx with z | z
    · rw [hall z]; exact hlo
    · exact hlo.ext x1 z.1
  have hr' : rest.map (pm_V ad') = rest.map (pm_V ad) := by
    rcases hx with z | z
    · rw [hall z]
    · exact pm_rS_of x1 z.2
  have k9 := hg p l e R s m args below meth c A Q ad0 ad' T'.heap (locs ++ Lc) ls (cells + (h2.length - h.length)) (slots + (pm_zs h2 - pm_zs h)) n0 z0 hC hP' hl' (by omega) (by omega) h4 h5 (hX.tr x1 (by omega) hm.1) hQ
  obtain ⟨t2, a1, b1⟩ := k9 T' rfl X'
  refine ⟨t2, stp t2 ?_, b1⟩
  subst hn
  have e3 : (r2.map (pm_V ad')).toList ++ rest.map (pm_V ad) = (r2.toList ++ rest).map (pm_V ad') := by
    rw [List.map_append, hr']
    cases r2 <;> rfl
  rw [e3]
  exact a1
end CALL2
