/-! pop2 of a long -/
def pms_pop2 (nx : Nat) : pm_S := fun _ _ cont L st h => match st with
  | v :: t => if v.category = 2 then cont nx L t h else none
  | _ => none
section POPS
variable {T : pm_T} {K : pm_K} {cR : Nat → ClassId} {D : va_G} {M : pm_I} {pc nx : Nat}
theorem pmk_pop2 (hd : decode M.2.1 pc = .ok (.pop2, 1)) (hn : pc + 1 = nx) : pm_ok T K cR D M pc (pms_pop2 nx) := by
  intro call cont hc hk L st h r h' hS
  unfold pms_pop2 at hS
  split at hS
  · next v t =>
    split at hS
    · next hv =>
      refine pm_G.of_t ?_ (hk _ _ _ _ _ _ hS)
      intro p l e R s m args below meth c H locs cells slots Q ad ls he hb ho hts hl kk
      subst hn
      exact lv_pop2_2 he hb hd ((pm_V_cat ad v).trans hv) (kk ls hl)
    · cases hS
  · cases hS
/-- what is known of the locals may be forgotten -/
theorem pm_G.fgt {L L' : pm_L} {st : List Value} {h h' : pm_H} {r : Option Value} (hl : L'.length = L.length) (hv : ∀ (j : Nat) (v : Value), L[j]? = some (some v) → L'[j]? = some (some v)) (hg : pm_G K cR D M pc L st h r h') : pm_G K cR D M pc L' st h r h' :=
  ⟨hg.1, fun p l e R s m args below meth c A Q ad0 ad H locs ls cells slots n0 z0 hC hP hlo h1 h2 h3 h4 hX hQ =>
    hg.2 p l e R s m args below meth c A Q ad0 ad H locs ls cells slots n0 z0 hC hP ⟨hl.symm.trans hlo.1, hlo.2.1, hlo.2.2.1, fun j v hj => hlo.2.2.2 j v (hv j v hj)⟩ h1 h2 h3 h4 hX hQ⟩
end POPS
