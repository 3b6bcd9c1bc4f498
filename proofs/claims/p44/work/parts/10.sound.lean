/-! the run of a method, and its contract -/
def pm_la : List Value → pm_L
  | [] => []
  | v :: t => if v.category = 2 then some v :: none :: pm_la t else some v :: pm_la t
def pm_en (n : Nat) (as : List Value) : pm_L := pm_la as ++ List.replicate (n - (pm_la as).length) none
noncomputable def pm_run (C : Nat → Nat → pm_S) (T : pm_T) (K : pm_K) (n : Nat) : Nat → Nat → pm_L → List Value → pm_H → pm_R :=
  Nat.rec (motive := fun _ => Nat → Nat → pm_L → List Value → pm_H → pm_R) (fun _ _ _ _ _ => none)
    (fun _ ih k pc L st h => C k pc K (fun k' as h' => if (pm_la as).length ≤ (T k').2.2.2.1 then ih k' 0 (pm_en (T k').2.2.2.1 as) [] h' else none) (fun pc' L' st' h' => ih k pc' L' st' h') L st h) n
noncomputable def pm_call (C : Nat → Nat → pm_S) (T : pm_T) (K : pm_K) (n k : Nat) (as : List Value) (h : pm_H) : pm_R :=
  if (pm_la as).length ≤ (T k).2.2.2.1 then pm_run C T K n k 0 (pm_en (T k).2.2.2.1 as) [] h else none
theorem pm_run_s {C : Nat → Nat → pm_S} {T : pm_T} {K : pm_K} {n k pc : Nat} {L : pm_L} {st : List Value} {h : pm_H} : pm_run C T K (n + 1) k pc L st h = C k pc K (pm_call C T K n) (pm_run C T K n k) L st h := rfl
theorem pm_la_len (ad : Nat → Nat) : ∀ as : List Value, (lg_sl (as.map (pm_V ad))).length = (pm_la as).length
  | [] => rfl
  | v :: t => by
    have ih := pm_la_len ad t
    simp only [lg_sl, List.map_cons, List.flatMap_cons, List.length_append, pm_la, pm_V_cat] at ih ⊢
    split <;> simp only [List.length_cons, List.length_nil] <;> omega
theorem pm_la_in (ad : Nat → Nat) : ∀ (as : List Value) (i j : Nat) (v : Value), (pm_la as)[j]? = some (some v) → (i + j, pm_V ad v) ∈ lv_args i (as.map (pm_V ad))
  | [], i, j, v, h => by simp [pm_la] at h
  | w :: t, i, j, v, h => by
    simp only [pm_la] at h
    simp only [List.map_cons, lv_args, pm_V_cat]
    split at h
    · next hc =>
      rw [if_pos hc]
      match j, h with
      | 0, h =>
        simp only [List.getElem?_cons_zero, Option.some.injEq] at h
        subst h
        exact List.mem_cons_self
      | 1, h => simp at h
      | j + 2, h =>
        simp only [List.getElem?_cons_succ] at h
        have h2 := pm_la_in ad t (i + 2) j v h
        rw [show i + (j + 2) = i + 2 + j by omega]
        exact List.mem_cons_of_mem _ h2
    · next hc =>
      rw [if_neg hc]
      match j, h with
      | 0, h =>
        simp only [List.getElem?_cons_zero, Option.some.injEq] at h
        subst h
        exact List.mem_cons_self
      | j + 1, h =>
        simp only [List.getElem?_cons_succ] at h
        have h2 := pm_la_in ad t (i + 1) j v h
        rw [show i + (j + 1) = i + 1 + j by omega]
        exact List.mem_cons_of_mem _ h2
theorem pm_entry {ad : Nat → Nat} {nL : Nat} {as : List Value} (h : (pm_la as).length ≤ nL) : pm_l ad nL ((lg_sl (as.map (pm_V ad)) ++ List.replicate (nL - (lg_sl (as.map (pm_V ad))).length) Slot.unset).toArray) (pm_en nL as) := by
  have hl := lv_entry (as.map (pm_V ad)) (n := nL) (by rw [pm_la_len]; exact h)
  refine ⟨by simp only [pm_en, List.length_append, List.length_replicate]; omega, hl.1, hl.2.1, fun j v hj => ?_⟩
  unfold pm_en at hj
  by_cases a : j < (pm_la as).length
  · rw [List.getElem?_append_left a] at hj
    have h2 := pm_la_in ad as 0 j v hj
    rw [Nat.zero_add] at h2
    exact hl.2.2 (j, pm_V ad v) h2
  · rw [List.getElem?_append_right (by omega), List.getElem?_replicate] at hj
    split at hj <;> cases hj
section SOUND
variable {C : Nat → Nat → pm_S} {T : pm_T} {K : pm_K} {cR : Nat → ClassId} {D : va_G}
theorem pm_M_of {k : Nat} {as : List Value} {h h' : pm_H} {r : Option Value} (hy : plainName (T k).1.cls = true) (hown : (T k).1.cls = (T k).2.1) (hini : (T k).2.2.2.2.2.1 = true → (T k).1.name = "<init>") (hlen : (pm_la as).length ≤ (T k).2.2.2.1)
    (hg : pm_G K cR D (T k).2 0 (pm_en (T k).2.2.2.1 as) [] h r h') : pm_M T K cR D k as h r h' := by
  refine ⟨hg.1, fun l ad sz => Met.ofW hy rfl (fun p e s m args below meth c s₁ B hml hv => ?_)⟩
  obtain ⟨rfl, hsz, hP, hK, hD, hk, hb, hN, hR⟩ := hv
  have hts := atoms_spec (ws := pm_ws (T k)) B.pre
  have hf : s.vm.findClass (T k).2.1 = some m.cls := by rw [← hown]; exact findClass_of_methodNamed B.named
  rw [lg_entry_eq]
  have hC : pm_C cR D (T k).2 p (headSpec (pm_ws (T k)) (pm_rm (T k) h h')).room s m (as.map (pm_V ad)).toArray meth c (va_A (pm_W cR ad 0 h) sz) :=
    ⟨B.exec, B.bytes, B.returns, hml, hf, fun w hw => hts w (List.mem_cons_of_mem _ hw), B.notSynchronized, fun z => (name_of_methodNamed B.named B.method).1.trans (hini z), fun q hq => Or.inr (by rw [← hsz]; exact hq), hK, Nat.le_refl _, Nat.le_refl _, hN⟩
  have hPP : pm_P K cR D ad h (va_A (pm_W cR ad 0 h) sz) s s.heap [] := by
    refine ⟨hP, hD.self, va_S.rf, hk, hb, hR⟩
  refine hg.2 p l e _ s m _ below meth c (va_A (pm_W cR ad 0 h) sz) _ ad ad s.heap [] _ 0 0 h.length (pm_zs h) hC hPP (pm_entry hlen) (Nat.zero_add _) (Nat.zero_add _) ?_ ?_ pm_X.rf ?_
  · show h'.length ≤ h.length + (h'.length - h.length)
    omega
  · show pm_zs h' ≤ pm_zs h + (pm_zs h' - pm_zs h)
    omega
  · intro pc ls ad' H' locs' cells slots hrok hd hP' h1 h2 hX
    have hQc : ∀ t : State, t.heap = H' → s.WarmedH t.vm → pm_Qc cR D ad sz h r h' (as.map (pm_V ad)).toArray s (.returned (r.map (pm_V ad'))) t := fun t ht _ =>
      ⟨ad', hX, rfl, by rw [ht]; exact hP'.1, hP'.2.1, hP'.2.2.1.F ht, hP'.2.2.2.2.1⟩
    refine W.widen (k := h'.length - h.length) (n := pm_zs h' - pm_zs h) (by omega) (by omega) ?_
    have hr := B.returns
    generalize hret : (T k).2.2.2.2.1 = ret at hrok hr
    match ret, r, hrok, hd, hQc with
    | none, none, _, hd, hQc => exact W.vret B.exec B.bytes hr hQc hP'.2.2.1.2.2 hd B.notSynchronized
    | some .int, some (.int x), _, hd, hQc => exact W.iret B.exec B.bytes hr hQc hP'.2.2.1.2.2 hd B.notSynchronized
    | some .boolean, some (.int x), hz, hd, hQc =>
      refine W.zret B.exec B.bytes hr ?_ hQc hP'.2.2.1.2.2 hd B.notSynchronized
      simp only [pm_rok, Bool.or_eq_true, beq_iff_eq] at hz
      rcases hz with rfl | rfl <;> decide +kernel
    | some .char, some (.int x), hz, hd, hQc =>
      refine W.zret B.exec B.bytes hr ?_ hQc hP'.2.2.1.2.2 hd B.notSynchronized
      simp only [pm_rok, decide_eq_true_eq] at hz
      show Value.int _ = _
      exact congrArg Value.int hz
    | some .byte, some (.int x), hz, hd, hQc =>
      refine W.zret B.exec B.bytes hr ?_ hQc hP'.2.2.1.2.2 hd B.notSynchronized
      simp only [pm_rok, decide_eq_true_eq] at hz
      show Value.int _ = _
      exact congrArg Value.int hz
    | some .long, some (.long x), _, hd, hQc => exact W.lret B.exec B.bytes hr hQc hP'.2.2.1.2.2 hd B.notSynchronized
    | some (.object n), some (.ref x), _, hd, hQc => exact W.aret B.exec B.bytes hr (Or.inl ⟨n, rfl⟩) (Or.inr ⟨ad' x, rfl⟩) hQc hP'.2.2.1.2.2 hd B.notSynchronized
/-- THE SOUNDNESS of the pure machine -/
theorem pm_sound (hok : ∀ k pc : Nat, pm_ok T K cR D (T k).2 pc (C k pc)) (hy : ∀ k : Nat, plainName (T k).1.cls = true) (hown : ∀ k : Nat, (T k).1.cls = (T k).2.1) (hini : ∀ k : Nat, (T k).2.2.2.2.2.1 = true → (T k).1.name = "<init>") :
    ∀ (n k pc : Nat) (L : pm_L) (st : List Value) (h : pm_H) (r : Option Value) (h' : pm_H), pm_run C T K n k pc L st h = some (r, h') → pm_G K cR D (T k).2 pc L st h r h' := by
  intro n
  induction n with
  | zero => intro k pc L st h r h' hr; cases hr
  | succ n ih =>
    intro k pc L st h r h' hr
    rw [pm_run_s] at hr
    refine hok k pc (pm_call C T K n) (pm_run C T K n k) (fun k' as h r h' hc => ?_) (fun pc' L' st' h r h' hc => ih k pc' L' st' h r h' hc) L st h r h' hr
    unfold pm_call at hc
    split at hc
    · next hlen => exact pm_M_of (hy k') (hown k') (hini k') hlen (ih k' 0 _ _ h r h' hc)
    · cases hc
/-- a contract over fewer constant rows is one over more -/
theorem pm_M.more {K' : pm_K} (hKK : ∀ (j : Nat) (l : List Int32), K' j = some l → K j = some l) {k : Nat} {as : List Value} {h h' : pm_H} {r : Option Value} (hM : pm_M T K' cR D k as h r h') : pm_M T K cR D k as h r h' := by
  refine ⟨hM.1, fun l ad sz => MetFree.mono (hM.2 l ad sz) (fun a U q => ?_) (fun _ _ _ _ _ z => z) (fun _ _ _ _ _ z => z)⟩
  obtain ⟨q1, q2, q3, q4, q5, q6, q7⟩ := q
  exact ⟨q1, q2, q3, q4, q5, q6.less hKK, q7⟩
/-- the run of one method over constant rows of its own, its calls over fewer -/
noncomputable def pm_top (C : Nat → Nat → pm_S) (T : pm_T) (K Kc : pm_K) (k n : Nat) : Nat → pm_L → List Value → pm_H → pm_R :=
  Nat.rec (motive := fun _ => Nat → pm_L → List Value → pm_H → pm_R) (fun _ _ _ _ => none) (fun n' ih pc L st h => C k pc K (pm_call C T Kc n') ih L st h) n
theorem pm_top_s {Kc : pm_K} {n k pc : Nat} {L : pm_L} {st : List Value} {h : pm_H} : pm_top C T K Kc k (n + 1) pc L st h = C k pc K (pm_call C T Kc n) (pm_top C T K Kc k n) L st h := rfl
theorem pm_top_sound {Kc : pm_K} (hKK : ∀ (j : Nat) (l : List Int32), Kc j = some l → K j = some l) (hok : ∀ (K : pm_K) (k pc : Nat), pm_ok T K cR D (T k).2 pc (C k pc)) (hy : ∀ k : Nat, plainName (T k).1.cls = true) (hown : ∀ k : Nat, (T k).1.cls = (T k).2.1) (hini : ∀ k : Nat, (T k).2.2.2.2.2.1 = true → (T k).1.name = "<init>") (k : Nat) :
    ∀ (n pc : Nat) (L : pm_L) (st : List Value) (h : pm_H) (r : Option Value) (h' : pm_H), pm_top C T K Kc k n pc L st h = some (r, h') → pm_G K cR D (T k).2 pc L st h r h' := by
  intro n
  induction n with
  | zero => intro pc L st h r h' hr; cases hr
  | succ n ih =>
    intro pc L st h r h' hr
    rw [pm_top_s] at hr
    refine hok K k pc (pm_call C T Kc n) (pm_top C T K Kc k n) (fun k' as h r h' hc => ?_) (fun pc' L' st' h r h' hc => ih pc' L' st' h r h' hc) L st h r h' hr
    unfold pm_call at hc
    split at hc
    · next hlen => exact pm_M.more hKK (pm_M_of (hy k') (hown k') (hini k') hlen (pm_sound (hok Kc) hy hown hini n k' 0 _ _ h r h' hc))
    · cases hc
end SOUND
