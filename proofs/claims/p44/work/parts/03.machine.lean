/-! THE PURE MACHINE: what a method does to a list of cells, as a program that can be run; and that the machine does the same (the soundness of it, instruction by instruction, behind). -/
abbrev pm_E : Type := List Int32 ⊕ List Int64 ⊕ (Nat × List (Option Nat)) ⊕ (Nat × List Value)
abbrev pm_H : Type := List pm_E
abbrev pm_L : Type := List (Option Value)
abbrev pm_R : Type := Option (Option Value × pm_H)
abbrev pm_K : Type := Nat → Option (List Int32)
/-- an instruction: the constant rows; calls; what comes next; locals, operand stack, cells -/
abbrev pm_S : Type := pm_K → (Nat → List Value → pm_H → pm_R) → (Nat → pm_L → List Value → pm_H → pm_R) → pm_L → List Value → pm_H → pm_R
/-- own class, code, locals, what it returns, a constructor or not, frames and locals' room that its calls need -/
abbrev pm_I : Type := String × ByteArray × Nat × Option FieldType × Bool × Nat × Nat
abbrev pm_T : Type := Nat → MethodName × pm_I
def pm_B : Nat := 1000000
def pm_z : pm_E → Nat
  | .inl l => l.length
  | .inr (.inl l) => l.length
  | .inr (.inr (.inl (_, l))) => l.length
  | .inr (.inr (.inr (_, l))) => l.length
def pm_zs : pm_H → Nat
  | [] => 0
  | e :: t => pm_z e + pm_zs t
/-- a place's number to its address -/
def pm_V (ad : Nat → Nat) : Value → Value
  | .ref k => .ref (ad k)
  | v => v
theorem pm_V_int (ad : Nat → Nat) (x : Int32) : pm_V ad (.int x) = .int x := rfl
theorem pm_V_long (ad : Nat → Nat) (x : Int64) : pm_V ad (.long x) = .long x := rfl
theorem pm_V_ref (ad : Nat → Nat) (k : Nat) : pm_V ad (.ref k) = .ref (ad k) := rfl
theorem pm_V_null (ad : Nat → Nat) : pm_V ad .null = .null := rfl
theorem pm_V_cat (ad : Nat → Nat) (v : Value) : (pm_V ad v).category = v.category := by cases v <;> rfl
def pm_e (cR : Nat → ClassId) (ad : Nat → Nat) : pm_E → va_E
  | .inl l => .inl (cR 0, l.length, .inl (fun i => l.getD i 0))
  | .inr (.inl l) => .inl (cR 1, l.length, .inr (.inl (fun i => l.getD i 0)))
  | .inr (.inr (.inl (t, l))) => .inl (cR (t + 2), l.length, .inr (.inr (.inr (.inr (fun i => (l.getD i none).map ad)))))
  | .inr (.inr (.inr (c, fs))) => .inr (c, fs.map (pm_V ad))
def pm_W (cR : Nat → ClassId) (ad : Nat → Nat) : Nat → pm_H → va_W
  | _, [] => []
  | i, e :: t => (ad i, pm_e cR ad e) :: pm_W cR ad (i + 1) t
theorem pm_W_get {cR : Nat → ClassId} {ad : Nat → Nat} : ∀ (h : pm_H) (i k : Nat), (pm_W cR ad i h)[k]? = (h[k]?).map (fun e => (ad (i + k), pm_e cR ad e))
  | [], i, k => by simp [pm_W]
  | e :: t, i, 0 => by simp [pm_W]
  | e :: t, i, k + 1 => by
    simp only [pm_W, List.getElem?_cons_succ]
    rw [pm_W_get t (i + 1) k, show i + 1 + k = i + (k + 1) by omega]
theorem pm_W_at {cR : Nat → ClassId} {ad : Nat → Nat} {h : pm_H} {k : Nat} {e : pm_E} (he : h[k]? = some e) : (pm_W cR ad 0 h)[k]? = some (ad k, pm_e cR ad e) := by
  rw [pm_W_get, he, Nat.zero_add]; rfl
theorem pm_W_set {cR : Nat → ClassId} {ad : Nat → Nat} {e : pm_E} : ∀ (h : pm_H) (i k : Nat), pm_W cR ad i (h.set k e) = (pm_W cR ad i h).set k (ad (i + k), pm_e cR ad e)
  | [], i, k => by simp [pm_W]
  | e0 :: t, i, 0 => by simp [pm_W]
  | e0 :: t, i, k + 1 => by
    simp only [pm_W, List.set_cons_succ]
    rw [pm_W_set t (i + 1) k, show i + 1 + k = i + (k + 1) by omega]
theorem pm_W_app {cR : Nat → ClassId} {ad : Nat → Nat} {e : pm_E} : ∀ (h : pm_H) (i : Nat), pm_W cR ad i (h ++ [e]) = pm_W cR ad i h ++ [(ad (i + h.length), pm_e cR ad e)]
  | [], i => by simp [pm_W]
  | e0 :: t, i => by
    simp only [pm_W, List.cons_append, List.length_cons]
    rw [pm_W_app t (i + 1), show i + 1 + t.length = i + (t.length + 1) by omega]
theorem pm_W_len {cR : Nat → ClassId} {ad : Nat → Nat} : ∀ (h : pm_H) (i : Nat), (pm_W cR ad i h).length = h.length
  | [], i => rfl
  | e0 :: t, i => by simp only [pm_W, List.length_cons]; rw [pm_W_len t (i + 1)]
theorem pm_zs_set {e0 e : pm_E} (hz : pm_z e = pm_z e0) : ∀ (h : pm_H) (k : Nat), h[k]? = some e0 → pm_zs (h.set k e) = pm_zs h
  | [], k, hk => by simp at hk
  | a :: t, 0, hk => by
    simp only [List.getElem?_cons_zero, Option.some.injEq] at hk
    subst hk
    simp only [List.set_cons_zero, pm_zs, hz]
  | a :: t, k + 1, hk => by
    simp only [List.getElem?_cons_succ] at hk
    simp only [List.set_cons_succ, pm_zs, pm_zs_set hz t k hk]
theorem pm_zs_app {e : pm_E} : ∀ (h : pm_H), pm_zs (h ++ [e]) = pm_zs h + pm_z e
  | [] => by simp [pm_zs]
  | a :: t => by simp only [List.cons_append, pm_zs, pm_zs_app t]; omega
/-- places that a change of the addresses between lo and hi leaves alone -/
def pm_X (ad ad' : Nat → Nat) (lo hi : Nat) : Prop := ∀ k : Nat, k < lo ∨ hi ≤ k → ad' k = ad k
def pm_rk (lo hi k : Nat) : Bool := Nat.blt k lo || Nat.ble hi k
def pm_rV (lo hi : Nat) : Value → Bool
  | .ref k => pm_rk lo hi k
  | _ => true
def pm_rS (lo hi : Nat) : List Value → Bool
  | [] => true
  | v :: t => pm_rV lo hi v && pm_rS lo hi t
def pm_rO (lo hi : Nat) : List (Option Nat) → Bool
  | [] => true
  | none :: t => pm_rO lo hi t
  | some k :: t => pm_rk lo hi k && pm_rO lo hi t
def pm_rL (lo hi : Nat) : pm_L → Bool
  | [] => true
  | none :: t => pm_rL lo hi t
  | some v :: t => pm_rV lo hi v && pm_rL lo hi t
def pm_rE (lo hi : Nat) : pm_E → Bool
  | .inl _ => true
  | .inr (.inl _) => true
  | .inr (.inr (.inl (_, l))) => pm_rO lo hi l
  | .inr (.inr (.inr (_, fs))) => pm_rS lo hi fs
def pm_rH (lo hi : Nat) : pm_H → Bool
  | [] => true
  | e :: t => pm_rE lo hi e && pm_rH lo hi t
theorem pm_rk_of {lo hi k : Nat} (h : pm_rk lo hi k = true) : k < lo ∨ hi ≤ k := by
  simp only [pm_rk, Bool.or_eq_true] at h
  rcases h with h | h
  · exact Or.inl (Nat.le_of_ble_eq_true h)
  · exact Or.inr (Nat.le_of_ble_eq_true h)
theorem pm_rV_of {ad ad' : Nat → Nat} {lo hi : Nat} (hx : pm_X ad ad' lo hi) {v : Value} (h : pm_rV lo hi v = true) : pm_V ad' v = pm_V ad v := by
  cases v with
  | ref k => exact congrArg Value.ref (hx k (pm_rk_of h))
  | _ => rfl
theorem pm_rS_of {ad ad' : Nat → Nat} {lo hi : Nat} (hx : pm_X ad ad' lo hi) : ∀ {st : List Value}, pm_rS lo hi st = true → st.map (pm_V ad') = st.map (pm_V ad)
  | [], _ => rfl
  | v :: t, h => by
    simp only [pm_rS, Bool.and_eq_true] at h
    simp only [List.map_cons, pm_rV_of hx h.1, pm_rS_of hx h.2]
theorem pm_rO_of {ad ad' : Nat → Nat} {lo hi : Nat} (hx : pm_X ad ad' lo hi) : ∀ {l : List (Option Nat)}, pm_rO lo hi l = true → ∀ i : Nat, (l.getD i none).map ad' = (l.getD i none).map ad
  | [], _, i => by simp
  | none :: t, h, 0 => rfl
  | none :: t, h, i + 1 => by
    simp only [List.getD_cons_succ]
    exact pm_rO_of hx (l := t) h i
  | some k :: t, h, 0 => by
    simp only [pm_rO, Bool.and_eq_true] at h
    simp only [List.getD_cons_zero, Option.map_some, hx k (pm_rk_of h.1)]
  | some k :: t, h, i + 1 => by
    simp only [pm_rO, Bool.and_eq_true] at h
    simp only [List.getD_cons_succ]
    exact pm_rO_of hx (l := t) h.2 i
theorem pm_rL_of {ad ad' : Nat → Nat} {lo hi : Nat} (hx : pm_X ad ad' lo hi) : ∀ {L : pm_L}, pm_rL lo hi L = true → ∀ (j : Nat) (v : Value), L[j]? = some (some v) → pm_V ad' v = pm_V ad v
  | [], _, j, v, hj => by simp at hj
  | none :: t, h, 0, v, hj => by simp at hj
  | none :: t, h, j + 1, v, hj => by
    simp only [List.getElem?_cons_succ] at hj
    exact pm_rL_of hx (L := t) h j v hj
  | some w :: t, h, 0, v, hj => by
    simp only [List.getElem?_cons_zero, Option.some.injEq] at hj
    subst hj
    simp only [pm_rL, Bool.and_eq_true] at h
    exact pm_rV_of hx h.1
  | some w :: t, h, j + 1, v, hj => by
    simp only [List.getElem?_cons_succ] at hj
    simp only [pm_rL, Bool.and_eq_true] at h
    exact pm_rL_of hx (L := t) h.2 j v hj
theorem pm_rE_of {cR : Nat → ClassId} {ad ad' : Nat → Nat} {lo hi : Nat} (hx : pm_X ad ad' lo hi) {e : pm_E} (h : pm_rE lo hi e = true) : pm_e cR ad' e = pm_e cR ad e := by
  rcases e with l | l | ⟨t, l⟩ | ⟨c, fs⟩
  · rfl
  · rfl
  · have h1 : (fun i : Nat => (l.getD i none).map ad') = (fun i : Nat => (l.getD i none).map ad) := funext (pm_rO_of hx (l := l) h)
    simp only [pm_e, h1]
  · simp only [pm_e, pm_rS_of hx (st := fs) h]
theorem pm_rH_of {cR : Nat → ClassId} {ad ad' : Nat → Nat} {lo hi : Nat} (hx : pm_X ad ad' lo hi) : ∀ {h : pm_H} (i : Nat), i + h.length ≤ lo → pm_rH lo hi h = true → pm_W cR ad' i h = pm_W cR ad i h
  | [], i, _, _ => rfl
  | e :: t, i, hl, h => by
    simp only [pm_rH, Bool.and_eq_true] at h
    simp only [List.length_cons] at hl
    simp only [pm_W, pm_rE_of hx h.1, pm_rH_of hx (h := t) (i + 1) (by omega) h.2, hx i (Or.inl (by omega))]
theorem pm_X.rf {ad : Nat → Nat} {lo hi : Nat} : pm_X ad ad lo hi := fun _ _ => rfl
theorem pm_X.tr {a b c : Nat → Nat} {lo mid hi : Nat} (h1 : pm_X a b lo mid) (h2 : pm_X b c mid hi) (l1 : lo ≤ mid) (l2 : mid ≤ hi) : pm_X a c lo hi := fun k hk => by
  rw [h2 k (by omega), h1 k (by omega)]
theorem pm_X.wide {a b : Nat → Nat} {lo hi lo' hi' : Nat} (h1 : pm_X a b lo hi) (l1 : lo' ≤ lo) (l2 : hi ≤ hi') : pm_X a b lo' hi' := fun k hk => h1 k (by omega)
/-- the locals -/
def pm_l (ad : Nat → Nat) (nL : Nat) (ls : Array Slot) (L : pm_L) : Prop := L.length = nL ∧ ls.size = nL ∧ lv_wf ls ∧ ∀ (j : Nat) (v : Value), L[j]? = some (some v) → ls[j]? = some (.val (pm_V ad v))
theorem pm_l.ext {ad ad' : Nat → Nat} {nL lo hi : Nat} {ls : Array Slot} {L : pm_L} (h : pm_l ad nL ls L) (hx : pm_X ad ad' lo hi) (hr : pm_rL lo hi L = true) : pm_l ad' nL ls L :=
  ⟨h.1, h.2.1, h.2.2.1, fun j v hj => by rw [pm_rL_of hx hr j v hj]; exact h.2.2.2 j v hj⟩
def pm_a (ad : Nat → Nat) (L : pm_L) : List (Nat × Value) := (List.range L.length).filterMap (fun j => match L[j]? with
  | some (some v) => some (j, pm_V ad v)
  | _ => none)
theorem pm_a_of {ad : Nat → Nat} {L : pm_L} {j : Nat} {v : Value} (h : L[j]? = some (some v)) : (j, pm_V ad v) ∈ pm_a ad L := by
  refine List.mem_filterMap.mpr ⟨j, List.mem_range.mpr (List.getElem?_eq_some_iff.mp h).1, ?_⟩
  simp only [h]
theorem pm_a_to {ad : Nat → Nat} {L : pm_L} {q : Nat × Value} (h : q ∈ pm_a ad L) : ∃ v : Value, L[q.1]? = some (some v) ∧ q.2 = pm_V ad v := by
  obtain ⟨j, -, h2⟩ := List.mem_filterMap.mp h
  split at h2
  · next v hv => cases h2; exact ⟨v, hv, rfl⟩
  · cases h2
theorem pm_l.has {ad : Nat → Nat} {nL : Nat} {ls : Array Slot} {L : pm_L} (h : pm_l ad nL ls L) : lv_has ls nL (pm_a ad L) :=
  ⟨h.2.1, h.2.2.1, fun q hq => by obtain ⟨v, h1, h2⟩ := pm_a_to hq; rw [h2]; exact h.2.2.2 _ _ h1⟩
def pm_c (L : pm_L) : Nat → pm_L
  | 0 => L
  | j + 1 => match L[j]? with
    | some (some v) => if v.category = 2 then L.set j none else L
    | _ => L
/-- a store of one word, of two -/
def pm_s (L : pm_L) (i : Nat) (v : Value) : pm_L := (pm_c L i).set i (some v)
def pm_s2 (L : pm_L) (i : Nat) (v : Value) : pm_L := ((pm_c L i).set i (some v)).set (i + 1) none
theorem pm_c_len (L : pm_L) (i : Nat) : (pm_c L i).length = L.length := by
  cases i with
  | zero => rfl
  | succ j =>
    simp only [pm_c]
    split
    · split
      · exact List.length_set
      · rfl
    · rfl
theorem pm_c_of {L : pm_L} {i j : Nat} {v : Value} (h : (pm_c L i)[j]? = some (some v)) : L[j]? = some (some v) ∧ ¬ (j + 1 = i ∧ v.category = 2) := by
  cases i with
  | zero => exact ⟨h, fun q => by omega⟩
  | succ i =>
    simp only [pm_c] at h
    split at h
    · next w hw =>
      split at h
      · next hc =>
        by_cases hj : j = i
        · subst hj
          have hl := (List.getElem?_eq_some_iff.mp hw).1
          rw [List.getElem?_set_self hl] at h
          cases h
        · rw [List.getElem?_set_ne (Ne.symm hj)] at h
          exact ⟨h, fun q => by omega⟩
      · next hc =>
        refine ⟨h, fun q => ?_⟩
        have hj : j = i := by omega
        subst hj
        rw [h] at hw
        cases hw
        exact hc q.2
    · next hn =>
      refine ⟨h, fun q => ?_⟩
      have hj : j = i := by omega
      subst hj
      exact hn v h
theorem pm_l.store {ad : Nat → Nat} {nL i : Nat} {ls ls' : Array Slot} {L : pm_L} {v : Value} (h : pm_l ad nL ls L) (hi : i < nL)
    (hl : lv_has ls' nL ((i, pm_V ad v) :: (pm_a ad L).filter (fun q => !(q.1 == i) && !(q.1 + 1 == i && q.2.category == 2)))) : pm_l ad nL ls' (pm_s L i v) := by
  have hc : (pm_c L i).length = nL := (pm_c_len L i).trans h.1
  refine ⟨by rw [pm_s, List.length_set]; exact hc, hl.1, hl.2.1, fun j w hj => ?_⟩
  by_cases hji : j = i
  · subst hji
    rw [pm_s, List.getElem?_set_self (by omega)] at hj
    cases hj
    exact hl.2.2 (j, pm_V ad v) List.mem_cons_self
  · rw [pm_s, List.getElem?_set_ne (Ne.symm hji)] at hj
    obtain ⟨h1, h2⟩ := pm_c_of hj
    refine hl.2.2 (j, pm_V ad w) (List.mem_cons_of_mem _ (List.mem_filter.mpr ⟨pm_a_of h1, ?_⟩))
    simp only [Bool.and_eq_true, Bool.not_eq_true', beq_eq_false_iff_ne, ne_eq, Bool.and_eq_false_iff, pm_V_cat]
    refine ⟨hji, ?_⟩
    by_cases q : j + 1 = i
    · exact Or.inr fun z => h2 ⟨q, z⟩
    · exact Or.inl q
theorem pm_l.store2 {ad : Nat → Nat} {nL i : Nat} {ls ls' : Array Slot} {L : pm_L} {v : Value} (h : pm_l ad nL ls L) (hi : i + 1 < nL)
    (hl : lv_has ls' nL ((i, pm_V ad v) :: (pm_a ad L).filter (fun q => !(q.1 == i) && (!(q.1 == i + 1) && !(q.1 + 1 == i && q.2.category == 2))))) : pm_l ad nL ls' (pm_s2 L i v) := by
  have hc : (pm_c L i).length = nL := (pm_c_len L i).trans h.1
  refine ⟨by rw [pm_s2, List.length_set, List.length_set]; exact hc, hl.1, hl.2.1, fun j w hj => ?_⟩
  by_cases hj2 : j = i + 1
  · subst hj2
    rw [pm_s2, List.getElem?_set_self (by rw [List.length_set]; omega)] at hj
    cases hj
  rw [pm_s2, List.getElem?_set_ne (Ne.symm hj2)] at hj
  by_cases hji : j = i
  · subst hji
    rw [List.getElem?_set_self (by omega)] at hj
    cases hj
    exact hl.2.2 (j, pm_V ad v) List.mem_cons_self
  · rw [List.getElem?_set_ne (Ne.symm hji)] at hj
    obtain ⟨h1, h2⟩ := pm_c_of hj
    refine hl.2.2 (j, pm_V ad w) (List.mem_cons_of_mem _ (List.mem_filter.mpr ⟨pm_a_of h1, ?_⟩))
    simp only [Bool.and_eq_true, Bool.not_eq_true', beq_eq_false_iff_ne, ne_eq, Bool.and_eq_false_iff, pm_V_cat]
    refine ⟨hji, hj2, ?_⟩
    by_cases q : j + 1 = i
    · exact Or.inr fun z => h2 ⟨q, z⟩
    · exact Or.inl q
/-- stores into rows, as the kit says them -/
theorem pm_updI {l : List Int32} {i : Nat} {x : Int32} (hi : i < l.length) : (fun j : Nat => (l.set i x).getD j 0) = upd (fun j : Nat => l.getD j 0) i x := by
  funext j
  by_cases hj : j = i
  · subst hj
    simp [upd, List.getD, List.getElem?_set_self hi]
  · simp [upd, List.getD, hj, List.getElem?_set_ne (Ne.symm hj)]
theorem pm_updL {l : List Int64} {i : Nat} {x : Int64} (hi : i < l.length) : (fun j : Nat => (l.set i x).getD j 0) = vp_updL (fun j : Nat => l.getD j 0) i x := by
  funext j
  by_cases hj : j = i
  · subst hj
    simp [vp_updL, List.getD, List.getElem?_set_self hi]
  · simp [vp_updL, List.getD, hj, List.getElem?_set_ne (Ne.symm hj)]
theorem pm_updQ {ad : Nat → Nat} {l : List (Option Nat)} {i k : Nat} (hi : i < l.length) : (fun j : Nat => ((l.set i (some k)).getD j none).map ad) = va_up (fun j : Nat => (l.getD j none).map ad) i (some (ad k)) := by
  funext j
  by_cases hj : j = i
  · subst hj
    simp [va_up, List.getD, List.getElem?_set_self hi]
  · simp [va_up, List.getD, hj, List.getElem?_set_ne (Ne.symm hj)]
