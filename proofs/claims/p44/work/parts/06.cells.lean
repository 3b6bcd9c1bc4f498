/-! the instructions that read, change or make cells; calls; returns -/
abbrev pm_ob (c : Nat) (fs : List Value) : pm_E := .inr (.inr (.inr (c, fs)))
abbrev pm_qr (t : Nat) (l : List (Option Nat)) : pm_E := .inr (.inr (.inl (t, l)))
def pm_row (K : pm_K) (h : pm_H) (a : Nat) : Option (List Int32) := match h[a]? with
  | some (.inl l) => some l
  | some _ => none
  | none => if pm_B ≤ a ∧ a < pm_B + 3 then K (a - pm_B) else none
def pm_len (K : pm_K) (h : pm_H) (a : Nat) : Option Nat := match h[a]? with
  | some (.inl l) => some l.length
  | some (.inr (.inl l)) => some l.length
  | some (.inr (.inr (.inl (0, l)))) => some l.length
  | some (.inr (.inr (.inl (1, l)))) => some l.length
  | some _ => none
  | none => if pm_B ≤ a ∧ a < pm_B + 3 then (K (a - pm_B)).map List.length else none
def pm_free (n : Nat) (L : pm_L) (st : List Value) (h : pm_H) : Bool := Nat.blt n pm_B && (pm_rL n (n + 1) L && (pm_rS n (n + 1) st && pm_rH n (n + 1) h))
def pm_ci : Value → Bool
  | .int _ => true
  | _ => false
def pm_cz : Value → Bool
  | .int x => x == 0 || x == 1
  | _ => false
def pm_cl : Value → Bool
  | .long _ => true
  | _ => false
def pm_cr : Value → Bool
  | .ref _ => true
  | _ => false
def pms_gf (ci k nx : Nat) : pm_S := fun _ _ cont L st h => match st with
  | .ref a :: t => match h[a]? with
    | some (.inr (.inr (.inr (c, fs)))) => if c = ci then (match fs[k]? with
      | some v => cont nx L (v :: t) h
      | none => none) else none
    | _ => none
  | _ => none
def pms_pf (ci k : Nat) (ck : Value → Bool) (nx : Nat) : pm_S := fun _ _ cont L st h => match st with
  | v :: .ref a :: t => if ck v = true then (match h[a]? with
    | some (.inr (.inr (.inr (c, fs)))) => if c = ci ∧ k < fs.length then cont nx L t (h.set a (.inr (.inr (.inr (c, fs.set k v))))) else none
    | _ => none) else none
  | _ => none
def pms_ia (nx : Nat) : pm_S := fun K _ cont L st h => match st with
  | .int i :: .ref a :: t => if i < 0 then none else (match pm_row K h a with
    | some l => match l[i.toNatClampNeg]? with
      | some x => cont nx L (.int x :: t) h
      | none => none
    | none => none)
  | _ => none
def pms_is (nx : Nat) : pm_S := fun _ _ cont L st h => match st with
  | .int x :: .int i :: .ref a :: t => if i < 0 then none else (match h[a]? with
    | some (.inl l) => if i.toNatClampNeg < l.length then cont nx L t (h.set a (.inl (l.set i.toNatClampNeg x))) else none
    | _ => none)
  | _ => none
def pms_ja (nx : Nat) : pm_S := fun _ _ cont L st h => match st with
  | .int i :: .ref a :: t => if i < 0 then none else (match h[a]? with
    | some (.inr (.inl l)) => match l[i.toNatClampNeg]? with
      | some x => cont nx L (.long x :: t) h
      | none => none
    | _ => none)
  | _ => none
def pms_js (nx : Nat) : pm_S := fun _ _ cont L st h => match st with
  | .long x :: .int i :: .ref a :: t => if i < 0 then none else (match h[a]? with
    | some (.inr (.inl l)) => if i.toNatClampNeg < l.length then cont nx L t (h.set a (.inr (.inl (l.set i.toNatClampNeg x)))) else none
    | _ => none)
  | _ => none
def pms_aa (ty nx : Nat) : pm_S := fun _ _ cont L st h => match st with
  | .int i :: .ref a :: t => if i < 0 then none else (match h[a]? with
    | some (.inr (.inr (.inl (t0, l)))) => if t0 = ty then (match l[i.toNatClampNeg]? with
      | some (some k) => cont nx L (.ref k :: t) h
      | _ => none) else none
    | _ => none)
  | _ => none
def pms_as (ty ci nx : Nat) : pm_S := fun _ _ cont L st h => match st with
  | .ref k :: .int i :: .ref a :: t => if i < 0 then none else (match h[a]?, h[k]? with
    | some (.inr (.inr (.inl (t0, l)))), some (.inr (.inr (.inr (c, fs)))) => if t0 = ty ∧ c = ci ∧ i.toNatClampNeg < l.length then cont nx L t (h.set a (.inr (.inr (.inl (t0, l.set i.toNatClampNeg (some k)))))) else none
    | _, _ => none)
  | _ => none
def pms_len (nx : Nat) : pm_S := fun K _ cont L st h => match st with
  | .ref a :: t => match pm_len K h a with
    | some n => cont nx L (.int (Int32.ofNat n) :: t) h
    | none => none
  | _ => none
def pms_gs (j nx : Nat) : pm_S := fun _ _ cont L st h => cont nx L (.ref (pm_B + j) :: st) h
def pms_nw (ci : Nat) (fs : List Value) (nx : Nat) : pm_S := fun _ _ cont L st h =>
  if pm_free h.length L st h = true then cont nx L (.ref h.length :: st) (h ++ [pm_ob ci fs]) else none
def pms_ni (nx : Nat) : pm_S := fun _ _ cont L st h => match st with
  | .int n :: t => if n < 0 then none else if n.toNatClampNeg ≤ 100000 ∧ pm_free h.length L t h = true then cont nx L (.ref h.length :: t) (h ++ [.inl (List.replicate n.toNatClampNeg 0)]) else none
  | _ => none
def pms_nj (nx : Nat) : pm_S := fun _ _ cont L st h => match st with
  | .int n :: t => if n < 0 then none else if n.toNatClampNeg ≤ 100000 ∧ pm_free h.length L t h = true then cont nx L (.ref h.length :: t) (h ++ [.inr (.inl (List.replicate n.toNatClampNeg 0))]) else none
  | _ => none
def pms_na (ty nx : Nat) : pm_S := fun _ _ cont L st h => match st with
  | .int n :: t => if n < 0 then none else if n.toNatClampNeg ≤ 100000 ∧ pm_free h.length L t h = true then cont nx L (.ref h.length :: t) (h ++ [pm_qr ty (List.replicate n.toNatClampNeg none)]) else none
  | _ => none
def pms_oi (nx : Nat) : pm_S := fun _ _ cont L st h => match st with
  | .ref _ :: t => if (t.map fun v => v.category).sum ≤ 8 then cont nx L t h else none
  | _ => none
/-- what a call leaves: the answer on the stack -/
def pm_back (cont : Nat → pm_L → List Value → pm_H → pm_R) (nx : Nat) (L : pm_L) (rest : List Value) (h : pm_H) : pm_R → pm_R
  | some (r, h2) => if (rest.map fun v => v.category).sum ≤ 8 ∧ (h2.length = h.length ∨ (pm_rL h.length h2.length L = true ∧ pm_rS h.length h2.length rest = true)) then cont nx L (r.toList ++ rest) h2 else none
  | none => none
def pms_st (k n nx : Nat) : pm_S := fun _ call cont L st h =>
  if n ≤ st.length then pm_back cont nx L (st.drop n) h (call k (st.take n).reverse h) else none
def pms_vi (ci k n nx : Nat) : pm_S := fun _ call cont L st h =>
  if n ≤ st.length then (match st.drop n with
    | .ref b :: rest => match h[b]? with
      | some (.inr (.inr (.inr (c, _)))) => if c = ci then pm_back cont nx L rest h (call k (.ref b :: (st.take n).reverse) h) else none
      | _ => none
    | _ => none) else none
def pms_ct (k n nx : Nat) : pm_S := fun _ call cont L st h =>
  if n ≤ st.length then (match st.drop n with
    | .ref b :: rest => pm_back cont nx L rest h (call k (.ref b :: (st.take n).reverse) h)
    | _ => none) else none
def pm_cpy (l g : List Int32) (sp dp n : Nat) : List Int32 := g.take dp ++ ((l.drop sp).take n ++ g.drop (dp + n))
def pms_cp (nx : Nat) : pm_S := fun K _ cont L st h => match st with
  | .int n :: .int dp :: .ref b :: .int sp :: .ref a :: t => if n < 0 ∨ dp < 0 ∨ sp < 0 then none else (match pm_row K h a, h[b]? with
    | some l, some (.inl g) => if sp.toNatClampNeg + n.toNatClampNeg ≤ l.length ∧ dp.toNatClampNeg + n.toNatClampNeg ≤ g.length ∧ (t.map fun v => v.category).sum ≤ 8 then cont nx L t (h.set b (.inl (pm_cpy l g sp.toNatClampNeg dp.toNatClampNeg n.toNatClampNeg))) else none
    | _, _ => none)
  | _ => none
def pms_ri : pm_S := fun _ _ _ _ st h => match st with
  | [.int x] => some (some (.int x), h)
  | _ => none
def pms_rz : pm_S := fun _ _ _ _ st h => match st with
  | [.int x] => if (x == 0 || x == 1) = true then some (some (.int x), h) else none
  | _ => none
def pms_rl : pm_S := fun _ _ _ _ st h => match st with
  | [.long x] => some (some (.long x), h)
  | _ => none
def pms_ra : pm_S := fun _ _ _ _ st h => match st with
  | [.ref x] => some (some (.ref x), h)
  | _ => none
def pms_rv : pm_S := fun _ _ _ _ st h => match st with
  | [] => some (none, h)
  | _ => none
section CELLS
variable {T : pm_T} {K : pm_K} {cR : Nat → ClassId} {D : va_G} {M : pm_I} {pc : Nat}
theorem pm_P.set {ad : Nat → Nat} {h : pm_H} {A : Nat → Prop} {s : State} {H H1 : Heap} {locs locs1 : List Loc} (hP : pm_P K cR D ad h A s H locs) {a : Nat} {e : pm_E} {E : va_E} (hE : pm_e cR ad e = E)
    (h1 : va_P D pm_Cl ((pm_W cR ad 0 h).set a (ad a, E)) H1) (h2 : va_D A ((pm_W cR ad 0 h).set a (ad a, E))) (h3 : va_S A s.heap H1 locs1) : pm_P K cR D ad (h.set a e) A s H1 locs1 := by
  subst hE
  have e1 : pm_W cR ad 0 (h.set a e) = (pm_W cR ad 0 h).set a (ad a, pm_e cR ad e) := by rw [pm_W_set, Nat.zero_add]
  exact ⟨by rw [e1]; exact h1, by rw [e1]; exact h2, h3, hP.2.2.2.1, by rw [List.length_set]; exact hP.2.2.2.2.1, hP.2.2.2.2.2⟩
theorem pm_row_of {h : pm_H} {a : Nat} {l : List Int32} (hr : pm_row K h a = some l) : h[a]? = some (.inl l) ∨ ∃ j : Nat, j < 3 ∧ a = pm_B + j ∧ K j = some l := by
  unfold pm_row at hr
  split at hr
  · next l0 hl => cases hr; exact Or.inl hl
  · cases hr
  · split at hr
    · next hb => exact Or.inr ⟨a - pm_B, by omega, by omega, hr⟩
    · cases hr
theorem pm_in {i : Int32} {n : Nat} (h0 : ¬ i < 0) (h1 : i.toNatClampNeg < n) : vp_in i n := fun q => by
  rcases q with q | q
  · exact h0 q
  · omega
theorem pmk_gf {ci k nx index N : Nat} {C : String} {T0 : u_T} (hc : pm_Cl[ci]? = some (C, T0, N)) (hin : ∀ w ∈ u_ws C T0 N, w ∈ pm_w) (hk : k < N) {ref : String} (hr : (T0 k).1 = ref) (hw : Cond.fieldLink M.1 index ref (T0 k).2.1 (T0 k).2.2.1 ∈ pm_w)
    (hd : decode M.2.1 pc = .ok (.getfield index, 3)) (hn : pc + 3 = nx) : pm_ok T K cR D M pc (pms_gf ci k nx) := by
  intro call cont hcall hcont L st h r h' hS
  unfold pms_gf at hS
  split at hS
  · next a t =>
    split at hS
    · next c fs hcell =>
      split at hS
      · next hci =>
        split at hS
        · next v hv =>
          refine pm_G.of_h rfl rfl (hcont _ _ _ _ _ _ hS) ?_
          intro p l e R s m args below meth c0 A H locs cells slots Q ad ls hC hP hl kk
          obtain ⟨he, hb, -, -, ho, hts, -, -, -, hK, -⟩ := hC
          subst hn
          subst hci
          exact va_get he hb hts hin ho hK hP.1 a (pm_W_at hcell) hc k hk (hts _ hw) (fun x h9 => hr ▸ h9) (v := pm_V ad v) (by rw [List.getElem?_map, hv]; rfl) hd (kk H locs ls hP hl)
        · cases hS
      · cases hS
    · cases hS
  · cases hS
theorem pmk_pf {ci k nx index N : Nat} {C : String} {T0 : u_T} {ty0 : Nat → FieldType} {ty : FieldType} {ck : Value → Bool} (hc : pm_Cl[ci]? = some (C, T0, N)) (hin : ∀ w ∈ u_ws C T0 N, w ∈ pm_w) (hty : ∀ k, k < N → parseFieldDescriptor (T0 k).2.2.1 = some (ty0 k)) (hnm : ∀ a, a < N → ∀ b, b < N → a ≠ b → (T0 a).2.1 ≠ (T0 b).2.1)
    (hk : k < N) {ref : String} (hr : (T0 k).1 = ref) (hw : Cond.fieldLink M.1 index ref (T0 k).2.1 (T0 k).2.2.1 ∈ pm_w) (ht : ty0 k = ty) (hfin : (T0 k).2.2.2 = false) (hck : ∀ (v : Value) (ad : Nat → Nat), ck v = true → narrow ty (pm_V ad v) = pm_V ad v ∧ fits ty (pm_V ad v) = true)
    (hd : decode M.2.1 pc = .ok (.putfield index, 3)) (hn : pc + 3 = nx) : pm_ok T K cR D M pc (pms_pf ci k ck nx) := by
  intro call cont hcall hcont L st h r h' hS
  unfold pms_pf at hS
  split at hS
  · next v a t =>
    split at hS
    · next hv =>
      split at hS
      · next c fs hcell =>
        split at hS
        · next hci =>
          obtain ⟨hci, hkl⟩ := hci
          refine pm_G.of_h List.length_set (pm_zs_set (e0 := .inr (.inr (.inr (c, fs)))) (by simp [pm_z]) h a hcell) (hcont _ _ _ _ _ _ hS) ?_
          intro p l e R s m args below meth c0 A H locs cells slots Q ad ls hC hP hl kk
          obtain ⟨he, hb, -, -, ho, hts, -, -, -, hK, -⟩ := hC
          subst hn
          subst hci
          have e1 : pm_e cR ad (.inr (.inr (.inr (c, fs.set k v)))) = .inr (c, (fs.map (pm_V ad)).set k (pm_V ad v)) := by simp only [pm_e, List.map_set]
          exact va_put he hb hts hin ty0 hty hnm ho hK hP.1 hP.2.1 hP.2.2.1 a (pm_W_at hcell) hc k hk (hts _ hw) (fun x h9 => hr ▸ h9) hfin (by rw [hty k hk, ht]) (hck v ad hv).1 (hck v ad hv).2 (by rw [List.length_map]; exact hkl) hd (fun H1 locs1 g1 g2 g3 => kk H1 locs1 ls (hP.set e1 g1 g2 g3) hl)
        · cases hS
      · cases hS
    · cases hS
  · cases hS
theorem pmk_pF {ci k nx index N : Nat} {C : String} {T0 : u_T} {ty0 : Nat → FieldType} {ty : FieldType} {ck : Value → Bool} (hc : pm_Cl[ci]? = some (C, T0, N)) (hin : ∀ w ∈ u_ws C T0 N, w ∈ pm_w) (hty : ∀ k, k < N → parseFieldDescriptor (T0 k).2.2.1 = some (ty0 k)) (hnm : ∀ a, a < N → ∀ b, b < N → a ≠ b → (T0 a).2.1 ≠ (T0 b).2.1)
    (hk : k < N) {ref : String} (hr : (T0 k).1 = ref) (hw : Cond.fieldLink M.1 index ref (T0 k).2.1 (T0 k).2.2.1 ∈ pm_w) (ht : ty0 k = ty) (hfin : (T0 k).2.2.2 = true) (hdecl : (T0 k).1 = M.1) (hini : M.2.2.2.2.1 = true) (hck : ∀ (v : Value) (ad : Nat → Nat), ck v = true → narrow ty (pm_V ad v) = pm_V ad v ∧ fits ty (pm_V ad v) = true)
    (hd : decode M.2.1 pc = .ok (.putfield index, 3)) (hn : pc + 3 = nx) : pm_ok T K cR D M pc (pms_pf ci k ck nx) := by
  intro call cont hcall hcont L st h r h' hS
  unfold pms_pf at hS
  split at hS
  · next v a t =>
    split at hS
    · next hv =>
      split at hS
      · next c fs hcell =>
        split at hS
        · next hci =>
          obtain ⟨hci, hkl⟩ := hci
          refine pm_G.of_h List.length_set (pm_zs_set (e0 := .inr (.inr (.inr (c, fs)))) (by simp [pm_z]) h a hcell) (hcont _ _ _ _ _ _ hS) ?_
          intro p l e R s m args below meth c0 A H locs cells slots Q ad ls hC hP hl kk
          obtain ⟨he, hb, -, -, ho, hts, -, hin2, -, hK, -⟩ := hC
          subst hn
          subst hci
          have e1 : pm_e cR ad (.inr (.inr (.inr (c, fs.set k v)))) = .inr (c, (fs.map (pm_V ad)).set k (pm_V ad v)) := by simp only [pm_e, List.map_set]
          exact va_putF he hb hts hin ty0 hty hnm ho hK hP.1 hP.2.1 hP.2.2.1 a (pm_W_at hcell) hc k hk (hts _ hw) (fun x h9 => hr ▸ h9) hfin (hin2 hini) hdecl (by rw [hty k hk, ht]) (hck v ad hv).1 (hck v ad hv).2 (by rw [List.length_map]; exact hkl) hd (fun H1 locs1 g1 g2 g3 => kk H1 locs1 ls (hP.set e1 g1 g2 g3) hl)
        · cases hS
      · cases hS
    · cases hS
  · cases hS
theorem pmk_ia {nx : Nat} (hd : decode M.2.1 pc = .ok (.iaload, 1)) (hn : pc + 1 = nx) : pm_ok T K cR D M pc (pms_ia nx) := by
  intro call cont hcall hcont L st h r h' hS
  unfold pms_ia at hS
  split at hS
  · next i a t =>
    split at hS
    · cases hS
    · next hi =>
      split at hS
      · next l hrow =>
        split at hS
        · next x hx =>
          refine pm_G.of_h rfl rfl (hcont _ _ _ _ _ _ hS) ?_
          intro p l0 e R s m args below meth c0 A H locs cells slots Q ad ls hC hP hl kk
          obtain ⟨he, hb, -, -, ho, hts, -, -, -, hK, -⟩ := hC
          subst hn
          have hlt : i.toNatClampNeg < l.length := (List.getElem?_eq_some_iff.mp hx).1
          have hg : l.getD i.toNatClampNeg 0 = x := by simp [List.getD, hx]
          have k9 := kk H locs ls hP hl
          rcases pm_row_of hrow with hcell | ⟨j, hj, rfl, hKj⟩
          · refine va_iald (t0 := 0) he hb hK hP.1 a (pm_W_at hcell) rfl (pm_in hi hlt) hd ?_
            rw [hg]
            exact k9
          · exact va_ti he hb (hP.2.2.2.1.1 j l hj hKj) hP.2.2.1 (pm_in hi hlt) (v := .int x) (by show Value.int (l.getD i.toNatClampNeg 0) = _; rw [hg]) hd k9
        · cases hS
      · cases hS
  · cases hS
theorem pmk_is {nx : Nat} (hd : decode M.2.1 pc = .ok (.iastore, 1)) (hn : pc + 1 = nx) : pm_ok T K cR D M pc (pms_is nx) := by
  intro call cont hcall hcont L st h r h' hS
  unfold pms_is at hS
  split at hS
  · next x i a t =>
    split at hS
    · cases hS
    · next hi =>
      split at hS
      · next l hcell =>
        split at hS
        · next hlt =>
          refine pm_G.of_h List.length_set (pm_zs_set (e0 := .inl l) (by simp [pm_z]) h a hcell) (hcont _ _ _ _ _ _ hS) ?_
          intro p l0 e R s m args below meth c0 A H locs cells slots Q ad ls hC hP hl kk
          obtain ⟨he, hb, -, -, ho, hts, -, -, -, hK, -⟩ := hC
          subst hn
          have e1 : pm_e cR ad (.inl (l.set i.toNatClampNeg x)) = .inl (cR 0, l.length, .inl (upd (fun j : Nat => l.getD j 0) i.toNatClampNeg x)) := by simp only [pm_e, List.length_set, pm_updI hlt]
          exact va_iast (t0 := 0) he hb hK hP.1 hP.2.1 hP.2.2.1 a (pm_W_at hcell) rfl (pm_in hi hlt) hd (fun H1 locs1 g1 g2 g3 => kk H1 locs1 ls (hP.set e1 g1 g2 g3) hl)
        · cases hS
      · cases hS
  · cases hS
theorem pmk_ja {nx : Nat} (hd : decode M.2.1 pc = .ok (.laload, 1)) (hn : pc + 1 = nx) : pm_ok T K cR D M pc (pms_ja nx) := by
  intro call cont hcall hcont L st h r h' hS
  unfold pms_ja at hS
  split at hS
  · next i a t =>
    split at hS
    · cases hS
    · next hi =>
      split at hS
      · next l hcell =>
        split at hS
        · next x hx =>
          refine pm_G.of_h rfl rfl (hcont _ _ _ _ _ _ hS) ?_
          intro p l0 e R s m args below meth c0 A H locs cells slots Q ad ls hC hP hl kk
          obtain ⟨he, hb, -, -, ho, hts, -, -, -, hK, -⟩ := hC
          subst hn
          have hlt : i.toNatClampNeg < l.length := (List.getElem?_eq_some_iff.mp hx).1
          have hg : l.getD i.toNatClampNeg 0 = x := by simp [List.getD, hx]
          have k9 := kk H locs ls hP hl
          refine va_lald (t0 := 1) he hb hK hP.1 a (pm_W_at hcell) rfl (pm_in hi hlt) hd ?_
          rw [hg]
          exact k9
        · cases hS
      · cases hS
  · cases hS
theorem pmk_js {nx : Nat} (hd : decode M.2.1 pc = .ok (.lastore, 1)) (hn : pc + 1 = nx) : pm_ok T K cR D M pc (pms_js nx) := by
  intro call cont hcall hcont L st h r h' hS
  unfold pms_js at hS
  split at hS
  · next x i a t =>
    split at hS
    · cases hS
    · next hi =>
      split at hS
      · next l hcell =>
        split at hS
        · next hlt =>
          refine pm_G.of_h List.length_set (pm_zs_set (e0 := .inr (.inl l)) (by simp [pm_z]) h a hcell) (hcont _ _ _ _ _ _ hS) ?_
          intro p l0 e R s m args below meth c0 A H locs cells slots Q ad ls hC hP hl kk
          obtain ⟨he, hb, -, -, ho, hts, -, -, -, hK, -⟩ := hC
          subst hn
          have e1 : pm_e cR ad (.inr (.inl (l.set i.toNatClampNeg x))) = .inl (cR 1, l.length, .inr (.inl (vp_updL (fun j : Nat => l.getD j 0) i.toNatClampNeg x))) := by simp only [pm_e, List.length_set, pm_updL hlt]
          exact va_last (t0 := 1) he hb hK hP.1 hP.2.1 hP.2.2.1 a (pm_W_at hcell) rfl (pm_in hi hlt) hd (fun H1 locs1 g1 g2 g3 => kk H1 locs1 ls (hP.set e1 g1 g2 g3) hl)
        · cases hS
      · cases hS
  · cases hS
theorem pmk_aa {ty nx : Nat} {C : String} (ht : (pm_ty cR)[ty + 2]? = some (cR (ty + 2), .object C)) (hd : decode M.2.1 pc = .ok (.aaload, 1)) (hn : pc + 1 = nx) : pm_ok T K cR D M pc (pms_aa ty nx) := by
  intro call cont hcall hcont L st h r h' hS
  unfold pms_aa at hS
  split at hS
  · next i a t =>
    split at hS
    · cases hS
    · next hi =>
      split at hS
      · next t0 l hcell =>
        split at hS
        · next ht0 =>
          split at hS
          · next k hx =>
            refine pm_G.of_h rfl rfl (hcont _ _ _ _ _ _ hS) ?_
            intro p l0 e R s m args below meth c0 A H locs cells slots Q ad ls hC hP hl kk
            obtain ⟨he, hb, -, -, ho, hts, -, -, -, hK, -⟩ := hC
            subst hn
            subst ht0
            have hlt : i.toNatClampNeg < l.length := (List.getElem?_eq_some_iff.mp hx).1
            have hg : l.getD i.toNatClampNeg none = some k := by simp [List.getD, hx]
            have k9 := kk H locs ls hP hl
            refine va_aldq he hb hK hP.1 a (t0 + 2) (pm_W_at hcell) ht (pm_in hi hlt) hd ?_
            rw [hg]
            exact k9
          · cases hS
        · cases hS
      · cases hS
  · cases hS
theorem pmk_as {ty ci nx : Nat} {r0 : vw_C} (ht : (pm_ty cR)[ty + 2]? = some (cR (ty + 2), .object r0.1)) (hc : pm_Cl[ci]? = some r0) (hd : decode M.2.1 pc = .ok (.aastore, 1)) (hn : pc + 1 = nx) : pm_ok T K cR D M pc (pms_as ty ci nx) := by
  intro call cont hcall hcont L st h r h' hS
  unfold pms_as at hS
  split at hS
  · next k i a t =>
    split at hS
    · cases hS
    · next hi =>
      split at hS
      · next t0 l c fs hcell hobj =>
        split at hS
        · next hcond =>
          obtain ⟨ht0, hci, hlt⟩ := hcond
          refine pm_G.of_h List.length_set (pm_zs_set (e0 := .inr (.inr (.inl (t0, l)))) (by simp [pm_z]) h a hcell) (hcont _ _ _ _ _ _ hS) ?_
          intro p l0 e R s m args below meth c0 A H locs cells slots Q ad ls hC hP hl kk
          obtain ⟨he, hb, -, -, ho, hts, -, -, -, hK, -⟩ := hC
          subst hn
          subst ht0
          subst hci
          have e1 : pm_e cR ad (.inr (.inr (.inl (t0, l.set i.toNatClampNeg (some k))))) = .inl (cR (t0 + 2), l.length, .inr (.inr (.inr (.inr (va_up (fun j : Nat => (l.getD j none).map ad) i.toNatClampNeg (some (ad k))))))) := by simp only [pm_e, List.length_set, pm_updQ hlt]
          exact va_astq he hb hK hP.1 hP.2.1 hP.2.2.1 a (t0 + 2) k c (pm_W_at hcell) ht (pm_W_at hobj) hc (pm_in hi hlt) hd (fun H1 locs1 g1 g2 g3 => kk H1 locs1 ls (hP.set e1 g1 g2 g3) hl)
        · cases hS
      · cases hS
  · cases hS
end CELLS
