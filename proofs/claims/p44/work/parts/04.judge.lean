/-! the judgements of the pure machine, and what each says of the machine -/
def pm_Cl : List vw_C := [(RX0, TX0, 6), (RX1, TX1, 12), (RX2, TX2, 3), (RX3, TX3, 4), (RX4, TX4, 8), (RX5, TX5, 11), (RX6, TX6, 30)]
def pm_ty (cR : Nat → ClassId) : List (ClassId × FieldType) := [(cR 0, .int), (cR 1, .long), (cR 2, .object RX2), (cR 3, .object RX3)]
/-- the tables' words that go with every call -/
def pm_w : List Cond := lw_tbl.filter goodWord
theorem pm_w_good : ∀ w ∈ pm_w, (w.onTables && w.keeps) = true ∨ ∃ ty, w = .arrayClass ty := fun w hw => good_of_word (List.mem_filter.mp hw).2
/-- the words that the class spells: the places of their constants, their texts, lengths and letters -/
def pm_si : List Nat := [91, 93, 95, 97, 99, 101, 103, 105, 107, 109, 111, 113, 115, 117]
def pm_sx : List String := ["asker", "novelist", "widow", "poet", "sister", "boy", "van", "lines", "rub", "slip", "thought", "hand", "pages", ""]
def pm_sl : List Nat := [5, 8, 5, 4, 6, 3, 3, 5, 3, 4, 7, 4, 5, 0]
def pm_sb : List (List Int32) := [[97, 115, 107, 101, 114], [110, 111, 118, 101, 108, 105, 115, 116], [119, 105, 100, 111, 119], [112, 111, 101, 116], [115, 105, 115, 116, 101, 114], [98, 111, 121], [118, 97, 110], [108, 105, 110, 101, 115], [114, 117, 98], [115, 108, 105, 112], [116, 104, 111, 117, 103, 104, 116], [104, 97, 110, 100], [112, 97, 103, 101, 115], []]
/-- the constant rows: the script, the two static rows of the class; the words; two statics of the JDK -/
def pm_k (K : pm_K) (ad : Nat → Nat) (A : Nat → Prop) (U : State) (H : Heap) : Prop :=
  (∀ (j : Nat) (l : List Int32), j < 3 → K j = some l → va_T .int (ad (pm_B + j)) l.length (fun i => .int (l.getD i 0)) A U H) ∧ va_Z "BlankRations" "LAW_MOST" "[I" (.ref (ad (pm_B + 1))) A U H ∧ va_Z "BlankRations" "LAW_FIRST" "[I" (.ref (ad (pm_B + 2))) A U H ∧
  vk_S 14 pm_sl pm_sb (fun i => ad (pm_B + 100 + i)) (fun i => ad (pm_B + 200 + i)) A U H ∧ va_Z "java/lang/String" "COMPACT_STRINGS" "Z" (.int 1) A U H ∧ (va_Z "jdk/internal/util/Preconditions" "SIOOBE_FORMATTER" "Ljava/util/function/BiFunction;" .null A U H ∨ va_Z "jdk/internal/util/Preconditions" "SIOOBE_FORMATTER" "Ljava/util/function/BiFunction;" (.ref (ad (pm_B + 99))) A U H)
theorem pm_k.moved {K : pm_K} {ad : Nat → Nat} {A : Nat → Prop} {u U : State} {H : Heap} (hvm : u.vm.Alike U.vm) (h : pm_k K ad A u H) : pm_k K ad A U H :=
  ⟨fun j l hj hl => (h.1 j l hj hl).moved hvm, h.2.1.moved hvm, h.2.2.1.moved hvm, h.2.2.2.1.moved hvm, h.2.2.2.2.1.moved hvm, h.2.2.2.2.2.imp (fun z => z.moved hvm) (fun z => z.moved hvm)⟩
theorem pm_k.kept {K : pm_K} {ad : Nat → Nat} {A : Nat → Prop} {U : State} {H H1 : Heap} (h : pm_k K ad A U H) (hq : ∀ a : Nat, a < H.size → ¬ A a → H1[a]? = H[a]?) : pm_k K ad A U H1 :=
  ⟨fun j l hj hl => (h.1 j l hj hl).kept hq, h.2.1.kept hq, h.2.2.1.kept hq, h.2.2.2.1.kept hq, h.2.2.2.2.1.kept hq, h.2.2.2.2.2.imp (fun z => z.kept hq) (fun z => z.kept hq)⟩
theorem pm_k.narrow {K : pm_K} {ad : Nat → Nat} {A B : Nat → Prop} {U : State} {H : Heap} (h : pm_k K ad A U H) (hAB : ∀ q, B q → A q) : pm_k K ad B U H :=
  ⟨fun j l hj hl => (h.1 j l hj hl).narrow hAB, h.2.1.narrow hAB, h.2.2.1.narrow hAB, h.2.2.2.1.narrow hAB, h.2.2.2.2.1.narrow hAB, h.2.2.2.2.2.imp (fun z => z.narrow hAB) (fun z => z.narrow hAB)⟩
theorem pm_k.ext {K : pm_K} {ad ad' : Nat → Nat} {A : Nat → Prop} {U : State} {H : Heap} {lo hi : Nat} (h : pm_k K ad A U H) (hx : pm_X ad ad' lo hi) (hb : hi ≤ pm_B) : pm_k K ad' A U H := by
  have e : ∀ j : Nat, ad' (pm_B + j) = ad (pm_B + j) := fun j => hx _ (Or.inr (by omega))
  have e1 : (fun i : Nat => ad' (pm_B + 100 + i)) = fun i => ad (pm_B + 100 + i) := funext fun j => hx _ (Or.inr (by omega))
  have e2 : (fun i : Nat => ad' (pm_B + 200 + i)) = fun i => ad (pm_B + 200 + i) := funext fun j => hx _ (Or.inr (by omega))
  refine ⟨fun j l hj hl => by rw [e j]; exact h.1 j l hj hl, by rw [e 1]; exact h.2.1, by rw [e 2]; exact h.2.2.1, ?_, h.2.2.2.2.1, by rw [e 99]; exact h.2.2.2.2.2⟩
  show vk_S 14 pm_sl pm_sb (fun i => ad' (pm_B + 100 + i)) (fun i => ad' (pm_B + 200 + i)) A U H
  rw [e1, e2]
  exact h.2.2.2.1
theorem pm_k.less {K K' : pm_K} {ad : Nat → Nat} {A : Nat → Prop} {U : State} {H : Heap} (hK : ∀ (j : Nat) (l : List Int32), K' j = some l → K j = some l) (h : pm_k K ad A U H) : pm_k K' ad A U H :=
  ⟨fun j l hj hl => h.1 j l hj (hK j l hl), h.2⟩
/-- the words' constants are resolved -/
def pm_r (ad : Nat → Nat) (U : State) : Prop := ∀ i : Nat, i < 14 → vk_R RX4 (pm_si.getD i 0) (pm_sx.getD i "") (ad (pm_B + 100 + i)) U
theorem pm_r.warm {ad : Nat → Nat} {s U : State} (hW : s.WarmedH U.vm) (h : pm_r ad s) : pm_r ad U := fun i hi => (h i hi).warm hW
theorem pm_r.same {ad : Nat → Nat} {u U : State} (hv : U.vm = u.vm) (h : pm_r ad u) : pm_r ad U := fun i hi => (h i hi).same hv
theorem pm_r.ext {ad ad' : Nat → Nat} {U : State} {lo hi : Nat} (h : pm_r ad U) (hx : pm_X ad ad' lo hi) (hb : hi ≤ pm_B) : pm_r ad' U := fun i hi => by
  rw [hx _ (Or.inr (by omega))]
  exact h i hi
/-- links between nest mates -/
def pm_nM : List (String × Nat × MethodName) := [(RX5, 24, yX4_init), (RX5, 31, yX0_init), (RX5, 48, yX2_init), (RX5, 49, yX3_init), (RX4, 119, yX5_isWithin), (RX4, 123, yX5_isKind), (RX1, 61, yX5_isWithin), (RX1, 69, yX5_isUnder), (RX0, 49, yX5_isUnder)]
def pm_nF : List (String × Nat × String × String × String) := [(RX1, 9, "BlankRations", "LAW_FIRST", "[I"), (RX4, 138, "BlankRations", "LAW_MOST", "[I")]
def pm_N (U : State) : Prop := (∀ q ∈ pm_nM, va_Nw (.methodLinkNest q.1 q.2.1 q.2.2 "BlankRations") U) ∧ (∀ q ∈ pm_nF, va_Nw (.fieldLinkNest q.1 q.2.1 q.2.2.1 q.2.2.2.1 q.2.2.2.2 "BlankRations") U) ∧ va_AO RX2 U ∧ va_AO RX3 U
theorem pm_N.warm {s U : State} (hW : s.WarmedH U.vm) (h : pm_N s) : pm_N U := ⟨fun q hq => va_Nw.warmM hW (h.1 q hq), fun q hq => va_Nw.warmF hW (h.2.1 q hq), h.2.2.1.moved hW.alike, h.2.2.2.moved hW.alike⟩
theorem pm_N.same {u U : State} (hv : u.vm = U.vm) (h : pm_N u) : pm_N U := ⟨fun q hq => va_Nw.same rfl hv (h.1 q hq), fun q hq => va_Nw.same rfl hv (h.2.1 q hq), h.2.2.1.moved (by rw [hv]; exact Vm.Alike.refl U.vm), h.2.2.2.moved (by rw [hv]; exact Vm.Alike.refl U.vm)⟩
/-- the cells at a point of a walk -/
def pm_P (K : pm_K) (cR : Nat → ClassId) (D : va_G) (ad : Nat → Nat) (h : pm_H) (A : Nat → Prop) (s : State) (H : Heap) (locs : List Loc) : Prop :=
  va_P D pm_Cl (pm_W cR ad 0 h) H ∧ va_D A (pm_W cR ad 0 h) ∧ va_S A s.heap H locs ∧ pm_k K ad A s s.heap ∧ h.length ≤ pm_B ∧ pm_r ad s
/-- what stands all through a walk -/
def pm_C (cR : Nat → ClassId) (D : va_G) (M : pm_I) (p : Program) (R : Room) (s : State) (m : MethodId) (args : Array Value) (meth : Method) (c : Code) (A : Nat → Prop) : Prop :=
  p.tables.exec = Jvm.exec ∧ c.code = M.2.1 ∧ meth.sig.returnType = M.2.2.2.1 ∧ c.maxLocals = M.2.2.1 ∧ s.vm.findClass M.1 = some m.cls ∧ (∀ w ∈ pm_w, w.before args s = true) ∧ meth.locks = false ∧ (M.2.2.2.2.1 = true → meth.name = "<init>") ∧ (∀ q : Nat, s.heap.size ≤ q → A q) ∧ va_K D pm_Cl (pm_ty cR) s ∧ M.2.2.2.2.2.1 ≤ R.frames ∧ M.2.2.2.2.2.2 ≤ R.locals ∧ pm_N s
def pm_ret : Option Value → Instr
  | none => .return_
  | some (.int _) => .ireturn
  | some (.long _) => .lreturn
  | some _ => .areturn
def pm_rok : Option FieldType → Option Value → Bool
  | none, none => true
  | some .int, some (.int _) => true
  | some .boolean, some (.int x) => x == 0 || x == 1
  | some .char, some (.int x) => decide ((x.toUInt32 % 65536).toInt32 = x)
  | some .byte, some (.int x) => decide (x.toInt8.toInt32 = x)
  | some .long, some (.long _) => true
  | some (.object _), some (.ref _) => true
  | _, _ => false
def pm_Q (K : pm_K) (cR : Nat → ClassId) (D : va_G) (M : pm_I) (r : Option Value) (h' : pm_H) (p : Program) (l : Launch) (e : Env) (R : Room) (s : State) (m : MethodId) (args : Array Value) (below : List Frame) (meth : Method) (c : Code) (A : Nat → Prop) (Q : State → Prop) (ad0 : Nat → Nat) (n0 z0 : Nat) : Prop :=
  ∀ (pc : Nat) (ls : Array Slot) (ad' : Nat → Nat) (H' : Heap) (locs' : List Loc) (cells slots : Nat), pm_rok M.2.2.2.1 r = true → decode M.2.1 pc = .ok (pm_ret r, 1) → pm_P K cR D ad' h' A s H' locs' → cells + n0 = h'.length → slots + z0 = pm_zs h' → pm_X ad0 ad' n0 h'.length →
    W p l e R s m args below meth c H' locs' cells slots Q (F0 m pc ls (r.toList.map (pm_V ad')))
def pm_G (K : pm_K) (cR : Nat → ClassId) (D : va_G) (M : pm_I) (pc : Nat) (L : pm_L) (st : List Value) (h : pm_H) (r : Option Value) (h' : pm_H) : Prop :=
  (h.length ≤ h'.length ∧ pm_zs h ≤ pm_zs h') ∧
  ∀ (p : Program) (l : Launch) (e : Env) (R : Room) (s : State) (m : MethodId) (args : Array Value) (below : List Frame) (meth : Method) (c : Code) (A : Nat → Prop) (Q : State → Prop) (ad0 ad : Nat → Nat) (H : Heap) (locs : List Loc) (ls : Array Slot) (cells slots n0 z0 : Nat),
    pm_C cR D M p R s m args meth c A → pm_P K cR D ad h A s H locs → pm_l ad M.2.2.1 ls L → cells + n0 = h.length → slots + z0 = pm_zs h → h'.length ≤ n0 + R.cells → pm_zs h' ≤ z0 + R.slots → pm_X ad0 ad n0 h.length →
    pm_Q K cR D M r h' p l e R s m args below meth c A Q ad0 n0 z0 →
    W p l e R s m args below meth c H locs cells slots Q (F0 m pc ls (st.map (pm_V ad)))
def pm_ws (t : MethodName × pm_I) : List Cond := .code t.1 t.2.2.1 t.2.2.2.1 t.2.2.2.2.1 :: pm_w
def pm_rm (t : MethodName × pm_I) (h h' : pm_H) : Room := { frames := t.2.2.2.2.2.2.1, cells := h'.length - h.length, slots := pm_zs h' - pm_zs h, locals := t.2.2.2.2.2.2.2 }
def pm_Pc (K : pm_K) (cR : Nat → ClassId) (D : va_G) (ad : Nat → Nat) (sz : Nat) (as : List Value) (h : pm_H) : Array Value → State → Prop :=
  va_Pc (as.map (pm_V ad)) (fun U => U.heap.size = sz ∧ va_P D pm_Cl (pm_W cR ad 0 h) U.heap ∧ va_K D pm_Cl (pm_ty cR) U ∧ va_D (fun _ => True) (pm_W cR ad 0 h) ∧ pm_k K ad (va_A (pm_W cR ad 0 h) sz) U U.heap ∧ h.length ≤ pm_B ∧ pm_N U ∧ pm_r ad U)
def pm_Qc (cR : Nat → ClassId) (D : va_G) (ad : Nat → Nat) (sz : Nat) (h : pm_H) (r : Option Value) (h' : pm_H) : Array Value → State → Outcome → State → Prop := fun _ st oc t =>
  ∃ ad' : Nat → Nat, pm_X ad ad' h.length h'.length ∧ oc = .returned (r.map (pm_V ad')) ∧ va_P D pm_Cl (pm_W cR ad' 0 h') t.heap ∧ va_D (va_A (pm_W cR ad 0 h) sz) (pm_W cR ad' 0 h') ∧ va_F (va_A (pm_W cR ad 0 h) sz) st t ∧ h'.length ≤ pm_B
/-- a method's contract, out of a run of it -/
def pm_M (T : pm_T) (K : pm_K) (cR : Nat → ClassId) (D : va_G) (k : Nat) (as : List Value) (h : pm_H) (r : Option Value) (h' : pm_H) : Prop :=
  (h.length ≤ h'.length ∧ pm_zs h ≤ pm_zs h') ∧ ∀ (l : Launch) (ad : Nat → Nat) (sz : Nat), Met l (T k).1 (pm_ws (T k)) (pm_rm (T k) h h') (pm_Pc K cR D ad sz as h) (pm_Qc cR D ad sz h r h') (h'.length - h.length) (pm_zs h' - pm_zs h) (va_A (pm_W cR ad 0 h) sz)
/-- an instruction of the pure machine is one of the machine -/
def pm_ok (T : pm_T) (K : pm_K) (cR : Nat → ClassId) (D : va_G) (M : pm_I) (pc : Nat) (S : pm_S) : Prop :=
  ∀ (call : Nat → List Value → pm_H → pm_R) (cont : Nat → pm_L → List Value → pm_H → pm_R),
    (∀ k as h r h', call k as h = some (r, h') → pm_M T K cR D k as h r h') →
    (∀ pc L st h r h', cont pc L st h = some (r, h') → pm_G K cR D M pc L st h r h') →
    ∀ L st h r h', S K call cont L st h = some (r, h') → pm_G K cR D M pc L st h r h'
/-- a step that leaves the cells as they are -/
def pm_t (M : pm_I) (pc : Nat) (L : pm_L) (st : List Value) (nx : Nat) (L' : pm_L) (st' : List Value) : Prop :=
  ∀ (p : Program) (l : Launch) (e : Env) (R : Room) (s : State) (m : MethodId) (args : Array Value) (below : List Frame) (meth : Method) (c : Code) (H : Heap) (locs : List Loc) (cells slots : Nat) (Q : State → Prop) (ad : Nat → Nat) (ls : Array Slot),
    p.tables.exec = Jvm.exec → c.code = M.2.1 → s.vm.findClass M.1 = some m.cls → (∀ w ∈ pm_w, w.before args s = true) → pm_l ad M.2.2.1 ls L →
    (∀ ls' : Array Slot, pm_l ad M.2.2.1 ls' L' → W p l e R s m args below meth c H locs cells slots Q (F0 m nx ls' (st'.map (pm_V ad)))) →
    W p l e R s m args below meth c H locs cells slots Q (F0 m pc ls (st.map (pm_V ad)))
theorem pm_G.of_t {K : pm_K} {cR : Nat → ClassId} {D : va_G} {M : pm_I} {pc nx : Nat} {L L' : pm_L} {st st' : List Value} {h h' : pm_H} {r : Option Value} (ht : pm_t M pc L st nx L' st') (hg : pm_G K cR D M nx L' st' h r h') : pm_G K cR D M pc L st h r h' := by
  refine ⟨hg.1, ?_⟩
  intro p l e R s m args below meth c A Q ad0 ad H locs ls cells slots n0 z0 hC hP hl h1 h2 h3 h4 hX hQ
  exact ht p l e R s m args below meth c H locs cells slots Q ad ls hC.1 hC.2.1 hC.2.2.2.2.1 hC.2.2.2.2.2.1 hl (fun ls' hl' => hg.2 p l e R s m args below meth c A Q ad0 ad H locs ls' cells slots n0 z0 hC hP hl' h1 h2 h3 h4 hX hQ)
/-- a step that changes the cells, but makes none -/
theorem pm_G.of_h {K : pm_K} {cR : Nat → ClassId} {D : va_G} {M : pm_I} {pc nx : Nat} {L L' : pm_L} {st st' : List Value} {h h2 h' : pm_H} {r : Option Value} (hl : h2.length = h.length) (hz : pm_zs h2 = pm_zs h) (hg : pm_G K cR D M nx L' st' h2 r h')
    (ht : ∀ (p : Program) (l : Launch) (e : Env) (R : Room) (s : State) (m : MethodId) (args : Array Value) (below : List Frame) (meth : Method) (c : Code) (A : Nat → Prop) (H : Heap) (locs : List Loc) (cells slots : Nat) (Q : State → Prop) (ad : Nat → Nat) (ls : Array Slot),
      pm_C cR D M p R s m args meth c A → pm_P K cR D ad h A s H locs → pm_l ad M.2.2.1 ls L →
      (∀ (H1 : Heap) (locs1 : List Loc) (ls' : Array Slot), pm_P K cR D ad h2 A s H1 locs1 → pm_l ad M.2.2.1 ls' L' → W p l e R s m args below meth c H1 locs1 cells slots Q (F0 m nx ls' (st'.map (pm_V ad)))) →
      W p l e R s m args below meth c H locs cells slots Q (F0 m pc ls (st.map (pm_V ad)))) : pm_G K cR D M pc L st h r h' := by
  refine ⟨by rw [← hl, ← hz]; exact hg.1, ?_⟩
  intro p l e R s m args below meth c A Q ad0 ad H locs ls cells slots n0 z0 hC hP hlo h1 h2 h3 h4 hX hQ
  exact ht p l e R s m args below meth c A H locs cells slots Q ad ls hC hP hlo (fun H1 locs1 ls' hP' hl' => hg.2 p l e R s m args below meth c A Q ad0 ad H1 locs1 ls' cells slots n0 z0 hC hP' hl' (h1.trans hl.symm) (h2.trans hz.symm) h3 h4 (by rw [hl]; exact hX) hQ)
