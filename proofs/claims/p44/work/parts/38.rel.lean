/-! what holds between class and reference from call to call -/
def P_off (s : SS) (W : Nat) : Prop := ∃ n : Nat, OKw (s 52) n W ∧ RW s 1 (s 52) n
def P_kept (s : SS) (W : Nat) : Prop := (s 0 10 = 0 ∧ s 51 4 = 0) ∨ (s 0 10 = 1 ∧ s 51 4 = 1 ∧ ∃ n : Nat, OKw (s 54) n W ∧ RW s 10 (s 54) n)
def P_tape (s : SS) : Prop := ∃ m : Nat, m ≤ 200 ∧ s 28 7 = nI m ∧ s 51 7 = nI m ∧ ∀ i : Nat, i < m → s 29 i = s 56 i ∧ bd 255 (s 56 i)
def P_rows (s : SS) : Prop := ∃ r : Nat, r ≤ 10 ∧ s 0 9 = nI r ∧ s 51 17 = nI r ∧ ∀ i : Nat, i < 3 * r → s 49 i = s 58 i
def P_sh1 (s : SS) (t : TT) (q : Nat) : Prop := (s (37 + 3 * q) 1 = -1 ∧ s 60 q = -1) ∨ ∃ k : Nat, k ≤ 3 ∧ s (37 + 3 * q) 1 = nI k ∧ s 60 q = nI k ∧ ∃ z : Nat, z ≤ 40 ∧ s (37 + 3 * q) 2 = nI z ∧ s 61 q = nI z ∧ ∀ i : Nat, i < 40 → t (38 + 3 * q) i = t 62 (40 * q + i)
def P_sheet (s : SS) (t : TT) : Prop := ∀ q : Nat, q < 4 → P_sh1 s t q
def P_sf1 (s : SS) (q : Nat) : Prop := (s (39 + 3 * q) 0 = 0 ∧ s 63 q = 0 ∧ s (39 + 3 * q) 1 = s 64 q) ∨ (s (39 + 3 * q) 0 = 1 ∧ s 63 q = 1 ∧ s (39 + 3 * q) 2 = s 64 q ∧ s (39 + 3 * q) 3 = s 65 q) ∨ (s (39 + 3 * q) 0 = 2 ∧ s 63 q = -1)
def P_shelf (s : SS) : Prop := ∀ q : Nat, q < 4 → P_sf1 s q
def P_trace (s : SS) : Prop := ∃ b : Nat, b ≤ 30 ∧ s 33 1 = nI b ∧ s 51 28 = nI b ∧ ∀ i : Nat, i < b → s 34 i = s 66 i
def Rel (s : SS) (t : TT) (W : Nat) : Prop := P_off s W ∧ P_kept s W ∧ P_tape s ∧ P_rows s ∧ P_sheet s t ∧ P_shelf s ∧ P_trace s ∧ s 51 5 = 0
theorem P_off.more {s : SS} {W W' : Nat} (h : P_off s W) (hW : W ≤ W') : P_off s W' := by
  obtain ⟨n, h1, h2⟩ := h
  exact ⟨n, h1.more hW, h2⟩
theorem P_kept.more {s : SS} {W W' : Nat} (h : P_kept s W) (hW : W ≤ W') : P_kept s W' := by
  rcases h with h | ⟨h1, h2, n, h3, h4⟩
  · exact Or.inl h
  · exact Or.inr ⟨h1, h2, n, h3.more hW, h4⟩
theorem Rel.more {s : SS} {t : TT} {W W' : Nat} (h : Rel s t W) (hW : W ≤ W') : Rel s t W' := ⟨h.1.more hW, h.2.1.more hW, h.2.2⟩
theorem P_off.fr {s s' : SS} {W : Nat} (h : P_off s W) (e1 : ∀ c : Nat, 1 ≤ c → c ≤ 9 → s' c = s c) (e2 : ∀ k : Nat, k < 56 → s' 52 k = s 52 k) : P_off s' W := by
  obtain ⟨n, h1, h2⟩ := h
  exact ⟨n, h1.cg e2, (h2.fr (s' := s') e1).cg h1.1 e2⟩
theorem P_kept.fr {s s' : SS} {W : Nat} (h : P_kept s W) (e1 : s' 0 10 = s 0 10) (e2 : s' 51 4 = s 51 4) (e3 : ∀ c : Nat, 10 ≤ c → c ≤ 18 → s' c = s c) (e4 : s' 54 = s 54) : P_kept s' W := by
  unfold P_kept
  rw [e1, e2, e4]
  rcases h with h | ⟨h1, h2, n, h3, h4⟩
  · exact Or.inl h
  · exact Or.inr ⟨h1, h2, n, h3, h4.fr (fun c hc1 hc2 => e3 c hc1 (by omega))⟩
theorem P_tape.fr {s s' : SS} (h : P_tape s) (e1 : s' 28 7 = s 28 7) (e2 : s' 51 7 = s 51 7) (e3 : s' 29 = s 29) (e4 : s' 56 = s 56) : P_tape s' := by
  unfold P_tape
  rw [e1, e2, e3, e4]
  exact h
theorem P_rows.fr {s s' : SS} (h : P_rows s) (e1 : s' 0 9 = s 0 9) (e2 : s' 51 17 = s 51 17) (e3 : s' 49 = s 49) (e4 : s' 58 = s 58) : P_rows s' := by
  unfold P_rows
  rw [e1, e2, e3, e4]
  exact h
theorem P_sh1.fr {s s' : SS} {t t' : TT} {q : Nat} (h : P_sh1 s t q) (e1 : s' (37 + 3 * q) = s (37 + 3 * q)) (e2 : s' 60 q = s 60 q) (e3 : s' 61 q = s 61 q) (e4 : t' (38 + 3 * q) = t (38 + 3 * q)) (e5 : ∀ i : Nat, i < 40 → t' 62 (40 * q + i) = t 62 (40 * q + i)) : P_sh1 s' t' q := by
  unfold P_sh1
  rw [e1, e2, e3, e4]
  rcases h with h | ⟨k, h1, h2, h3, z, h4, h5, h6, h7⟩
  · exact Or.inl h
  · exact Or.inr ⟨k, h1, h2, h3, z, h4, h5, h6, fun i hi => by rw [e5 i hi]; exact h7 i hi⟩
theorem P_sheet.fr {s s' : SS} {t : TT} (h : P_sheet s t) (e1 : ∀ c : Nat, 37 ≤ c → c ≤ 48 → s' c = s c) (e2 : s' 60 = s 60) (e3 : s' 61 = s 61) : P_sheet s' t := fun q hq => (h q hq).fr (e1 _ (by omega) (by omega)) (by rw [e2]) (by rw [e3]) rfl (fun i hi => rfl)
theorem P_sf1.fr {s s' : SS} {q : Nat} (h : P_sf1 s q) (e1 : s' (39 + 3 * q) = s (39 + 3 * q)) (e2 : s' 63 q = s 63 q) (e3 : s' 64 q = s 64 q) (e4 : s' 65 q = s 65 q) : P_sf1 s' q := by
  unfold P_sf1
  rw [e1, e2, e3, e4]
  exact h
theorem P_shelf.fr {s s' : SS} (h : P_shelf s) (e1 : ∀ c : Nat, 37 ≤ c → c ≤ 48 → s' c = s c) (e2 : s' 63 = s 63) (e3 : s' 64 = s 64) (e4 : s' 65 = s 65) : P_shelf s' := fun q hq => (h q hq).fr (e1 _ (by omega) (by omega)) (by rw [e2]) (by rw [e3]) (by rw [e4])
theorem P_trace.fr {s s' : SS} (h : P_trace s) (e1 : s' 33 1 = s 33 1) (e2 : s' 51 28 = s 51 28) (e3 : s' 34 = s 34) (e4 : s' 66 = s 66) : P_trace s' := by
  unfold P_trace
  rw [e1, e2, e3, e4]
  exact h
/-- a trial: what changes is never looked at again -/
def Tr (s s' : SS) : Prop := (∀ c : Nat, c ≠ 52 → c ≠ 55 → c ≠ 57 → c ≠ 59 → c ≠ 50 → (c < 19 ∨ 27 < c) → s' c = s c) ∧ ∀ k : Nat, k < 56 → s' 52 k = s 52 k
theorem Rel.tr {s s' : SS} {t : TT} {W : Nat} (h : Rel s t W) (e : Tr s s') : Rel s' t W := by
  obtain ⟨e, e52⟩ := e
  obtain ⟨h1, h2, h3, h4, h5, h6, h7, h8⟩ := h
  have e0 := e 0 (by decide) (by decide) (by decide) (by decide) (by decide) (by decide)
  have e51 := e 51 (by decide) (by decide) (by decide) (by decide) (by decide) (by decide)
  have e28 := e 28 (by decide) (by decide) (by decide) (by decide) (by decide) (by decide)
  have e33 := e 33 (by decide) (by decide) (by decide) (by decide) (by decide) (by decide)
  have es : ∀ c : Nat, 37 ≤ c → c ≤ 48 → s' c = s c := fun c h1 h2 => e c (by omega) (by omega) (by omega) (by omega) (by omega) (by omega)
  refine ⟨h1.fr (fun c h1 h2 => e c (by omega) (by omega) (by omega) (by omega) (by omega) (by omega)) e52, h2.fr (by rw [e0]) (by rw [e51]) (fun c h1 h2 => e c (by omega) (by omega) (by omega) (by omega) (by omega) (by omega)) (e 54 (by decide) (by decide) (by decide) (by decide) (by decide) (by decide)), h3.fr (by rw [e28]) (by rw [e51]) (e 29 (by decide) (by decide) (by decide) (by decide) (by decide) (by decide)) (e 56 (by decide) (by decide) (by decide) (by decide) (by decide) (by decide)), h4.fr (by rw [e0]) (by rw [e51]) (e 49 (by decide) (by decide) (by decide) (by decide) (by decide) (by decide)) (e 58 (by decide) (by decide) (by decide) (by decide) (by decide) (by decide)), h5.fr es (e 60 (by decide) (by decide) (by decide) (by decide) (by decide) (by decide)) (e 61 (by decide) (by decide) (by decide) (by decide) (by decide) (by decide)), h6.fr es (e 63 (by decide) (by decide) (by decide) (by decide) (by decide) (by decide)) (e 64 (by decide) (by decide) (by decide) (by decide) (by decide) (by decide)) (e 65 (by decide) (by decide) (by decide) (by decide) (by decide) (by decide)), h7.fr (by rw [e33]) (by rw [e51]) (e 34 (by decide) (by decide) (by decide) (by decide) (by decide) (by decide)) (e 66 (by decide) (by decide) (by decide) (by decide) (by decide) (by decide)), by rw [e51]; exact h8⟩
/-- the office changes, and the row with it -/
theorem Rel.wr {s s' : SS} {t : TT} {W W' : Nat} (h : Rel s t W) (e : ∀ c : Nat, (c < 1 ∨ 9 < c) → c ≠ 52 → s' c = s c) (ho : P_off s' W') (hW : W ≤ W') : Rel s' t W' := by
  obtain ⟨h1, h2, h3, h4, h5, h6, h7, h8⟩ := h
  have e0 := e 0 (by decide) (by decide)
  have e51 := e 51 (by decide) (by decide)
  have e28 := e 28 (by decide) (by decide)
  have e33 := e 33 (by decide) (by decide)
  have es : ∀ c : Nat, 37 ≤ c → c ≤ 48 → s' c = s c := fun c h1 h2 => e c (by omega) (by omega)
  refine ⟨ho, (h2.fr (by rw [e0]) (by rw [e51]) (fun c h1 h2 => e c (by omega) (by omega)) (e 54 (by decide) (by decide))).more hW, h3.fr (by rw [e28]) (by rw [e51]) (e 29 (by decide) (by decide)) (e 56 (by decide) (by decide)), h4.fr (by rw [e0]) (by rw [e51]) (e 49 (by decide) (by decide)) (e 58 (by decide) (by decide)), h5.fr es (e 60 (by decide) (by decide)) (e 61 (by decide) (by decide)), h6.fr es (e 63 (by decide) (by decide)) (e 64 (by decide) (by decide)) (e 65 (by decide) (by decide)), h7.fr (by rw [e33]) (by rw [e51]) (e 34 (by decide) (by decide)) (e 66 (by decide) (by decide)), by rw [e51]; exact h8⟩
/-- one call on both: the same answer, and all as it was between them -/
def Sim (f g : SS → TT → Option (Int32 × SS × TT)) (s : SS) (t : TT) (W : Nat) : Prop := ∃ (r : Int32) (s1 s2 : SS) (t1 t2 : TT), f s t = some (r, s1, t1) ∧ g s1 t1 = some (r, s2, t2) ∧ Rel s2 t2 (W + 60)
def SimL (f g : SS → TT → Option (Int64 × SS × TT)) (s : SS) (t : TT) (W : Nat) : Prop := ∃ (r : Int64) (s1 s2 : SS) (t1 t2 : TT), f s t = some (r, s1, t1) ∧ g s1 t1 = some (r, s2, t2) ∧ Rel s2 t2 (W + 60)
/-- the same, where the answers may part -/
def Sim0 (f g : SS → TT → Option (Int32 × SS × TT)) (s : SS) (t : TT) (W : Nat) : Prop := ∃ (r r' : Int32) (s1 s2 : SS) (t1 t2 : TT), f s t = some (r, s1, t1) ∧ g s1 t1 = some (r', s2, t2) ∧ Rel s2 t2 (W + 60)
theorem Sim.of {f g : SS → TT → Option (Int32 × SS × TT)} {s : SS} {t : TT} {W : Nat} (h : Rel s t W) (r : Int32) (hf : f s t = some (r, s, t)) (hg : g s t = some (r, s, t)) : Sim f g s t W := ⟨r, s, s, t, t, hf, hg, h.more (by omega)⟩
theorem Sim.weak {f g : SS → TT → Option (Int32 × SS × TT)} {s : SS} {t : TT} {W : Nat} (h : Sim f g s t W) : Sim0 f g s t W := by
  obtain ⟨r, s1, s2, t1, t2, h1, h2, h3⟩ := h
  exact ⟨r, r, s1, s2, t1, t2, h1, h2, h3⟩
/-- an office's change on both sides -/
theorem Sim.wr {f g : SS → TT → Option (Int32 × SS × TT)} {s s1 : SS} {t : TT} {W W' n : Nat} {w : RR} (h : Rel s t W) (r : Int32) (hf : f s t = some (r, s1, t)) (hF : Fr 1 s s1) (hg : g s1 t = some (r, cp2 s1 52 w, t)) (hw : OKw w n W') (hr : RW s1 1 w n) (h1 : W ≤ W') (h2 : W' ≤ W + 60) : Sim f g s t W := by
  refine ⟨r, s1, _, t, t, hf, hg, (h.wr (fun c hc h52 => by rw [cp2_n h52]; exact hF c (by omega)) ⟨n, ?_, ?_⟩ h1).more h2⟩
  · rw [cp2_s]; exact hw
  · rw [cp2_s]; exact hr.fr (fun c _ _ => cp2_n (by omega))
