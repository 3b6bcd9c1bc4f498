/-! the text's clauses, free of states, and the class's way through them -/
def pF (A : RR) (i : Nat) (F : Int32) : Int32 := if 0 ≤ F then F else A i
def pN (K V A : RR) (most : Int32) (i : Nat) (F : Int32) : Int32 × Nat × Int32 := if K i = 2 ∧ V i ≤ most then (V i, i + 1, F) else (0, i, pF A i F)
def pM (K V A : RR) (c most : Int32) (i : Nat) (F : Int32) : Int32 × Nat × Int32 := if K i = 1 ∧ V i = c then pN K V A most (i + 1) F else (0, i, F)
def pE (K V A : RR) (i : Nat) (F : Int32) : Nat × Int32 := if K i = 3 ∧ V i = 59 then (i + 1, F) else (i, pF A i F)
def wd (K V : RR) (i : Nat) : Int32 := if K i = 1 then V i else -1
def lx (x : Int32) : Nat := (x - 6).toNatClampNeg
def lmo (j : Nat) : Int32 := if j = 3 then 99 else 9
def pO1 (K V A : RR) (w : RR) (n i : Nat) (F : Int32) : RR × Nat × Nat × Int32 :=
  let a := pM K V A 10 99 (i + 1) F
  let b := pM K V A 11 9 a.2.1 a.2.2
  let c := pM K V A 12 99 b.2.1 b.2.2
  let e := pE K V A c.2.1 c.2.2
  (R_add w n (wd K V i) a.1 b.1 c.1, n + 1, e.1, e.2)
def pO2 (K V A : RR) (w : RR) (n i : Nat) (F : Int32) : RR × Nat × Nat × Int32 :=
  let a := pN K V A (lmo (lx (wd K V i))) (i + 1) F
  let e := pE K V A a.2.1 a.2.2
  (uw w (lx (wd K V i)) a.1, n, e.1, e.2)
def pO3 (K V A : RR) (w : RR) (n i : Nat) (F : Int32) : RR × Nat × Nat × Int32 :=
  let e := pE K V A i (pF A i F)
  (w, n, e.1, e.2)
def pO (K V A : RR) (w : RR) (n i : Nat) (F : Int32) : RR × Nat × Nat × Int32 :=
  if wi (wd K V i) 0 5 = true ∧ n < 8 then pO1 K V A w n i F else if wi (wd K V i) 6 9 = true then pO2 K V A w n i F else pO3 K V A w n i F
def pT (K V A : RR) : Nat → RR × Nat × Nat × Int32 → RR × Nat × Nat × Int32
  | 0, q => q
  | f + 1, q => if 0 ≤ q.2.2.2 ∨ K q.2.2.1 = 0 then q else pT K V A f (pO K V A q.1 q.2.1 q.2.2.1 q.2.2.2)
/-- the class on its way -/
def CI (K V A : RR) (N : Nat) (s : SS) (i : Nat) (F : Int32) : Prop := s 28 5 = nI i ∧ s 28 6 = F ∧ i ≤ N ∧ s 30 = K ∧ s 31 = V ∧ s 32 = A ∧ s 28 4 = nI (N + 1) ∧ N ≤ 200 ∧ K N = 0
def Fk (s s' : SS) : Prop := (∀ c : Nat, c ≠ 28 → s' c = s c) ∧ s' 28 7 = s 28 7
theorem Fk.rf {s : SS} : Fk s s := ⟨fun _ _ => rfl, rfl⟩
theorem Fk.tr {s s' s'' : SS} (h : Fk s s') (h' : Fk s' s'') : Fk s s'' := ⟨fun c hc => (h'.1 c hc).trans (h.1 c hc), h'.2.trans h.2⟩
theorem CI.at {K V A : RR} {N i j : Nat} {s : SS} {F : Int32} (h : CI K V A N s i F) (hj : j ≤ N) : CI K V A N (up2 s 28 5 (nI j)) j F ∧ Fk s (up2 s 28 5 (nI j)) := by
  obtain ⟨h1, h2, h3, h4, h5, h6, h7, h8, h9⟩ := h
  exact ⟨⟨by simp [up2_r], by simp [up2_r, h2], hj, by rw [up2_o (by decide)]; exact h4, by rw [up2_o (by decide)]; exact h5, by rw [up2_o (by decide)]; exact h6, by simp [up2_r, h7], h8, h9⟩, fun c hc => up2_o hc, by simp [up2_r]⟩
theorem CI.nx {K V A : RR} {N i : Nat} {s : SS} {F : Int32} (h : CI K V A N s i F) (hk : K i ≠ 0) : i + 1 ≤ N := by
  have h3 := h.2.2.1
  have h9 := h.2.2.2.2.2.2.2.2
  have : i ≠ N := fun z => hk (by rw [z]; exact h9)
  omega
theorem c4_fail {K V A : RR} {N i : Nat} {s : SS} {t : TT} {F : Int32} (h : CI K V A N s i F) : ∃ s' : SS, f_X4_fail s t = some (s', t) ∧ CI K V A N s' i (pF A i F) ∧ Fk s s' := by
  obtain ⟨h1, h2, h3, h4, h5, h6, h7, h8, h9⟩ := id h
  by_cases c : 0 ≤ F
  · refine ⟨s, ?_, ?_, Fk.rf⟩
    · simp only [f_X4_fail, h2, c, if_true]
    · unfold pF; rw [if_pos c]; exact h
  · refine ⟨up2 s 28 6 (A i), ?_, ⟨by simp [up2_r, h1], by simp [up2_r, pF, c], h3, by rw [up2_o (by decide)]; exact h4, by rw [up2_o (by decide)]; exact h5, by rw [up2_o (by decide)]; exact h6, by simp [up2_r, h7], h8, h9⟩, fun c hc => up2_o hc, by simp [up2_r]⟩
    simp only [f_X4_fail, h2, c, if_false, h1, rx201 (show i < 201 by omega), bs, wr_e, h6]
theorem c4_num {K V A : RR} {N i : Nat} {s : SS} {t : TT} {F : Int32} (most : Int32) (h : CI K V A N s i F) : ∃ s' : SS, f_X4_numberUpTo most s t = some ((pN K V A most i F).1, s', t) ∧ CI K V A N s' (pN K V A most i F).2.1 (pN K V A most i F).2.2 ∧ Fk s s' := by
  obtain ⟨h1, h2, h3, h4, h5, h6, h7, h8, h9⟩ := id h
  have r1 := rx201 (show i < 201 by omega)
  obtain ⟨s', f1, f2, f3⟩ := c4_fail (t := t) h
  by_cases c1 : K i = 2
  · by_cases c2 : V i ≤ most
    · have hk : K i ≠ 0 := by rw [c1]; decide
      obtain ⟨g1, g2⟩ := h.at (h.nx hk)
      refine ⟨up2 s 28 5 (nI (i + 1)), ?_, ?_, g2⟩
      · simp only [f_X4_numberUpTo, h1, r1, bs, h4, h5, c1, c2, if_true, wr_e, pN, and_self, nI_1]
      · simp only [pN, c1, c2, and_self, if_true]; exact g1
    · refine ⟨s', ?_, ?_, f3⟩
      · simp only [f_X4_numberUpTo, h1, r1, bs, h4, h5, c1, c2, if_true, if_false, pN, and_false, j_X4_numberUpTo_26, f1]
      · simp only [pN, c1, c2, and_false, if_false]; exact f2
  · refine ⟨s', ?_, ?_, f3⟩
    · simp only [f_X4_numberUpTo, h1, r1, bs, h4, h5, c1, if_false, pN, false_and, j_X4_numberUpTo_26, f1]
    · simp only [pN, c1, false_and, if_false]; exact f2
theorem c4_may {K V A : RR} {N i : Nat} {s : SS} {t : TT} {F : Int32} (x most : Int32) (h : CI K V A N s i F) : ∃ s' : SS, f_X4_numberBehind x most s t = some ((pM K V A x most i F).1, s', t) ∧ CI K V A N s' (pM K V A x most i F).2.1 (pM K V A x most i F).2.2 ∧ Fk s s' := by
  obtain ⟨h1, h2, h3, h4, h5, h6, h7, h8, h9⟩ := id h
  have r1 := rx201 (show i < 201 by omega)
  by_cases c1 : K i = 1
  · by_cases c2 : V i = x
    · have hk : K i ≠ 0 := by rw [c1]; decide
      obtain ⟨g1, g2⟩ := h.at (h.nx hk)
      obtain ⟨s', f1, f2, f3⟩ := c4_num (t := t) most g1
      refine ⟨s', ?_, ?_, g2.tr f3⟩
      · simp only [f_X4_numberBehind, h1, r1, bs, h4, h5, c1, c2, if_true, wr_e, pM, and_self, nI_1, f1]
      · simp only [pM, c1, c2, and_self, if_true]; exact f2
    · refine ⟨s, ?_, ?_, Fk.rf⟩
      · simp only [f_X4_numberBehind, h1, r1, bs, h4, h5, c1, c2, if_true, if_false, pM, and_false]
      · simp only [pM, c1, c2, and_false, if_false]; exact h
  · refine ⟨s, ?_, ?_, Fk.rf⟩
    · simp only [f_X4_numberBehind, h1, r1, bs, h4, h5, c1, if_false, pM, false_and]
    · simp only [pM, c1, false_and, if_false]; exact h
theorem c4_end {K V A : RR} {N i : Nat} {s : SS} {t : TT} {F : Int32} (h : CI K V A N s i F) : ∃ s' : SS, f_X4_passSemicolon s t = some (s', t) ∧ CI K V A N s' (pE K V A i F).1 (pE K V A i F).2 ∧ Fk s s' := by
  obtain ⟨h1, h2, h3, h4, h5, h6, h7, h8, h9⟩ := id h
  have r1 := rx201 (show i < 201 by omega)
  obtain ⟨s', f1, f2, f3⟩ := c4_fail (t := t) h
  by_cases c1 : K i = 3
  · by_cases c2 : V i = 59
    · have hk : K i ≠ 0 := by rw [c1]; decide
      obtain ⟨g1, g2⟩ := h.at (h.nx hk)
      refine ⟨up2 s 28 5 (nI (i + 1)), ?_, ?_, g2⟩
      · simp only [f_X4_passSemicolon, h1, r1, bs, h4, h5, c1, c2, if_true, wr_e, nI_1]
      · simp only [pE, c1, c2, and_self, if_true]; exact g1
    · refine ⟨s', ?_, ?_, f3⟩
      · simp only [f_X4_passSemicolon, h1, r1, bs, h4, h5, c1, c2, if_true, if_false, j_X4_passSemicolon_40, f1]
      · simp only [pE, c1, c2, and_false, if_false]; exact f2
  · refine ⟨s', ?_, ?_, f3⟩
    · simp only [f_X4_passSemicolon, h1, r1, bs, h4, h5, c1, if_false, j_X4_passSemicolon_40, f1]
    · simp only [pE, c1, false_and, if_false]; exact f2
theorem Fk.rw {s s' : SS} {w : RR} {n : Nat} (h : Fk s s') (hr : RW s 19 w n) : RW s' 19 w n := hr.fr (fun c h1 h2 => h.1 c (by omega))
/-- the class's frame with its office -/
def Fo (s s' : SS) : Prop := (∀ c : Nat, c < 19 ∨ 28 < c → s' c = s c) ∧ s' 28 7 = s 28 7
theorem Fo.rf {s : SS} : Fo s s := ⟨fun _ _ => rfl, rfl⟩
theorem Fo.tr {s s' s'' : SS} (h : Fo s s') (h' : Fo s' s'') : Fo s s'' := ⟨fun c hc => (h'.1 c hc).trans (h.1 c hc), h'.2.trans h.2⟩
theorem Fk.o {s s' : SS} (h : Fk s s') : Fo s s' := ⟨fun c hc => h.1 c (by omega), h.2⟩
theorem Fr.o {s s' : SS} (h : Fr 19 s s') : Fo s s' := ⟨fun c hc => h c (by omega), by rw [h 28 (by omega)]⟩
theorem CI.fr {K V A : RR} {N i : Nat} {s s' : SS} {F : Int32} (h : CI K V A N s i F) (hF : Fr 19 s s') : CI K V A N s' i F := by
  unfold CI
  rw [hF 28 (by omega), hF 30 (by omega), hF 31 (by omega), hF 32 (by omega)]
  exact h
theorem wi_w {x : Int32} {l m : Nat} (hm : m < 2 ^ 31) (hl : l ≤ m) (h : wi x (nI l) (nI m) = true) : ∃ k : Nat, l ≤ k ∧ k ≤ m ∧ x = nI k := by
  simp only [wi, Bool.and_eq_true, decide_eq_true_eq] at h
  have h1 := tI_le.mp h.1
  have h2 := tI_le.mp h.2
  rw [nI_toInt (by omega)] at h1
  rw [nI_toInt hm] at h2
  refine ⟨x.toInt.toNat, by omega, by omega, ?_⟩
  apply Int32.toInt_inj.mp
  rw [nI_toInt (by omega)]
  omega
theorem lm4 : ∀ j : Nat, j < 4 → (([9, 9, 9, 99] : List Int32).getD j 0) = lmo j := by decide +kernel
theorem c4_one {K V A : RR} {N i n : Nat} {s : SS} {t : TT} {w : RR} {F : Int32} (h : CI K V A N s i F) (hr : RW s 19 w n) (hn : n ≤ 8) : ∃ s' : SS, f_X4_tellOne 19 s t = some (s', t) ∧ CI K V A N s' (pO K V A w n i F).2.2.1 (pO K V A w n i F).2.2.2 ∧ RW s' 19 (pO K V A w n i F).1 (pO K V A w n i F).2.1 ∧ Fo s s' := by
  obtain ⟨h1, h2, h3, h4, h5, h6, h7, h8, h9⟩ := id h
  have r1 := rx201 (show i < 201 by omega)
  have e0 : f_X4_tellOne 19 s t = j_X4_tellOne_26 19 (wd K V i) s t := by
    unfold wd
    by_cases c1 : K i = 1
    · simp only [f_X4_tellOne, h1, r1, bs, h4, h5, c1, if_true]
    · simp only [f_X4_tellOne, h1, r1, bs, h4, h5, c1, if_false]
  have hk : wd K V i ≠ -1 → K i ≠ 0 := by
    intro z1 z2
    apply z1
    unfold wd
    rw [if_neg (by rw [z2]; decide)]
  have h52 : (wi (wd K V i) 0 5 = true → ¬ n < 8) → ∃ s' : SS, j_X4_tellOne_52 19 (wd K V i) s t = some (s', t) ∧ CI K V A N s' (pO K V A w n i F).2.2.1 (pO K V A w n i F).2.2.2 ∧ RW s' 19 (pO K V A w n i F).1 (pO K V A w n i F).2.1 ∧ Fo s s' := by
    intro hno
    have z0 : ¬ (wi (wd K V i) 0 5 = true ∧ n < 8) := fun z => hno z.1 z.2
    cases c6 : wi (wd K V i) 6 9 with
    | false =>
      obtain ⟨s1, f1, f2, f3⟩ := c4_fail (t := t) h
      obtain ⟨s2, g1, g2, g3⟩ := c4_end (t := t) f2
      refine ⟨s2, ?_, ?_, ?_, (f3.tr g3).o⟩
      · simp only [j_X4_tellOne_52, c_isWithin, bs, c6, b2_z, if_true, f1, j_X4_tellOne_100, g1]
      · simp only [pO, z0, c6, if_false, pO3, Bool.false_eq_true]; exact g2
      · simp only [pO, z0, c6, if_false, pO3, Bool.false_eq_true]; exact (f3.tr g3).rw hr
    | true =>
      obtain ⟨k, k1, k2, k3⟩ := wi_w (l := 6) (m := 9) (by decide) (by decide) c6
      have ek : lx (wd K V i) = k - 6 := by
        unfold lx
        rw [k3, show (6 : Int32) = nI 6 from rfl, nI_sub k1, nI_clamp (by omega)]
      have rk : rx 4 (wd K V i - 6) = some (k - 6) := by
        rw [k3, show (6 : Int32) = nI 6 from rfl, nI_sub k1]
        exact rx4 (by omega)
      obtain ⟨a1, a2⟩ := h.at (h.nx (hk (by
        rw [k3]; intro z
        have e2 := congrArg Int32.toInt z
        rw [nI_toInt (by omega), show (-1 : Int32).toInt = -1 from rfl] at e2
        omega)))
      obtain ⟨s1, f1, f2, f3⟩ := c4_num (t := t) (lmo (k - 6)) a1
      have hr1 : RW s1 19 w n := (a2.tr f3).rw hr
      have hr2 := hr1.law (k := k - 6) (x := (pN K V A (lmo (k - 6)) (i + 1) F).1) (by omega)
      have fr2 : Fr 19 s1 (up2 s1 20 (k - 6) (pN K V A (lmo (k - 6)) (i + 1) F).1) := Fr.rf.up ⟨by omega, by omega⟩
      obtain ⟨s2, g1, g2, g3⟩ := c4_end (t := t) (f2.fr fr2)
      refine ⟨s2, ?_, ?_, ?_, ((a2.tr f3).o.tr fr2.o).tr g3.o⟩
      · simp only [j_X4_tellOne_52, c_isWithin, bs, c6, b2_z, Bool.true_eq_false, if_false, wr_e, h1, nI_1, rk, lm4 (k - 6) (by omega), f1, j_X4_tellOne_100, g1]
      · simp only [pO, z0, c6, if_false, if_true, pO2, ek]; exact g2
      · simp only [pO, z0, c6, if_false, if_true, pO2, ek]; exact g3.rw hr2
  rw [e0]
  cases c5 : wi (wd K V i) 0 5 with
  | false =>
    obtain ⟨s', q1, q2⟩ := h52 (fun z => by rw [c5] at z; cases z)
    refine ⟨s', ?_, q2⟩
    rw [← q1]
    simp only [j_X4_tellOne_26, c_isKind, bs, c5, b2_z, if_true]
  | true =>
    have h80 : s 19 8 = nI n := hr.1
    by_cases c8 : n < 8
    · have z0 : wi (wd K V i) 0 5 = true ∧ n < 8 := ⟨c5, c8⟩
      obtain ⟨k, k1, k2, k3⟩ := wi_w (l := 0) (m := 5) (by decide) (by decide) c5
      obtain ⟨a1, a2⟩ := h.at (h.nx (hk (by
        rw [k3]; intro z
        have e2 := congrArg Int32.toInt z
        rw [nI_toInt (by omega), show (-1 : Int32).toInt = -1 from rfl] at e2
        omega)))
      obtain ⟨s1, f1, f2, f3⟩ := c4_may (t := t) 10 99 a1
      obtain ⟨s2, g1, g2, g3⟩ := c4_may (t := t) 11 9 f2
      obtain ⟨s3, i1, i2, i3⟩ := c4_may (t := t) 12 99 g2
      have hF := ((a2.tr f3).tr g3).tr i3
      obtain ⟨s4, l1, l2, l3⟩ := c_add (t := t) (k := wd K V i) (th := (pM K V A 10 99 (i + 1) F).1) (hd := (pM K V A 11 9 (pM K V A 10 99 (i + 1) F).2.1 (pM K V A 10 99 (i + 1) F).2.2).1) (pg := (pM K V A 12 99 (pM K V A 11 9 (pM K V A 10 99 (i + 1) F).2.1 (pM K V A 10 99 (i + 1) F).2.2).2.1 (pM K V A 11 9 (pM K V A 10 99 (i + 1) F).2.1 (pM K V A 10 99 (i + 1) F).2.2).2.2).1) (hF.rw hr) c8
      obtain ⟨s5, m1, m2, m3⟩ := c4_end (t := t) (i2.fr l2)
      have d8 : ¬ (8 : Int32) ≤ nI n := nI_ge (b := 8) c8 (by decide)
      refine ⟨s5, ?_, ?_, ?_, (hF.o.tr l2.o).tr m3.o⟩
      · simp only [j_X4_tellOne_26, c_isKind, bs, c5, b2_z, Bool.true_eq_false, if_false, h80, d8, f_X4_tellPerson, wr_e, h1, nI_1, f1, g1, i1, l1, j_X4_tellOne_100, m1]
      · simp only [pO, z0, and_self, if_true, pO1]; exact m2
      · simp only [pO, z0, and_self, if_true, pO1]; exact m3.rw l3
    · obtain ⟨s', q1, q2⟩ := h52 (fun _ => c8)
      refine ⟨s', ?_, q2⟩
      rw [← q1]
      have d8 : (8 : Int32) ≤ nI n := nI_le (a := 8) (by omega) (by omega)
      simp only [j_X4_tellOne_26, c_isKind, bs, c5, b2_z, Bool.true_eq_false, if_false, h80, d8, if_true]
theorem pE_in {K V A : RR} {i : Nat} {F : Int32} (hA : 0 ≤ A i) (h : ¬ 0 ≤ (pE K V A i F).2) : ¬ 0 ≤ F ∧ K i = 3 ∧ V i = 59 ∧ pE K V A i F = (i + 1, F) := by
  unfold pE at h ⊢
  by_cases c : K i = 3 ∧ V i = 59
  · rw [if_pos c] at h ⊢
    exact ⟨h, c.1, c.2, rfl⟩
  · rw [if_neg c] at h
    exfalso
    apply h
    show 0 ≤ pF A i F
    unfold pF
    by_cases d : 0 ≤ F
    · rw [if_pos d]; exact d
    · rw [if_neg d]; exact hA
theorem pF_nn {A : RR} {i : Nat} {F : Int32} (hA : 0 ≤ A i) : 0 ≤ pF A i F := by
  unfold pF
  by_cases d : 0 ≤ F
  · rw [if_pos d]; exact d
  · rw [if_neg d]; exact hA
theorem pN_in {K V A : RR} {i : Nat} {F most : Int32} (hA : 0 ≤ A i) (h : ¬ 0 ≤ (pN K V A most i F).2.2) : ¬ 0 ≤ F ∧ K i = 2 ∧ V i ≤ most ∧ pN K V A most i F = (V i, i + 1, F) := by
  unfold pN at h ⊢
  by_cases c : K i = 2 ∧ V i ≤ most
  · rw [if_pos c] at h ⊢
    exact ⟨h, c.1, c.2, rfl⟩
  · rw [if_neg c] at h
    exact absurd (pF_nn hA) h
theorem pN_ge {K V A : RR} {i : Nat} {F most : Int32} : i ≤ (pN K V A most i F).2.1 := by
  unfold pN
  by_cases c : K i = 2 ∧ V i ≤ most
  · rw [if_pos c]; exact Nat.le_succ i
  · rw [if_neg c]; exact Nat.le_refl i
theorem pM_ge {K V A : RR} {i : Nat} {F c most : Int32} : i ≤ (pM K V A c most i F).2.1 := by
  unfold pM
  by_cases d : K i = 1 ∧ V i = c
  · rw [if_pos d]; exact Nat.le_trans (Nat.le_succ i) pN_ge
  · rw [if_neg d]; exact Nat.le_refl i
theorem pE_ge {K V A : RR} {i : Nat} {F : Int32} : i ≤ (pE K V A i F).1 := by
  unfold pE
  by_cases d : K i = 3 ∧ V i = 59
  · rw [if_pos d]; exact Nat.le_succ i
  · rw [if_neg d]; exact Nat.le_refl i
theorem pO_ge {K V A : RR} {w : RR} {n i : Nat} {F : Int32} : i ≤ (pO K V A w n i F).2.2.1 := by
  unfold pO pO1 pO2 pO3
  by_cases c : wi (wd K V i) 0 5 = true ∧ n < 8
  · rw [if_pos c]
    exact Nat.le_trans (Nat.le_trans (Nat.le_trans (Nat.le_trans (Nat.le_succ i) pM_ge) pM_ge) pM_ge) pE_ge
  · rw [if_neg c]
    by_cases d : wi (wd K V i) 6 9 = true
    · rw [if_pos d]
      exact Nat.le_trans (Nat.le_trans (Nat.le_succ i) pN_ge) pE_ge
    · rw [if_neg d]; exact pE_ge
theorem pO_gt {K V A : RR} {w : RR} {n i : Nat} {F : Int32} (hA : 0 ≤ A i) (h : ¬ 0 ≤ (pO K V A w n i F).2.2.2) : i + 1 ≤ (pO K V A w n i F).2.2.1 := by
  unfold pO pO1 pO2 pO3 at h ⊢
  by_cases c : wi (wd K V i) 0 5 = true ∧ n < 8
  · rw [if_pos c]
    exact Nat.le_trans (Nat.le_trans (Nat.le_trans pM_ge pM_ge) pM_ge) pE_ge
  · rw [if_neg c] at h ⊢
    by_cases d : wi (wd K V i) 6 9 = true
    · rw [if_pos d]
      exact Nat.le_trans pN_ge pE_ge
    · rw [if_neg d] at h
      exact absurd (pF_nn hA) ((pE_in hA h).1)
theorem pO_n {K V A : RR} {w : RR} {n i : Nat} {F : Int32} (hn : n ≤ 8) : (pO K V A w n i F).2.1 ≤ 8 := by
  unfold pO pO1 pO2 pO3
  by_cases c : wi (wd K V i) 0 5 = true ∧ n < 8
  · rw [if_pos c]; exact c.2
  · rw [if_neg c]
    by_cases d : wi (wd K V i) 6 9 = true
    · rw [if_pos d]; exact hn
    · rw [if_neg d]; exact hn
theorem c4_tell_l {K V A : RR} {N : Nat} {t : TT} (hA : ∀ i : Nat, i ≤ N → 0 ≤ A i) : ∀ (f x i n : Nat) (s : SS) (w : RR) (F : Int32), CI K V A N s i F → RW s 19 w n → n ≤ 8 → (¬ 0 ≤ F → x ≤ i) → (if 0 ≤ F then 0 else N - i) < f → ∃ s' : SS, l_X4_tell_17 19 f (nI x, s, t) = some ((pT K V A f (w, n, i, F)).2.2.2, s', t) ∧ RW s' 19 (pT K V A f (w, n, i, F)).1 (pT K V A f (w, n, i, F)).2.1 ∧ Fo s s'
  | 0, x, i, n, s, w, F, _, _, _, _, hf => by omega
  | f + 1, x, i, n, s, w, F, h, hr, hn, hx, hf => by
    obtain ⟨h1, h2, h3, h4, h5, h6, h7, h8, h9⟩ := id h
    show ∃ s' : SS, b_X4_tell_17 19 (l_X4_tell_17 19 f) (nI x) s t = some ((pT K V A (f + 1) (w, n, i, F)).2.2.2, s', t) ∧ _
    by_cases c : 0 ≤ F
    · have e : pT K V A (f + 1) (w, n, i, F) = (w, n, i, F) := by simp only [pT, c, true_or, if_true]
      rw [e]
      refine ⟨s, ?_, hr, Fo.rf⟩
      simp only [b_X4_tell_17, h2, c, if_true, ite_self]
    · have hx := hx c
      rw [if_neg c] at hf
      have d1 : ¬ nI (N + 1) ≤ nI x := nI_ge (by omega) (by omega)
      by_cases k0 : K i = 0
      · have e : pT K V A (f + 1) (w, n, i, F) = (w, n, i, F) := by simp only [pT, k0, or_true, if_true]
        rw [e]
        refine ⟨s, ?_, hr, Fo.rf⟩
        simp only [b_X4_tell_17, h2, c, h7, d1, if_false, h1, rx201 (show i < 201 by omega), bs, h4, k0, if_true]
      · have hi := h.nx k0
        have e : pT K V A (f + 1) (w, n, i, F) = pT K V A f (pO K V A w n i F) := by simp only [pT, c, k0, or_self, if_false]
        obtain ⟨s1, g1, g2, g3, g4⟩ := c4_one (t := t) h hr hn
        obtain ⟨s2, i1, i2, i3⟩ := c4_tell_l (t := t) hA f (x + 1) _ _ s1 _ _ g2 g3 (pO_n hn) (fun z => Nat.le_trans (Nat.succ_le_succ hx) (pO_gt (hA i h3) z)) (by
          by_cases z : 0 ≤ (pO K V A w n i F).2.2.2
          · rw [if_pos z]; omega
          · rw [if_neg z]; have := pO_gt (hA i h3) z; omega)
        rw [e]
        refine ⟨s2, ?_, i2, g4.tr i3⟩
        simp only [b_X4_tell_17, h2, c, h7, d1, if_false, h1, rx201 (show i < 201 by omega), bs, h4, k0, g1, nI_1]
        exact i1
/-- the tokens, once for all -/
def Cx (b : RR) (m N : Nat) (pos : Nat → Nat) (K V A : RR) : Prop := N ≤ 200 ∧ pos 0 = 0 ∧ (∀ i : Nat, i < N → ∃ k a : Nat, k ≠ 0 ∧ K i = nI k ∧ A i = nI a ∧ Tok b m (pos i) k a (pos (i + 1)) ∧ TV b k a (pos (i + 1)) (V i)) ∧ K N = nI 0 ∧ A N = nI m ∧ Tok b m (pos N) 0 m m
theorem Cx.nn {b : RR} {m N : Nat} {pos : Nat → Nat} {K V A : RR} (hm : m ≤ 200) (h : Cx b m N pos K V A) : ∀ i : Nat, i ≤ N → 0 ≤ A i := by
  intro i hi
  by_cases c : i = N
  · rw [c, h.2.2.2.2.1]; exact nI_pos' (by omega)
  · obtain ⟨k, a, _, _, e, tk, _⟩ := h.2.2.1 i (by omega)
    have := tk.le
    rw [e]; exact nI_pos' (by omega)
theorem c4_tell {s : SS} {t : TT} {m n : Nat} {w : RR} (hm : m ≤ 200) (h7 : s 28 7 = nI m) (hr : RW s 19 w n) (hn : n ≤ 8) : ∃ (s' : SS) (N : Nat) (pos : Nat → Nat) (K V A : RR), Cx (s 29) m N pos K V A ∧ f_X4_tell 19 s t = some ((pT K V A 300 (w, n, 0, -3)).2.2.2, s', t) ∧ RW s' 19 (pT K V A 300 (w, n, 0, -3)).1 (pT K V A 300 (w, n, 0, -3)).2.1 ∧ (∀ c : Nat, c < 19 ∨ 32 < c ∨ c = 29 → s' c = s c) ∧ s' 28 7 = s 28 7 := by
  obtain ⟨s1, e1, f1, f2, N, pos, n1, n2, n3, n4, n5, n6⟩ := c_cut (t := t) hm h7
  have hC : Cx (s 29) m N pos (s1 30) (s1 31) (s1 32) := ⟨n1, n3.1, n3.2, n4, n5, n6⟩
  have g5 : ∀ c : Nat, c ≠ 28 → up2 (up2 s1 28 5 0) 28 6 (-3) c = s1 c := fun c hc => by rw [up2_o hc, up2_o hc]
  have hI : CI (s1 30) (s1 31) (s1 32) N (up2 (up2 s1 28 5 0) 28 6 (-3)) 0 (-3) := ⟨by simp [up2_r]; rfl, by simp [up2_r], by omega, g5 30 (by decide), g5 31 (by decide), g5 32 (by decide), by simp [up2_r, n2], n1, n4⟩
  have hr1 : RW (up2 (up2 s1 28 5 0) 28 6 (-3)) 19 w n := hr.fr (fun c c1 c2 => by rw [g5 c (by omega), f1 c (by omega) (by omega) (by omega) (by omega)])
  obtain ⟨s2, l1, l2, l3⟩ := c4_tell_l (t := t) (hC.nn hm) 300 0 0 n _ w (-3) hI hr1 hn (fun _ => Nat.le_refl _) (by rw [if_neg (by decide)]; omega)
  refine ⟨s2, N, pos, s1 30, s1 31, s1 32, hC, ?_, l2, fun c hc => ?_, ?_⟩
  · simp only [f_X4_tell, e1, bs, wr_e]
    exact l1
  · rw [l3.1 c (by omega), g5 c (by omega), f1 c (by omega) (by omega) (by omega) (by omega)]
  · rw [l3.2]
    simp only [up2_r]
    simp [f2]
