/-! the reference's clause and its post -/
theorem m1n (w : Nat) (hw : w < 13) : ¬ (-1 : Int32) = nI w := by
  intro z
  have z2 := congrArg Int32.toInt z
  rw [nI_toInt (by omega), show (-1 : Int32).toInt = -1 from rfl] at z2
  omega
theorem w13 {w : Nat} (h : w < 13) : w = 0 ∨ w = 1 ∨ w = 2 ∨ w = 3 ∨ w = 4 ∨ w = 5 ∨ w = 6 ∨ w = 7 ∨ w = 8 ∨ w = 9 ∨ w = 10 ∨ w = 11 ∨ w = 12 := by omega
def kH (x : Int32) : Int32 := if wi x 0 5 = true then x else -1
def lH (x : Int32) : Int32 := if wi x 6 9 = true then x - 6 else -1
def kL (x : Int32) : Int32 := if x = nI 0 then 0 else if x = nI 1 then 1 else if x = nI 2 then 2 else if x = nI 3 then 3 else if x = nI 4 then 4 else if x = nI 5 then 5 else -1
def lL (x : Int32) : Int32 := if x = nI 6 then 0 else if x = nI 7 then 1 else if x = nI 8 then 2 else if x = nI 9 then 3 else -1
theorem kL_n : ∀ w : Nat, w < 13 → kL (nI w) = kH (nI w) ∧ lL (nI w) = lH (nI w) := by decide +kernel
theorem kL_m : kL (-1) = kH (-1) ∧ lL (-1) = lH (-1) := by decide +kernel
theorem m_kind {b : RR} {m N i : Nat} {pos : Nat → Nat} {K V A : RR} {s : SS} {t : TT} {F : Int32} (g : Gx b m N pos K V A) (h : RI b m N pos K V A s t i F) (hF : ¬ 0 ≤ F) : f_X6_kindHere s t = some (kH (wd K V i), s, t) ∧ f_X6_lawHere s t = some (lH (wd K V i), s, t) := by
  have e : kL (wd K V i) = kH (wd K V i) ∧ lL (wd K V i) = lH (wd K V i) := by
    rcases RI_wd h hF with z | ⟨w, hw, z⟩
    · rw [z]; exact kL_m
    · rw [z]; exact kL_n w hw
  rw [← e.1, ← e.2]
  have c0 : f_X6_isWord 913590 s t = _ := m_word (w := 0) g h hF (by decide)
  have c1 : f_X6_isWord 152574828626 s t = _ := m_word (w := 1) g h hF (by decide)
  have c2 : f_X6_isWord 12403634 s t = _ := m_word (w := 2) g h hF (by decide)
  have c3 : f_X6_isWord 326018 s t = _ := m_word (w := 3) g h hF (by decide)
  have c4 : f_X6_isWord 277800912 s t = _ := m_word (w := 4) g h hF (by decide)
  have c5 : f_X6_isWord 1888 s t = _ := m_word (w := 5) g h hF (by decide)
  have c6 : f_X6_isWord 16079 s t = _ := m_word (w := 6) g h hF (by decide)
  have c7 : f_X6_isWord 6564799 s t = _ := m_word (w := 7) g h hF (by decide)
  have c8 : f_X6_isWord 13691 s t = _ := m_word (w := 8) g h hF (by decide)
  have c9 : f_X6_isWord 382984 s t = _ := m_word (w := 9) g h hF (by decide)
  generalize wd K V i = x at *
  constructor
  · simp only [f_X6_kindHere, c0, c1, c2, c3, c4, c5, bs, b2_z, decide_eq_false_iff_not, kL]
    by_cases z0 : x = nI 0
    · simp only [z0, not_true_eq_false, if_false, if_true]
    · simp only [z0, not_false_eq_true, if_true, if_false]
      by_cases z1 : x = nI 1
      · simp only [z1, not_true_eq_false, if_false, if_true]
      · simp only [z1, not_false_eq_true, if_true, if_false]
        by_cases z2 : x = nI 2
        · simp only [z2, not_true_eq_false, if_false, if_true]
        · simp only [z2, not_false_eq_true, if_true, if_false]
          by_cases z3 : x = nI 3
          · simp only [z3, not_true_eq_false, if_false, if_true]
          · simp only [z3, not_false_eq_true, if_true, if_false]
            by_cases z4 : x = nI 4
            · simp only [z4, not_true_eq_false, if_false, if_true]
            · simp only [z4, not_false_eq_true, if_true, if_false]
              by_cases z5 : x = nI 5
              · simp only [z5, not_true_eq_false, if_false, if_true]
              · simp only [z5, not_false_eq_true, if_true, if_false]
  · simp only [f_X6_lawHere, c6, c7, c8, c9, bs, b2_z, decide_eq_false_iff_not, lL]
    by_cases z0 : x = nI 6
    · simp only [z0, not_true_eq_false, if_false, if_true]
    · simp only [z0, not_false_eq_true, if_true, if_false]
      by_cases z1 : x = nI 7
      · simp only [z1, not_true_eq_false, if_false, if_true]
      · simp only [z1, not_false_eq_true, if_true, if_false]
        by_cases z2 : x = nI 8
        · simp only [z2, not_true_eq_false, if_false, if_true]
        · simp only [z2, not_false_eq_true, if_true, if_false]
          by_cases z3 : x = nI 9
          · simp only [z3, not_true_eq_false, if_false, if_true]
          · simp only [z3, not_false_eq_true, if_true, if_false]
theorem pN_le {K V A : RR} {i N : Nat} {F most : Int32} (hN : K N = 0) (hi : i ≤ N) : (pN K V A most i F).2.1 ≤ N := by
  unfold pN
  by_cases c : K i = 2 ∧ V i ≤ most
  · rw [if_pos c]
    have : i ≠ N := fun z => by rw [z, hN] at c; exact absurd c.1 (by decide)
    show i + 1 ≤ N
    omega
  · rw [if_neg c]; exact hi
theorem pM_le {K V A : RR} {i N : Nat} {F c most : Int32} (hN : K N = 0) (hi : i ≤ N) : (pM K V A c most i F).2.1 ≤ N := by
  unfold pM
  by_cases d : K i = 1 ∧ V i = c
  · rw [if_pos d]
    have : i ≠ N := fun z => by rw [z, hN] at d; exact absurd d.1 (by decide)
    exact pN_le hN (by omega)
  · rw [if_neg d]; exact hi
theorem pE_le {K V A : RR} {i N : Nat} {F : Int32} (hN : K N = 0) (hi : i ≤ N) : (pE K V A i F).1 ≤ N := by
  unfold pE
  by_cases c : K i = 3 ∧ V i = 59
  · rw [if_pos c]
    have : i ≠ N := fun z => by rw [z, hN] at c; exact absurd c.1 (by decide)
    show i + 1 ≤ N
    omega
  · rw [if_neg c]; exact hi
theorem pF_F {A : RR} {i : Nat} {F : Int32} (h : 0 ≤ F) : pF A i F = F := by unfold pF; rw [if_pos h]
theorem pN_F {K V A : RR} {i : Nat} {F most : Int32} (h : 0 ≤ F) : (pN K V A most i F).2.2 = F := by
  unfold pN
  by_cases c : K i = 2 ∧ V i ≤ most
  · rw [if_pos c]
  · rw [if_neg c]; exact pF_F h
theorem pM_F {K V A : RR} {i : Nat} {F c most : Int32} (h : 0 ≤ F) : (pM K V A c most i F).2.2 = F := by
  unfold pM
  by_cases d : K i = 1 ∧ V i = c
  · rw [if_pos d]; exact pN_F h
  · rw [if_neg d]
theorem pE_F {K V A : RR} {i : Nat} {F : Int32} (h : 0 ≤ F) : (pE K V A i F).2 = F := by
  unfold pE
  by_cases c : K i = 3 ∧ V i = 59
  · rw [if_pos c]
  · rw [if_neg c]; exact pF_F h
theorem m_num {b : RR} {m N i : Nat} {pos : Nat → Nat} {K V A : RR} {s : SS} {t : TT} {F : Int32} (M : Nat) (hM : M < 1000) (g : Gx b m N pos K V A) (h : RI b m N pos K V A s t i F) : ∃ (x : Int32) (s' : SS) (t' : TT), f_X6_wantNumber 0 (nI M) s t = some (x, s', t') ∧ RI b m N pos K V A s' t' (pN K V A (nI M) i F).2.1 (pN K V A (nI M) i F).2.2 ∧ (¬ 0 ≤ (pN K V A (nI M) i F).2.2 → x = (pN K V A (nI M) i F).1 ∧ bd M x) ∧ Fq s s' t t' := by
  obtain ⟨h1, h2, h3, h4, h5⟩ := id h
  have hN : K N = 0 := g.2.2.2.2.2.1
  have j34 : ∀ x : Int32, j_X6_wantNumber_34 x s t = some (x, up2 s 51 13 0, t) := fun x => by
    simp only [j_X6_wantNumber_34, j_X6_wantNumber_35, wr_e, up2_r, and_self, if_true]
    rfl
  by_cases c : 0 ≤ F
  · refine ⟨s 51 12, up2 s 51 13 0, t, ?_, ?_, fun z => absurd (by rw [pN_F c]; exact c) z, Fq.g⟩
    · simp only [f_X6_wantNumber, (h5 c).1, if_true, j34]
    · rw [pN_F c]
      have := h.no g (pN_le (V := V) (A := A) (F := F) (most := nI M) hN h3)
      rw [pF_F c] at this
      exact this
  · obtain ⟨q0, k, a, e, q1, q2, q3, q4, q5⟩ := h4 c
    have q0' : ¬ s 51 13 = 0 := by rw [q0]; decide
    have kl := q3.le
    by_cases ck : k = 2
    · subst ck
      have kz : K i = 2 := q1
      have e8 : s 51 8 = 2 := q5.1
      have hv := q5.2.2.2.2.1 rfl
      have hV := q4.2.1 rfl
      rw [h1] at hv
      have key : (wi (s 51 12) 0 (nI M) = true ↔ V i ≤ nI M) ∧ (V i ≤ nI M → s 51 12 = V i ∧ bd M (V i)) := by
        rw [hv, hV]
        unfold vN
        by_cases d : e - a ≤ 3
        · have hd : isL (b a) = false ∧ Run isD b m a e := by
            rcases q3.2 with ⟨_, z, _⟩ | ⟨_, z, _⟩ | ⟨_, _, z1, _, z2⟩ | ⟨_, z, _⟩
            · omega
            · omega
            · exact ⟨z1, z2⟩
            · omega
          have d1 := dv_lt (b := b) (a := a) (e - a) (fun j hj => hd.2.2.2.1 (a + j) (by omega) (by omega))
          have d2 : (10 : Nat) ^ (e - a) ≤ 10 ^ 3 := Nat.pow_le_pow_right (by decide) d
          rw [if_pos d, if_pos d]
          have d3 : (0 : Int32) ≤ nI (dv b a (e - a)) := nI_pos' (by omega)
          refine ⟨?_, fun z => ⟨rfl, bd_n ((nI_leI (by omega) (by omega)).mp z)⟩⟩
          simp only [wi, d3, decide_true, Bool.true_and, decide_eq_true_eq]
        · rw [if_neg d, if_neg d]
          have d3 : ¬ (1000 : Int32) ≤ nI M := nI_ge (b := 1000) hM (by decide)
          refine ⟨⟨fun z => absurd z ?_, fun z => absurd z d3⟩, fun z => absurd z d3⟩
          simp [wi]
      by_cases cv : V i ≤ nI M
      · obtain ⟨v1, v2⟩ := key.2 cv
        have wt := key.1.mpr cv
        have ep : pN K V A (nI M) i F = (V i, i + 1, F) := by unfold pN; rw [if_pos ⟨kz, cv⟩]
        rw [ep]
        have hy := h.yes c
        obtain ⟨s', t', f1, f2, f3⟩ := m_step g hy c (g.nx h3 (by rw [kz]; decide))
        refine ⟨s 51 12, s', t', ?_, f2, fun _ => ⟨v1, by rw [v1]; exact v2⟩, Fq.g.tr f3⟩
        simp only [f_X6_wantNumber, q0', if_false, e8, if_true, m_in, bs, wt, b2_z, Bool.true_eq_false, j_X6_wantNumber_35, wr_e, f1]
        simp [up2_r]
      · have wt : wi (s 51 12) 0 (nI M) = false := by
          cases z : wi (s 51 12) 0 (nI M) with
          | false => rfl
          | true => exact absurd (key.1.mp z) cv
        have ep : pN K V A (nI M) i F = (0, i, pF A i F) := by unfold pN; rw [if_neg (fun z => cv z.2)]
        rw [ep]
        refine ⟨s 51 12, up2 s 51 13 0, t, ?_, h.no g h3, fun z => absurd (pF_nn (g.2.2.nn g.1 i h3)) z, Fq.g⟩
        simp only [f_X6_wantNumber, q0', if_false, e8, if_true, m_in, bs, wt, b2_z, j34]
    · have kz : ¬ K i = 2 := by rw [q1]; exact fun z => ck ((nI_eq (b := 2) (by omega) (by omega)).mp z)
      have e8 : ¬ s 51 8 = 2 := by rw [q5.1]; exact fun z => ck ((nI_eq (b := 2) (by omega) (by omega)).mp z)
      have ep : pN K V A (nI M) i F = (0, i, pF A i F) := by unfold pN; rw [if_neg (fun z => kz z.1)]
      rw [ep]
      refine ⟨s 51 12, up2 s 51 13 0, t, ?_, h.no g h3, fun z => absurd (pF_nn (g.2.2.nn g.1 i h3)) z, Fq.g⟩
      simp only [f_X6_wantNumber, q0', if_false, e8, j34]
theorem m_may {b : RR} {m N i w : Nat} {pos : Nat → Nat} {K V A : RR} {s : SS} {t : TT} {F : Int32} (M : Nat) (hM : M < 1000) (hw : w < 13) (g : Gx b m N pos K V A) (h : RI b m N pos K V A s t i F) : ∃ (x : Int32) (s' : SS) (t' : TT), f_X6_mayWant (lN (cde w)) (nI M) s t = some (x, s', t') ∧ RI b m N pos K V A s' t' (pM K V A (nI w) (nI M) i F).2.1 (pM K V A (nI w) (nI M) i F).2.2 ∧ (¬ 0 ≤ (pM K V A (nI w) (nI M) i F).2.2 → x = (pM K V A (nI w) (nI M) i F).1 ∧ bd M x) ∧ Fq s s' t t' := by
  obtain ⟨h1, h2, h3, h4, h5⟩ := id h
  have hN : K N = 0 := g.2.2.2.2.2.1
  by_cases c : 0 ≤ F
  · refine ⟨0, s, t, ?_, ?_, fun z => absurd (by rw [pM_F c]; exact c) z, Fq.rf⟩
    · simp only [f_X6_mayWant, (h5 c).1, if_true]
    · rw [pM_F c]
      exact h.any c (pM_le hN h3)
  · have q0' : ¬ s 51 13 = 0 := by rw [(h4 c).1]; decide
    have hw1 := m_word (t := t) g h c hw
    by_cases d : wd K V i = nI w
    · have hK : K i = 1 ∧ V i = nI w := by
        unfold wd at d
        by_cases z : K i = 1
        · rw [if_pos z] at d; exact ⟨z, d⟩
        · rw [if_neg z] at d; exact absurd d (m1n w hw)
      have ep : pM K V A (nI w) (nI M) i F = pN K V A (nI M) (i + 1) F := by unfold pM; rw [if_pos hK]
      rw [ep]
      obtain ⟨s1, t1, f1, f2, f3⟩ := m_step g h c (g.nx h3 (by rw [hK.1]; decide))
      obtain ⟨x, s2, t2, g1, g2, g3, g4⟩ := m_num M hM g f2
      refine ⟨x, s2, t2, ?_, g2, g3, f3.tr g4⟩
      simp only [f_X6_mayWant, q0', if_false, hw1, bs, b2_z, d, decide_true, Bool.true_eq_false, f1, g1]
    · have hK : ¬ (K i = 1 ∧ V i = nI w) := by
        intro z
        apply d
        unfold wd
        rw [if_pos z.1]; exact z.2
      have ep : pM K V A (nI w) (nI M) i F = (0, i, F) := by unfold pM; rw [if_neg hK]
      rw [ep]
      refine ⟨0, s, t, ?_, h, fun _ => ⟨rfl, bd_c 0 rfl (by omega)⟩, Fq.rf⟩
      simp only [f_X6_mayWant, q0', if_false, hw1, bs, b2_z, d, decide_false, if_true]
theorem m_endc {b : RR} {m N i : Nat} {pos : Nat → Nat} {K V A : RR} {s : SS} {t : TT} {F : Int32} (g : Gx b m N pos K V A) (h : RI b m N pos K V A s t i F) : ∃ (s' : SS) (t' : TT), f_X6_wantEnd s t = some (s', t') ∧ RI b m N pos K V A s' t' (pE K V A i F).1 (pE K V A i F).2 ∧ Fq s s' t t' := by
  obtain ⟨h1, h2, h3, h4, h5⟩ := id h
  have hN : K N = 0 := g.2.2.2.2.2.1
  have j21 : j_X6_wantEnd_21 s t = some (up2 s 51 13 0, t) := by
    simp only [j_X6_wantEnd_21, j_X6_wantEnd_22, wr_e, up2_r, and_self, if_true]
    rfl
  by_cases c : 0 ≤ F
  · refine ⟨up2 s 51 13 0, t, ?_, ?_, Fq.g⟩
    · simp only [f_X6_wantEnd, (h5 c).1, if_true, j21]
    · rw [pE_F c]
      have := h.no g (pE_le (V := V) (A := A) (F := F) hN h3)
      rw [pF_F c] at this
      exact this
  · obtain ⟨q0, k, a, e, q1, q2, q3, q4, q5⟩ := h4 c
    have q0' : ¬ s 51 13 = 0 := by rw [q0]; decide
    have kl := q3.le
    by_cases ck : k = 3
    · subst ck
      have kz : K i = 3 := q1
      have e8 : s 51 8 = 3 := q5.1
      have hv : s 51 12 = V i := by
        rw [q5.2.2.2.2.2 rfl, h1, q4.2.2 rfl]
      by_cases cv : V i = 59
      · have ep : pE K V A i F = (i + 1, F) := by unfold pE; rw [if_pos ⟨kz, cv⟩]
        rw [ep]
        obtain ⟨s', t', f1, f2, f3⟩ := m_step g (h.yes c) c (g.nx h3 (by rw [kz]; decide))
        refine ⟨s', t', ?_, f2, Fq.g.tr f3⟩
        simp only [f_X6_wantEnd, q0', if_false, f_X6_isMark, e8, if_true, hv, cv, bs, j_X6_wantEnd_22, wr_e, f1]
        simp [up2_r]
      · have ep : pE K V A i F = (i, pF A i F) := by unfold pE; rw [if_neg (fun z => cv z.2)]
        rw [ep]
        refine ⟨up2 s 51 13 0, t, ?_, h.no g h3, Fq.g⟩
        simp only [f_X6_wantEnd, q0', if_false, f_X6_isMark, e8, if_true, hv, cv, bs, j21]
    · have kz : ¬ K i = 3 := by rw [q1]; exact fun z => ck ((nI_eq (b := 3) (by omega) (by omega)).mp z)
      have e8 : ¬ s 51 8 = 3 := by rw [q5.1]; exact fun z => ck ((nI_eq (b := 3) (by omega) (by omega)).mp z)
      have ep : pE K V A i F = (i, pF A i F) := by unfold pE; rw [if_neg (fun z => kz z.1)]
      rw [ep]
      refine ⟨up2 s 51 13 0, t, ?_, h.no g h3, Fq.g⟩
      simp only [f_X6_wantEnd, q0', if_false, f_X6_isMark, e8, bs, if_true, j21]
