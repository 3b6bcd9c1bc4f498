/-! the reference's way through the clauses -/
def Gx (b : RR) (m N : Nat) (pos : Nat → Nat) (K V A : RR) : Prop := m ≤ 200 ∧ (∀ i : Nat, i < m → bd 255 (b i)) ∧ Cx b m N pos K V A
def RI (b : RR) (m N : Nat) (pos : Nat → Nat) (K V A : RR) (s : SS) (t : TT) (i : Nat) (F : Int32) : Prop := s 56 = b ∧ s 51 7 = nI m ∧ i ≤ N ∧ (¬ 0 ≤ F → s 51 13 = 1 ∧ ∃ k a e : Nat, K i = nI k ∧ A i = nI a ∧ Tok b m (pos i) k a e ∧ TV b k a e (V i) ∧ RT s t k a e) ∧ (0 ≤ F → s 51 13 = 0 ∧ s 51 9 = F)
def Fq (s s' : SS) (t t' : TT) : Prop := (∀ c : Nat, c ≠ 51 → s' c = s c) ∧ (∀ c : Nat, c ≠ 51 → t' c = t c) ∧ ∀ i : Nat, i ≠ 8 → i ≠ 9 → i ≠ 10 → i ≠ 12 → i ≠ 13 → s' 51 i = s 51 i
def Fp (s s' : SS) (t t' : TT) : Prop := (∀ c : Nat, c ≠ 51 → c ≠ 53 → s' c = s c) ∧ (∀ c : Nat, c ≠ 51 → t' c = t c) ∧ ∀ i : Nat, i ≠ 8 → i ≠ 9 → i ≠ 10 → i ≠ 12 → i ≠ 13 → s' 51 i = s 51 i
theorem Fq.rf {s : SS} {t : TT} : Fq s s t t := ⟨fun _ _ => rfl, fun _ _ => rfl, fun _ _ _ _ _ _ => rfl⟩
theorem Fp.rf {s : SS} {t : TT} : Fp s s t t := ⟨fun _ _ _ => rfl, fun _ _ => rfl, fun _ _ _ _ _ _ => rfl⟩
theorem Fq.tr {s s' s'' : SS} {t t' t'' : TT} (h : Fq s s' t t') (g : Fq s' s'' t' t'') : Fq s s'' t t'' := ⟨fun c a => (g.1 c a).trans (h.1 c a), fun c a => (g.2.1 c a).trans (h.2.1 c a), fun i a1 a2 a3 a4 a5 => (g.2.2 i a1 a2 a3 a4 a5).trans (h.2.2 i a1 a2 a3 a4 a5)⟩
theorem Fp.tr {s s' s'' : SS} {t t' t'' : TT} (h : Fp s s' t t') (g : Fp s' s'' t' t'') : Fp s s'' t t'' := ⟨fun c a b => (g.1 c a b).trans (h.1 c a b), fun c a => (g.2.1 c a).trans (h.2.1 c a), fun i a1 a2 a3 a4 a5 => (g.2.2 i a1 a2 a3 a4 a5).trans (h.2.2 i a1 a2 a3 a4 a5)⟩
theorem Fq.p {s s' : SS} {t t' : TT} (h : Fq s s' t t') : Fp s s' t t' := ⟨fun c a _ => h.1 c a, h.2.1, h.2.2⟩
theorem Fa.q {s s' : SS} {t t' : TT} (h : Fa s s' t t') : Fq s s' t t' := ⟨h.1, h.2.1, fun i a1 a2 a3 a4 a5 => h.2.2 i a1 a2 a3 a4⟩
theorem Fq.g {s : SS} {t : TT} {x : Int32} : Fq s (up2 s 51 13 x) t t := ⟨fun c hc => up2_o hc, fun _ _ => rfl, fun i a1 a2 a3 a4 a5 => by rw [up2_r, if_neg (fun z => a5 z.2)]⟩
theorem Gx.tk {b : RR} {m N i : Nat} {pos : Nat → Nat} {K V A : RR} (g : Gx b m N pos K V A) (hi : i ≤ N) : ∃ k a e : Nat, K i = nI k ∧ A i = nI a ∧ Tok b m (pos i) k a e ∧ TV b k a e (V i) ∧ (i < N → k ≠ 0 ∧ pos (i + 1) = e) := by
  obtain ⟨hm, hb, hC⟩ := g
  by_cases c : i = N
  · subst c
    exact ⟨0, m, m, hC.2.2.2.1, hC.2.2.2.2.1, hC.2.2.2.2.2, ⟨fun h => absurd h (by decide), fun h => absurd h (by decide), fun h => absurd h (by decide)⟩, fun z => by omega⟩
  · obtain ⟨k, a, h0, h1, h2, h3, h4⟩ := hC.2.2.1 i (by omega)
    exact ⟨k, a, pos (i + 1), h1, h2, h3, h4, fun _ => ⟨h0, rfl⟩⟩
theorem Gx.nx {b : RR} {m N i : Nat} {pos : Nat → Nat} {K V A : RR} (g : Gx b m N pos K V A) (hi : i ≤ N) (hk : K i ≠ 0) : i < N := by
  have : i ≠ N := fun z => hk (by rw [z]; exact g.2.2.2.2.2.1)
  omega
theorem RI.any {b : RR} {m N i j : Nat} {pos : Nat → Nat} {K V A : RR} {s : SS} {t : TT} {F : Int32} (h : RI b m N pos K V A s t i F) (hF : 0 ≤ F) (hj : j ≤ N) : RI b m N pos K V A s t j F := ⟨h.1, h.2.1, hj, fun z => absurd hF z, h.2.2.2.2⟩
theorem RI.no {b : RR} {m N i j : Nat} {pos : Nat → Nat} {K V A : RR} {s : SS} {t : TT} {F : Int32} (g : Gx b m N pos K V A) (h : RI b m N pos K V A s t i F) (hj : j ≤ N) : RI b m N pos K V A (up2 s 51 13 0) t j (pF A i F) := by
  obtain ⟨h1, h2, h3, h4, h5⟩ := h
  have nn := g.2.2.nn g.1 i h3
  refine ⟨by rw [up2_o (by decide)]; exact h1, by simp [up2_r, h2], hj, fun z => absurd (pF_nn nn) z, fun _ => ⟨by simp [up2_r], ?_⟩⟩
  have e : up2 s 51 13 0 51 9 = s 51 9 := by simp [up2_r]
  rw [e]
  unfold pF
  by_cases c : 0 ≤ F
  · rw [if_pos c]; exact (h5 c).2
  · rw [if_neg c]
    obtain ⟨-, k, a, e, q1, q2, q3, q4, q5⟩ := h4 c
    rw [q2]; exact q5.2.1
theorem RI.yes {b : RR} {m N i : Nat} {pos : Nat → Nat} {K V A : RR} {s : SS} {t : TT} {F : Int32} (h : RI b m N pos K V A s t i F) (hF : ¬ 0 ≤ F) : RI b m N pos K V A (up2 s 51 13 1) t i F := by
  obtain ⟨h1, h2, h3, h4, h5⟩ := h
  obtain ⟨q0, k, a, e, q1, q2, q3, q4, q5, q6, q7, q8, q9, q10⟩ := h4 hF
  have e56 : up2 s 51 13 1 56 = s 56 := up2_o (by decide)
  refine ⟨e56.trans h1, by simp [up2_r, h2], h3, fun _ => ⟨by simp [up2_r], k, a, e, q1, q2, q3, q4, ?_⟩, fun z => absurd z hF⟩
  unfold RT
  rw [e56]
  simp only [up2_r]
  simp only [show ¬ (8 : Nat) = 13 by decide, show ¬ (9 : Nat) = 13 by decide, show ¬ (10 : Nat) = 13 by decide, show ¬ (12 : Nat) = 13 by decide, and_false, if_false]
  exact ⟨q5, q6, q7, q8, q9, q10⟩
theorem m_step {b : RR} {m N i : Nat} {pos : Nat → Nat} {K V A : RR} {s : SS} {t : TT} {F : Int32} (g : Gx b m N pos K V A) (h : RI b m N pos K V A s t i F) (hF : ¬ 0 ≤ F) (hi : i < N) : ∃ (s' : SS) (t' : TT), f_X6_advance s t = some (s', t') ∧ RI b m N pos K V A s' t' (i + 1) F ∧ Fq s s' t t' := by
  obtain ⟨h1, h2, h3, h4, h5⟩ := h
  obtain ⟨q0, k, a, e, q1, q2, q3, q4, q5⟩ := h4 hF
  obtain ⟨k', a', e', r1, r2, r3, r4, r5⟩ := g.tk (i := i) h3
  have ue := (q3.uq r3).2.2
  have pe := (r5 hi).2
  have ple := q3.le
  obtain ⟨k2, a2, e2, w1, w2, w3, w4, w5⟩ := g.tk (i := i + 1) hi
  obtain ⟨s', t', kk, aa, ee, f1, f2, f3, f4⟩ := m_advance (t := t) g.1 h2 (by rw [h1]; exact g.2.1) q5.2.2.1 (by omega)
  rw [h1] at f2
  rw [← ue, ] at pe
  rw [pe] at w3
  obtain ⟨u1, u2, u3⟩ := w3.uq f2
  subst u1; subst u2; subst u3
  refine ⟨s', t', f1, ⟨(f4.1 56 (by decide)).trans h1, by rw [f4.2.2 7 (by decide) (by decide) (by decide) (by decide)]; exact h2, hi, fun _ => ⟨by rw [f4.2.2 13 (by decide) (by decide) (by decide) (by decide)]; exact q0, k2, a2, e2, w1, w2, by rw [pe]; exact w3, w4, f3⟩, fun z => absurd z hF⟩, f4.q⟩
theorem lg_eq {x y : Int64} : (lg_cmp x y = 0) = (x = y) := by
  unfold lg_cmp
  by_cases c : x = y
  · subst c
    simp [Int64.lt_irrefl]
  · by_cases d : x > y <;> simp [c, d]
theorem m_word {b : RR} {m N i w : Nat} {pos : Nat → Nat} {K V A : RR} {s : SS} {t : TT} {F : Int32} (g : Gx b m N pos K V A) (h : RI b m N pos K V A s t i F) (hF : ¬ 0 ≤ F) (hw : w < 13) : f_X6_isWord (lN (cde w)) s t = some (b2 (decide (wd K V i = nI w)), s, t) := by
  obtain ⟨h1, h2, h3, h4, h5⟩ := h
  obtain ⟨q0, k, a, e, q1, q2, q3, q4, q5⟩ := h4 hF
  have kl := q3.le
  by_cases c : k = 1
  · subst c
    have hv := q5.2.2.2.1 rfl
    have hcv := (q4.1 rfl).iff w hw
    have hwd : wd K V i = V i := by unfold wd; rw [if_pos (show K i = 1 from q1)]
    have hle : isL (b a) = true ∧ Run isL b m a e := by
      rcases q3.2 with ⟨_, z, _⟩ | ⟨_, _, z1, z2⟩ | ⟨_, z, _⟩ | ⟨_, z, _⟩
      · omega
      · exact ⟨z1, z2⟩
      · omega
      · omega
    have hl : ∀ j : Nat, j < e - a → isL (b (a + j)) = true := fun j hj => hle.2.2.2.1 (a + j) (by omega) (by omega)
    have key : (t 51 11 = lN (cde w)) = (wd K V i = nI w) := by
      rw [hwd, hv, h1]
      apply propext
      rw [hcv]
      unfold vW
      by_cases d : e - a ≤ 9
      · rw [if_pos d]
        have b1 := vl_lt (e - a) hl
        have b2 : (27 : Nat) ^ (e - a) ≤ 27 ^ 9 := Nat.pow_le_pow_right (by decide) d
        have b3 := cde_lt w hw
        rw [pk_lEQ (by omega) (by omega)]
        exact vl_code hw d hl
      · rw [if_neg d]
        constructor
        · intro z
          have b3 := cde_lt w hw
          have z2 := congrArg Int64.toInt z
          rw [pk_lT (by omega), show (-1 : Int64).toInt = -1 from rfl] at z2
          omega
        · intro z
          have := (SP_len w hw).1
          rw [← z, lw_len] at this
          omega
    have e1 : s 51 8 = 1 := q5.1
    simp only [f_X6_isWord, e1, if_true, lg_eq, key]
    by_cases d : wd K V i = nI w
    · simp [d]; rfl
    · simp [d]; rfl
  · have e1 : ¬ s 51 8 = 1 := by
      rw [q5.1]
      exact fun z => c ((nI_eq (b := 1) (by omega) (by omega)).mp z)
    have e2 : ¬ wd K V i = nI w := by
      unfold wd
      rw [if_neg (show ¬ K i = 1 by rw [q1]; exact fun z => c ((nI_eq (b := 1) (by omega) (by omega)).mp z))]
      intro z
      have z2 := congrArg Int32.toInt z
      rw [nI_toInt (by omega), show (-1 : Int32).toInt = -1 from rfl] at z2
      omega
    simp only [f_X6_isWord, e1, if_false, e2, decide_false]
    rfl
theorem RI_wd {b : RR} {m N i : Nat} {pos : Nat → Nat} {K V A : RR} {s : SS} {t : TT} {F : Int32} (h : RI b m N pos K V A s t i F) (hF : ¬ 0 ≤ F) : wd K V i = -1 ∨ ∃ w : Nat, w < 13 ∧ wd K V i = nI w := by
  obtain ⟨h1, h2, h3, h4, h5⟩ := h
  obtain ⟨q0, k, a, e, q1, q2, q3, q4, q5⟩ := h4 hF
  have kl := q3.le
  unfold wd
  by_cases c : k = 1
  · subst c
    rw [if_pos (show K i = 1 from q1)]
    rcases q4.1 rfl with ⟨w, w1, w2, _⟩ | ⟨w1, _⟩
    · exact Or.inr ⟨w, w1, w2⟩
    · exact Or.inl w1
  · left
    rw [if_neg (show ¬ K i = 1 by rw [q1]; exact fun z => c ((nI_eq (b := 1) (by omega) (by omega)).mp z))]
