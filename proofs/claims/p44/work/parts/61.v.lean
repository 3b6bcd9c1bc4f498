/-! the reference's clauses and the post -/
def Ro (s : SS) (w : RR) (n : Nat) : Prop := (∀ k : Nat, k < 56 → k ≠ 7 → s 53 k = w k) ∧ (∀ k : Nat, 8 + 6 * n ≤ k → k < 56 → w k = 0) ∧ OKw w n 0
theorem Ro.fr {s s' : SS} {t t' : TT} {w : RR} {n : Nat} (h : Ro s w n) (g : Fq s s' t t') : Ro s' w n := by
  unfold Ro
  rw [g.1 53 (by decide)]
  exact h
theorem RI.r53 {b : RR} {m N i j : Nat} {pos : Nat → Nat} {K V A : RR} {s : SS} {t : TT} {F v : Int32} (h : RI b m N pos K V A s t i F) : RI b m N pos K V A (up2 s 53 j v) t i F := by
  unfold RI RT
  rw [up2_o (show 56 ≠ 53 by decide), up2_o (show 51 ≠ 53 by decide)]
  exact h
theorem Fp.r53 {s : SS} {t : TT} {j : Nat} {v : Int32} : Fp s (up2 s 53 j v) t t := ⟨fun c _ h => up2_o h, fun _ _ => rfl, fun i _ _ _ _ _ => by rw [up2_o (by decide)]⟩
/-- behind a kind's word -/
theorem m_one32 {b : RR} {m N i n : Nat} {pos : Nat → Nat} {K V A : RR} {s : SS} {t : TT} {F y : Int32} {w : RR} (g : Gx b m N pos K V A) (h : RI b m N pos K V A s t i F) (hr : ¬ 0 ≤ F → Ro s w n ∧ n < 8 ∧ bd 5 y) : ∃ (s' : SS) (t' : TT) (a c d : Int32 × Nat × Int32) (e : Nat × Int32), a = pM K V A 10 99 i F ∧ c = pM K V A 11 9 a.2.1 a.2.2 ∧ d = pM K V A 12 99 c.2.1 c.2.2 ∧ e = pE K V A d.2.1 d.2.2 ∧ j_X6_wantOne_32 y s t = some (s', t') ∧ RI b m N pos K V A s' t' e.1 e.2 ∧ (¬ 0 ≤ e.2 → Ro s' (R_add w n y a.1 c.1 d.1) (n + 1)) ∧ Fp s s' t t' := by
  obtain ⟨x1, s1, t1, f1, f2, f3, f4⟩ := m_may (w := 10) 99 (by decide) (by decide) g h
  obtain ⟨x2, s2, t2, g1, g2, g3, g4⟩ := m_may (w := 11) 9 (by decide) (by decide) g f2
  obtain ⟨x3, s3, t3, i1, i2, i3, i4⟩ := m_may (w := 12) 99 (by decide) (by decide) g g2
  obtain ⟨s4, t4, l1, l2, l3⟩ := m_endc g i2
  have fq := ((f4.tr g4).tr i4).tr l3
  obtain ⟨a, ha⟩ : ∃ a, a = pM K V A 10 99 i F := ⟨_, rfl⟩
  obtain ⟨c, hc⟩ : ∃ c, c = pM K V A 11 9 a.2.1 a.2.2 := ⟨_, rfl⟩
  obtain ⟨d, hd⟩ : ∃ d, d = pM K V A 12 99 c.2.1 c.2.2 := ⟨_, rfl⟩
  obtain ⟨e, he⟩ : ∃ e, e = pE K V A d.2.1 d.2.2 := ⟨_, rfl⟩
  have ha' : pM K V A (nI 10) (nI 99) i F = a := ha.symm
  rw [ha'] at f2 f3 g2 g3 i2 i3 l2
  have hc' : pM K V A (nI 11) (nI 9) a.2.1 a.2.2 = c := hc.symm
  rw [hc'] at g2 g3 i2 i3 l2
  have hd' : pM K V A (nI 12) (nI 99) c.2.1 c.2.2 = d := hd.symm
  rw [hd'] at i2 i3 l2
  rw [← he] at l2
  have f1' : f_X6_mayWant 7871591333 99 s t = some (x1, s1, t1) := f1
  have g1' : f_X6_mayWant 158575 9 s1 t1 = some (x2, s2, t2) := g1
  have i1' : f_X6_mayWant 8527996 99 s2 t2 = some (x3, s3, t3) := i1
  by_cases z : 0 ≤ e.2
  · have e13 : s4 51 13 = 0 := (l2.2.2.2.2 z).1
    refine ⟨s4, t4, a, c, d, e, ha, hc, hd, he, ?_, l2, fun q => absurd z q, fq.p⟩
    simp only [j_X6_wantOne_32, f1', g1', i1', l1, bs, e13, if_true]
  · have e13 : ¬ s4 51 13 = 0 := by rw [(l2.2.2.2.1 z).1]; decide
    have nd : ¬ 0 ≤ d.2.2 := fun q => z (by rw [he, pE_F q]; exact q)
    have nc : ¬ 0 ≤ c.2.2 := fun q => nd (by rw [hd, pM_F q]; exact q)
    have na : ¬ 0 ≤ a.2.2 := fun q => nc (by rw [hc, pM_F q]; exact q)
    have nF : ¬ 0 ≤ F := fun q => na (by rw [ha, pM_F q]; exact q)
    obtain ⟨⟨r1, r2, r3⟩, hn, hy⟩ := hr nF
    obtain ⟨v1, b1⟩ := f3 na
    obtain ⟨v2, b2⟩ := g3 nc
    obtain ⟨v3, b3⟩ := i3 nd
    have r53 : s4 53 = s 53 := fq.1 53 (by decide)
    have e6 : s4 53 6 = nI n := by rw [r53, r1 6 (by omega) (by omega)]; exact r3.2.1
    have k0 := its_b n hn
    have k1 := its_a n hn 1 (by decide)
    have k2 := its_a n hn 2 (by decide)
    have k3 := its_a n hn 3 (by decide)
    refine ⟨up2 (up2 (up2 (up2 (up2 s4 53 (8 + 6 * n) y) 53 (8 + 6 * n + 1) x1) 53 (8 + 6 * n + 2) x2) 53 (8 + 6 * n + 3) x3) 53 6 (nI (n + 1)), t4, a, c, d, e, ha, hc, hd, he, ?_, l2.r53.r53.r53.r53.r53, fun _ => ⟨fun k hk h7 => ?_, fun k k1 k2 => ?_, ?_⟩, fq.p.tr ((((Fp.r53.tr Fp.r53).tr Fp.r53).tr Fp.r53).tr Fp.r53)⟩
    · have e6' : up2 (up2 (up2 (up2 s4 53 (8 + 6 * n) y) 53 (8 + 6 * n + 1) x1) 53 (8 + 6 * n + 2) x2) 53 (8 + 6 * n + 3) x3 53 6 = nI n := by
        simp only [up2_r]
        rw [if_neg (by omega), if_neg (by omega), if_neg (by omega), if_neg (by omega)]
        exact e6
      simp only [j_X6_wantOne_32, f1', g1', i1', l1, bs, e13, if_false, rx56_6, e6, k0, wr_e]
      rw [show (1 : Int32) = nI 1 from rfl, k1, bs, show (2 : Int32) = nI 2 from rfl, k2, bs, show (3 : Int32) = nI 3 from rfl, k3, bs, e6', nI_add]
    · simp only [up2_r, true_and]
      rw [r53]
      have hw6 := r3.2.1
      unfold R_add
      rw [uw_r, uw_r, uw_r, uw_r, uw_r, uw_r, uw_r, ← v1, ← v2, ← v3]
      by_cases q6 : k = 6
      · simp [q6]
      · rw [if_neg q6, if_neg q6]
        by_cases p3 : k = 8 + 6 * n + 3
        · rw [if_pos p3, if_neg (by omega), if_neg (by omega), if_pos p3]
        · rw [if_neg p3]
          by_cases p2 : k = 8 + 6 * n + 2
          · rw [if_pos p2, if_neg (by omega), if_neg (by omega), if_neg p3, if_pos p2]
          · rw [if_neg p2]
            by_cases p1 : k = 8 + 6 * n + 1
            · rw [if_pos p1, if_neg (by omega), if_neg (by omega), if_neg p3, if_neg p2, if_pos p1]
            · rw [if_neg p1]
              by_cases p0 : k = 8 + 6 * n
              · rw [if_pos p0, if_neg (by omega), if_neg (by omega), if_neg p3, if_neg p2, if_neg p1, if_pos (by omega)]
              · rw [if_neg p0, if_neg p3, if_neg p2, if_neg p1, if_neg (show ¬ k = 8 + 6 * n + 0 by omega), r1 k hk h7]
                by_cases p5 : k = 8 + 6 * n + 5
                · rw [if_pos p5]; exact r2 k (by omega) hk
                · rw [if_neg p5]
                  by_cases p4 : k = 8 + 6 * n + 4
                  · rw [if_pos p4]; exact r2 k (by omega) hk
                  · rw [if_neg p4]
    · unfold R_add
      rw [uw_r, uw_r, uw_r, uw_r, uw_r, uw_r, uw_r, if_neg (by omega), if_neg (by omega), if_neg (by omega), if_neg (by omega), if_neg (by omega), if_neg (by omega), if_neg (by omega)]
      exact r2 k (by omega) k2
    · rw [← v1, ← v2, ← v3]
      exact R_add_ok r3 hn hy b1 b2 b3
theorem m_clause {b : RR} {m N i n : Nat} {pos : Nat → Nat} {K V A : RR} {s : SS} {t : TT} {F : Int32} {w : RR} (g : Gx b m N pos K V A) (h : RI b m N pos K V A s t i F) (hF : ¬ 0 ≤ F) (hr : Ro s w n) : ∃ (s' : SS) (t' : TT), f_X6_wantClause s t = some (s', t') ∧ RI b m N pos K V A s' t' (pO K V A w n i F).2.2.1 (pO K V A w n i F).2.2.2 ∧ (¬ 0 ≤ (pO K V A w n i F).2.2.2 → Ro s' (pO K V A w n i F).1 (pO K V A w n i F).2.1) ∧ Fp s s' t t' := by
  obtain ⟨e1, e2⟩ := m_kind g h hF
  have hN : K N = 0 := g.2.2.2.2.2.1
  have h3 := h.2.2.1
  have nn := pF_nn (A := A) (i := i) (F := F) (g.2.2.nn g.1 i h3)
  have hn8 := hr.2.2.1
  have hk : wd K V i ≠ -1 → K i ≠ 0 := by
    intro z1 z2
    apply z1
    unfold wd
    rw [if_neg (by rw [z2]; decide)]
  have e6 : s 53 6 = nI n := by rw [hr.1 6 (by omega) (by omega)]; exact hr.2.2.2.1
  cases c5 : wi (wd K V i) 0 5 with
  | true =>
    obtain ⟨k, k1, k2, k3⟩ := wi_w (l := 0) (m := 5) (by decide) (by decide) c5
    have ek : kH (wd K V i) = nI k := by unfold kH; rw [if_pos c5, k3]
    have nk : ¬ nI k < 0 := nI_pos (by omega)
    have hKi : K i ≠ 0 := hk (by rw [k3]; exact fun z => m1n k (by omega) z.symm)
    by_cases c8 : n < 8
    · have d8 : ¬ (8 : Int32) ≤ nI n := nI_ge (b := 8) c8 (by decide)
      obtain ⟨s1, t1, f1, f2, f3⟩ := m_step g (h.yes hF) hF (g.nx h3 hKi)
      obtain ⟨s2, t2, a, c, d, e, ha, hc, hd, he, g1, g2, g3, g4⟩ := m_one32 (y := nI k) (w := w) (n := n) g f2 (fun _ => ⟨hr.fr (Fq.g.tr f3), c8, bd_n k2⟩)
      have ep : pO K V A w n i F = (R_add w n (nI k) a.1 c.1 d.1, n + 1, e.1, e.2) := by
        unfold pO pO1
        rw [if_pos ⟨c5, c8⟩, k3]
        simp only [← ha, ← hc, ← hd, ← he]
      rw [ep]
      refine ⟨s2, t2, ?_, g2, g3, (Fq.g.tr f3).p.tr g4⟩
      simp only [f_X6_wantClause, e1, e2, bs, ek, nk, if_false, f_X6_wantOne, rx56_6, e6, d8, j_X6_wantOne_18, wr_e]
      simp only [up2_r, and_self, if_true, show ((1 : Int32) == 0 || (1 : Int32) == 1) = true from rfl, show ¬ (1 : Int32) = 0 by decide, if_false, f1, bs, g1]
    · have d8 : (8 : Int32) ≤ nI n := nI_le (a := 8) (by omega) (by omega)
      have hno := h.no g h3
      obtain ⟨s2, t2, a, c, d, e, ha, hc, hd, he, g1, g2, g3, g4⟩ := m_one32 (y := nI k) (w := w) (n := n) g hno (fun z => absurd nn z)
      have c6 : ¬ wi (wd K V i) 6 9 = true := by
        intro z
        obtain ⟨k', j1, j2, j3⟩ := wi_w (l := 6) (m := 9) (by decide) (by decide) z
        have := (nI_eq (by omega) (by omega)).mp (k3.symm.trans j3)
        omega
      have ep : pO K V A w n i F = pO3 K V A w n i F := by
        unfold pO
        rw [if_neg (fun z => c8 z.2), if_neg c6]
      have ee : e.2 = pF A i F := by
        rw [he, pE_F, hd, pM_F, hc, pM_F, ha, pM_F nn] <;> (try rw [hd, pM_F]) <;> (try rw [hc, pM_F]) <;> (try rw [ha, pM_F nn]) <;> exact nn
      have ef : (pE K V A i (pF A i F)).2 = pF A i F := pE_F nn
      rw [ep]
      refine ⟨s2, t2, ?_, ?_, fun z => absurd (by show 0 ≤ (pE K V A i (pF A i F)).2; rw [ef]; exact nn) z, Fq.g.p.tr g4⟩
      · simp only [f_X6_wantClause, e1, e2, bs, ek, nk, if_false, f_X6_wantOne, rx56_6, e6, d8, if_true, j_X6_wantOne_18, wr_e]
        simp only [up2_r, and_self, if_true, show ((0 : Int32) == 0 || (0 : Int32) == 1) = true from rfl, g1, bs]
      · show RI b m N pos K V A s2 t2 (pE K V A i (pF A i F)).1 (pE K V A i (pF A i F)).2
        rw [ee] at g2
        rw [ef]
        exact g2.any nn (pE_le hN h3)
  | false =>
    have ek : kH (wd K V i) = -1 := by unfold kH; rw [if_neg (by rw [c5]; decide)]
    have z0 : ¬ (wi (wd K V i) 0 5 = true ∧ n < 8) := fun z => by rw [c5] at z; cases z.1
    cases c6 : wi (wd K V i) 6 9 with
    | false =>
      have el : lH (wd K V i) = -1 := by unfold lH; rw [if_neg (by rw [c6]; decide)]
      have ep : pO K V A w n i F = pO3 K V A w n i F := by
        unfold pO
        rw [if_neg z0, if_neg (by rw [c6]; decide)]
      have ef : (pE K V A i (pF A i F)).2 = pF A i F := pE_F nn
      rw [ep]
      refine ⟨up2 s 51 13 0, t, ?_, ?_, fun z => absurd (by show 0 ≤ (pE K V A i (pF A i F)).2; rw [ef]; exact nn) z, Fq.g.p⟩
      · simp only [f_X6_wantClause, e1, e2, bs, ek, el, show (-1 : Int32) < 0 by decide, if_true, wr_e]
      · show RI b m N pos K V A _ t (pE K V A i (pF A i F)).1 (pE K V A i (pF A i F)).2
        rw [ef]
        exact h.no g (pE_le hN h3)
    | true =>
      obtain ⟨k, k1, k2, k3⟩ := wi_w (l := 6) (m := 9) (by decide) (by decide) c6
      have el : lH (wd K V i) = nI (k - 6) := by
        unfold lH
        rw [if_pos c6, k3, show (6 : Int32) = nI 6 from rfl, nI_sub k1]
      have ex : lx (wd K V i) = k - 6 := by
        unfold lx
        rw [k3, show (6 : Int32) = nI 6 from rfl, nI_sub k1, nI_clamp (by omega)]
      have nk : ¬ nI (k - 6) < 0 := nI_pos (by omega)
      have hKi : K i ≠ 0 := hk (by rw [k3]; exact fun z => m1n k (by omega) z.symm)
      obtain ⟨s1, t1, f1, f2, f3⟩ := m_step g h hF (g.nx h3 hKi)
      have hk4 : k - 6 < 4 := by omega
      have em : ∀ j : Nat, j < 4 → (if nI j = 3 then (99 : Int32) else 9) = nI (ml j) ∧ lmo j = nI (ml j) ∧ ml j < 1000 := by decide +kernel
      obtain ⟨em1, em2, em3⟩ := em (k - 6) hk4
      obtain ⟨x, s2, t2, g1, g2, g3, g4⟩ := m_num (ml (k - 6)) em3 g f2
      rw [← em2] at g2 g3
      have g2' := g2.r53 (j := k - 6) (v := x)
      obtain ⟨s3, t3, i1, i2, i3⟩ := m_endc g g2'
      have ep : pO K V A w n i F = pO2 K V A w n i F := by
        unfold pO
        rw [if_neg z0, if_pos c6]
      rw [ep]
      unfold pO2
      rw [ex]
      have fq := f3.tr g4
      refine ⟨s3, t3, ?_, i2, fun z => ?_, (fq.p.tr Fp.r53).tr i3.p⟩
      · simp only [f_X6_wantClause, e1, e2, bs, ek, el, show (-1 : Int32) < 0 by decide, if_true, nk, if_false, f1, m_mostOf, em1, g1, rx56 (show k - 6 < 56 by omega), wr_e, i1]
      · have nF : ¬ 0 ≤ (pN K V A (lmo (k - 6)) (i + 1) F).2.2 := fun q => z (by show 0 ≤ (pE K V A _ _).2; rw [pE_F q]; exact q)
        obtain ⟨x1, x2⟩ := g3 nF
        obtain ⟨r1, r2, r3⟩ := hr.fr fq
        have r53 : s3 53 = up2 s2 53 (k - 6) x 53 := i3.1 53 (by decide)
        refine ⟨fun j hj h7 => ?_, fun j j1 j2 => ?_, ?_⟩
        · show s3 53 j = uw w (k - 6) (pN K V A (lmo (k - 6)) (i + 1) F).1 j
          rw [r53, up2_r, uw_r, ← x1]
          by_cases q : j = k - 6
          · simp [q]
          · rw [if_neg (fun z => q z.2), if_neg q]; exact r1 j hj h7
        · show uw w (k - 6) _ j = 0
          rw [uw_n (by omega)]
          exact r2 j j1 j2
        · show OKw (uw w (k - 6) _) n 0
          rw [← x1]
          exact r3.law hk4 x2
theorem m_post_l {b : RR} {m N : Nat} {pos : Nat → Nat} {K V A : RR} (g : Gx b m N pos K V A) : ∀ (f i n : Nat) (s : SS) (t : TT) (w : RR) (F : Int32), RI b m N pos K V A s t i F → (¬ 0 ≤ F → Ro s w n) → (if 0 ≤ F then 0 else N - i) < f → ∃ (s' : SS) (t' : TT), l_X6_post_21 f (s, t) = j_X6_post_42 s' t' ∧ RI b m N pos K V A s' t' (pT K V A f (w, n, i, F)).2.2.1 (pT K V A f (w, n, i, F)).2.2.2 ∧ (¬ 0 ≤ (pT K V A f (w, n, i, F)).2.2.2 → Ro s' (pT K V A f (w, n, i, F)).1 (pT K V A f (w, n, i, F)).2.1) ∧ Fp s s' t t'
  | 0, i, n, s, t, w, F, _, _, hf => by omega
  | f + 1, i, n, s, t, w, F, h, hr, hf => by
    show ∃ (s' : SS) (t' : TT), b_X6_post_21 (l_X6_post_21 f) s t = j_X6_post_42 s' t' ∧ _
    by_cases c : 0 ≤ F
    · have e : pT K V A (f + 1) (w, n, i, F) = (w, n, i, F) := by simp only [pT, c, true_or, if_true]
      rw [e]
      refine ⟨s, t, ?_, h, hr, Fp.rf⟩
      simp only [b_X6_post_21, (h.2.2.2.2 c).1, if_true]
    · rw [if_neg c] at hf
      obtain ⟨q0, k, a, e, q1, q2, q3, q4, q5⟩ := h.2.2.2.1 c
      have q0' : ¬ s 51 13 = 0 := by rw [q0]; decide
      have e8 : (s 51 8 = 0) = (K i = 0) := by rw [q5.1, q1]
      by_cases k0 : K i = 0
      · have e : pT K V A (f + 1) (w, n, i, F) = (w, n, i, F) := by simp only [pT, k0, or_true, if_true]
        rw [e]
        refine ⟨s, t, ?_, h, hr, Fp.rf⟩
        simp only [b_X6_post_21, q0', if_false, e8, k0, if_true]
      · have e : pT K V A (f + 1) (w, n, i, F) = pT K V A f (pO K V A w n i F) := by simp only [pT, c, k0, or_self, if_false]
        have hi := g.nx h.2.2.1 k0
        obtain ⟨s1, t1, g1, g2, g3, g4⟩ := m_clause g h c (hr c)
        obtain ⟨s2, t2, i1, i2, i3, i4⟩ := m_post_l g f _ _ s1 t1 _ _ g2 g3 (by
          by_cases z : 0 ≤ (pO K V A w n i F).2.2.2
          · rw [if_pos z]; omega
          · rw [if_neg z]; have := pO_gt (g.2.2.nn g.1 i h.2.2.1) z; omega)
        rw [e]
        refine ⟨s2, t2, ?_, i2, i3, g4.tr i4⟩
        simp only [b_X6_post_21, q0', if_false, e8, k0, g1, bs]
        exact i1
theorem pO_7 {K V A : RR} {w : RR} {n i : Nat} {F : Int32} : (pO K V A w n i F).1 7 = w 7 := by
  unfold pO
  by_cases c : wi (wd K V i) 0 5 = true ∧ n < 8
  · rw [if_pos c]
    exact R_add_lo 7 (by omega) (by omega)
  · rw [if_neg c]
    by_cases d : wi (wd K V i) 6 9 = true
    · rw [if_pos d]
      obtain ⟨k, k1, k2, k3⟩ := wi_w (l := 6) (m := 9) (by decide) (by decide) d
      have ex : lx (wd K V i) = k - 6 := by
        unfold lx
        rw [k3, show (6 : Int32) = nI 6 from rfl, nI_sub k1, nI_clamp (by omega)]
      show uw w (lx (wd K V i)) _ 7 = w 7
      rw [ex, uw_n (by omega)]
    · rw [if_neg d]; rfl
theorem pT_z7 {K V A : RR} : ∀ (f : Nat) (q : RR × Nat × Nat × Int32), (pT K V A f q).1 7 = q.1 7
  | 0, q => rfl
  | f + 1, q => by
    unfold pT
    by_cases c : 0 ≤ q.2.2.2 ∨ K q.2.2.1 = 0
    · rw [if_pos c]
    · rw [if_neg c, pT_z7 f, pO_7]
def R_new (z : Int32) : RR := fun k => if k = 7 then z else if k < 4 then ([3, 2, 1, 20] : List Int32).getD k 0 else 0
theorem R_new_ok (z : Int32) : OKw (R_new z) 0 0 := by
  have h : ∀ k : Nat, k < 4 → ([3, 2, 1, 20] : List Int32).getD k 0 = nI ([3, 2, 1, 20].getD k 0) ∧ [3, 2, 1, 20].getD k 0 ≤ ml k := by decide +kernel
  refine ⟨by omega, rfl, fun k hk => ?_, bd_c 0 rfl (by omega), bd_c 0 rfl (by omega), fun p hp => by omega⟩
  unfold R_new
  rw [if_neg (by omega), if_pos hk, (h k hk).1]
  exact bd_n (h k hk).2
theorem c_begin19 {s : SS} {t : TT} : ∃ s' : SS, f_X1_begin 19 s t = some (s', t) ∧ Fr 19 s s' ∧ ∀ z : Int32, RW (up2 s' 19 11 z) 19 (R_new z) 0 := by
  refine ⟨_, rfl, fun c hc => ?_, fun z => ⟨?_, rfl, fun k hk => ?_, ?_, ?_, ?_, fun p hp => by omega⟩⟩
  · rw [up2_o (by omega), up2_o (by omega), up2_o (by omega), cp2_n (by omega)]
  · simp [up2_r]; rfl
  · rw [up2_o (by omega), up2_o (by omega), up2_o (by omega), up2_o (by omega), cp2_s]
    unfold R_new
    rw [if_neg (by omega), if_pos hk]
  · simp [up2_r]; rfl
  · simp [up2_r]; rfl
  · simp [up2_r]; rfl
theorem m_begins_l {t : TT} : ∀ (d j f : Nat) (s : SS), j + d = 56 → d < f → ∃ s' : SS, l_X6_begins_2 53 f (nI j, s, t) = some (s', t) ∧ (∀ c : Nat, c ≠ 53 → s' c = s c) ∧ ∀ k : Nat, k < 56 → s' 53 k = if k < 4 then ([3, 2, 1, 20] : List Int32).getD k 0 else if j ≤ k then 0 else s 53 k
  | 0, j, f + 1, s, hj, _ => by
    have e : j = 56 := by omega
    subst e
    refine ⟨up2 (up2 (up2 (up2 s 53 0 3) 53 1 2) 53 2 1) 53 3 20, ?_, fun c hc => by rw [up2_o hc, up2_o hc, up2_o hc, up2_o hc], fun k hk => ?_⟩
    · show b_X6_begins_2 53 (l_X6_begins_2 53 f) (nI 56) s t = _
      simp only [b_X6_begins_2, show (56 : Int32) ≤ nI 56 by decide, if_true, rx56_0, rx56_1, rx56_2, rx56_3, bs, wr_e]
    · simp only [up2_r, true_and]
      by_cases k3 : k = 3
      · subst k3; rfl
      · by_cases k2 : k = 2
        · subst k2; rfl
        · by_cases k1 : k = 1
          · subst k1; rfl
          · by_cases k0 : k = 0
            · subst k0; rfl
            · rw [if_neg k3, if_neg k2, if_neg k1, if_neg k0, if_neg (by omega), if_neg (by omega)]
  | d + 1, j, f + 1, s, hj, hf => by
    obtain ⟨s', e, g1, g2⟩ := m_begins_l (t := t) d (j + 1) f (up2 s 53 j 0) (by omega) (by omega)
    refine ⟨s', ?_, fun c hc => by rw [g1 c hc, up2_o hc], fun k hk => ?_⟩
    · show b_X6_begins_2 53 (l_X6_begins_2 53 f) (nI j) s t = _
      simp only [b_X6_begins_2, show ¬ (56 : Int32) ≤ nI j from nI_ge (b := 56) (by omega) (by decide), if_false, rx56 (show j < 56 by omega), bs, wr_e, nI_1]
      exact e
    · rw [g2 k hk]
      by_cases k4 : k < 4
      · rw [if_pos k4, if_pos k4]
      · rw [if_neg k4, if_neg k4, up2_r]
        by_cases q : k = j
        · subst q; rw [if_neg (by omega), if_pos ⟨rfl, rfl⟩, if_pos (Nat.le_refl _)]
        · by_cases q2 : j + 1 ≤ k
          · rw [if_pos q2, if_pos (by omega)]
          · rw [if_neg q2, if_neg (fun z => q z.2), if_neg (by omega)]
