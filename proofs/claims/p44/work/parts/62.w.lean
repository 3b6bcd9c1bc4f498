/-! post -/
theorem Run.cg {P : Int32 → Bool} {b b' : RR} {m a e : Nat} (h : Run P b m a e) (hb : ∀ i : Nat, i < m → b' i = b i) : Run P b' m a e := by
  obtain ⟨h1, h2, h3, h4⟩ := h
  exact ⟨h1, h2, fun i i1 i2 => by rw [hb i (by omega)]; exact h3 i i1 i2, fun z => by rw [hb e z]; exact h4 z⟩
theorem Tok.cg {b b' : RR} {m p k a e : Nat} (h : Tok b m p k a e) (hb : ∀ i : Nat, i < m → b' i = b i) : Tok b' m p k a e := by
  obtain ⟨r, h⟩ := h
  refine ⟨r.cg hb, ?_⟩
  rcases h with h | ⟨c, e1, c2, c4⟩ | ⟨c, e1, c2, c3, c4⟩ | ⟨c, e1, c2, c3, c4⟩
  · exact Or.inl h
  · exact Or.inr (Or.inl ⟨c, e1, by rw [hb a c]; exact c2, c4.cg hb⟩)
  · exact Or.inr (Or.inr (Or.inl ⟨c, e1, by rw [hb a c]; exact c2, by rw [hb a c]; exact c3, c4.cg hb⟩))
  · exact Or.inr (Or.inr (Or.inr ⟨c, e1, by rw [hb a c]; exact c2, by rw [hb a c]; exact c3, c4⟩))
theorem lw_cg {b b' : RR} {a : Nat} : ∀ n : Nat, (∀ i : Nat, i < n → b' (a + i) = b (a + i)) → lw b' a n = lw b a n ∧ dv b' a n = dv b a n
  | 0, _ => ⟨rfl, rfl⟩
  | n + 1, h => by
    obtain ⟨h1, h2⟩ := lw_cg n (fun i hi => h i (by omega))
    exact ⟨by rw [lw, lw, h1, h n (by omega)], by rw [dv, dv, h2, h n (by omega)]⟩
theorem TV.cg {b b' : RR} {m p k a e : Nat} {v : Int32} (ht : Tok b m p k a e) (h : TV b k a e v) (hb : ∀ i : Nat, i < m → b' i = b i) : TV b' k a e v := by
  have hl := ht.le
  obtain ⟨e1, e2⟩ := lw_cg (b := b) (b' := b') (a := a) (e - a) (fun i hi => hb (a + i) (by omega))
  obtain ⟨h1, h2, h3⟩ := h
  refine ⟨fun z => ?_, fun z => by rw [e2]; exact h2 z, fun z => by rw [hb a (by omega)]; exact h3 z⟩
  have := h1 z
  unfold CV at this ⊢
  rw [e1]
  exact this
theorem Cx.cg {b b' : RR} {m N : Nat} {pos : Nat → Nat} {K V A : RR} (h : Cx b m N pos K V A) (hb : ∀ i : Nat, i < m → b' i = b i) : Cx b' m N pos K V A := by
  obtain ⟨h1, h2, h3, h4, h5, h6⟩ := h
  refine ⟨h1, h2, fun i hi => ?_, h4, h5, h6.cg hb⟩
  obtain ⟨k, a, g1, g2, g3, g4, g5⟩ := h3 i hi
  exact ⟨k, a, g1, g2, g3, g4.cg hb, TV.cg g4 g5 hb⟩
theorem s_post {s : SS} {t : TT} {W : Nat} (h : Rel s t W) : Sim f_X5_post f_X6_post s t W := by
  obtain ⟨⟨n0, hw, hr⟩, -, ⟨m, hm, h28, h51, htp⟩, -, hsh, -, -, h515⟩ := id h
  obtain ⟨sa, a1, a2, a3⟩ := c_begin19 (s := s) (t := t)
  obtain ⟨z, hz⟩ : ∃ z : Int32, z = s 1 11 := ⟨_, rfl⟩
  have hz7 : s 52 7 = z := by rw [hz]; exact hr.2.2.2.2.2.1.symm
  have sa1 : sa 1 = s 1 := a2 1 (by omega)
  have hrb := a3 z
  obtain ⟨sb, hsb⟩ : ∃ sb : SS, sb = up2 sa 19 11 z := ⟨_, rfl⟩
  rw [← hsb] at hrb
  have fb : Fr 19 s sb := by rw [hsb]; exact a2.up ⟨by omega, by omega⟩
  obtain ⟨sc, N, pos, K, V, A, b1, b2, b3, b4, b5⟩ := c4_tell (t := t) hm (show sb 28 7 = nI m by rw [fb 28 (by omega)]; exact h28) hrb (by omega)
  rw [fb 29 (by omega)] at b1
  have cF : ∀ c : Nat, c < 19 ∨ 32 < c ∨ c = 29 → sc c = s c := fun c hc => by rw [b4 c hc, fb c (by omega)]
  obtain ⟨q, hq⟩ : ∃ q, q = pT K V A 300 (R_new z, 0, 0, -3) := ⟨_, rfl⟩
  rw [← hq] at b2 b3
  have q7 : q.1 7 = z := by rw [hq, pT_z7]; rfl
  obtain ⟨sd, hsd⟩ : ∃ sd : SS, sd = up2 sc 28 7 0 := ⟨_, rfl⟩
  have dF : ∀ c : Nat, c < 19 ∨ 32 < c ∨ c = 29 → sd c = s c := fun c hc => by rw [hsd, up2_o (by omega)]; exact cF c hc
  have d7 : sd 28 7 = 0 := by rw [hsd]; simp [up2_r]
  have hrd : RW sd 19 q.1 q.2.1 := b3.fr (fun c c1 c2 => by rw [hsd, up2_o (by omega)])
  -- the reference, from any state that agrees
  have mref : ∀ s1 : SS, (∀ c : Nat, c = 51 ∨ c = 52 ∨ c = 53 ∨ c = 56 → s1 c = s c) → ∃ (s2 : SS) (t2 : TT), f_X6_post s1 t = j_X6_post_42 s2 t2 ∧ RI (s 56) m N pos K V A s2 t2 q.2.2.1 q.2.2.2 ∧ (¬ 0 ≤ q.2.2.2 → Ro s2 q.1 q.2.1) ∧ Fp s1 s2 t t2 := by
    intro s1 hs1
    have e51 := hs1 51 (by simp)
    have e56 := hs1 56 (by simp)
    have g : Gx (s 56) m N pos K V A := ⟨hm, fun i hi => (htp i hi).2, b1.cg (fun i hi => (htp i hi).1.symm)⟩
    obtain ⟨u, hu⟩ : ∃ u : SS, u = up2 (up2 s1 51 10 0) 51 13 1 := ⟨_, rfl⟩
    obtain ⟨s2, i1, i2, i3⟩ := m_begins_l (t := t) 56 0 300 u (by omega) (by omega)
    have u51 : ∀ i : Nat, i ≠ 10 → i ≠ 13 → u 51 i = s 51 i := fun i j1 j2 => by
      rw [hu, up2_r, if_neg (fun z => j2 z.2), up2_r, if_neg (fun z => j1 z.2), e51]
    have u56 : u 56 = s 56 := by rw [hu, up2_o (by decide), up2_o (by decide)]; exact e56
    have s51 : s2 51 = u 51 := i2 51 (by decide)
    obtain ⟨s3, t3, k, a, e, j1, j2, j3, j4⟩ := m_advance (s := s2) (t := t) (p := 0) hm (by rw [s51, u51 7 (by decide) (by decide)]; exact h51) (by rw [i2 56 (by decide), u56]; exact fun i hi => (htp i hi).2) (by rw [s51, hu]; simp [up2_r]; rfl) (by omega)
    rw [i2 56 (by decide), u56] at j2
    obtain ⟨k', a', e', r1, r2, r3, r4, r5⟩ := g.tk (i := 0) (by omega)
    rw [b1.2.1] at r3
    obtain ⟨x1, x2, x3⟩ := r3.uq j2
    subst x1; subst x2; subst x3
    have hRI : RI (s 56) m N pos K V A s3 t3 0 (-3) := ⟨by rw [j4.1 56 (by decide), i2 56 (by decide), u56], by rw [j4.2.2 7 (by decide) (by decide) (by decide) (by decide), s51, u51 7 (by decide) (by decide)]; exact h51, by omega, fun _ => ⟨by rw [j4.2.2 13 (by decide) (by decide) (by decide) (by decide), s51, hu]; simp [up2_r], k', a', e', r1, r2, by rw [b1.2.1]; exact r3, r4, j3⟩, fun z => absurd z (by decide)⟩
    have hRo : Ro s3 (R_new z) 0 := by
      refine ⟨fun k hk h7 => ?_, fun k k1 k2 => ?_, R_new_ok z⟩
      · rw [j4.1 53 (by decide), i3 k hk]
        unfold R_new
        rw [if_neg h7]
        by_cases k4 : k < 4
        · rw [if_pos k4, if_pos k4]
        · rw [if_neg k4, if_neg k4, if_pos (Nat.zero_le _)]
      · unfold R_new
        rw [if_neg (by omega), if_neg (by omega)]
    obtain ⟨s4, t4, l1, l2, l3, l4⟩ := m_post_l g 300 0 0 s3 t3 (R_new z) (-3) hRI (fun _ => hRo) (by rw [if_neg (by decide)]; have := b1.1; omega)
    rw [← hq] at l2 l3
    refine ⟨s4, t4, ?_, l2, l3, ?_⟩
    · have i1' : f_X6_begins 53 u t = some (s2, t) := i1
      simp only [f_X6_post, wr_e, ← hu, i1', bs, j1]
      exact l1
    · refine Fp.tr ⟨fun c c1 c2 => by rw [j4.1 c c1, i2 c c2, hu, up2_o c1, up2_o c1], fun c c1 => j4.2.1 c c1, fun i y1 y2 y3 y4 y5 => ?_⟩ l4
      rw [j4.2.2 i y1 y2 y3 y4, s51, u51 i y3 y5, e51]
  have hcl : f_X5_post s t = if q.2.2.2 < 0 then ((f_X1_become 1 19 sd t).bind fun q6 => wr (up2 q6.1 0 9 0) fun s7 => some ((s7 1 8), s7, q6.2)) else some ((-100 : Int32) - q.2.2.2, sd, t) := by
    simp only [f_X5_post, a1, bs, wr_e, sa1, ← hz, ← hsb, b2, ← hsd]
  have e0 : (q.2.2.2 < 0) = ¬ 0 ≤ q.2.2.2 := propext ⟨fun z => Int32.not_le.mpr z, fun z => Int32.not_le.mp z⟩
  by_cases c : 0 ≤ q.2.2.2
  · obtain ⟨s2, t2, m1, m2, m3, m4⟩ := mref sd (fun c hc => dF c (by omega))
    have k13 := (m2.2.2.2.2 c)
    have hf : f_X5_post s t = some ((-100 : Int32) - q.2.2.2, sd, t) := by rw [hcl, if_neg (fun z => (e0 ▸ z : ¬ 0 ≤ q.2.2.2) c)]
    have hg : f_X6_post sd t = some ((-100 : Int32) - q.2.2.2, up2 s2 51 7 0, t2) := by
      rw [m1]
      unfold j_X6_post_42
      rw [wr_e, if_pos (by rw [up2_r, if_neg (by decide)]; exact k13.1), show up2 s2 51 7 0 51 9 = s2 51 9 by rw [up2_r, if_neg (by decide)], k13.2]
    refine ⟨_, sd, up2 s2 51 7 0, t, t2, hf, hg, ?_⟩
    have o : ∀ c : Nat, c ∉ [19, 20, 21, 22, 23, 24, 25, 26, 27, 28, 30, 31, 32, 51, 53] → up2 s2 51 7 0 c = s c := fun c hc => by
      simp only [List.mem_cons, List.not_mem_nil, or_false, not_or] at hc
      rw [up2_o (by omega), m4.1 c (by omega) (by omega)]
      exact dF c (by omega)
    have o51 : ∀ i : Nat, i ≠ 7 → i ≠ 8 → i ≠ 9 → i ≠ 10 → i ≠ 12 → i ≠ 13 → up2 s2 51 7 0 51 i = s 51 i := fun i j0 j1 j2 j3 j4 j5 => by
      rw [up2_r, if_neg (fun z => j0 z.2), m4.2.2 i j1 j2 j3 j4 j5, dF 51 (by omega)]
    refine Rel.more (W := W) (Rel.ex [19, 20, 21, 22, 23, 24, 25, 26, 27, 28, 30, 31, 32, 51, 53] h o (Or.inl (by decide)) (Or.inl ⟨by decide, by rw [o 0 (by decide)], o51 4 (by decide) (by decide) (by decide) (by decide) (by decide) (by decide), o 54 (by decide)⟩) (Or.inr ⟨0, by omega, ?_, by simp [up2_r]; rfl, fun i hi => by omega⟩) (Or.inl ⟨by rw [o 0 (by decide)], o51 17 (by decide) (by decide) (by decide) (by decide) (by decide) (by decide), o 49 (by decide), o 58 (by decide)⟩) (Or.inr (fun q hq => (hsh q hq).fr (o _ (by simp only [List.mem_cons, List.not_mem_nil, or_false, not_or]; omega)) (by rw [o 60 (by decide)]) (by rw [o 61 (by decide)]) (m4.2.1 _ (by omega)) (fun i hi => by rw [m4.2.1 62 (by decide)]))) (Or.inl ⟨by decide, o 63 (by decide), o 64 (by decide), o 65 (by decide)⟩) (Or.inl ⟨by rw [o 33 (by decide)], o51 28 (by decide) (by decide) (by decide) (by decide) (by decide) (by decide), o 34 (by decide), o 66 (by decide)⟩) (o51 5 (by decide) (by decide) (by decide) (by decide) (by decide) (by decide))) (by omega)
    rw [up2_o (by decide), m4.1 28 (by decide) (by decide), d7]; rfl
  · obtain ⟨se, p1, p2, p3⟩ := c_become_1_19 sd t
    have hre := p3 _ _ hrd
    obtain ⟨sf, hsf⟩ : ∃ sf : SS, sf = up2 se 0 9 0 := ⟨_, rfl⟩
    have fF : ∀ c : Nat, c = 28 ∨ 32 < c ∨ c = 29 ∨ (10 ≤ c ∧ c < 19) → sf c = sd c := fun c hc => by rw [hsf, up2_o (by omega)]; exact p2 c (by omega)
    obtain ⟨s2, t2, m1, m2, m3, m4⟩ := mref sf (fun c hc => by rw [fF c (by omega)]; exact dF c (by omega))
    have k13 := (m2.2.2.2.1 c).1
    obtain ⟨ro1, ro2, ro3⟩ := m3 c
    have s8 : sf 1 8 = nI q.2.1 := by rw [hsf, up2_o (by decide)]; exact hre.1
    have hf : f_X5_post s t = some (nI q.2.1, sf, t) := by
      rw [hcl, if_pos (e0.mpr c), p1, bs, wr_e, ← hsf, s8]
    have x52 : s2 52 = s 52 := by rw [m4.1 52 (by decide) (by decide), fF 52 (by omega)]; exact dF 52 (by omega)
    obtain ⟨v, hv⟩ : ∃ v : SS, v = up2 (up2 s2 51 7 0) 53 7 z := ⟨_, rfl⟩
    obtain ⟨r, hrr⟩ : ∃ r : SS, r = up2 (cp2 v 52 (mv (v 53) (v 52))) 51 17 0 := ⟨_, rfl⟩
    have v53 : ∀ k : Nat, k < 56 → v 53 k = q.1 k := fun k hk => by
      rw [hv, up2_r, up2_o (by decide)]
      by_cases e : k = 7
      · subst e; rw [if_pos ⟨rfl, rfl⟩, q7]
      · rw [if_neg (fun z => e z.2)]; exact ro1 k hk e
    have r52 : ∀ k : Nat, k < 56 → r 52 k = q.1 k := fun k hk => by
      rw [hrr, up2_o (by decide), cp2_s, mv_at hk]; exact v53 k hk
    have r6 : r 52 6 = nI q.2.1 := by rw [r52 6 (by omega)]; exact ro3.2.1
    have hg : f_X6_post sf t = some (nI q.2.1, r, t2) := by
      rw [m1]
      unfold j_X6_post_42
      rw [wr_e, if_neg (by rw [up2_r, if_neg (by decide), k13]; decide)]
      simp only [rx56_7, rx56_6, bs, wr_e]
      rw [show up2 s2 51 7 0 52 7 = z by rw [up2_o (by decide), x52, hz7], ← hv, m_moveAll (show 53 ≠ 52 by decide), bs, ← hrr, r6]
    refine ⟨_, sf, r, t, t2, hf, hg, ?_⟩
    have o : ∀ c : Nat, c ∉ [0, 1, 2, 3, 4, 5, 6, 7, 8, 9, 19, 20, 21, 22, 23, 24, 25, 26, 27, 28, 30, 31, 32, 51, 52, 53] → r c = s c := fun c hc => by
      simp only [List.mem_cons, List.not_mem_nil, or_false, not_or] at hc
      rw [hrr, up2_o (by omega), cp2_n (by omega), hv, up2_o (by omega), up2_o (by omega), m4.1 c (by omega) (by omega)]
      rw [fF c (by omega)]
      exact dF c (by omega)
    have o51 : ∀ i : Nat, i ≠ 17 → i ≠ 7 → i ≠ 8 → i ≠ 9 → i ≠ 10 → i ≠ 12 → i ≠ 13 → r 51 i = s 51 i := fun i j6 j0 j1 j2 j3 j4 j5 => by
      rw [hrr, up2_r, if_neg (fun z => j6 z.2), cp2_n (by decide), hv, up2_o (by decide), up2_r, if_neg (fun z => j0 z.2), m4.2.2 i j1 j2 j3 j4 j5, fF 51 (by omega), dF 51 (by omega)]
    have oO : ∀ c : Nat, c < 30 → r c = sf c := fun c hc => by
      rw [hrr, up2_o (by omega), cp2_n (by omega), hv, up2_o (by omega), up2_o (by omega), m4.1 c (by omega) (by omega)]
    have r0 : ∀ i : Nat, r 0 i = if i = 9 then 0 else s 0 i := fun i => by
      rw [oO 0 (by omega), hsf, up2_r, p2 0 (by omega), dF 0 (by omega)]
      by_cases e : i = 9 <;> simp [e]
    refine Rel.ex [0, 1, 2, 3, 4, 5, 6, 7, 8, 9, 19, 20, 21, 22, 23, 24, 25, 26, 27, 28, 30, 31, 32, 51, 52, 53] (h.more (show W ≤ W + 60 by omega)) o (Or.inr ⟨q.2.1, (ro3.cg r52).more (by omega), ?_⟩) (Or.inl ⟨by decide, by rw [r0]; rfl, o51 4 (by decide) (by decide) (by decide) (by decide) (by decide) (by decide) (by decide), o 54 (by decide)⟩) (Or.inr ⟨0, by omega, ?_, ?_, fun i hi => by omega⟩) (Or.inr ⟨0, by omega, by rw [r0]; rfl, by rw [hrr]; simp [up2_r]; rfl, fun i hi => by omega⟩) (Or.inr (fun q hq => (hsh q hq).fr (o _ (by simp only [List.mem_cons, List.not_mem_nil, or_false, not_or]; omega)) (by rw [o 60 (by decide)]) (by rw [o 61 (by decide)]) (m4.2.1 _ (by omega)) (fun i hi => by rw [m4.2.1 62 (by decide)]))) (Or.inl ⟨by decide, o 63 (by decide), o 64 (by decide), o 65 (by decide)⟩) (Or.inl ⟨by rw [o 33 (by decide)], o51 28 (by decide) (by decide) (by decide) (by decide) (by decide) (by decide) (by decide), o 34 (by decide), o 66 (by decide)⟩) (o51 5 (by decide) (by decide) (by decide) (by decide) (by decide) (by decide) (by decide))
    · refine (hre.fr (fun c c1 c2 => ?_)).cg ro3.1 r52
      rw [oO c (by omega), hsf, up2_o (by omega)]
    · rw [oO 28 (by omega), fF 28 (by omega), d7]; rfl
    · rw [hrr, up2_r, if_neg (by decide), cp2_n (by decide), hv, up2_o (by decide)]
      simp [up2_r]; rfl
