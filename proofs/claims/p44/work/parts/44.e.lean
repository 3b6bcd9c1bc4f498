/-! sheets and shelves -/
theorem rx40 {j : Nat} (h : j < 40) : rx 40 (nI j) = some j := rx_n h (by decide)
theorem rx160 : ∀ q : Nat, q < 4 → ∀ i : Nat, i < 40 → rx 160 ((40 : Int32) * nI q + nI i) = some (40 * q + i) := by decide +kernel
theorem up2_t {t : TT} {c c' i : Nat} {v : Int64} (h : c' ≠ c) : up2 t c i v c' = t c' := by
  funext b
  rw [up2_r, if_neg (fun e => h e.1)]
theorem c_begin_l {o : Nat} {s : SS} : ∀ (m j f : Nat) (t : TT), j + m = 40 → m < f → ∃ t' : TT, l_X2_begin_12 o f (nI j, s, t) = some (s, t') ∧ (∀ c : Nat, c ≠ o + 1 → t' c = t c) ∧ (∀ i : Nat, j ≤ i → i < 40 → t' (o + 1) i = 0) ∧ (∀ i : Nat, i < j → t' (o + 1) i = t (o + 1) i)
  | 0, j, f + 1, t, hj, _ => by
    have e : j = 40 := by omega
    subst e
    refine ⟨t, ?_, fun _ _ => rfl, fun i h1 h2 => by omega, fun _ _ => rfl⟩
    show b_X2_begin_12 o (l_X2_begin_12 o f) (nI 40) s t = _
    unfold b_X2_begin_12
    rw [if_pos (show Int32.ofNat 40 ≤ nI 40 by decide)]
  | m + 1, j, f + 1, t, hj, hf => by
    obtain ⟨t', e, h1, h2, h3⟩ := c_begin_l (o := o) (s := s) m (j + 1) f (up2 t (o + 1) j 0) (by omega) (by omega)
    refine ⟨t', ?_, fun c hc => by rw [h1 c hc, up2_t hc], fun i hi h40 => ?_, fun i hi => by rw [h3 i (by omega), up2_r, if_neg (by omega)]⟩
    · have c0 : ¬ Int32.ofNat 40 ≤ nI j := nI_ge (a := j) (b := 40) (by omega) (by omega)
      show b_X2_begin_12 o (l_X2_begin_12 o f) (nI j) s t = _
      simp only [b_X2_begin_12, c0, if_false, rx40 (show j < 40 by omega), bs, wr_e, nI_1]
      exact e
    · by_cases z : i = j
      · subst z; rw [h3 i (by omega), up2_r, if_pos ⟨rfl, rfl⟩]
      · exact h2 i (by omega) h40
theorem m_sheet_l {q : Nat} {s : SS} (hq : q < 4) : ∀ (m j f : Nat) (t : TT), j + m = 40 → m < f → ∃ t' : TT, l_X6_sheet_64 f (nI q, nI j, s, t) = some (1, s, t') ∧ (∀ c : Nat, c ≠ 62 → t' c = t c) ∧ (∀ i : Nat, j ≤ i → i < 40 → t' 62 (40 * q + i) = 0) ∧ (∀ k : Nat, k < 40 * q + j ∨ 40 * q + 40 ≤ k → t' 62 k = t 62 k)
  | 0, j, f + 1, t, hj, _ => by
    have e : j = 40 := by omega
    subst e
    refine ⟨t, ?_, fun _ _ => rfl, fun i h1 h2 => by omega, fun _ _ => rfl⟩
    show b_X6_sheet_64 (l_X6_sheet_64 f) (nI q) (nI 40) s t = _
    unfold b_X6_sheet_64
    rw [if_pos (show (40 : Int32) ≤ nI 40 by decide)]
  | m + 1, j, f + 1, t, hj, hf => by
    obtain ⟨t', e, h1, h2, h3⟩ := m_sheet_l (q := q) (s := s) hq m (j + 1) f (up2 t 62 (40 * q + j) 0) (by omega) (by omega)
    refine ⟨t', ?_, fun c hc => by rw [h1 c hc, up2_t hc], fun i hi h40 => ?_, fun k hk => by rw [h3 k (by omega), up2_r, if_neg (by omega)]⟩
    · have c0 : ¬ (40 : Int32) ≤ nI j := nI_ge (a := j) (b := 40) (by omega) (by omega)
      show b_X6_sheet_64 (l_X6_sheet_64 f) (nI q) (nI j) s t = _
      simp only [b_X6_sheet_64, c0, if_false, rx160 q hq j (by omega), bs, wr_e, nI_1]
      exact e
    · by_cases z : i = j
      · subst z; rw [h3 _ (by omega), up2_r, if_pos ⟨rfl, rfl⟩]
      · exact h2 i (by omega) h40
/-- one sheet changes -/
theorem Rel.sh {s s' : SS} {t t' : TT} {W q : Nat} (h : Rel s t W) (hq : q < 4) (e : ∀ c : Nat, c ≠ 37 + 3 * q → c ≠ 60 → c ≠ 61 → s' c = s c) (e60 : ∀ k : Nat, k ≠ q → s' 60 k = s 60 k) (e61 : ∀ k : Nat, k ≠ q → s' 61 k = s 61 k) (et : ∀ c : Nat, c ≠ 38 + 3 * q → c ≠ 62 → t' c = t c) (et2 : ∀ k : Nat, k < 40 * q ∨ 40 * q + 40 ≤ k → t' 62 k = t 62 k) (hs : P_sh1 s' t' q) : Rel s' t' W := by
  obtain ⟨g1, g2, g3, g4, g5, g6, g7, g8⟩ := h
  have e0 := e 0 (by omega) (by omega) (by omega)
  have e51 := e 51 (by omega) (by omega) (by omega)
  have e28 := e 28 (by omega) (by omega) (by omega)
  have e33 := e 33 (by omega) (by omega) (by omega)
  have e52 := e 52 (by omega) (by omega) (by omega)
  refine ⟨g1.fr (fun c h1 h2 => e c (by omega) (by omega) (by omega)) (fun k _ => by rw [e52]), g2.fr (by rw [e0]) (by rw [e51]) (fun c h1 h2 => e c (by omega) (by omega) (by omega)) (e 54 (by omega) (by omega) (by omega)), g3.fr (by rw [e28]) (by rw [e51]) (e 29 (by omega) (by omega) (by omega)) (e 56 (by omega) (by omega) (by omega)), g4.fr (by rw [e0]) (by rw [e51]) (e 49 (by omega) (by omega) (by omega)) (e 58 (by omega) (by omega) (by omega)), fun q' hq' => ?_, fun q' hq' => (g6 q' hq').fr (e _ (by omega) (by omega) (by omega)) (by rw [e 63 (by omega) (by omega) (by omega)]) (by rw [e 64 (by omega) (by omega) (by omega)]) (by rw [e 65 (by omega) (by omega) (by omega)]), g7.fr (by rw [e33]) (by rw [e51]) (e 34 (by omega) (by omega) (by omega)) (e 66 (by omega) (by omega) (by omega)), by rw [e51]; exact g8⟩
  by_cases z : q' = q
  · subst z; exact hs
  · exact (g5 q' hq').fr (e _ (by omega) (by omega) (by omega)) (e60 q' z) (e61 q' z) (et _ (by omega) (by omega)) (fun i hi => et2 _ (by omega))
theorem wi_m {x : Int32} (h : wi x (-1) 3 = true) : x = -1 ∨ ∃ k : Nat, k ≤ 3 ∧ x = nI k := by
  simp only [wi, Bool.and_eq_true, decide_eq_true_eq] at h
  have h1 := tI_le.mp h.1
  have h2 := tI_le.mp h.2
  rw [show (-1 : Int32).toInt = -1 from rfl] at h1
  rw [show (3 : Int32).toInt = 3 from rfl] at h2
  by_cases c : x.toInt = -1
  · exact Or.inl (by rw [tI_eq, c]; rfl)
  · refine Or.inr ⟨x.toInt.toNat, by omega, ?_⟩
    rw [tI_eq, nI_toInt (by omega)]
    omega
theorem s_sheet_a {s : SS} {t : TT} {q : Nat} {z : Int32} (hq : q < 4) (hb : wi (nI q) 0 3 = true) (hc : wi (-1) (-1) 3 = true) : f_X5_sheet (nI q) (-1) z s t = some (1, up2 s (37 + 3 * q) 1 (-1), t) := by
  simp only [f_X5_sheet, c_isPlace, c_isWithin, bs, b2_z, hb, hc, Bool.true_eq_false, if_false, if_true, rx4 hq, wr_e]
theorem m_s39 {s : SS} {t : TT} {q : Nat} {y z : Int32} (hq : q < 4) {L : Int32 × Int32 × SS × TT → Option (Int32 × SS × TT)} (hL : l_X6_sheet_64 300 = L) : j_X6_sheet_39 (nI q) y z s t = if 0 ≤ y then L (nI q, 0, up2 (up2 s 60 q y) 61 q z, t) else L (nI q, 0, up2 (up2 s 60 q y) 61 q 0, t) := by
  unfold j_X6_sheet_39
  rw [hL, rx4 hq]
  rfl
theorem m_s28 {s : SS} {t : TT} {q : Nat} {y z : Int32} : j_X6_sheet_28 (nI q) y z s t = if y < 0 then j_X6_sheet_39 (nI q) y z s t else if 0 ≤ z then j_X6_sheet_39 (nI q) y z s t else some (-14, s, t) := rfl
theorem m_s0 {s : SS} {t : TT} {q : Nat} {y z : Int32} (hb : wi (nI q) 0 3 = true) (hc : wi y (-1) 3 = true) : f_X6_sheet (nI q) y z s t = if y < 0 then j_X6_sheet_28 (nI q) y z s t else if z ≤ 40 then j_X6_sheet_28 (nI q) y z s t else some (-1, s, t) := by
  unfold f_X6_sheet
  generalize j_X6_sheet_28 = J
  simp only [m_isShelf, m_in, bs, b2_z, hb, hc, Bool.true_eq_false, if_false]
theorem s_sheet_b {s : SS} {t : TT} {q : Nat} {z : Int32} (hq : q < 4) (hb : wi (nI q) 0 3 = true) (hc : wi (-1) (-1) 3 = true) : f_X6_sheet (nI q) (-1) z s t = l_X6_sheet_64 300 (nI q, 0, up2 (up2 s 60 q (-1)) 61 q 0, t) := by
  have c1 : (-1 : Int32) < 0 := by decide
  have c2 : ¬ (0 : Int32) ≤ -1 := by decide
  rw [m_s0 hb hc, if_pos c1, m_s28, if_pos c1, m_s39 hq rfl, if_neg c2]
theorem s_sheet_c {s : SS} {t : TT} {q k m : Nat} (hq : q < 4) (hk : k ≤ 3) (hb : wi (nI q) 0 3 = true) (hc : wi (nI k) (-1) 3 = true) (c1 : ¬ nI k = -1) (h40 : nI m ≤ 40) (h0 : 0 ≤ nI m) : f_X5_sheet (nI q) (nI k) (nI m) s t = (l_X2_begin_12 (37 + 3 * q) 300 (0, up2 (up2 s (37 + 3 * q) 1 (nI k)) (37 + 3 * q) 2 (nI m), t)).bind (fun q9 => some (1, q9.1, q9.2)) := by
  simp only [f_X5_sheet, f_X2_begin, c_isPlace, c_isWithin, bs, b2_z, hb, hc, Bool.true_eq_false, if_false, c1, h40, h0, if_true, rx4 hq, wr_e]
theorem s_sheet_d {s : SS} {t : TT} {q k m : Nat} (hq : q < 4) (hk : k ≤ 3) (hb : wi (nI q) 0 3 = true) (hc : wi (nI k) (-1) 3 = true) (h40 : nI m ≤ 40) (h0 : 0 ≤ nI m) : f_X6_sheet (nI q) (nI k) (nI m) s t = l_X6_sheet_64 300 (nI q, 0, up2 (up2 s 60 q (nI k)) 61 q (nI m), t) := by
  have c2 : ¬ nI k < 0 := nI_pos (by omega)
  have c3 : (0 : Int32) ≤ nI k := nI_pos' (by omega)
  rw [m_s0 hb hc, if_neg c2, if_pos h40, m_s28, if_neg c2, if_pos h0, m_s39 hq rfl, if_pos c3]
theorem s_sheet {s : SS} {t : TT} {W : Nat} (x y z : Int32) (h : Rel s t W) : Sim (f_X5_sheet x y z) (f_X6_sheet x y z) s t W := by
  cases hb : wi x 0 3 with
  | false => exact Sim.of h (-1) (by simp only [f_X5_sheet, c_isPlace, bs, b2_z, hb, if_true]) (by simp only [f_X6_sheet, m_isShelf, bs, b2_z, hb, if_true])
  | true =>
  cases hc : wi y (-1) 3 with
  | false => exact Sim.of h (-1) (by simp only [f_X5_sheet, c_isPlace, c_isWithin, bs, b2_z, hb, hc, Bool.true_eq_false, if_false, if_true]) (by simp only [f_X6_sheet, m_isShelf, m_in, bs, b2_z, hb, hc, Bool.true_eq_false, if_false, if_true])
  | true =>
  obtain ⟨q, hq3, rfl⟩ := wi_two (n := 3) (by decide) hb
  have hq : q < 4 := by omega
  rcases wi_m hc with rfl | ⟨k, hk, rfl⟩
  · obtain ⟨t', e, h1, h2, h3⟩ := m_sheet_l (q := q) (s := up2 (up2 (up2 s (37 + 3 * q) 1 (-1)) 60 q (-1)) 61 q 0) hq 40 0 300 t (by omega) (by omega)
    refine ⟨1, up2 s (37 + 3 * q) 1 (-1), up2 (up2 (up2 s (37 + 3 * q) 1 (-1)) 60 q (-1)) 61 q 0, t, t', ?_, ?_, Rel.more (W := W) (h.sh hq (fun c c1 c2 c3 => by rw [up2_o c3, up2_o c2, up2_o c1]) (fun k hk => by rw [up2_o (by omega), up2_r, if_neg (fun z => hk z.2), up2_o (by omega)]) (fun k hk => by rw [up2_r, if_neg (fun z => hk z.2), up2_o (by omega), up2_o (by omega)]) (fun c c1 c2 => h1 c c2) (fun k hk => h3 k (by omega)) (Or.inl ⟨?_, ?_⟩)) (by omega)⟩
    · exact s_sheet_a hq hb hc
    · rw [s_sheet_b hq hb hc]
      exact e
    · rw [up2_o (by omega), up2_o (by omega), up2_r, if_pos ⟨rfl, rfl⟩]
    · rw [up2_o (by omega), up2_r, if_pos ⟨rfl, rfl⟩]
  · have c1 : ¬ nI k = -1 := by
      intro z
      have := tI_eq.mp z
      rw [nI_toInt (by omega), show (-1 : Int32).toInt = -1 from rfl] at this
      omega
    have c2 : ¬ nI k < 0 := nI_pos (by omega)
    by_cases h40 : z ≤ 40
    · by_cases h0 : 0 ≤ z
      · obtain ⟨m, hm, rfl⟩ := nI_of2 (M := 40) (n := 40) rfl (Int32.not_lt.mpr h0) h40
        obtain ⟨t1, d, g1, g2, g3⟩ := c_begin_l (o := 37 + 3 * q) (s := up2 (up2 s (37 + 3 * q) 1 (nI k)) (37 + 3 * q) 2 (nI m)) 40 0 300 t (by omega) (by omega)
        obtain ⟨t', e, h1, h2, h3⟩ := m_sheet_l (q := q) (s := up2 (up2 (up2 (up2 s (37 + 3 * q) 1 (nI k)) (37 + 3 * q) 2 (nI m)) 60 q (nI k)) 61 q (nI m)) hq 40 0 300 t1 (by omega) (by omega)
        refine ⟨1, up2 (up2 s (37 + 3 * q) 1 (nI k)) (37 + 3 * q) 2 (nI m), up2 (up2 (up2 (up2 s (37 + 3 * q) 1 (nI k)) (37 + 3 * q) 2 (nI m)) 60 q (nI k)) 61 q (nI m), t1, t', ?_, ?_, Rel.more (W := W) (h.sh hq (fun c c1 c2 c3 => by rw [up2_o c3, up2_o c2, up2_o c1, up2_o c1]) (fun k hk => by rw [up2_o (by omega), up2_r, if_neg (fun z => hk z.2), up2_o (by omega), up2_o (by omega)]) (fun k hk => by rw [up2_r, if_neg (fun z => hk z.2), up2_o (by omega), up2_o (by omega), up2_o (by omega)]) (fun c c1 c2 => by rw [h1 c c2]; exact g1 c (by omega)) (fun k hk => by rw [h3 k (by omega), g1 62 (by omega)]) (Or.inr ⟨k, hk, ?_, ?_, m, hm, ?_, ?_, fun i hi => ?_⟩)) (by omega)⟩
        · rw [s_sheet_c hq hk hb hc c1 h40 h0, ← nI_0, d]
          rfl
        · rw [s_sheet_d hq hk hb hc h40 h0]
          exact e
        · rw [up2_o (by omega), up2_o (by omega), up2_r, if_neg (by omega), up2_r, if_pos ⟨rfl, rfl⟩]
        · rw [up2_o (by omega), up2_r, if_pos ⟨rfl, rfl⟩]
        · rw [up2_o (by omega), up2_o (by omega), up2_r, if_pos ⟨rfl, rfl⟩]
        · rw [up2_r, if_pos ⟨rfl, rfl⟩]
        · rw [h2 i (by omega) hi, h1 _ (by omega), show 38 + 3 * q = 37 + 3 * q + 1 by omega]
          exact g2 i (by omega) hi
      · exact Sim.of h (-14) (by simp only [f_X5_sheet, c_isPlace, c_isWithin, bs, b2_z, hb, hc, Bool.true_eq_false, if_false, c1, h40, h0, if_true]) (by simp only [f_X6_sheet, j_X6_sheet_28, m_isShelf, m_in, bs, b2_z, hb, hc, Bool.true_eq_false, if_false, c2, h40, h0, if_true])
    · exact Sim.of h (-1) (by simp only [f_X5_sheet, c_isPlace, c_isWithin, bs, b2_z, hb, hc, Bool.true_eq_false, if_false, c1, h40]) (by simp only [f_X6_sheet, m_isShelf, m_in, bs, b2_z, hb, hc, Bool.true_eq_false, if_false, c2, h40])
/-- put, item -/
theorem s_put {s : SS} {t : TT} {W : Nat} (x y v : Int32) (h : Rel s t W) : Sim (f_X5_put x y v) (f_X6_put x y v) s t W := by
  cases hb : wi x 0 3 with
  | false => exact Sim.of h (-1) (by simp only [f_X5_put, c_isPlace, bs, b2_z, hb, if_true]) (by simp only [f_X6_put, m_isShelf, bs, b2_z, hb, if_true])
  | true =>
  obtain ⟨q, hq3, rfl⟩ := wi_two (n := 3) (by decide) hb
  have hq : q < 4 := by omega
  obtain ⟨-, -, -, -, hsh, -⟩ := id h
  rcases hsh q hq with ⟨a1, a2⟩ | ⟨k, hk, a1, a2, z, hz, a3, a4, a5⟩
  · exact Sim.of h (-11) (by simp only [f_X5_put, c_isPlace, bs, b2_z, hb, Bool.true_eq_false, if_false, rx4 hq, wr_e, a1, if_true]) (by simp only [f_X6_put, m_isShelf, bs, b2_z, hb, Bool.true_eq_false, if_false, rx4 hq, a2, show ¬ (0 : Int32) ≤ -1 by decide])
  · have c1 : ¬ nI k = -1 := by
      intro z
      have := tI_eq.mp z
      rw [nI_toInt (by omega), show (-1 : Int32).toInt = -1 from rfl] at this
      omega
    cases hc : wi y 0 (nI z - 1) with
    | false => exact Sim.of h (-12) (by simp only [f_X5_put, c_isPlace, c_isWithin, bs, b2_z, hb, Bool.true_eq_false, if_false, rx4 hq, wr_e, a1, a3, c1, hc, if_true]) (by simp only [f_X6_put, m_isShelf, m_in, bs, b2_z, hb, Bool.true_eq_false, if_false, rx4 hq, a2, a4, nI_pos' (show k < 2 ^ 31 by omega), hc, if_true])
    | true =>
      obtain ⟨i, hi, rfl⟩ := wi_sub (by omega) hc
      have hi40 : i < 40 := by omega
      have key : ∀ nv : Int64, Rel s (up2 (up2 t (37 + 3 * q + 1) i nv) 62 (40 * q + i) nv) (W + 60) := fun nv => by
        refine Rel.more (W := W) (h.sh hq (fun c _ _ _ => rfl) (fun _ _ => rfl) (fun _ _ => rfl) (fun c c1 c2 => by rw [up2_t c2, up2_t (by omega)]) (fun k hk => by rw [up2_r, if_neg (by omega), up2_t (by omega)]) (Or.inr ⟨k, hk, a1, a2, z, hz, a3, a4, fun i' hi' => ?_⟩)) (by omega)
        rw [up2_t (show 38 + 3 * q ≠ 62 by omega), up2_r, up2_r, up2_t (show 62 ≠ 37 + 3 * q + 1 by omega)]
        by_cases e : i' = i
        · subst e; rw [if_pos ⟨by omega, rfl⟩, if_pos ⟨rfl, rfl⟩]
        · rw [if_neg (fun z => e z.2), if_neg (fun z => e (by omega))]; exact a5 i' hi'
      by_cases k0 : nI k = 0
      · refine ⟨1, s, s, up2 t (37 + 3 * q + 1) i (Int32.toInt64 (v.toInt8.toInt32)), _, ?_, ?_, key (Int32.toInt64 (v.toInt8.toInt32))⟩
        · simp only [f_X5_put, f_X5_narrowed, c_isPlace, c_isWithin, bs, b2_z, hb, Bool.true_eq_false, if_false, rx4 hq, rx40 hi40, wr_e, a1, a3, c1, hc, k0, if_true, show ¬ (0 : Int32) = -1 by decide]
        · simp only [f_X6_put, m_isShelf, m_in, bs, b2_z, hb, Bool.true_eq_false, if_false, rx4 hq, rx160 q hq i hi40, a2, a4, wr_e, show (0 : Int32) ≤ 0 by decide, hc, k0, if_true]
      · by_cases k1 : nI k = 1
        · refine ⟨1, s, s, up2 t (37 + 3 * q + 1) i (Int32.toInt64 (v.toInt16.toInt32)), _, ?_, ?_, key (Int32.toInt64 (v.toInt16.toInt32))⟩
          · simp only [f_X5_put, f_X5_narrowed, c_isPlace, c_isWithin, bs, b2_z, hb, Bool.true_eq_false, if_false, rx4 hq, rx40 hi40, wr_e, a1, a3, c1, hc, k1, if_true, show ¬ (1 : Int32) = 0 by decide, show ¬ (1 : Int32) = -1 by decide]
          · simp only [f_X6_put, m_isShelf, m_in, bs, b2_z, hb, Bool.true_eq_false, if_false, rx4 hq, rx160 q hq i hi40, a2, a4, wr_e, show (0 : Int32) ≤ 1 by decide, hc, k1, if_true, show ¬ (1 : Int32) = 0 by decide]
        · refine ⟨1, s, s, up2 t (37 + 3 * q + 1) i (Int32.toInt64 v), _, ?_, ?_, key (Int32.toInt64 v)⟩
          · simp only [f_X5_put, f_X5_narrowed, c_isPlace, c_isWithin, bs, b2_z, hb, Bool.true_eq_false, if_false, rx4 hq, rx40 hi40, wr_e, a1, a3, c1, hc, k0, k1]
          · simp only [f_X6_put, m_isShelf, m_in, bs, b2_z, hb, Bool.true_eq_false, if_false, rx4 hq, rx160 q hq i hi40, a2, a4, wr_e, nI_pos' (show k < 2 ^ 31 by omega), if_true, hc, k0, k1]
theorem s_item {s : SS} {t : TT} {W : Nat} (x y v : Int32) (h : Rel s t W) : Sim (f_X5_item x y v) (f_X6_item x y v) s t W := by
  cases hb : wi x 0 3 with
  | false => exact Sim.of h (-1) (by simp only [f_X5_item, c_isPlace, bs, b2_z, hb, if_true]) (by simp only [f_X6_item, m_isShelf, bs, b2_z, hb, if_true])
  | true =>
  cases hy : wi y 0 3 with
  | false => exact Sim.of h (-1) (by simp only [f_X5_item, c_isPlace, c_isWithin, bs, b2_z, hb, hy, Bool.true_eq_false, if_false, if_true]) (by simp only [f_X6_item, m_isShelf, m_in, bs, b2_z, hb, hy, Bool.true_eq_false, if_false, if_true])
  | true =>
  obtain ⟨q, hq3, rfl⟩ := wi_two (n := 3) (by decide) hb
  have hq : q < 4 := by omega
  obtain ⟨-, -, -, -, hsh, -⟩ := id h
  rcases hsh q hq with ⟨a1, a2⟩ | ⟨k, hk, a1, a2, z, hz, a3, a4, a5⟩
  · exact Sim.of h (-11) (by simp only [f_X5_item, c_isPlace, c_isWithin, bs, b2_z, hb, hy, Bool.true_eq_false, if_false, rx4 hq, wr_e, a1, if_true]) (by simp only [f_X6_item, f_X6_lacksSort, m_isShelf, m_in, bs, b2_z, hb, hy, Bool.true_eq_false, if_false, rx4 hq, a2, show ¬ (0 : Int32) ≤ -1 by decide, show ¬ (-11 : Int32) = 0 by decide])
  · have c1 : ¬ nI k = -1 := by
      intro z
      have := tI_eq.mp z
      rw [nI_toInt (by omega), show (-1 : Int32).toInt = -1 from rfl] at this
      omega
    have p1 : (0 : Int32) ≤ nI k := nI_pos' (show k < 2 ^ 31 by omega)
    by_cases c2 : nI k = y
    · subst c2
      cases hc : wi v 0 (nI z - 1) with
      | false => exact Sim.of h (-12) (by simp only [f_X5_item, c_isPlace, c_isWithin, bs, b2_z, hb, hy, Bool.true_eq_false, if_false, rx4 hq, wr_e, a1, a3, c1, hc, if_true]) (by simp only [f_X6_item, f_X6_lacksSort, m_isShelf, m_in, bs, b2_z, hb, hy, Bool.true_eq_false, if_false, rx4 hq, a2, a4, p1, hc, if_true])
      | true =>
        obtain ⟨i, hi, rfl⟩ := wi_sub (by omega) hc
        have hi40 : i < 40 := by omega
        have e5 : t (37 + 3 * q + 1) i = t 62 (40 * q + i) := by rw [show 37 + 3 * q + 1 = 38 + 3 * q by omega]; exact a5 i hi40
        exact Sim.of h (Int64.toInt32 (t 62 (40 * q + i))) (by simp only [f_X5_item, c_isPlace, c_isWithin, bs, b2_z, hb, hy, Bool.true_eq_false, if_false, rx4 hq, rx40 hi40, wr_e, a1, a3, c1, hc, if_true, e5]) (by simp only [f_X6_item, f_X6_lacksSort, m_isShelf, m_in, bs, b2_z, hb, hy, Bool.true_eq_false, if_false, rx4 hq, rx160 q hq i hi40, a2, a4, p1, hc, if_true])
    · exact Sim.of h (-13) (by simp only [f_X5_item, c_isPlace, c_isWithin, bs, b2_z, hb, hy, Bool.true_eq_false, if_false, rx4 hq, wr_e, a1, c1, c2]) (by simp only [f_X6_item, f_X6_lacksSort, m_isShelf, m_in, bs, b2_z, hb, hy, Bool.true_eq_false, if_false, rx4 hq, a2, p1, c2, if_true, show ¬ (-13 : Int32) = 0 by decide])
