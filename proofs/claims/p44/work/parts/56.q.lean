/-! the class cuts its text -/
theorem c4_isL {x : Int32} {s : SS} {t : TT} : f_X4_isLetter x s t = some (b2 (isL x), s, t) := by
  simp only [f_X4_isLetter, c_isWithin, bs, b2_k, if_true]; rfl
theorem c4_isD {x : Int32} {s : SS} {t : TT} : f_X4_isDigit x s t = some (b2 (isD x), s, t) := by
  simp only [f_X4_isDigit, c_isWithin, bs, b2_k, if_true]; rfl
theorem rs_n {w : Nat} (h : w < 14) : rs w = some w := by unfold rs; rw [if_pos h]
theorem c_spelt_l {s : SS} {t : TT} {a n w : Nat} (hw : w < 13) (hl : pm_sl.getD w 0 = n) (han : a + n ≤ 200) : ∀ d j f : Nat, j + d = n → d < f → ∃ r : Bool, l_X4_isSpelt_23 f (w, nI a, nI n, nI j, s, t) = some (b2 r, s, t) ∧ (r = true ↔ ∀ i : Nat, j ≤ i → i < n → s 29 (a + i) = (SP w).getD i 0)
  | 0, j, f + 1, hj, _ => by
    have e : j = n := by omega
    refine ⟨true, ?_, ⟨fun _ i h1 h2 => by omega, fun _ => rfl⟩⟩
    show b_X4_isSpelt_23 (l_X4_isSpelt_23 f) w (nI a) (nI n) (nI j) s t = _
    simp only [b_X4_isSpelt_23, nI_le (show n ≤ j by omega) (show j < 2 ^ 31 by omega), if_true]
    rfl
  | d + 1, j, f + 1, hj, hf => by
    obtain ⟨r, e1, e2⟩ := c_spelt_l (s := s) (t := t) hw hl han d (j + 1) f (by omega) (by omega)
    have hx : rx (pm_sl.getD w 0) (nI j) = some j := rx_n (by omega) (by omega)
    by_cases c : s 29 (a + j) = (SP w).getD j 0
    · refine ⟨r, ?_, e2.trans ⟨fun h i h1 h2 => ?_, fun h i h1 h2 => h i (by omega) h2⟩⟩
      · show b_X4_isSpelt_23 (l_X4_isSpelt_23 f) w (nI a) (nI n) (nI j) s t = _
        simp only [b_X4_isSpelt_23, nI_ge (show j < n by omega) (show n < 2 ^ 31 by omega), if_false, nI_add, rx200 (show a + j < 200 by omega), bs, rs_n (show w < 14 by omega), hx, nI_1]
        rw [show (pm_sb.getD w []) = SP w from rfl, if_pos c]
        exact e1
      · by_cases z : i = j
        · subst z; exact c
        · exact h i (by omega) h2
    · refine ⟨false, ?_, ⟨fun h => (by cases h), fun h => absurd (h j (Nat.le_refl _) (by omega)) c⟩⟩
      show b_X4_isSpelt_23 (l_X4_isSpelt_23 f) w (nI a) (nI n) (nI j) s t = _
      simp only [b_X4_isSpelt_23, nI_ge (show j < n by omega) (show n < 2 ^ 31 by omega), if_false, nI_add, rx200 (show a + j < 200 by omega), bs, rs_n (show w < 14 by omega), hx]
      rw [show (pm_sb.getD w []) = SP w from rfl, if_neg c]
      rfl
theorem c_isSpelt {s : SS} {t : TT} {a n w m : Nat} (hw : w < 13) (hm : m ≤ 200) (han : a + n ≤ m) (h7 : s 28 7 = nI m) : f_X4_isSpelt w (nI a) (nI n) s t = some (b2 (decide (lw (s 29) a n = SP w)), s, t) := by
  have hl := SP_len w hw
  unfold f_X4_isSpelt
  rw [rs_n (show w < 14 by omega), bs]
  by_cases c : pm_sl.getD w 0 = n
  · rw [if_pos (show Int32.ofNat (pm_sl.getD w 0) = nI n by rw [c]; rfl), nI_add, h7, if_pos (nI_le han (by omega))]
    obtain ⟨r, e1, e2⟩ := c_spelt_l (s := s) (t := t) hw c (show a + n ≤ 200 by omega) n 0 300 (by omega) (by omega)
    have e3 : l_X4_isSpelt_23 300 (w, nI a, nI n, 0, s, t) = some (b2 r, s, t) := e1
    rw [e3]
    have e4 := lw_ext (b := s 29) (a := a) (L := SP w) n (by omega)
    have e5 : r = decide (lw (s 29) a n = SP w) := by
      rw [Bool.eq_iff_iff, decide_eq_true_eq, e2, e4]
      exact ⟨fun h i hi => h i (Nat.zero_le _) hi, fun h i _ hi => h i hi⟩
    rw [e5]
  · have h9 : pm_sl.getD w 0 ≤ 9 := by omega
    rw [if_neg (show ¬ Int32.ofNat (pm_sl.getD w 0) = nI n from fun z => c ((nI_eq (show pm_sl.getD w 0 < 2 ^ 31 by omega) (show n < 2 ^ 31 by omega)).mp z))]
    have e : ¬ lw (s 29) a n = SP w := fun z => c (by rw [← hl.2, ← z, lw_len])
    rw [decide_eq_false e]
    rfl
theorem c_spelling {s : SS} {t : TT} : ∀ w : Nat, w < 13 → f_X4_spelling (nI w) s t = some (w, s, t) := by
  intro w hw
  have h : w = 0 ∨ w = 1 ∨ w = 2 ∨ w = 3 ∨ w = 4 ∨ w = 5 ∨ w = 6 ∨ w = 7 ∨ w = 8 ∨ w = 9 ∨ w = 10 ∨ w = 11 ∨ w = 12 := by omega
  rcases h with rfl | rfl | rfl | rfl | rfl | rfl | rfl | rfl | rfl | rfl | rfl | rfl | rfl <;> rfl
theorem c_wordAt_l {s : SS} {t : TT} {a n m : Nat} (hm : m ≤ 200) (han : a + n ≤ m) (h7 : s 28 7 = nI m) : ∀ d w f : Nat, w + d = 13 → d < f → (∀ w' : Nat, w' < w → lw (s 29) a n ≠ SP w') → ∃ v : Int32, l_X4_wordAt_2 f (nI a, nI n, nI w, s, t) = some (v, s, t) ∧ CV (s 29) a n v
  | 0, w, f + 1, hw, _, h => by
    have e : w = 13 := by omega
    subst e
    refine ⟨-1, ?_, Or.inr ⟨rfl, h⟩⟩
    show b_X4_wordAt_2 (l_X4_wordAt_2 f) (nI a) (nI n) (nI 13) s t = _
    unfold b_X4_wordAt_2
    rw [if_pos (by decide +kernel)]
  | d + 1, w, f + 1, hw, hf, h => by
    have hw' : w < 13 := by omega
    have e0 : ¬ (12 : Int32) < nI w := nI_nlt (b := w) (a := 12) (by omega) (by omega)
    by_cases c : lw (s 29) a n = SP w
    · refine ⟨nI w, ?_, Or.inl ⟨w, hw', rfl, c⟩⟩
      show b_X4_wordAt_2 (l_X4_wordAt_2 f) (nI a) (nI n) (nI w) s t = _
      simp only [b_X4_wordAt_2, e0, if_false, c_spelling w hw', bs, c_isSpelt hw' hm han h7, b2_z, c, decide_true, Bool.true_eq_false]
    · obtain ⟨v, e1, e2⟩ := c_wordAt_l (t := t) hm han h7 d (w + 1) f (by omega) (by omega) (fun w' h1 => by
        by_cases z : w' = w
        · subst z; exact c
        · exact h w' (by omega))
      refine ⟨v, ?_, e2⟩
      show b_X4_wordAt_2 (l_X4_wordAt_2 f) (nI a) (nI n) (nI w) s t = _
      simp only [b_X4_wordAt_2, e0, if_false, c_spelling w hw', bs, c_isSpelt hw' hm han h7, b2_z, c, decide_false, if_true, nI_1]
      exact e1
theorem c_wordAt {s : SS} {t : TT} {a n m : Nat} (hm : m ≤ 200) (han : a + n ≤ m) (h7 : s 28 7 = nI m) : ∃ v : Int32, f_X4_wordAt (nI a) (nI n) s t = some (v, s, t) ∧ CV (s 29) a n v := c_wordAt_l (t := t) hm han h7 13 0 300 (by omega) (by omega) (fun w' h => by omega)
def addT (s : SS) (i : Nat) (k v x : Int32) : SS := up2 (up2 (up2 (up2 s 30 i k) 31 i v) 32 i x) 28 4 (nI (i + 1))
theorem rx201 {j : Nat} (h : j < 201) : rx 201 (nI j) = some j := rx_n h (by decide)
theorem c_addToken {s : SS} {t : TT} {i : Nat} {k v x : Int32} (hi : i < 201) (h4 : s 28 4 = nI i) : f_X4_addToken k v x s t = some (addT s i k v x, t) := by
  have e : ¬ Int32.ofNat 201 ≤ nI i := nI_ge (b := 201) hi (by decide)
  simp only [f_X4_addToken, h4, e, if_false, rx201 hi, bs, wr_e, up2_o (show 28 ≠ 30 by decide), up2_o (show 28 ≠ 31 by decide), up2_o (show 28 ≠ 32 by decide), nI_1]
  rfl
theorem addT_o {s : SS} {i c : Nat} {k v x : Int32} (h : c ≠ 28 ∧ c ≠ 30 ∧ c ≠ 31 ∧ c ≠ 32) : addT s i k v x c = s c := by
  unfold addT
  rw [up2_o h.1, up2_o h.2.2.2, up2_o h.2.2.1, up2_o h.2.1]
theorem addT_28 {s : SS} {i j : Nat} {k v x : Int32} : addT s i k v x 28 j = if j = 4 then nI (i + 1) else s 28 j := by
  unfold addT
  rw [up2_r, up2_o (by decide), up2_o (by decide), up2_o (by decide)]
  by_cases e : j = 4 <;> simp [e]
theorem addT_r {s : SS} {i j : Nat} {k v x : Int32} : addT s i k v x 30 j = (if j = i then k else s 30 j) ∧ addT s i k v x 31 j = (if j = i then v else s 31 j) ∧ addT s i k v x 32 j = (if j = i then x else s 32 j) := by
  unfold addT
  refine ⟨?_, ?_, ?_⟩
  · rw [up2_o (by decide), up2_o (by decide), up2_o (by decide), up2_r]; by_cases e : j = i <;> simp [e]
  · rw [up2_o (by decide), up2_o (by decide), up2_r, up2_o (by decide)]; by_cases e : j = i <;> simp [e]
  · rw [up2_o (by decide), up2_r, up2_o (by decide), up2_o (by decide)]; by_cases e : j = i <;> simp [e]
theorem c_cutName_l {s : SS} {t : TT} {m i a : Nat} (hm : m ≤ 200) (h7 : s 28 7 = nI m) (h4 : s 28 4 = nI i) (hi : i < 201) : ∀ f x : Nat, x ≤ m → m - x < f → a ≤ x → (∀ j : Nat, a ≤ j → j < x → isL (s 29 j) = true) → ∃ (e : Nat) (v : Int32), Run isL (s 29) m a e ∧ CV (s 29) a (e - a) v ∧ l_X4_cutName_4 f (nI a, nI x, s, t) = some (nI e, addT s i (nI 1) v (nI a), t)
  | 0, x, hx, hf, _, _ => by omega
  | f + 1, x, hx, hf, hax, hl => by
    obtain ⟨v, w1, w2⟩ := c_wordAt (t := t) (n := x - a) hm (show a + (x - a) ≤ m by omega) h7
    have hj : j_X4_cutName_30 (nI a) (nI x) s t = some (nI x, addT s i (nI 1) v (nI a), t) := by
      simp only [j_X4_cutName_30, nI_sub hax, w1, bs, c_addToken hi h4]
      rfl
    by_cases c : m ≤ x
    · have e : x = m := by omega
      refine ⟨x, v, ⟨hax, hx, hl, fun z => by omega⟩, w2, ?_⟩
      show b_X4_cutName_4 (l_X4_cutName_4 f) (nI a) (nI x) s t = _
      simp only [b_X4_cutName_4, h7, nI_le c (show x < 2 ^ 31 by omega), if_true, hj]
    · cases hb : isL (s 29 x) with
      | false =>
        refine ⟨x, v, ⟨hax, hx, hl, fun z => hb⟩, w2, ?_⟩
        show b_X4_cutName_4 (l_X4_cutName_4 f) (nI a) (nI x) s t = _
        simp only [b_X4_cutName_4, h7, nI_ge (show x < m by omega) (show m < 2 ^ 31 by omega), if_false, rx200 (show x < 200 by omega), bs, c4_isL, hb, b2_z, if_true, hj]
      | true =>
        obtain ⟨e, v, r1, r2, r3⟩ := c_cutName_l (t := t) (a := a) hm h7 h4 hi f (x + 1) (by omega) (by omega) (by omega) (fun j h1 h2 => by
          by_cases z : j = x
          · subst z; exact hb
          · exact hl j h1 (by omega))
        refine ⟨e, v, r1, r2, ?_⟩
        show b_X4_cutName_4 (l_X4_cutName_4 f) (nI a) (nI x) s t = _
        simp only [b_X4_cutName_4, h7, nI_ge (show x < m by omega) (show m < 2 ^ 31 by omega), if_false, rx200 (show x < 200 by omega), bs, c4_isL, hb, b2_z, Bool.true_eq_false, nI_1]
        exact r3
theorem dv_min {k d : Nat} (hk : k < 100) (hd : d ≤ 9) : pmf_min 1000 (nI k * 10 + nI (48 + d) - 48) = nI (10 * k + d) := by
  have e : nI k * 10 + nI (48 + d) - 48 = nI (10 * k + d) := by
    rw [show (10 : Int32) = nI 10 from rfl, show (48 : Int32) = nI 48 from rfl, nI_mul, nI_add, nI_sub (by omega), show k * 10 + (48 + d) - 48 = 10 * k + d by omega]
  rw [e]
  have h : nI (10 * k + d) ≤ 1000 := nI_le (b := 1000) (by omega) (by decide)
  have h2 : ¬ (1000 : Int32) ≤ nI (10 * k + d) := nI_ge (b := 1000) (by omega) (by decide)
  unfold pmf_min
  simp [h, h2]
theorem c_cutNumber_l {s : SS} {t : TT} {m i a : Nat} (hm : m ≤ 200) (h7 : s 28 7 = nI m) (h4 : s 28 4 = nI i) (hi : i < 201) : ∀ (f x : Nat) (y : Int32), x ≤ m → m - x < f → a ≤ x → (∀ j : Nat, a ≤ j → j < x → isD (s 29 j) = true) → (x - a ≤ 3 → y = nI (dv (s 29) a (x - a))) → ∃ (e : Nat) (v : Int32), Run isD (s 29) m a e ∧ (v = if e - a ≤ 3 then nI (dv (s 29) a (e - a)) else 1000) ∧ l_X4_cutNumber_4 f (nI a, y, nI x, s, t) = some (nI e, addT s i (nI 2) v (nI a), t)
  | 0, x, y, hx, hf, _, _, _ => by omega
  | f + 1, x, y, hx, hf, hax, hl, hy => by
    have hj : j_X4_cutNumber_51 (nI a) y (nI x) s t = some (nI x, addT s i (nI 2) (if x - a ≤ 3 then nI (dv (s 29) a (x - a)) else 1000) (nI a), t) := by
      by_cases z : x - a ≤ 3
      · have z1 : nI (x - a) ≤ 3 := nI_le (b := 3) z (by decide)
        rw [if_pos z, ← hy z]
        simp only [j_X4_cutNumber_51, nI_sub hax, z1, if_true, j_X4_cutNumber_67, c_addToken hi h4, bs]
        rfl
      · have z1 : ¬ nI (x - a) ≤ 3 := nI_ge (a := 3) (by omega) (by omega)
        rw [if_neg z]
        simp only [j_X4_cutNumber_51, nI_sub hax, z1, if_false, j_X4_cutNumber_67, c_addToken hi h4, bs]
        rfl
    by_cases c : m ≤ x
    · refine ⟨x, _, ⟨hax, hx, hl, fun z => by omega⟩, rfl, ?_⟩
      show b_X4_cutNumber_4 (l_X4_cutNumber_4 f) (nI a) y (nI x) s t = _
      simp only [b_X4_cutNumber_4, h7, nI_le c (show x < 2 ^ 31 by omega), if_true, hj]
    · cases hb : isD (s 29 x) with
      | false =>
        refine ⟨x, _, ⟨hax, hx, hl, fun z => hb⟩, rfl, ?_⟩
        show b_X4_cutNumber_4 (l_X4_cutNumber_4 f) (nI a) y (nI x) s t = _
        simp only [b_X4_cutNumber_4, h7, nI_ge (show x < m by omega) (show m < 2 ^ 31 by omega), if_false, rx200 (show x < 200 by omega), bs, c4_isD, hb, b2_z, if_true, hj]
      | true =>
        obtain ⟨e, v, r1, r2, r3⟩ := c_cutNumber_l (t := t) (a := a) hm h7 h4 hi f (x + 1) (pmf_min 1000 (((y * (10 : Int32)) + (s 29 x)) - (48 : Int32))) (by omega) (by omega) (by omega) (fun j h1 h2 => by
          by_cases z : j = x
          · subst z; exact hb
          · exact hl j h1 (by omega)) (fun z => by
          obtain ⟨d1, d2⟩ := dg1_ok hb
          have h3 : x + 1 - a = (x - a) + 1 := by omega
          have h4 : dv (s 29) a (x - a) < 10 ^ (x - a) := dv_lt _ (fun i hi => hl (a + i) (by omega) (by omega))
          have h5 : (10 : Nat) ^ (x - a) ≤ 10 ^ 2 := Nat.pow_le_pow_right (by decide) (by omega)
          rw [hy (by omega), d2, dv_min (by omega) d1, h3]
          simp only [dv]
          rw [show a + (x - a) = x by omega])
        refine ⟨e, v, r1, r2, ?_⟩
        show b_X4_cutNumber_4 (l_X4_cutNumber_4 f) (nI a) y (nI x) s t = _
        simp only [b_X4_cutNumber_4, h7, nI_ge (show x < m by omega) (show m < 2 ^ 31 by omega), if_false, rx200 (show x < 200 by omega), bs, c4_isD, hb, b2_z, Bool.true_eq_false, nI_1]
        exact r3
/-- the tokens that the class has cut -/
def CT (s : SS) (b : RR) (m N : Nat) (pos : Nat → Nat) : Prop := pos 0 = 0 ∧ ∀ i : Nat, i < N → ∃ k a : Nat, k ≠ 0 ∧ s 30 i = nI k ∧ s 32 i = nI a ∧ Tok b m (pos i) k a (pos (i + 1)) ∧ TV b k a (pos (i + 1)) (s 31 i)
theorem CT.add {s : SS} {b : RR} {m N k x e : Nat} {v : Int32} {pos : Nat → Nat} (h : CT s b m N pos) (hk : k ≠ 0) (ht : Tok b m (pos N) k x e) (hv : TV b k x e v) : CT (addT s N (nI k) v (nI x)) b m (N + 1) (fun i => if i = N + 1 then e else pos i) := by
  refine ⟨h.1, fun i hi => ?_⟩
  obtain ⟨q1, q2, q3⟩ := addT_r (s := s) (i := N) (j := i) (k := nI k) (v := v) (x := nI x)
  rw [q1, q2, q3]
  by_cases z : i = N
  · subst z
    refine ⟨k, x, hk, if_pos rfl, if_pos rfl, ?_, ?_⟩
    · simp only [if_true, if_neg (show ¬ i = i + 1 by omega)]; exact ht
    · simp only [if_true]; exact hv
  · obtain ⟨k', a', g1, g2, g3, g4, g5⟩ := h.2 i (by omega)
    refine ⟨k', a', g1, by rw [if_neg z]; exact g2, by rw [if_neg z]; exact g3, ?_, ?_⟩
    · simp only [if_neg (show ¬ i = N + 1 by omega), if_neg (show ¬ i + 1 = N + 1 by omega)]; exact g4
    · simp only [if_neg (show ¬ i + 1 = N + 1 by omega), if_neg z]; exact g5
/-- what is left when all is cut -/
def Cut (s s' : SS) (m : Nat) : Prop := (∀ c : Nat, c ≠ 28 → c ≠ 30 → c ≠ 31 → c ≠ 32 → s' c = s c) ∧ (∀ i : Nat, i ≠ 4 → s' 28 i = s 28 i) ∧ ∃ (N : Nat) (pos : Nat → Nat), N ≤ 200 ∧ s' 28 4 = nI (N + 1) ∧ CT s' (s 29) m N pos ∧ s' 30 N = nI 0 ∧ s' 32 N = nI m ∧ Tok (s 29) m (pos N) 0 m m
theorem Cut.fr {s s1 s' : SS} {m : Nat} (h : Cut s1 s' m) (e1 : ∀ c : Nat, c ≠ 28 → c ≠ 30 → c ≠ 31 → c ≠ 32 → s1 c = s c) (e2 : ∀ i : Nat, i ≠ 4 → s1 28 i = s 28 i) : Cut s s' m := by
  obtain ⟨h1, h2, h3⟩ := h
  rw [e1 29 (by decide) (by decide) (by decide) (by decide)] at h3
  exact ⟨fun c a1 a2 a3 a4 => (h1 c a1 a2 a3 a4).trans (e1 c a1 a2 a3 a4), fun i hi => (h2 i hi).trans (e2 i hi), h3⟩
theorem c_cut_l {t : TT} {m : Nat} (hm : m ≤ 200) : ∀ (f x x2 N : Nat) (pos : Nat → Nat) (s : SS), x ≤ m → m - x < f → x2 ≤ x → N ≤ x → s 28 7 = nI m → s 28 4 = nI N → CT s (s 29) m N pos → pos N ≤ x → (∀ j : Nat, pos N ≤ j → j < x → isB (s 29 j) = true) → ∃ s' : SS, l_X4_cut_9 f (nI x, nI x2, s, t) = some (s', t) ∧ Cut s s' m
  | 0, x, x2, N, pos, s, hx, hf, _, _, _, _, _, _, _ => by omega
  | f + 1, x, x2, N, pos, s, hx, hf, h2, hN, h7, h4, hC, hp, hB => by
    by_cases c : m ≤ x
    · have e : x = m := by omega
      subst e
      have hj : j_X4_cut_91 s t = some (addT s N 0 0 (nI x), t) := by
        simp only [j_X4_cut_91, h7, c_addToken (show N < 201 by omega) h4, bs]
      refine ⟨addT s N 0 0 (nI x), ?_, ?_⟩
      · show b_X4_cut_9 (l_X4_cut_9 f) (nI x) (nI x2) s t = _
        unfold b_X4_cut_9
        rw [h7, if_pos (nI_le (Nat.le_refl x) (show x < 2 ^ 31 by omega)), hj, ite_self]
      · refine ⟨fun c a1 a2 a3 a4 => addT_o ⟨a1, a2, a3, a4⟩, fun i hi => by rw [addT_28, if_neg hi], N, pos, by omega, by rw [addT_28, if_pos rfl], ⟨hC.1, fun i hi => ?_⟩, ?_, ?_, ⟨⟨hp, Nat.le_refl _, hB, fun z => by omega⟩, Or.inl ⟨rfl, rfl, rfl⟩⟩⟩
        · obtain ⟨q1, q2, q3⟩ := addT_r (s := s) (i := N) (j := i) (k := 0) (v := 0) (x := nI x)
          rw [q1, q2, q3, if_neg (by omega), if_neg (by omega), if_neg (by omega)]
          exact hC.2 i hi
        · rw [addT_r.1, if_pos rfl]; rfl
        · rw [addT_r.2.2, if_pos rfl]
    · have c1 : x < m := by omega
      have d1 : ¬ (200 : Int32) ≤ nI x2 := nI_ge (b := 200) (by omega) (by decide)
      have d2 : ¬ nI m ≤ nI x := nI_ge c1 (by omega)
      have hr : Run isB (s 29) m (pos N) x ∨ isB (s 29 x) = true := by
        cases z : isB (s 29 x) with
        | true => exact Or.inr rfl
        | false => exact Or.inl ⟨hp, hx, hB, fun _ => z⟩
      have step : ∀ (k e : Nat) (v : Int32), k ≠ 0 → Tok (s 29) m (pos N) k x e → TV (s 29) k x e v → ∃ s' : SS, l_X4_cut_9 f (nI e, nI (x2 + 1), addT s N (nI k) v (nI x), t) = some (s', t) ∧ Cut s s' m := by
        intro k e v hk ht hv
        obtain ⟨l1, l2, l3, l4, -, -⟩ := ht.le
        have l4 := l4 hk
        have f29 : addT s N (nI k) v (nI x) 29 = s 29 := addT_o (by decide)
        obtain ⟨s', g1, g2⟩ := c_cut_l (t := t) hm f e (x2 + 1) (N + 1) (fun i => if i = N + 1 then e else pos i) (addT s N (nI k) v (nI x)) l3 (by omega) (by omega) (by omega) (by rw [addT_28, if_neg (by decide)]; exact h7) (by rw [addT_28, if_pos rfl]) (by rw [f29]; exact hC.add hk ht hv) (by simp) (fun j j1 j2 => by simp at j1; omega)
        exact ⟨s', g1, g2.fr (fun c a1 a2 a3 a4 => addT_o ⟨a1, a2, a3, a4⟩) (fun i hi => by rw [addT_28, if_neg hi])⟩
      show ∃ s' : SS, b_X4_cut_9 (l_X4_cut_9 f) (nI x) (nI x2) s t = some (s', t) ∧ Cut s s' m
      simp only [b_X4_cut_9, d1, if_false, h7, d2, rx200 (show x < 200 by omega), bs, nI_1]
      by_cases z : s 29 x = 32
      · simp only [z, if_true]
        exact c_cut_l (t := t) hm f (x + 1) (x2 + 1) N pos s (by omega) (by omega) (by omega) (by omega) h7 h4 hC (by omega) (fun j j1 j2 => by
          by_cases q : j = x
          · subst q; unfold isB; rw [z]; rfl
          · exact hB j j1 (by omega))
      · have hr' : Run isB (s 29) m (pos N) x := by
          rcases hr with h | h
          · exact h
          · exact absurd (by unfold isB at h; exact of_decide_eq_true h) z
        simp only [z, if_false, c4_isL, bs, b2_z]
        cases hl : isL (s 29 x) with
        | true =>
          obtain ⟨e, v, r1, r2, r3⟩ := c_cutName_l (t := t) (a := x) hm h7 h4 (show N < 201 by omega) 300 (x + 1) (by omega) (by omega) (by omega) (fun j j1 j2 => by rw [show j = x by omega]; exact hl)
          have r4 : f_X4_cutName (nI x) s t = some (nI e, addT s N (nI 1) v (nI x), t) := by
            rw [← r3]; unfold f_X4_cutName; rw [nI_1]
          simp only [Bool.true_eq_false, if_false, r4, bs]
          exact step 1 e v (by decide) ⟨hr', Or.inr (Or.inl ⟨c1, rfl, hl, r1⟩)⟩ ⟨fun _ => r2, fun h => absurd h (by decide), fun h => absurd h (by decide)⟩
        | false =>
          simp only [if_true, c4_isD, bs, b2_z]
          cases hd : isD (s 29 x) with
          | true =>
            obtain ⟨e, v, r1, r2, r3⟩ := c_cutNumber_l (t := t) (a := x) hm h7 h4 (show N < 201 by omega) 300 x 0 (by omega) (by omega) (by omega) (fun j j1 j2 => by omega) (fun _ => by rw [Nat.sub_self]; rfl)
            have r4 : f_X4_cutNumber (nI x) s t = some (nI e, addT s N (nI 2) v (nI x), t) := r3
            simp only [Bool.true_eq_false, if_false, r4, bs]
            exact step 2 e v (by decide) ⟨hr', Or.inr (Or.inr (Or.inl ⟨c1, rfl, hl, hd, r1⟩))⟩ ⟨fun h => absurd h (by decide), fun _ => r2, fun h => absurd h (by decide)⟩
          | false =>
            simp only [if_true, c_addToken (show N < 201 by omega) h4, bs]
            exact step 3 (x + 1) (s 29 x) (by decide) ⟨hr', Or.inr (Or.inr (Or.inr ⟨c1, rfl, hl, hd, rfl⟩))⟩ ⟨fun h => absurd h (by decide), fun h => absurd h (by decide), fun _ => rfl⟩
theorem c_cut {s : SS} {t : TT} {m : Nat} (hm : m ≤ 200) (h7 : s 28 7 = nI m) : ∃ s' : SS, f_X4_cut s t = some (s', t) ∧ Cut s s' m := by
  have f29 : up2 s 28 4 0 29 = s 29 := up2_o (by decide)
  obtain ⟨s', g1, g2⟩ := c_cut_l (t := t) hm 300 0 0 0 (fun _ => 0) (up2 s 28 4 0) (by omega) (by omega) (by omega) (by omega) (by rw [up2_r, if_neg (by decide)]; exact h7) (by rw [up2_r, if_pos ⟨rfl, rfl⟩]; rfl) ⟨rfl, fun i hi => by omega⟩ (by omega) (fun j j1 j2 => by omega)
  exact ⟨s', g1, g2.fr (fun c a1 a2 a3 a4 => up2_o a1) (fun i hi => by rw [up2_r, if_neg (fun z => hi z.2)])⟩
