/-! packed: each side runs -/
theorem and_le (a : Nat) (ha : a < 2 ^ 31) (y : Int32) : ∃ c : Nat, c ≤ a ∧ nI a &&& y = nI c := by
  refine ⟨(nI a &&& y).toBitVec.toNat, ?_, ?_⟩
  · rw [Int32.toBitVec_and, BitVec.toNat_and]
    have : (nI a).toBitVec.toNat = a := by
      show (BitVec.ofNat 32 a).toNat = a
      rw [BitVec.toNat_ofNat]
      exact Nat.mod_eq_of_lt (by omega)
    rw [this]
    exact Nat.and_le_left
  · apply Int32.toBitVec_inj.mp
    show _ = BitVec.ofNat 32 _
    rw [BitVec.ofNat_toNat, BitVec.setWidth_eq]
theorem and_c (a b : Int32) : a &&& b = b &&& a := by
  apply Int32.toBitVec_inj.mp
  rw [Int32.toBitVec_and, Int32.toBitVec_and, BitVec.and_comm]
theorem rx256 {j : Nat} (h : j < 256) : rx 256 (nI j) = some j := rx_n h (by decide)
theorem leastP_l {s : SS} {t : TT} {n j : Nat} {x : Int32} (hn : n ≤ 8) (hj : j < 256) (h8 : s 1 8 = nI n) : ∀ (m p f : Nat) (y : Int32), p + m = n → m < f → ∃ r : Int32, l_X5_leastPacking_7 f (nI j, x, y, nI p, s, t) = some (r, s, t)
  | 0, p, f + 1, y, hp, _ => by
    have e : p = n := by omega
    subst e
    show ∃ r : Int32, b_X5_leastPacking_7 (l_X5_leastPacking_7 f) (nI j) x y (nI p) s t = some (r, s, t)
    unfold b_X5_leastPacking_7
    rw [h8, if_pos (nI_le (Nat.le_refl p) (by omega))]
    exact ⟨_, rfl⟩
  | m + 1, p, f + 1, y, hp, hf => by
    have ih : ∀ y : Int32, ∃ r : Int32, l_X5_leastPacking_7 f (nI j, x, y, nI (p + 1), s, t) = some (r, s, t) := fun y => leastP_l hn hj h8 m (p + 1) f y (by omega) (by omega)
    show ∃ r : Int32, b_X5_leastPacking_7 (l_X5_leastPacking_7 f) (nI j) x y (nI p) s t = some (r, s, t)
    unfold b_X5_leastPacking_7
    obtain ⟨c, c1, c2⟩ := and_le j (by omega) (((1 : Int32) <<< (nI p &&& 31)) ^^^ ((-1) : Int32))
    rw [h8, if_neg (nI_ge (show p < n by omega) (by omega)), c2, rx256 (show c < 256 by omega), rx8 (show p < 8 by omega), nI_1]
    by_cases z : (nI j >>> (nI p &&& 31)) &&& (1 : Int32) = 0
    · rw [if_pos z]; exact ih _
    · rw [if_neg z, bs, bs]
      unfold j_X5_leastPacking_100
      rw [nI_1]
      split
      · exact ih _
      · exact ih _
theorem packc_l {t : TT} {n N : Nat} {x : Int32} (hn : n ≤ 8) (hN : N ≤ 256) (h1 : 1 ≤ N) : ∀ (m j f : Nat) (s : SS), j + m = N → m < f → s 1 8 = nI n → ∃ (r : Int32) (s' : SS), l_X5_packed_66 f (x, nI N, nI j, s, t) = some (r, s', t) ∧ ∀ c : Nat, c ≠ 50 → s' c = s c
  | 0, j, f + 1, s, hj, _, h8 => by
    have e : j = N := by omega
    subst e
    show ∃ (r : Int32) (s' : SS), b_X5_packed_66 (l_X5_packed_66 f) x (nI j) (nI j) s t = some (r, s', t) ∧ ∀ c : Nat, c ≠ 50 → s' c = s c
    unfold b_X5_packed_66
    rw [if_pos (nI_le (Nat.le_refl j) (by omega)), show nI j - (1 : Int32) = nI (j - 1) from nI_sub (b := 1) h1, rx256 (show j - 1 < 256 by omega)]
    exact ⟨_, _, rfl, fun _ _ => rfl⟩
  | m + 1, j, f + 1, s, hj, hf, h8 => by
    obtain ⟨r, e⟩ := leastP_l (t := t) (j := j) (x := x) hn (by omega) h8 n 0 300 9999 (by omega) (by omega)
    have e1 : f_X5_leastPacking (nI j) x s t = some (r, s, t) := e
    obtain ⟨r2, s2, g1, g2⟩ := packc_l (t := t) (x := x) hn hN h1 m (j + 1) f (up2 s 50 j r) (by omega) (by omega) (by rw [up2_o (by decide)]; exact h8)
    refine ⟨r2, s2, ?_, fun c hc => by rw [g2 c hc, up2_o hc]⟩
    show b_X5_packed_66 (l_X5_packed_66 f) x (nI N) (nI j) s t = _
    unfold b_X5_packed_66
    rw [if_neg (nI_ge (show j < N by omega) (by omega)), e1, bs, rx256 (show j < 256 by omega), bs, wr_e, nI_1]
    exact g1
theorem packc {t : TT} {n : Nat} {x : Int32} (hn : n ≤ 8) : ∀ (m p f : Nat) (s : SS), p + m = n → m < f → s 1 8 = nI n → ∃ (r : Int32) (s' : SS), l_X5_packed_14 f (x, nI p, s, t) = some (r, s', t) ∧ ∀ c : Nat, c ≠ 50 → s' c = s c
  | 0, p, f + 1, s, hp, _, h8 => by
    have e : p = n := by omega
    subst e
    show ∃ (r : Int32) (s' : SS), b_X5_packed_14 (l_X5_packed_14 f) x (nI p) s t = some (r, s', t) ∧ ∀ c : Nat, c ≠ 50 → s' c = s c
    obtain ⟨p1, p2, p3⟩ := shl_n p (by omega)
    have h8' : up2 s 50 0 x 1 8 = nI p := by rw [up2_o (by decide)]; exact h8
    obtain ⟨r, s', g1, g2⟩ := packc_l (t := t) (x := x) (N := 2 ^ p) hn p2 p3 (2 ^ p - 1) 1 300 (up2 s 50 0 x) (by omega) (by omega) h8'
    refine ⟨r, s', ?_, fun c hc => by rw [g2 c hc, up2_o hc]⟩
    unfold b_X5_packed_14
    rw [h8, if_pos (nI_le (Nat.le_refl p) (by omega)), show (0 : Int32) = nI 0 from rfl, rx256 (show 0 < 256 by omega), bs, wr_e, h8', p1]
    exact g1
  | m + 1, p, f + 1, s, hp, hf, h8 => by
    show ∃ (r : Int32) (s' : SS), b_X5_packed_14 (l_X5_packed_14 f) x (nI p) s t = some (r, s', t) ∧ ∀ c : Nat, c ≠ 50 → s' c = s c
    unfold b_X5_packed_14
    rw [h8, if_neg (nI_ge (show p < n by omega) (by omega)), rx8 (show p < 8 by omega), bs, nI_1]
    by_cases c : s 4 p ≤ x
    · rw [if_pos c]; exact packc (t := t) hn m (p + 1) f s (by omega) (by omega) h8
    · rw [if_neg c]; exact ⟨_, _, rfl, fun _ _ => rfl⟩
theorem thof_l {s : SS} {t : TT} {n : Nat} {x : Int32} (hn : n ≤ 8) (h6 : s 52 6 = nI n) : ∀ (m p f : Nat) (y : Int32), p + m = n → m < f → ∃ r : Int32, l_X6_thoughtOf_4 f (x, y, nI p, s, t) = some (r, s, t)
  | 0, p, f + 1, y, hp, _ => by
    have e : p = n := by omega
    subst e
    show ∃ r : Int32, b_X6_thoughtOf_4 (l_X6_thoughtOf_4 f) x y (nI p) s t = some (r, s, t)
    unfold b_X6_thoughtOf_4
    rw [rx56_6, bs, h6, if_pos (nI_le (Nat.le_refl p) (by omega))]
    exact ⟨_, rfl⟩
  | m + 1, p, f + 1, y, hp, hf => by
    have ih : ∀ y : Int32, ∃ r : Int32, l_X6_thoughtOf_4 f (x, y, nI (p + 1), s, t) = some (r, s, t) := fun y => thof_l hn h6 m (p + 1) f y (by omega) (by omega)
    show ∃ r : Int32, b_X6_thoughtOf_4 (l_X6_thoughtOf_4 f) x y (nI p) s t = some (r, s, t)
    unfold b_X6_thoughtOf_4 j_X6_thoughtOf_35
    rw [rx56_6, bs, h6, if_neg (nI_ge (show p < n by omega) (by omega)), its_1 (show p < 8 by omega), bs, nI_1]
    split
    · exact ih _
    · exact ih _
theorem packm_in {t : TT} {n N j : Nat} {x : Int32} {k67 : Int32 × Int32 × Int32 × SS × TT → Option (Int32 × SS × TT)} (hn : n ≤ 8) (hj : j < 256) (hK : ∀ s : SS, s 52 6 = nI n → ∃ (r : Int32) (s' : SS), k67 (x, nI N, nI (j + 1), s, t) = some (r, s', t) ∧ ∀ c : Nat, c ≠ 57 → s' c = s c) : ∀ (f i : Nat) (s : SS), i < f → i < 256 → s 52 6 = nI n → ∃ (r : Int32) (s' : SS), l_X6_packed_85 k67 f (x, nI N, nI j, nI i, s, t) = some (r, s', t) ∧ ∀ c : Nat, c ≠ 57 → s' c = s c
  | 0, i, s, hf, _, _ => by omega
  | f + 1, i, s, hf, hi, h6 => by
    show ∃ (r : Int32) (s' : SS), b_X6_packed_85 k67 (l_X6_packed_85 k67 f) x (nI N) (nI j) (nI i) s t = some (r, s', t) ∧ ∀ c : Nat, c ≠ 57 → s' c = s c
    unfold b_X6_packed_85 j_X6_packed_141
    by_cases z : i = 0
    · subst z
      rw [if_pos (by decide), nI_1]
      exact hK s h6
    · obtain ⟨r, e⟩ := thof_l (t := t) (x := nI i) hn h6 n 0 300 0 (by omega) (by omega)
      have e1 : f_X6_thoughtOf (nI i) s t = some (r, s, t) := e
      obtain ⟨c, c1, c2⟩ := and_le j (by omega) (nI i ^^^ ((-1) : Int32))
      obtain ⟨d, d1, d2⟩ := and_le (i - 1) (by omega) (nI j)
      have hs1 : nI i - (1 : Int32) = nI (i - 1) := nI_sub (b := 1) (by omega)
      rw [if_neg (nI_nle (by omega) (by omega)), e1, bs, c2, hs1, d2, rx256 (show c < 256 by omega), rx256 hj]
      have go : ∀ s1 : SS, (∀ c : Nat, c ≠ 57 → s1 c = s c) → ∃ (r : Int32) (s' : SS), l_X6_packed_85 k67 f (x, nI N, nI j, nI d, s1, t) = some (r, s', t) ∧ ∀ c : Nat, c ≠ 57 → s' c = s c := fun s1 h1 => by
        obtain ⟨r, s', g1, g2⟩ := packm_in (t := t) (x := x) hn hj hK f d s1 (by omega) (by omega) (by rw [h1 52 (by decide)]; exact h6)
        exact ⟨r, s', g1, fun c hc => (g2 c hc).trans (h1 c hc)⟩
      by_cases z1 : x < r
      · rw [if_pos z1]; exact go s (fun _ _ => rfl)
      · rw [if_neg z1, bs, bs]
        split
        · exact go s (fun _ _ => rfl)
        · rw [bs, bs, wr_e]; exact go _ (fun c hc => up2_o hc)
theorem packm_l {t : TT} {n N : Nat} {x : Int32} (hn : n ≤ 8) (hN : N < 256) : ∀ (m j f : Nat) (s : SS), j + m = N + 1 → m < f → s 52 6 = nI n → ∃ (r : Int32) (s' : SS), l_X6_packed_67 f (x, nI N, nI j, s, t) = some (r, s', t) ∧ ∀ c : Nat, c ≠ 57 → s' c = s c
  | 0, j, f + 1, s, hj, _, h6 => by
    show ∃ (r : Int32) (s' : SS), b_X6_packed_67 (l_X6_packed_67 f) x (nI N) (nI j) s t = some (r, s', t) ∧ ∀ c : Nat, c ≠ 57 → s' c = s c
    unfold b_X6_packed_67
    rw [if_pos (nI_lt (show N < j by omega) (by omega)), rx256 hN]
    exact ⟨_, _, rfl, fun _ _ => rfl⟩
  | m + 1, j, f + 1, s, hj, hf, h6 => by
    show ∃ (r : Int32) (s' : SS), b_X6_packed_67 (l_X6_packed_67 f) x (nI N) (nI j) s t = some (r, s', t) ∧ ∀ c : Nat, c ≠ 57 → s' c = s c
    unfold b_X6_packed_67
    rw [if_neg (nI_nlt (show j ≤ N by omega) (by omega)), m_ones (show j < 256 by omega), bs, rx256 (show j < 256 by omega), bs, wr_e]
    obtain ⟨r, s', g1, g2⟩ := packm_in (t := t) (N := N) (x := x) (k67 := l_X6_packed_67 f) hn (show j < 256 by omega) (fun s1 h1 => packm_l (t := t) hn hN m (j + 1) f s1 (by omega) (by omega) h1) 300 j (up2 s 57 j (nI (pc j))) (by omega) (by omega) (by rw [up2_o (by decide)]; exact h6)
    exact ⟨r, s', g1, fun c hc => by rw [g2 c hc, up2_o hc]⟩
theorem or_0 (a : Int32) : a ||| 0 = a := by
  apply Int32.toBitVec_inj.mp
  rw [Int32.toBitVec_or]
  exact BitVec.or_zero
theorem packm {t : TT} {n : Nat} {x : Int32} (hn : n ≤ 8) : ∀ (m p b f : Nat) (s : SS), p + m = n → m < f → b < 2 ^ p → s 52 6 = nI n → ∃ (r : Int32) (s' : SS), l_X6_packed_16 f (x, nI b, nI p, s, t) = some (r, s', t) ∧ ∀ c : Nat, c ≠ 57 → s' c = s c
  | 0, p, b, f + 1, s, hp, _, hb, h6 => by
    have e : p = n := by omega
    subst e
    show ∃ (r : Int32) (s' : SS), b_X6_packed_16 (l_X6_packed_16 f) x (nI b) (nI p) s t = some (r, s', t) ∧ ∀ c : Nat, c ≠ 57 → s' c = s c
    have h2 : 2 ^ p ≤ 2 ^ 8 := Nat.pow_le_pow_right (by decide) hn
    unfold b_X6_packed_16
    rw [rx56_6, bs, h6, if_pos (nI_le (Nat.le_refl p) (by omega))]
    exact packm_l (t := t) (N := b) (x := x) hn (by omega) (b + 1) 0 300 s (by omega) (by omega) h6
  | m + 1, p, b, f + 1, s, hp, hf, hb, h6 => by
    show ∃ (r : Int32) (s' : SS), b_X6_packed_16 (l_X6_packed_16 f) x (nI b) (nI p) s t = some (r, s', t) ∧ ∀ c : Nat, c ≠ 57 → s' c = s c
    have p8 : p < 8 := by omega
    have h2 : 2 ^ (p + 1) = 2 * 2 ^ p := by rw [Nat.pow_succ]; omega
    unfold b_X6_packed_16 j_X6_packed_57
    rw [rx56_6, bs, h6, if_neg (nI_ge (show p < n by omega) (by omega)), its_1 p8, bs, nI_1, or_0]
    by_cases c : s 52 (8 + 6 * p + 1) ≤ x
    · rw [if_pos c]
      dsimp only
      rw [its_1 p8, bs]
      by_cases d : s 52 (8 + 6 * p + 1) ≤ 0
      · rw [if_pos d]; exact packm (t := t) hn m (p + 1) b f s (by omega) (by omega) (by omega) h6
      · rw [if_neg d, or_bit p p8 b hb]; exact packm (t := t) hn m (p + 1) (b + 2 ^ p) f s (by omega) (by omega) (by omega) h6
    · rw [if_neg c]; exact ⟨_, _, rfl, fun _ _ => rfl⟩
theorem c_packed {s : SS} {t : TT} {n : Nat} {x : Int32} (hn : n ≤ 8) (hb : wi x 1 99 = true) (h8 : s 1 8 = nI n) : ∃ (r : Int32) (s' : SS), f_X5_packed x s t = some (r, s', t) ∧ ∀ c : Nat, c ≠ 50 → s' c = s c := by
  obtain ⟨r, s1, e1, f1⟩ := packc (t := t) (x := x) hn n 0 300 s (by omega) (by omega) h8
  refine ⟨r, s1, ?_, f1⟩
  simp only [f_X5_packed, c_isWithin, bs, b2_z, hb, Bool.true_eq_false, if_false]
  rw [← e1, nI_k0]
theorem m_packed {s : SS} {t : TT} {n : Nat} {x : Int32} (hn : n ≤ 8) (hb : wi x 1 99 = true) (h6 : s 52 6 = nI n) : ∃ (r : Int32) (s' : SS), f_X6_packed x s t = some (r, s', t) ∧ ∀ c : Nat, c ≠ 57 → s' c = s c := by
  have hf : ∀ L : Int32 × Int32 × Int32 × SS × TT → Option (Int32 × SS × TT), l_X6_packed_16 300 = L → f_X6_packed x s t = L (x, nI 0, nI 0, s, t) := by
    intro L hL
    unfold f_X6_packed
    rw [hL]
    simp only [m_in, bs, b2_z, hb, Bool.true_eq_false, if_false]
    rfl
  obtain ⟨L, hL⟩ : ∃ L, l_X6_packed_16 300 = L := ⟨_, rfl⟩
  have h1 := packm (t := t) (x := x) hn n 0 0 300 s (Nat.zero_add n) (by omega) (Nat.one_pos) h6
  rw [hL] at h1
  obtain ⟨r, s1, e1, f1⟩ := h1
  exact ⟨r, s1, (hf L hL).trans e1, f1⟩
theorem s_packed {s : SS} {t : TT} {W : Nat} (x : Int32) (h : Rel s t W) : Sim0 (f_X5_packed x) (f_X6_packed x) s t W := by
  obtain ⟨⟨n, hw, hr⟩, -, -, -, -, -, -, h0⟩ := id h
  have h8 : s 1 8 = nI n := hr.1
  have hn := hw.1
  cases hb : wi x 1 99 with
  | false => exact (Sim.of h (-1) (by simp only [f_X5_packed, c_isWithin, bs, b2_z, hb, if_true]) (by simp only [f_X6_packed, m_in, bs, b2_z, hb, if_true])).weak
  | true =>
  obtain ⟨r, s1, e1, f1⟩ := c_packed (t := t) (x := x) hn hb h8
  obtain ⟨r', s2, e2, f2⟩ := m_packed (s := s1) (t := t) (x := x) hn hb (by rw [f1 52 (by decide)]; exact hw.2.1)
  exact ⟨r, r', s1, s2, t, t, e1, e2, (h.tr ⟨fun c c1 c2 c3 c4 c5 c6 => by rw [f2 c c3, f1 c c5], fun k hk => by rw [f2 52 (by decide), f1 52 (by decide)]⟩).more (by omega)⟩
