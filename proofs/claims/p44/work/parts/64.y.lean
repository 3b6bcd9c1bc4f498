/-! fewest and packed: each side runs -/
theorem shl_n : ∀ n : Nat, n < 9 → (1 : Int32) <<< (nI n &&& 31) = nI (2 ^ n) ∧ 2 ^ n ≤ 256 ∧ 1 ≤ 2 ^ n := by decide +kernel
theorem may_c : ∀ j : Nat, j < 256 → ∀ p : Nat, p < 8 → (((nI j >>> (nI p &&& 31)) &&& 1 = 0) ↔ ¬ ((nI (255 - j) >>> (nI p &&& 31)) &&& 1 = 0)) := by decide +kernel
theorem few_in {t : TT} {n W k N c : Nat} {y : Int32} {w : RR} {k36 : Int32 × Int32 × Int32 × Int32 × SS × TT → Option (Int32 × SS × TT)} (hk : k ≤ 60) (hW : W < 2 ^ 29) (hw : OKw w n W) (hN : N ≤ 256) (hK : ∀ s : SS, RW s 1 w n → ∃ (r : Int32) (s' : SS), k36 (nI k, y, nI N, nI (c + 1), s, t) = some (r, s', t) ∧ Fr 19 s s') : ∀ (m j f : Nat) (s : SS), j + m = N → m < f → RW s 1 w n → ∃ (r : Int32) (s' : SS), l_X5_fewest_51 k36 f (nI k, y, nI N, nI c, nI j, s, t) = some (r, s', t) ∧ Fr 19 s s'
  | 0, j, f + 1, s, hj, _, hr => by
    have e : j = N := by omega
    subst e
    show ∃ (r : Int32) (s' : SS), b_X5_fewest_51 k36 (l_X5_fewest_51 k36 f) (nI k) y (nI j) (nI c) (nI j) s t = some (r, s', t) ∧ Fr 19 s s'
    unfold b_X5_fewest_51
    rw [if_pos (nI_le (Nat.le_refl j) (by omega)), nI_1]
    exact hK s hr
  | m + 1, j, f + 1, s, hj, hf, hr => by
    show ∃ (r : Int32) (s' : SS), b_X5_fewest_51 k36 (l_X5_fewest_51 k36 f) (nI k) y (nI N) (nI c) (nI j) s t = some (r, s', t) ∧ Fr 19 s s'
    unfold b_X5_fewest_51
    rw [if_neg (nI_ge (show j < N by omega) (by omega)), c_bitCount (show j < 256 by omega), bs, nI_1]
    by_cases d : nI (pc j) = nI c
    · obtain ⟨s1, e1, f1, r1⟩ := c_trial (t := t) hr
      obtain ⟨s2, e2, f2, -⟩ := c_wordsBy (t := t) (k := k) (may := nI j) (left := nI (255 - j)) (by omega) (by omega) hw (fun p hp => may_c j (by omega) p (by have := hw.1; omega)) r1
      rw [if_pos d, e1, bs, e2, bs]
      by_cases z : (R_wl (nI (255 - j)) n w k).1 < y
      · rw [if_pos z]
        obtain ⟨r, s3, e3, f3⟩ := few_in (t := t) hk hW hw hN hK m (j + 1) f s2 (by omega) (by omega) (hr.fr (fun c c1 c2 => (f1.tr f2) c (by omega)))
        exact ⟨r, s3, e3, (f1.tr f2).tr f3⟩
      · rw [if_neg z]; exact ⟨_, _, rfl, f1.tr f2⟩
    · rw [if_neg d]
      exact few_in (t := t) hk hW hw hN hK m (j + 1) f s (by omega) (by omega) hr
theorem few_out {t : TT} {n W k N : Nat} {y : Int32} {w : RR} (hk : k ≤ 60) (hW : W < 2 ^ 29) (hw : OKw w n W) (hN : N ≤ 256) : ∀ (m c f : Nat) (s : SS), c + m = n + 1 → m < f → RW s 1 w n → ∃ (r : Int32) (s' : SS), l_X5_fewest_36 f (nI k, y, nI N, nI c, s, t) = some (r, s', t) ∧ Fr 19 s s'
  | 0, c, f + 1, s, hj, _, hr => by
    have hn := hw.1
    show ∃ (r : Int32) (s' : SS), b_X5_fewest_36 (l_X5_fewest_36 f) (nI k) y (nI N) (nI c) s t = some (r, s', t) ∧ Fr 19 s s'
    unfold b_X5_fewest_36
    rw [hr.1, if_pos (nI_lt (show n < c by omega) (by omega))]
    exact ⟨_, _, rfl, Fr.rf⟩
  | m + 1, c, f + 1, s, hj, hf, hr => by
    have hn := hw.1
    show ∃ (r : Int32) (s' : SS), b_X5_fewest_36 (l_X5_fewest_36 f) (nI k) y (nI N) (nI c) s t = some (r, s', t) ∧ Fr 19 s s'
    unfold b_X5_fewest_36
    rw [hr.1, if_neg (nI_nlt (show c ≤ n by omega) (by omega))]
    exact few_in (t := t) (k36 := l_X5_fewest_36 f) hk hW hw hN (fun s1 h1 => few_out (t := t) hk hW hw hN m (c + 1) f s1 (by omega) (by omega) h1) N 0 300 s (by omega) (by omega) hr
def MG (w : RR) (s s' : SS) : Prop := (∀ c : Nat, c ≠ 51 → c ≠ 52 → s' c = s c) ∧ (∀ i : Nat, i ≠ 5 → s' 51 i = s 51 i) ∧ ∀ k : Nat, k < 56 → s' 52 k = w k
theorem MG.tr {w : RR} {s s' s'' : SS} (h : MG w s s') (g : MG w s' s'') : MG w s s'' := ⟨fun c a b => (g.1 c a b).trans (h.1 c a b), fun i a => (g.2.1 i a).trans (h.2.1 i a), g.2.2⟩
theorem mfew_l {t : TT} {n W k N : Nat} {y : Int32} {w : RR} (hk : k ≤ 60) (hW : W < 2 ^ 29) (hw : OKw w n W) (hN : N < 256) : ∀ (m j f : Nat) (x : Int32) (s : SS), j + m = N + 1 → m < f → (x = -1 ∨ ∃ b : Nat, b < 256 ∧ x = nI b) → (∀ q : Nat, q < 56 → s 55 q = w q) → (∀ q : Nat, q < 56 → s 52 q = w q) → ∃ (r : Int32) (s' : SS), l_X6_fewest_52 f (nI k, y, x, nI N, nI j, s, t) = some (r, s', t) ∧ MG w s s' ∧ s' 51 5 = 0
  | 0, j, f + 1, x, s, hj, _, hx, h55, h52 => by
    show ∃ (r : Int32) (s' : SS), b_X6_fewest_52 (l_X6_fewest_52 f) (nI k) y x (nI N) (nI j) s t = some (r, s', t) ∧ MG w s s' ∧ s' 51 5 = 0
    unfold b_X6_fewest_52
    rw [if_pos (nI_lt (show N < j by omega) (by omega)), wr_e]
    have hb : MG w s (up2 s 51 5 0) ∧ up2 s 51 5 0 51 5 = 0 := ⟨⟨fun c a b => up2_o a, fun i hi => by rw [up2_r, if_neg (fun z => hi z.2)], fun q hq => by rw [up2_o (by decide)]; exact h52 q hq⟩, by rw [up2_r, if_pos ⟨rfl, rfl⟩]⟩
    by_cases c : 0 ≤ x
    · rw [if_pos c]; exact ⟨_, _, rfl, hb⟩
    · rw [if_neg c]; exact ⟨_, _, rfl, hb⟩
  | m + 1, j, f + 1, x, s, hj, hf, hx, h55, h52 => by
    show ∃ (r : Int32) (s' : SS), b_X6_fewest_52 (l_X6_fewest_52 f) (nI k) y x (nI N) (nI j) s t = some (r, s', t) ∧ MG w s s' ∧ s' 51 5 = 0
    have hj75 : ∃ (r : Int32) (s' : SS), j_X6_fewest_75 (l_X6_fewest_52 f) (nI k) y x (nI N) (nI j) s t = some (r, s', t) ∧ MG w s s' ∧ s' 51 5 = 0 := by
      obtain ⟨v, hv⟩ : ∃ v : Int32, v = nI N &&& (nI j ^^^ (-1 : Int32)) := ⟨_, rfl⟩
      have ok : OKw (up2 s 51 5 v 52) n W := by rw [up2_o (by decide)]; exact hw.cg h52
      have e := m_wordsBehind (s := up2 s 51 5 v) (t := t) (k := k) (by omega) ok
      rw [cp2_i] at e
      unfold j_X6_fewest_75
      rw [← hv, wr_e, e, bs, nI_1]
      have hb : MG w s (cp2 (up2 s 51 5 v) 52 (mv (up2 s 51 5 v 55) (R_wl (up2 s 51 5 v 51 5) n (up2 s 51 5 v 52) k).2)) := ⟨fun c a b => by rw [cp2_n b, up2_o a], fun i hi => by rw [cp2_n (by decide), up2_r, if_neg (fun z => hi z.2)], fun q hq => by rw [cp2_s, mv_at hq, up2_o (by decide)]; exact h55 q hq⟩
      have go : ∀ x : Int32, (x = -1 ∨ ∃ b : Nat, b < 256 ∧ x = nI b) → ∃ (r : Int32) (s' : SS), l_X6_fewest_52 f (nI k, y, x, nI N, nI (j + 1), cp2 (up2 s 51 5 v) 52 (mv (up2 s 51 5 v 55) (R_wl (up2 s 51 5 v 51 5) n (up2 s 51 5 v 52) k).2), t) = some (r, s', t) ∧ MG w s s' ∧ s' 51 5 = 0 := fun x hx => by
        obtain ⟨r, s', g1, g2, g3⟩ := mfew_l (t := t) (y := y) hk hW hw hN m (j + 1) f x _ (by omega) (by omega) hx (fun q hq => by rw [hb.1 55 (by decide) (by decide)]; exact h55 q hq) hb.2.2
        exact ⟨r, s', g1, hb.tr g2, g3⟩
      by_cases z : (R_wl (up2 s 51 5 v 51 5) n (up2 s 51 5 v 52) k).1 < y
      · rw [if_pos z]; exact go x hx
      · rw [if_neg z]; exact go _ (Or.inr ⟨j, by omega, rfl⟩)
    unfold b_X6_fewest_52
    rw [if_neg (nI_nlt (show j ≤ N by omega) (by omega))]
    rcases hx with rfl | ⟨b, hb, rfl⟩
    · rw [if_pos (by decide)]; exact hj75
    · rw [if_neg (nI_pos (by omega)), m_ones (show j < 256 by omega), bs, m_ones hb, bs, nI_1]
      by_cases z : nI (pc b) ≤ nI (pc j)
      · rw [if_pos z]
        exact mfew_l (t := t) (y := y) hk hW hw hN m (j + 1) f (nI b) s (by omega) (by omega) (Or.inr ⟨b, hb, rfl⟩) h55 h52
      · rw [if_neg z]; exact hj75
theorem s_fewest {s : SS} {t : TT} {W : Nat} (hW : W < 2 ^ 29) (x y : Int32) (h : Rel s t W) : Sim0 (f_X5_fewest x y) (f_X6_fewest x y) s t W := by
  obtain ⟨⟨n, hw, hr⟩, -, -, -, -, -, -, h0⟩ := id h
  have h8 : s 1 8 = nI n := hr.1
  have hn := hw.1
  cases hb : wi x 1 10 with
  | false => exact (Sim.of h (-1) (by simp only [f_X5_fewest, c_isWithin, bs, b2_z, hb, if_true]) (by simp only [f_X6_fewest, m_in, bs, b2_z, hb, if_true])).weak
  | true =>
  cases hc : wi y 0 9999 with
  | false => exact (Sim.of h (-1) (by simp only [f_X5_fewest, c_isWithin, bs, b2_z, hb, hc, Bool.true_eq_false, if_false, if_true]) (by simp only [f_X6_fewest, m_in, bs, b2_z, hb, hc, Bool.true_eq_false, if_false, if_true])).weak
  | true =>
  obtain ⟨k, hk1, hk, rfl⟩ := wi_fr1 (n := 10) (by decide) hb
  obtain ⟨p1, p2, p3⟩ := shl_n n (by omega)
  obtain ⟨r, s1, e1, f1⟩ := few_out (t := t) (k := k) (y := y) (by omega) hW hw p2 (n + 1) 0 300 s (by omega) (by omega) hr
  have g52 : s1 52 = s 52 := f1 52 (by omega)
  have g51 : s1 51 = s 51 := f1 51 (by omega)
  obtain ⟨sM1, e2, m1, q51, q52, q55⟩ := m_start (sM := s1) (t := t)
  have k55 : ∀ q : Nat, q < 56 → sM1 55 q = s 52 q := fun q hq => by rw [q55 q hq, q52, g52]
  obtain ⟨r', sM2, e3, m2, m3⟩ := mfew_l (t := t) (k := k) (y := y) (N := 2 ^ n - 1) (by omega) hW hw (by omega) (2 ^ n) 0 300 (-1) sM1 (by omega) (by omega) (Or.inl rfl) k55 (fun q _ => by rw [q52, g52])
  have m5 : MF sM1 sM2 := ⟨fun c c1 c2 _ _ _ => m2.1 c c1 c2, m2.2.1, fun k hk => by rw [m2.2.2 k hk, q52, g52]⟩
  refine ⟨r, r', s1, sM2, t, t, ?_, ?_, (h.tr (Tr.of f1.fc (m1.tr m5) h0 m3)).more (by omega)⟩
  · simp only [f_X5_fewest, c_isWithin, bs, b2_z, hb, hc, Bool.true_eq_false, if_false, h8, p1]
    exact e1
  · have e6 : sM1 52 6 = nI n := by rw [q52, g52]; exact hw.2.1
    have e7 : nI (2 ^ n) - (1 : Int32) = nI (2 ^ n - 1) := nI_sub (b := 1) p3
    simp only [f_X6_fewest, m_in, bs, b2_z, hb, hc, Bool.true_eq_false, if_false, e2, rx56_6, e6, p1, e7]
    exact e3
