/-! fits and fewest: each side runs -/
theorem told_l {t : TT} {o n z : Nat} (ho : o < 19 ∨ 27 < o) (hz : z ≤ 40) (hn : n ≤ 8) : ∀ (m j f V : Nat) (x : Int32) (s : SS) (w : RR), j + m = z → m < f → V + m < 2 ^ 30 → s o 2 = nI z → RW s 19 w n → OKw w n V → ∃ (r : Int32) (s' : SS), l_X5_isTold_20 o f (x, nI j, s, t) = some (r, s', t) ∧ Fr 19 s s'
  | 0, j, f + 1, V, x, s, w, hj, _, _, h2, _, _ => by
    have e : j = z := by omega
    subst e
    refine ⟨1, s, ?_, Fr.rf⟩
    show b_X5_isTold_20 o (l_X5_isTold_20 o f) x (nI j) s t = _
    unfold b_X5_isTold_20
    rw [h2, if_pos (nI_le (Nat.le_refl j) (by omega))]
  | m + 1, j, f + 1, V, x, s, w, hj, hf, hV, h2, hr, hw => by
    obtain ⟨s1, e1, f1, r1⟩ := c_passWeek (t := t) (may := 255) (left := 0) (show V < 2 ^ 31 by omega) hr hw (May.all hn)
    have r40 : rx 40 (nI j) = some j := rx_n (by omega) (by decide)
    obtain ⟨r, s2, e2, f2⟩ := told_l (t := t) ho hz hn m (j + 1) f (V + 1) (x + (R_week 0 n w).1) s1 _ (by omega) (by omega) (by omega) (by rw [f1 o (by omega)]; exact h2) r1 (R_week_ok hw)
    show ∃ (r : Int32) (s' : SS), b_X5_isTold_20 o (l_X5_isTold_20 o f) x (nI j) s t = some (r, s', t) ∧ Fr 19 s s'
    unfold b_X5_isTold_20
    rw [h2, if_neg (nI_ge (show j < z by omega) (by omega)), e1, bs, r40, bs, nI_1]
    by_cases c : lg_cmp (t (o + 1) j) (-1) = 0
    · rw [if_pos c]; exact ⟨r, s2, e2, f1.tr f2⟩
    · rw [if_neg c, bs]
      by_cases d : lg_cmp (t (o + 1) j) (Int32.toInt64 (x + (R_week 0 n w).1)) = 0
      · rw [if_pos d]; exact ⟨r, s2, e2, f1.tr f2⟩
      · rw [if_neg d]; exact ⟨_, _, rfl, f1⟩
theorem fits_l {t : TT} {o n W z p : Nat} {w : RR} {y : Int32} (ho : o < 19 ∨ 27 < o) (hz : z ≤ 40) (hp : p < n) (hW : W < 2 ^ 29) (hw : OKw w n W) : ∀ (m j f : Nat) (a b : Int32) (s : SS), j + m = 100 → m < f → s o 2 = nI z → RW s 1 w n → ∃ (r : Int32) (s' : SS), l_X5_fits_59 f (nI p, y, o, a, b, nI j, s, t) = some (r, s', t) ∧ Fr 19 s s'
  | 0, j, f + 1, a, b, s, hj, _, h2, hr => by
    have e : j = 100 := by omega
    subst e
    show ∃ (r : Int32) (s' : SS), b_X5_fits_59 (l_X5_fits_59 f) (nI p) y o a b (nI 100) s t = some (r, s', t) ∧ Fr 19 s s'
    unfold b_X5_fits_59
    rw [if_pos (show (99 : Int32) < nI 100 by decide)]
    by_cases c : y = 0
    · rw [if_pos c]; exact ⟨_, _, rfl, Fr.rf⟩
    · rw [if_neg c]; exact ⟨_, _, rfl, Fr.rf⟩
  | m + 1, j, f + 1, a, b, s, hj, hf, h2, hr => by
    have hn := hw.1
    have hp8 : p < 8 := by omega
    have c0 : ¬ (99 : Int32) < nI j := nI_nlt (b := j) (a := 99) (by omega) (by decide)
    obtain ⟨s1, e1, f1, r1⟩ := c_trial (t := t) hr
    have f1' := f1.up (c := 22) (i := p) (v := nI j) ⟨by omega, by omega⟩
    obtain ⟨q, s2, e2, f2⟩ := told_l (t := t) ho hz hn z 0 300 W 0 (up2 s1 22 p (nI j)) _ (by omega) (by omega) (by omega) (by rw [f1' o (by omega)]; exact h2) (r1.set1 (p := p) (x := nI j)) (hw.set (p := p) (j := 1) (by omega) (show bd 99 (nI j) from bd_n (by omega)))
    have e3 : f_X5_isTold o (nI p) (nI j) s t = some (q, s2, t) := by
      simp only [f_X5_isTold, e1, bs, rx8 hp8, wr_e]
      exact e2
    have hF := f1'.tr f2
    have go : ∀ a b : Int32, ∃ (r : Int32) (s' : SS), l_X5_fits_59 f (nI p, y, o, a, b, nI (j + 1), s2, t) = some (r, s', t) ∧ Fr 19 s s' := fun a b => by
      obtain ⟨r, s', g1, g2⟩ := fits_l (t := t) (y := y) ho hz hp hW hw m (j + 1) f a b s2 (by omega) (by omega) (by rw [hF o (by omega)]; exact h2) (hr.fr (fun c c1 c2 => hF c (by omega)))
      exact ⟨r, s', g1, hF.tr g2⟩
    show ∃ (r : Int32) (s' : SS), b_X5_fits_59 (l_X5_fits_59 f) (nI p) y o a b (nI j) s t = some (r, s', t) ∧ Fr 19 s s'
    unfold b_X5_fits_59 j_X5_fits_90
    rw [if_neg c0, e3, bs, nI_1]
    by_cases d : q = 0
    · rw [if_pos d]; exact go a b
    · rw [if_neg d]
      by_cases d2 : a = 0
      · rw [if_pos d2]; exact go _ _
      · rw [if_neg d2]; exact go _ _
theorem so_l {t : TT} {n z q : Nat} (hq : q < 4) (hz : z ≤ 40) : ∀ (m j f V : Nat) (x y : Int32) (s : SS), j + m = z → m < f → V + m < 2 ^ 30 → (x = 0 ∨ x = 1) → s 61 q = nI z → OKw (s 52) n V → ∃ (r : Int32) (s' : SS), l_X6_isSo_7 f (nI q, x, y, nI j, s, t) = some (r, s', t) ∧ MB s s' := by
  have hend : ∀ (x : Int32) (s : SS), (x = 0 ∨ x = 1) → ∃ (r : Int32) (s' : SS), j_X6_isSo_78 x s t = some (r, s', t) ∧ MB s s' := fun x s hx => by
    unfold j_X6_isSo_78
    rw [m_moveAll (show 55 ≠ 52 by decide), bs, if_pos (by rcases hx with rfl | rfl <;> rfl)]
    exact ⟨_, _, rfl, fun c hc => cp2_n hc, fun k hk => by show cp2 s 52 (mv (s 55) (s 52)) 52 k = s 55 k; rw [cp2_s, mv_at hk]⟩
  intro m
  induction m with
  | zero =>
    intro j f V x y s hj hf hV hx h2 hw
    obtain ⟨f, rfl⟩ : ∃ f' : Nat, f = f' + 1 := ⟨f - 1, by omega⟩
    have e : j = z := by omega
    subst e
    show ∃ (r : Int32) (s' : SS), b_X6_isSo_7 (l_X6_isSo_7 f) (nI q) x y (nI j) s t = some (r, s', t) ∧ MB s s'
    unfold b_X6_isSo_7
    rw [rx4 hq, bs, h2, if_pos (nI_le (Nat.le_refl j) (by omega))]
    exact hend x s hx
  | succ m ih =>
    intro j f V x y s hj hf hV hx h2 hw
    obtain ⟨f, rfl⟩ : ∃ f' : Nat, f = f' + 1 := ⟨f - 1, by omega⟩
    show ∃ (r : Int32) (s' : SS), b_X6_isSo_7 (l_X6_isSo_7 f) (nI q) x y (nI j) s t = some (r, s', t) ∧ MB s s'
    unfold b_X6_isSo_7 j_X6_isSo_66
    rw [rx4 hq, bs, h2, if_neg (nI_ge (show j < z by omega) (by omega))]
    by_cases c : x = 0
    · rw [if_pos c]; exact hend x s hx
    · rw [if_neg c]
      have e4 := m_weekGoes (s := s) (t := t) hw
      rw [cp2_i] at e4
      have e5 : (40 : Int32) * nI q + nI j = nI (40 * q + j) := by rw [show (40 : Int32) = nI 40 from rfl, nI_mul, nI_add]
      rw [e4, bs, e5, (rx_n (show 40 * q + j < 160 by omega) (by decide) : rx 160 (nI (40 * q + j)) = some (40 * q + j)), bs, nI_1]
      have go : ∀ x y : Int32, (x = 0 ∨ x = 1) → ∃ (r : Int32) (s' : SS), l_X6_isSo_7 f (nI q, x, y, nI (j + 1), cp2 s 52 (R_week (s 51 5) n (s 52)).2, t) = some (r, s', t) ∧ MB s s' := fun x y hx => by
        obtain ⟨r, s', g1, g2, g3⟩ := ih (j + 1) f (V + 1) x y (cp2 s 52 (R_week (s 51 5) n (s 52)).2) (by omega) (by omega) (by omega) hx (by rw [cp2_n (by decide)]; exact h2) (by rw [cp2_s]; exact R_week_ok hw)
        exact ⟨r, s', g1, fun c hc => by rw [g2 c hc, cp2_n hc], fun k hk => by rw [g3 k hk, cp2_n (by decide)]⟩
      by_cases c1 : lg_cmp (t 62 (40 * q + j)) (-1) = 0
      · rw [if_pos c1]; exact go 1 _ (Or.inr rfl)
      · rw [if_neg c1, bs]
        by_cases c2 : lg_cmp (t 62 (40 * q + j)) (Int32.toInt64 (y + (R_week (s 51 5) n (s 52)).1)) = 0
        · rw [if_pos c2]; exact go 1 _ (Or.inr rfl)
        · rw [if_neg c2]; exact go 0 _ (Or.inl rfl)
theorem mfits_l {t : TT} {n W z p q : Nat} {y : Int32} {w : RR} (hq : q < 4) (hz : z ≤ 40) (hp : p < n) (hW : W < 2 ^ 29) (hw : OKw w n W) : ∀ (m f : Nat) (a b : Int32) (s : SS), m ≤ 100 → m < f → s 61 q = nI z → (∀ k : Nat, k < 56 → s 55 k = w k) → (∀ k : Nat, k < 56 → s 52 k = w k) → ∃ (r : Int32) (s' : SS), l_X6_fits_60 f (nI q, nI p, y, a, b, nI m - 1, s, t) = some (r, s', t) ∧ MB s s'
  | 0, f + 1, a, b, s, _, _, h2, h55, h52 => by
    show ∃ (r : Int32) (s' : SS), b_X6_fits_60 (l_X6_fits_60 f) (nI q) (nI p) y a b (nI 0 - 1) s t = some (r, s', t) ∧ MB s s'
    have hb : MB s s := ⟨fun _ _ => rfl, fun k hk => by rw [h55 k hk, h52 k hk]⟩
    unfold b_X6_fits_60
    rw [if_pos (show nI 0 - 1 < (0 : Int32) by decide)]
    by_cases c : y = 0
    · rw [if_pos c]; exact ⟨_, _, rfl, hb⟩
    · rw [if_neg c]; exact ⟨_, _, rfl, hb⟩
  | m + 1, f + 1, a, b, s, hm, hf, h2, h55, h52 => by
    have hn := hw.1
    have hp8 : p < 8 := by omega
    have hws : OKw (s 52) n W := hw.cg h52
    obtain ⟨r1, s1, e1, g1, g2⟩ := so_l (t := t) (n := n) hq hz z 0 300 W 1 0 (cp2 s 52 (uw (s 52) (8 + 6 * p + 1) (nI m))) (by omega) (by omega) (by omega) (Or.inr rfl) (by rw [cp2_n (by decide)]; exact h2) (by rw [cp2_s]; exact hws.set (p := p) (j := 1) (by omega) (show bd 99 (nI m) from bd_n (by omega)))
    have e2 : f_X6_isSo (nI q) (cp2 s 52 (uw (s 52) (8 + 6 * p + 1) (nI m))) t = some (r1, s1, t) := e1
    have hb : MB s s1 := ⟨fun c hc => by rw [g1 c hc, cp2_n hc], fun k hk => by rw [g2 k hk, cp2_n (by decide)]⟩
    have go : ∀ a b : Int32, ∃ (r : Int32) (s' : SS), l_X6_fits_60 f (nI q, nI p, y, a, b, nI m + -1, s1, t) = some (r, s', t) ∧ MB s s' := fun a b => by
      obtain ⟨r, s', k1, k2, k3⟩ := mfits_l (t := t) (y := y) (q := q) hq hz hp hW hw m f a b s1 (by omega) (by omega) (by rw [hb.1 61 (by decide)]; exact h2) (fun k hk => by rw [hb.1 55 (by decide)]; exact h55 k hk) (fun k hk => by rw [hb.2 k hk]; exact h55 k hk)
      exact ⟨r, s', by rw [← Int32.sub_eq_add_neg]; exact k1, fun c hc => (k2 c hc).trans (hb.1 c hc), fun k hk => by rw [k3 k hk, hb.1 55 (by decide)]⟩
    show ∃ (r : Int32) (s' : SS), b_X6_fits_60 (l_X6_fits_60 f) (nI q) (nI p) y a b (nI (m + 1) - 1) s t = some (r, s', t) ∧ MB s s'
    unfold b_X6_fits_60 j_X6_fits_92
    rw [nI_pred, if_neg (nI_pos (show m < 2 ^ 31 by omega)), sets_1 hp8, bs, e2, bs]
    by_cases c : r1 = 0
    · rw [if_pos c]
      first | (rw [if_pos c]; exact go _ _)
    · rw [if_neg c]
      first | (rw [if_neg c]; exact go _ _)
theorem s_fits {s : SS} {t : TT} {W : Nat} (hW : W < 2 ^ 29) (x y z : Int32) (h : Rel s t W) : Sim0 (f_X5_fits x y z) (f_X6_fits x y z) s t W := by
  obtain ⟨⟨n, hw, hr⟩, -, -, -, hsh, -, -, h0⟩ := id h
  have h8 : s 1 8 = nI n := hr.1
  have h6 := hw.2.1
  cases ha : wi x 0 3 with
  | false => exact (Sim.of h (-1) (by simp only [f_X5_fits, c_isPlace, bs, b2_z, ha, if_true]) (by simp only [f_X6_fits, m_isShelf, bs, b2_z, ha, if_true])).weak
  | true =>
  obtain ⟨q, hq, rfl⟩ := wi_two (n := 3) (by decide) ha
  have hq4 : q < 4 := by omega
  cases hb : wi y 0 (nI n - 1) with
  | false => exact (Sim.of h (-1) (by simp only [f_X5_fits, c_isPlace, c_has, h8, bs, b2_z, ha, hb, Bool.true_eq_false, if_false, if_true]) (by simp only [f_X6_fits, m_isShelf, m_isOne, h6, bs, b2_z, ha, hb, Bool.true_eq_false, if_false, if_true])).weak
  | true =>
  obtain ⟨p, hp, rfl⟩ := wi_one hw.1 hb
  cases hc : wi z 0 1 with
  | false => exact (Sim.of h (-1) (by simp only [f_X5_fits, c_isPlace, c_has, c_isWithin, h8, bs, b2_z, ha, hb, hc, Bool.true_eq_false, if_false, if_true]) (by simp only [f_X6_fits, m_isShelf, m_isOne, m_in, h6, bs, b2_z, ha, hb, hc, Bool.true_eq_false, if_false, if_true])).weak
  | true =>
  rcases hsh q hq4 with ⟨u1, u2⟩ | ⟨k, k3, u1, u2, sz, z40, u3, u4, u5⟩
  · exact (Sim.of h (-11) (by simp only [f_X5_fits, c_isPlace, c_has, c_isWithin, h8, bs, b2_z, ha, hb, hc, Bool.true_eq_false, if_false, rx4 hq4, wr_e, u1, if_true]) (by simp only [f_X6_fits, m_isShelf, m_isOne, m_in, h6, bs, b2_z, ha, hb, hc, Bool.true_eq_false, if_false, rx4 hq4, u2, show ¬ (0 : Int32) ≤ -1 by decide])).weak
  · obtain ⟨r, s1, e1, f1⟩ := fits_l (t := t) (o := 37 + 3 * q) (y := z) (p := p) (by omega) z40 hp hW hw 100 0 300 0 (-3) s (by omega) (by omega) u3 hr
    have g52 : s1 52 = s 52 := f1 52 (by omega)
    have g51 : s1 51 = s 51 := f1 51 (by omega)
    have g60 : s1 60 = s 60 := f1 60 (by omega)
    have g61 : s1 61 = s 61 := f1 61 (by omega)
    obtain ⟨sM1, e2, m1, q51, q52, q55⟩ := m_start (sM := s1) (t := t)
    obtain ⟨r', sM2, e3, m2⟩ := mfits_l (t := t) (q := q) (y := z) (p := p) hq4 z40 hp hW hw 100 300 0 (-3) sM1 (by omega) (by omega) (by rw [m1.1 61 (by decide) (by decide) (by decide) (by decide) (by decide), g61]; exact u4) (fun j hj => by rw [q55 j hj, q52, g52]) (fun j _ => by rw [q52, g52])
    have m5 : MF sM1 sM2 := ⟨fun c _ c2 _ _ _ => m2.1 c c2, fun i _ => by rw [m2.1 51 (by decide)], fun k hk => by rw [m2.2 k hk, q55 k hk]⟩
    have nk : ¬ nI k = -1 := fun e => m1n k (by omega) e.symm
    have pk : (0 : Int32) ≤ nI k := nI_pos' (by omega)
    refine ⟨r, r', s1, sM2, t, t, ?_, ?_, (h.tr (Tr.of f1.fc (m1.tr m5) h0 (by rw [m2.1 51 (by decide), q51, g51]; exact h0))).more (by omega)⟩
    · simp only [f_X5_fits, c_isPlace, c_has, c_isWithin, h8, bs, b2_z, ha, hb, hc, Bool.true_eq_false, if_false, rx4 hq4, wr_e, u1, nk]
      exact e1
    · simp only [f_X6_fits, m_isShelf, m_isOne, m_in, g52, g60, h6, bs, b2_z, ha, hb, hc, Bool.true_eq_false, if_false, rx4 hq4, u2, pk, if_true, e2]
      exact e3
