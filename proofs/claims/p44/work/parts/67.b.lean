/-! fits: both loops count alike -/
theorem fitsR {t : TT} {o n W z p C : Nat} {w : RR} {y D : Int32} {T : Nat → Bool} (hCe : C = cn T 100) (hDe : D = fm T 100) (ho : o < 19 ∨ 27 < o) (hz : z ≤ 40) (hp : p < n) (hW : W < 2 ^ 29) (hw : OKw w n W) (hT : ∀ j : Nat, j < 100 → T j = tol (t (o + 1)) n z 0 0 (uw w (8 + 6 * p + 1) (nI j))) : ∀ (m j f : Nat) (s : SS), j + m = 100 → m < f → s o 2 = nI z → RW s 1 w n → ∃ s' : SS, l_X5_fits_59 f (nI p, y, o, nI (cn T j), fm T j, nI j, s, t) = some ((if y = 0 then nI C else D), s', t) ∧ Fr 19 s s'
  | 0, j, f + 1, s, hj, _, h2, hr => by
    have e : j = 100 := by omega
    subst e
    refine ⟨s, ?_, Fr.rf⟩
    show b_X5_fits_59 (l_X5_fits_59 f) (nI p) y o (nI (cn T 100)) (fm T 100) (nI 100) s t = _
    unfold b_X5_fits_59
    rw [if_pos (show (99 : Int32) < nI 100 by decide)]
    by_cases c : y = 0
    · rw [if_pos c, if_pos c, hCe]
    · rw [if_neg c, if_neg c, hDe]
  | m + 1, j, f + 1, s, hj, hf, h2, hr => by
    have hn := hw.1
    have hp8 : p < 8 := by omega
    have c0 : ¬ (99 : Int32) < nI j := nI_nlt (b := j) (a := 99) (by omega) (by decide)
    obtain ⟨s1, e1, f1, r1⟩ := c_trial (t := t) hr
    have f1' := f1.up (c := 22) (i := p) (v := nI j) ⟨by omega, by omega⟩
    obtain ⟨s2, e2, f2⟩ := toldR (t := t) ho hz hn z 0 300 W 0 (up2 s1 22 p (nI j)) _ (by omega) (by omega) (by omega) (by rw [f1' o (by omega)]; exact h2) (r1.set1 (p := p) (x := nI j)) (hw.set (p := p) (j := 1) (by omega) (show bd 99 (nI j) from bd_n (by omega)))
    rw [← hT j (by omega)] at e2
    have e3 : f_X5_isTold o (nI p) (nI j) s t = some (b2 (T j), s2, t) := by
      simp only [f_X5_isTold, e1, bs, rx8 hp8, wr_e]
      exact e2
    have hF := f1'.tr f2
    obtain ⟨s3, g1, g2⟩ := fitsR (t := t) (y := y) hCe hDe ho hz hp hW hw hT m (j + 1) f s2 (by omega) (by omega) (by rw [hF o (by omega)]; exact h2) (hr.fr (fun c c1 c2 => hF c (by omega)))
    refine ⟨s3, ?_, hF.tr g2⟩
    show b_X5_fits_59 (l_X5_fits_59 f) (nI p) y o (nI (cn T j)) (fm T j) (nI j) s t = _
    have hcn := cn_le T j
    unfold b_X5_fits_59 j_X5_fits_90
    rw [if_neg c0, e3, bs, nI_1, nI_1]
    simp only [cn, fm] at g1
    cases d : T j with
    | false =>
      simp only [d, Bool.false_eq_true, if_false, false_and, Nat.add_zero] at g1
      simp only [b2_z, if_true]
      exact g1
    | true =>
      simp only [d, if_true, true_and] at g1
      simp only [b2_z, Bool.true_eq_false, if_false]
      by_cases e : cn T j = 0
      · rw [if_pos e] at g1
        rw [if_pos (show nI (cn T j) = 0 by rw [e]; rfl)]
        exact g1
      · rw [if_neg e] at g1
        rw [if_neg (nI_ne0 (by omega) (by omega))]
        exact g1
theorem mfitsR {t : TT} {n W z p q C : Nat} {y D : Int32} {w : RR} {T : Nat → Bool} {sC : SS} (hCe : C = cd T 100) (hDe : D = vd T 100) (hq : q < 4) (hz : z ≤ 40) (hp : p < n) (hW : W < 2 ^ 29) (hw : OKw w n W) (hC : RW sC 19 w n) (hT : ∀ j : Nat, j < 100 → T j = tol (fun i => t 62 (40 * q + i)) n z 0 0 (uw w (8 + 6 * p + 1) (nI j))) : ∀ (m f : Nat) (s : SS), m ≤ 100 → m < f → s 61 q = nI z → s 51 5 = 0 → (∀ k : Nat, k < 56 → s 55 k = w k) → (∀ k : Nat, k < 56 → s 52 k = w k) → ∃ s' : SS, l_X6_fits_60 f (nI q, nI p, y, nI (cd T (100 - m)), vd T (100 - m), nI m - 1, s, t) = some ((if y = 0 then nI C else D), s', t) ∧ MB s s'
  | 0, f + 1, s, _, _, h2, h5, h55, h52 => by
    refine ⟨s, ?_, fun _ _ => rfl, fun k hk => by rw [h55 k hk, h52 k hk]⟩
    show b_X6_fits_60 (l_X6_fits_60 f) (nI q) (nI p) y (nI (cd T 100)) (vd T 100) (nI 0 - 1) s t = _
    unfold b_X6_fits_60
    rw [if_pos (show nI 0 - 1 < (0 : Int32) by decide)]
    by_cases c : y = 0
    · rw [if_pos c, if_pos c, hCe]
    · rw [if_neg c, if_neg c, hDe]
  | m + 1, f + 1, s, hm, hf, h2, h5, h55, h52 => by
    have hn := hw.1
    have hp8 : p < 8 := by omega
    have hws : OKw (s 52) n W := hw.cg h52
    have bm : bd 99 (nI m) := bd_n (by omega)
    obtain ⟨s1, e1, g1, g2⟩ := soR (t := t) (n := n) hq hz z 0 300 W 0 (cp2 s 52 (uw (s 52) (8 + 6 * p + 1) (nI m))) (by omega) (by omega) (by omega) (by rw [cp2_n (by decide)]; exact h2) (by rw [cp2_n (by decide)]; exact h5) (by rw [cp2_s]; exact hws.set (p := p) (j := 1) (by omega) bm)
    rw [cp2_s] at e1
    have hC2 : RW sC 19 (s 52) n := hC.cg hn h52
    have key : tol (fun i => t 62 (40 * q + i)) n z 0 0 (uw (s 52) (8 + 6 * p + 1) (nI m)) = T m := by
      rw [hT m (by omega)]
      exact tol_w hn hz hW (hC2.set1 (p := p) (x := nI m)) (hC.set1 (p := p) (x := nI m)) (hws.set (p := p) (j := 1) (by omega) bm) (hw.set (p := p) (j := 1) (by omega) bm)
    rw [key] at e1
    have e2 : f_X6_isSo (nI q) (cp2 s 52 (uw (s 52) (8 + 6 * p + 1) (nI m))) t = some (b2 (T m), s1, t) := e1
    have hb : MB s s1 := ⟨fun c hc => by rw [g1 c hc, cp2_n hc], fun k hk => by rw [g2 k hk, cp2_n (by decide)]⟩
    obtain ⟨s2, k1, k2, k3⟩ := mfitsR (t := t) (y := y) (q := q) hCe hDe hq hz hp hW hw hC hT m f s1 (by omega) (by omega) (by rw [hb.1 61 (by decide)]; exact h2) (by rw [hb.1 51 (by decide)]; exact h5) (fun k hk => by rw [hb.1 55 (by decide)]; exact h55 k hk) (fun k hk => by rw [hb.2 k hk]; exact h55 k hk)
    refine ⟨s2, ?_, fun c hc => (k2 c hc).trans (hb.1 c hc), fun k hk => by rw [k3 k hk, hb.1 55 (by decide)]⟩
    show b_X6_fits_60 (l_X6_fits_60 f) (nI q) (nI p) y (nI (cd T (100 - (m + 1)))) (vd T (100 - (m + 1))) (nI (m + 1) - 1) s t = _
    rw [show 100 - m = (100 - (m + 1)) + 1 by omega] at k1
    simp only [cd, vd] at k1
    rw [show 99 - (100 - (m + 1)) = m by omega, Int32.sub_eq_add_neg] at k1
    unfold b_X6_fits_60 j_X6_fits_92
    rw [nI_pred, if_neg (nI_pos (show m < 2 ^ 31 by omega)), sets_1 hp8, bs, e2, bs]
    cases d : T m with
    | false =>
      simp only [d, Bool.false_eq_true, if_false, Nat.add_zero] at k1
      simp only [b2_z, if_true, Int32.add_zero]
      exact k1
    | true =>
      simp only [d, if_true] at k1
      simp only [b2_z, Bool.true_eq_false, if_false, nI_1]
      exact k1
theorem s_fits1 {s : SS} {t : TT} {W : Nat} (hW : W < 2 ^ 29) (x y z : Int32) (h : Rel s t W) : Sim (f_X5_fits x y z) (f_X6_fits x y z) s t W := by
  obtain ⟨⟨n, hw, hr⟩, -, -, -, hsh, -, -, h0⟩ := id h
  have h8 : s 1 8 = nI n := hr.1
  have h6 := hw.2.1
  cases ha : wi x 0 3 with
  | false => exact Sim.of h (-1) (by simp only [f_X5_fits, c_isPlace, bs, b2_z, ha, if_true]) (by simp only [f_X6_fits, m_isShelf, bs, b2_z, ha, if_true])
  | true =>
  obtain ⟨q, hq, rfl⟩ := wi_two (n := 3) (by decide) ha
  have hq4 : q < 4 := by omega
  cases hb : wi y 0 (nI n - 1) with
  | false => exact Sim.of h (-1) (by simp only [f_X5_fits, c_isPlace, c_has, h8, bs, b2_z, ha, hb, Bool.true_eq_false, if_false, if_true]) (by simp only [f_X6_fits, m_isShelf, m_isOne, h6, bs, b2_z, ha, hb, Bool.true_eq_false, if_false, if_true])
  | true =>
  obtain ⟨p, hp, rfl⟩ := wi_one hw.1 hb
  cases hc : wi z 0 1 with
  | false => exact Sim.of h (-1) (by simp only [f_X5_fits, c_isPlace, c_has, c_isWithin, h8, bs, b2_z, ha, hb, hc, Bool.true_eq_false, if_false, if_true]) (by simp only [f_X6_fits, m_isShelf, m_isOne, m_in, h6, bs, b2_z, ha, hb, hc, Bool.true_eq_false, if_false, if_true])
  | true =>
  rcases hsh q hq4 with ⟨u1, u2⟩ | ⟨k, k3, u1, u2, sz, z40, u3, u4, u5⟩
  · exact Sim.of h (-11) (by simp only [f_X5_fits, c_isPlace, c_has, c_isWithin, h8, bs, b2_z, ha, hb, hc, Bool.true_eq_false, if_false, rx4 hq4, wr_e, u1, if_true]) (by simp only [f_X6_fits, m_isShelf, m_isOne, m_in, h6, bs, b2_z, ha, hb, hc, Bool.true_eq_false, if_false, rx4 hq4, u2, show ¬ (0 : Int32) ≤ -1 by decide])
  · obtain ⟨T, hT⟩ : ∃ T : Nat → Bool, T = fun j => tol (t (37 + 3 * q + 1)) n sz 0 0 (uw (s 52) (8 + 6 * p + 1) (nI j)) := ⟨_, rfl⟩
    have hT1 : ∀ j : Nat, j < 100 → T j = tol (t (37 + 3 * q + 1)) n sz 0 0 (uw (s 52) (8 + 6 * p + 1) (nI j)) := fun j _ => by rw [hT]
    have hT2 : ∀ j : Nat, j < 100 → T j = tol (fun i => t 62 (40 * q + i)) n sz 0 0 (uw (s 52) (8 + 6 * p + 1) (nI j)) := fun j _ => by
      rw [hT]
      exact tol_g _ _ _ _ (fun i h1 h2 => by
        have := u5 i (by omega)
        rw [show 38 + 3 * q = 37 + 3 * q + 1 by omega] at this
        exact this)
    have ec : cd T 100 = cn T 100 := by
      have := cn_cd T 100 (Nat.le_refl 100)
      rw [Nat.sub_self, show cn T 0 = 0 from rfl, Nat.zero_add] at this
      exact this
    have ev : vd T 100 = fm T 100 := by
      have := vd_fm T 100 (Nat.le_refl 100)
      rw [this]
      by_cases c : cn T 100 = 0
      · rw [if_pos c]
        have : ∀ j : Nat, cn T j = 0 → fm T j = -3 := by
          intro j
          induction j with
          | zero => intro _; rfl
          | succ j ih =>
            intro hj
            simp only [cn] at hj
            have h1 : cn T j = 0 := by omega
            have h2 : ¬ T j = true := fun z => by rw [if_pos z] at hj; omega
            simp only [fm]
            rw [if_neg (fun z => h2 z.1)]
            exact ih h1
        rw [this 100 c]; rfl
      · rw [if_neg c]
    obtain ⟨sC, -, -, hC⟩ := c_trial (t := t) hr
    obtain ⟨s1, e1, f1⟩ := fitsR (t := t) (o := 37 + 3 * q) (y := z) (p := p) (T := T) rfl rfl (by omega) z40 hp hW hw hT1 100 0 300 s (by omega) (by omega) u3 hr
    have g52 : s1 52 = s 52 := f1 52 (by omega)
    have g51 : s1 51 = s 51 := f1 51 (by omega)
    have g60 : s1 60 = s 60 := f1 60 (by omega)
    have g61 : s1 61 = s 61 := f1 61 (by omega)
    obtain ⟨sM1, e2, m1, q51, q52, q55⟩ := m_start (sM := s1) (t := t)
    obtain ⟨sM2, e3, m2⟩ := mfitsR (t := t) (q := q) (y := z) (p := p) (T := T) ec.symm ev.symm hq4 z40 hp hW hw hC hT2 100 300 sM1 (by omega) (by omega) (by rw [m1.1 61 (by decide) (by decide) (by decide) (by decide) (by decide), g61]; exact u4) (by rw [q51, g51]; exact h0) (fun j hj => by rw [q55 j hj, q52, g52]) (fun j _ => by rw [q52, g52])
    have m5 : MF sM1 sM2 := ⟨fun c _ c2 _ _ _ => m2.1 c c2, fun i _ => by rw [m2.1 51 (by decide)], fun k hk => by rw [m2.2 k hk, q55 k hk]⟩
    have nk : ¬ nI k = -1 := fun e => m1n k (by omega) e.symm
    have pk : (0 : Int32) ≤ nI k := nI_pos' (by omega)
    refine ⟨if z = 0 then nI (cn T 100) else fm T 100, s1, sM2, t, t, ?_, ?_, (h.tr (Tr.of f1.fc (m1.tr m5) h0 (by rw [m2.1 51 (by decide), q51, g51]; exact h0))).more (by omega)⟩
    · simp only [f_X5_fits, c_isPlace, c_has, c_isWithin, h8, bs, b2_z, ha, hb, hc, Bool.true_eq_false, if_false, rx4 hq4, wr_e, u1, nk]
      exact e1
    · simp only [f_X6_fits, m_isShelf, m_isOne, m_in, g52, g60, h6, bs, b2_z, ha, hb, hc, Bool.true_eq_false, if_false, rx4 hq4, u2, pk, if_true, e2]
      exact e3
