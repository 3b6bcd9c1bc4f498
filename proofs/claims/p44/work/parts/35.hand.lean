/-! the van, and what is said -/
theorem nI_m1 (m : Nat) : nI (m + 1) + -1 = nI m := by
  have h := nI_pred m
  rw [Int32.sub_eq_add_neg] at h
  exact h
theorem R_next_uw5 {w : RR} {left x : Int32} : ∀ m : Nat, R_next (uw w 5 x) left m = R_next w left m
  | 0 => rfl
  | m + 1 => by
    have hn : ∀ p : Nat, R_needs (uw w 5 x) p = R_needs w p := fun p => by
      simp only [R_needs, gw, uw_n (show 1 ≠ 5 by omega), uw_n (show 8 + 6 * p + 0 ≠ 5 by omega), uw_n (show 8 + 6 * p + 2 ≠ 5 by omega)]
      rfl
    have hg : ∀ p : Nat, ∀ j : Nat, gw (uw w 5 x) p j = gw w p j := fun p j => uw_n (by omega)
    simp only [R_next, R_next_uw5 m, R_may, hn, hg]
    rfl
theorem uw_uw {w : RR} {k : Nat} {x y : Int32} : uw (uw w k x) k y = uw w k y := by
  funext i
  by_cases e : i = k <;> simp [uw, e]
theorem uw_id {w : RR} {k : Nat} : uw w k (w k) = w := by
  funext i
  by_cases e : i = k <;> simp [uw, e]
theorem min_n {a : Nat} (h : a < 2 ^ 31) : pmf_min 9999 (nI a) = nI (min 9999 a) := by
  unfold pmf_min
  by_cases c : nI a < 9999
  · rw [if_pos c]
    have c2 : a < 9999 := (nI_ltI h (by decide)).mp c
    rw [Nat.min_eq_right (by omega)]
  · rw [if_neg c]
    have c2 : ¬ a < 9999 := fun z => c ((nI_ltI h (by decide)).mpr z)
    rw [Nat.min_eq_left (by omega)]
    rfl
theorem R_pages_none {w0 w : RR} {left : Int32} {n j : Nat} (hb : bd 9999 (w 5)) (hR : R_next w left n = none) (hj : R_pagesL left n w0 j = w) : ∀ m : Nat, m < 100 → R_pagesL left n w0 (j + (m + 1)) = uw w 5 (pmf_min 9999 (w 5 + nI (m + 1)))
  | 0, _ => by
    show R_page left n (R_pagesL left n w0 j) = _
    rw [hj, R_page, hR]
    show uw w 5 (hl (w 5 + nI 1) 0 9999) = uw w 5 (pmf_min 9999 (w 5 + nI 1))
    rw [min_9999 (m := 10000) (by decide) (bd_add hb (bd_c 1 (m := 1) rfl (by omega)))]
  | m + 1, hm => by
    have ih := R_pages_none hb hR hj m (by omega)
    show R_page left n (R_pagesL left n w0 (j + (m + 1))) = _
    obtain ⟨k, hk, e⟩ := hb
    rw [ih, R_page, R_next_uw5, hR]
    show uw (uw w 5 _) 5 _ = _
    rw [uw_uw, uw_s, e, nI_add, nI_add, min_n (by omega), min_n (by omega), nI_1]
    rw [← min_9999 (m := 10000) (by decide) ⟨_, by omega, rfl⟩, min_n (by omega)]
    congr 2
    omega
theorem R_needs_page {w : RR} {left : Int32} {n p : Nat} : R_needs (R_page left n w) p = R_needs w p := by
  unfold R_page
  cases R_next w left n with
  | none =>
    simp only [R_needs, gw, uw_n (show 1 ≠ 5 by omega), uw_n (show 8 + 6 * p + 0 ≠ 5 by omega), uw_n (show 8 + 6 * p + 2 ≠ 5 by omega)]
    rfl
  | some q => exact (R_needs_uw (by omega)).trans ((R_needs_uw (by omega)).trans (R_needs_uw (by omega)))
theorem c_hand_l {t : TT} {o n W k : Nat} {w : RR} {may left : Int32} (hw : OKw w n W) (hk : k ≤ 9) (hM : May n may left) : ∀ (m j f : Nat) (s : SS), j + m = k → m < f → RW s o (R_pagesL left n w j) n → (∀ p : Nat, p < n → s (o + 8) p = R_needs (R_pagesL left n w j) p) → ∃ s' : SS, l_X1_handOut_7 o f (may, nI m, s, t) = some (s', t) ∧ Fr o s s' ∧ RW s' o (R_pagesL left n w k) n
  | 0, j, f + 1, s, hj, _, h, hN => by
    have e : j = k := by omega
    subst e
    refine ⟨s, ?_, Fr.rf, h⟩
    show b_X1_handOut_7 o (l_X1_handOut_7 o f) may (nI 0) s t = _
    unfold b_X1_handOut_7
    rw [if_pos (show nI 0 ≤ 0 by decide)]
  | m + 1, j, f + 1, s, hj, hf, h, hN => by
    have hn := hw.1
    have hok := R_pagesL_ok (left := left) hw j
    have c0 : ¬ nI (m + 1) ≤ 0 := nI_nle (by omega) (by omega)
    cases hR : R_next (R_pagesL left n w j) left n with
    | none =>
      have e1 := R_pages_none (w0 := w) hok.2.2.2.2.1 hR rfl m (by omega)
      rw [show j + (m + 1) = k by omega] at e1
      refine ⟨up2 s o 10 (pmf_min 9999 (s o 10 + nI (m + 1))), ?_, Fr.rf.up ⟨by omega, by omega⟩, ?_⟩
      · show b_X1_handOut_7 o (l_X1_handOut_7 o f) _ _ _ _ = _
        have c1 : ¬ (0 : Int32) ≤ -3 := by decide
        simp only [b_X1_handOut_7, c0, if_false, c_keenest h hok hN hM, hR, oK, bs, wr_e, c1]
      · rw [e1, h.2.2.2.2.1]; exact h.back
    | some p =>
      have hpn : p < n := R_next_lt hR
      have hp8 : p < 8 := by omega
      obtain ⟨k0, k1, k2, k3, k4, k5⟩ := h.2.2.2.2.2.2 p hpn
      have hg : pmf_min 9999 (s (o + 6) p + 1) = hl (gw (R_pagesL left n w j) p 4 + 1) 0 9999 := by
        rw [k4]
        exact min_9999 (m := 9999 + 1) (by decide) (bd_add (hok.at hpn 4 (by omega)) (bd_c 1 (m := 1) rfl (by omega)))
      have eP : R_pagesL left n w (j + 1) = uw (uw (uw (R_pagesL left n w j) (8 + 6 * p + 3) (gw (R_pagesL left n w j) p 3 + 1)) (8 + 6 * p + 4) (hl (gw (R_pagesL left n w j) p 4 + 1) 0 9999)) (8 + 6 * p + 1) (gw (R_pagesL left n w j) p 1 - R_needs (R_pagesL left n w j) p) := by
        show R_page left n (R_pagesL left n w j) = _
        rw [R_page, hR]
      have h3 : RW (up2 (up2 (up2 s (o + 5) p (s (o + 5) p + 1)) (o + 6) p (pmf_min 9999 (s (o + 6) p + 1))) (o + 3) p (s (o + 3) p - s (o + 8) p)) o (R_pagesL left n w (j + 1)) n := by
        rw [eP, hg, hN p hpn, k3, k1]
        exact h.set3.set4.set1
      obtain ⟨s', e, hf', hr⟩ := c_hand_l (t := t) hw hk hM m (j + 1) f _ (by omega) (by omega) h3 (fun q hq => by
        rw [up2_o (by omega), up2_o (by omega), up2_o (by omega), hN q hq]
        show _ = R_needs (R_page left n (R_pagesL left n w j)) q
        rw [R_needs_page])
      refine ⟨s', ?_, (((Fr.rf.up ⟨by omega, by omega⟩).up ⟨by omega, by omega⟩).up ⟨by omega, by omega⟩).tr hf', hr⟩
      show b_X1_handOut_7 o (l_X1_handOut_7 o f) _ _ _ _ = _
      simp only [b_X1_handOut_7, c0, if_false, c_keenest h hok hN hM, hR, oK, bs, wr_e, nI_pos' (show p < 2 ^ 31 by omega), if_true, rx8 hp8, nI_m1, up2_o (show o + 6 ≠ o + 5 by omega), up2_o (show o + 3 ≠ o + 6 by omega), up2_o (show o + 3 ≠ o + 5 by omega), up2_o (show o + 8 ≠ o + 6 by omega), up2_o (show o + 8 ≠ o + 5 by omega)]
      exact e
theorem c_handOut {s : SS} {t : TT} {o n W : Nat} {w : RR} {may left : Int32} (h : RW s o w n) (hw : OKw w n W) (hN : ∀ p : Nat, p < n → s (o + 8) p = R_needs w p) (hM : May n may left) : ∃ s' : SS, f_X1_handOut o may s t = some (s', t) ∧ Fr o s s' ∧ RW s' o (R_pagesL left n w (w 0).toNatClampNeg) n := by
  obtain ⟨k, hk, e0⟩ := hw.2.2.1 0 (by omega)
  have hk9 : k ≤ 9 := hk
  obtain ⟨s', e, h1, h2⟩ := c_hand_l (t := t) hw hk9 hM k 0 300 s (by omega) (by omega) h hN
  refine ⟨s', ?_, h1, by rw [e0, nI_clamp (by omega)]; exact h2⟩
  simp only [f_X1_handOut, rx4_0, bs, h.2.2.1 0 (by omega), e0]
  exact e
theorem le_z {x : Int32} {m : Nat} (hm : m < 2 ^ 31) (h : bd m x) : x ≤ 0 ↔ x = 0 := by
  rw [bd_i hm] at h
  rw [tI_le, tI_eq, show (0 : Int32).toInt = 0 from rfl]
  omega
theorem c_speak_l {t : TT} {o n W : Nat} {w : RR} (hW : W < 2 ^ 31) (hw : OKw w n W) : ∀ (m j f : Nat) (s : SS), j + m = n → m < f → RW s o (R_speakL w j).2 n → ∃ s' : SS, l_X1_speak_4 o f ((R_speakL w j).1, nI j, s, t) = some ((R_speakL w n).1, s', t) ∧ Fr o s s' ∧ RW s' o (R_speakL w n).2 n
  | 0, j, f + 1, s, hj, _, h => by
    have e : j = n := by omega
    subst e
    refine ⟨s, ?_, Fr.rf, h⟩
    show b_X1_speak_4 o (l_X1_speak_4 o f) _ _ _ _ = _
    simp only [b_X1_speak_4, h.1, nI_le (Nat.le_refl j) (show j < 2 ^ 31 by have := hw.1; omega), if_true]
  | m + 1, j, f + 1, s, hj, hf, h => by
    have hn := hw.1
    have hj8 : j < 8 := by omega
    have hjn : j < n := by omega
    have hok := R_speakL_ok hw j (by omega)
    obtain ⟨k0, k1, k2, k3, k4, k5⟩ := h.2.2.2.2.2.2 j hjn
    have hpg : bd 99 (gw (R_speakL w j).2 j 3) := hok.at hjn 3 (by omega)
    by_cases c : gw (R_speakL w j).2 j 3 ≤ 0
    · have e1 : R_speakL w (j + 1) = ((R_speakL w j).1, (R_speakL w j).2) := by rw [R_speakL, if_pos c, Int32.add_zero]
      obtain ⟨s', e, hf', hr⟩ := c_speak_l (t := t) hW hw m (j + 1) f s (by omega) (by omega) (by rw [e1]; exact h)
      refine ⟨s', ?_, hf', hr⟩
      rw [e1] at e
      show b_X1_speak_4 o (l_X1_speak_4 o f) _ _ _ _ = _
      have c2 : (R_speakL w j).2 (8 + 6 * j + 3) = 0 := (le_z (by decide) hpg).mp c
      simp only [b_X1_speak_4, h.1, nI_ge hjn (show n < 2 ^ 31 by omega), if_false, rx8 hj8, bs, k3, c2, if_true, nI_1]
      exact e
    · have hs : pmf_min 99999 (s (o + 7) j + R_says (R_speakL w j).2 j) = hl (gw (R_speakL w j).2 j 5 + R_says (R_speakL w j).2 j) 0 99999 := by
        rw [k5]
        exact min_99999 (m := 99999 + 150) (by decide) (bd_add (hok.at hjn 5 (by omega)) (R_says_bd hok hjn))
      have h1 : RW (up2 s (o + 7) j (pmf_min 99999 (s (o + 7) j + R_says (R_speakL w j).2 j))) o (uw (R_speakL w j).2 (8 + 6 * j + 5) (hl (gw (R_speakL w j).2 j 5 + R_says (R_speakL w j).2 j) 0 99999)) n := by
        rw [hs]; exact h.set5
      have hok1 : OKw (uw (R_speakL w j).2 (8 + 6 * j + 5) (hl (gw (R_speakL w j).2 j 5 + R_says (R_speakL w j).2 j) 0 99999)) n W := hok.set (by omega) (hl_bd (by decide) rfl)
      have e1 : R_speakL w (j + 1) = ((R_speakL w j).1 + R_says (R_speakL w j).2 j, (R_write (R_speakL w j).2 j).2) := by rw [R_speakL, if_neg c]; rfl
      have c2 : ¬ (R_speakL w j).2 (8 + 6 * j + 3) = 0 := fun z => c ((le_z (by decide) hpg).mpr z)
      have hu := c_isUsing (t := t) hW h1 hok1 hjn
      rw [R_used_uw (by omega) (by omega)] at hu
      cases hus : R_used (R_speakL w j).2 j with
      | false =>
        have e2 : (R_write (R_speakL w j).2 j).2 = uw (R_speakL w j).2 (8 + 6 * j + 5) (hl (gw (R_speakL w j).2 j 5 + R_says (R_speakL w j).2 j) 0 99999) := by
          simp only [R_write, hus, Bool.false_eq_true, if_false]
          have e3 : gw (R_speakL w j).2 j 3 = uw (R_speakL w j).2 (8 + 6 * j + 5) (hl (gw (R_speakL w j).2 j 5 + R_says (R_speakL w j).2 j) 0 99999) (8 + 6 * j + 3) := by rw [uw_n (by omega)]; rfl
          rw [e3, uw_id]
        obtain ⟨s', e, hf', hr⟩ := c_speak_l (t := t) hW hw m (j + 1) f _ (by omega) (by omega) (by rw [e1, e2]; exact h1)
        refine ⟨s', ?_, (Fr.rf.up ⟨by omega, by omega⟩).tr hf', hr⟩
        rw [e1] at e
        show b_X1_speak_4 o (l_X1_speak_4 o f) _ _ _ _ = _
        rw [hus] at hu
        simp only [b_X1_speak_4, h.1, nI_ge hjn (show n < 2 ^ 31 by omega), if_false, rx8 hj8, bs, wr_e, k3, c2, c_saying h hok hjn, hu, b2_z, if_true, nI_1]
        exact e
      | true =>
        have k3' : (up2 s (o + 7) j (pmf_min 99999 (s (o + 7) j + R_says (R_speakL w j).2 j))) (o + 5) j = gw (R_speakL w j).2 j 3 := by rw [up2_o (by omega)]; exact k3
        have h2 := h1.set3 (p := j) (x := gw (R_speakL w j).2 j 3 - 1)
        have e2 : (R_write (R_speakL w j).2 j).2 = uw (uw (R_speakL w j).2 (8 + 6 * j + 5) (hl (gw (R_speakL w j).2 j 5 + R_says (R_speakL w j).2 j) 0 99999)) (8 + 6 * j + 3) (gw (R_speakL w j).2 j 3 - 1) := by
          simp only [R_write, hus, if_true]
        obtain ⟨s', e, hf', hr⟩ := c_speak_l (t := t) hW hw m (j + 1) f _ (by omega) (by omega) (by rw [e1, e2]; exact h2)
        refine ⟨s', ?_, ((Fr.rf.up ⟨by omega, by omega⟩).up ⟨by omega, by omega⟩).tr hf', hr⟩
        rw [e1] at e
        show b_X1_speak_4 o (l_X1_speak_4 o f) _ _ _ _ = _
        rw [hus] at hu
        simp only [b_X1_speak_4, h.1, nI_ge hjn (show n < 2 ^ 31 by omega), if_false, rx8 hj8, bs, wr_e, k3, c2, c_saying h hok hjn, hu, b2_z, Bool.true_eq_false, k3', nI_1]
        exact e
theorem c_speak {s : SS} {t : TT} {o n W : Nat} {w : RR} (hW : W < 2 ^ 31) (h : RW s o w n) (hw : OKw w n W) : ∃ s' : SS, f_X1_speak o s t = some ((R_speakL w n).1, s', t) ∧ Fr o s s' ∧ RW s' o (R_speakL w n).2 n :=
  c_speak_l hW hw n 0 300 s (by omega) (by have := hw.1; omega) h
theorem c_passWeek {s : SS} {t : TT} {o n W : Nat} {w : RR} {may left : Int32} (hW : W < 2 ^ 31) (h : RW s o w n) (hw : OKw w n W) (hM : May n may left) : ∃ s' : SS, f_X1_passWeek o may s t = some ((R_week left n w).1, s', t) ∧ Fr o s s' ∧ RW s' o (R_week left n w).2 n := by
  obtain ⟨s1, e1, f1, r1, n1⟩ := c_think (t := t) h hw
  have hok1 := R_thinkL_ok hw n
  obtain ⟨s2, e2, f2, r2⟩ := c_handOut (t := t) r1 hok1 (fun p hp => by rw [R_needs_thinkL]; exact n1 p hp) hM
  rw [R_thinkL_0] at r2
  have hok2 := R_pagesL_ok (left := left) hok1 (w 0).toNatClampNeg
  obtain ⟨s3, e3, f3, r3⟩ := c_speak (t := t) hW r2 hok2
  refine ⟨up2 s3 o 9 (s3 o 9 + 1), ?_, ((f1.tr f2).tr f3).up ⟨by omega, by omega⟩, ?_⟩
  · simp only [f_X1_passWeek, e1, e2, e3, bs, wr_e, R_week]
  · rw [r3.2.2.2.1]; exact r3.week
