/-! prove, judge -/
/-- what stands in ROW i, of one -/
def RD (n : Nat) (w : RR) (p : Nat) (q : Nat) : Int32 := if q % 3 = 0 then (R_wl 0 n w (q / 3 + 1)).2 (8 + 6 * p + 1) else if q % 3 = 1 then (R_wl 0 n w (q / 3 + 1)).2 (8 + 6 * p + 3) else (R_week 0 n (R_wl 0 n w (q / 3)).2).1
theorem RD0 {n p i : Nat} {w : RR} : RD n w p (3 * i) = (R_wl 0 n w (i + 1)).2 (8 + 6 * p + 1) := by
  unfold RD
  rw [if_pos (by omega), show 3 * i / 3 = i by omega]
theorem RD1 {n p i : Nat} {w : RR} : RD n w p (3 * i + 1) = (R_wl 0 n w (i + 1)).2 (8 + 6 * p + 3) := by
  unfold RD
  rw [if_neg (by omega), if_pos (by omega), show (3 * i + 1) / 3 = i by omega]
theorem RD2 {n p i : Nat} {w : RR} : RD n w p (3 * i + 2) = (R_week 0 n (R_wl 0 n w i).2).1 := by
  unfold RD
  rw [if_neg (by omega), if_neg (by omega), show (3 * i + 2) / 3 = i by omega]
theorem r3c : ∀ i : Nat, i < 10 → rx 30 (nI i * (3 : Int32)) = some (3 * i) ∧ rx 30 (nI i * (3 : Int32) + 1) = some (3 * i + 1) ∧ rx 30 (nI i * (3 : Int32) + 2) = some (3 * i + 2) := by decide +kernel
theorem r3m : ∀ i : Nat, i < 10 → rx 30 ((3 : Int32) * nI i) = some (3 * i) ∧ rx 30 ((3 : Int32) * nI i + 1) = some (3 * i + 1) ∧ rx 30 ((3 : Int32) * nI i + 2) = some (3 * i + 2) := by decide +kernel
theorem RW.o {s s' : SS} {o n c : Nat} {w : RR} (h : RW s o w n) (e : ∀ d : Nat, d ≠ c → s' d = s d) (hc : c < o ∨ o + 8 < c) : RW s' o w n := h.fr (fun d h1 h2 => e d (by omega))
theorem c_prove_l {t : TT} {n W p k : Nat} {w : RR} (hW : W < 2 ^ 29) (hp : p < n) (hk : k ≤ 10) (hw : OKw w n W) : ∀ (m j f : Nat) (s : SS), j + m = k → m < f → RW s 19 (R_wl 0 n w j).2 n → ∃ s' : SS, l_X5_prove_31 f (nI p, nI k, nI j, s, t) = some (nI k, s', t) ∧ (∀ c : Nat, (c < 19 ∨ 27 < c) → c ≠ 49 → c ≠ 0 → s' c = s c) ∧ (∀ i : Nat, s' 0 i = if i = 9 then nI k else s 0 i) ∧ (∀ q : Nat, 3 * j ≤ q → q < 3 * k → s' 49 q = RD n w p q) ∧ (∀ q : Nat, q < 3 * j → s' 49 q = s 49 q)
  | 0, j, f + 1, s, hj, _, h => by
    have e : j = k := by omega
    subst e
    refine ⟨up2 s 0 9 (nI j), ?_, fun c h1 h2 h3 => up2_o h3, fun i => ?_, fun q h1 h2 => by omega, fun q hq => by rw [up2_o (by decide)]⟩
    · show b_X5_prove_31 (l_X5_prove_31 f) (nI p) (nI j) (nI j) s t = _
      simp only [b_X5_prove_31, nI_le (Nat.le_refl j) (show j < 2 ^ 31 by omega), if_true, wr_e]
    · rw [up2_r]
      by_cases e : i = 9 <;> simp [e]
  | m + 1, j, f + 1, s, hj, hf, h => by
    have hn := hw.1
    have hp8 : p < 8 := by omega
    have hok := R_wl_ok (left := 0) hw j
    obtain ⟨s1, e1, f1, r1⟩ := c_passWeek (t := t) (may := 255) (left := 0) (show W + j < 2 ^ 31 by omega) h hok (May.all hn)
    obtain ⟨i0, i1, i2⟩ := r3c j (by omega)
    have k1 : s1 22 p = RD n w p (3 * j) := by rw [RD0]; exact (r1.2.2.2.2.2.2 p hp).2.1
    have k3 : s1 24 p = RD n w p (3 * j + 1) := by rw [RD1]; exact (r1.2.2.2.2.2.2 p hp).2.2.2.1
    have k2 : (R_week 0 n (R_wl 0 n w j).2).1 = RD n w p (3 * j + 2) := RD2.symm
    obtain ⟨s', e2, g1, g2, g3, g4⟩ := c_prove_l (t := t) hW hp hk hw m (j + 1) f (up2 (up2 (up2 s1 49 (3 * j) (RD n w p (3 * j))) 49 (3 * j + 1) (RD n w p (3 * j + 1))) 49 (3 * j + 2) (RD n w p (3 * j + 2))) (by omega) (by omega) (RW.o (c := 49) r1 (fun d hd => by rw [up2_o hd, up2_o hd, up2_o hd]) (by omega))
    refine ⟨s', ?_, fun c h1 h2 h3 => ?_, fun i => ?_, fun q h1 h2 => ?_, fun q hq => ?_⟩
    · show b_X5_prove_31 (l_X5_prove_31 f) (nI p) (nI k) (nI j) s t = _
      simp only [b_X5_prove_31, nI_ge (show j < k by omega) (show k < 2 ^ 31 by omega), if_false, e1, bs, rx8 hp8, i0, i1, i2, wr_e, k1, up2_o (show 24 ≠ 49 by decide), k3, k2, nI_1]
      exact e2
    · rw [g1 c h1 h2 h3, up2_o h2, up2_o h2, up2_o h2]; exact f1 c (by omega)
    · rw [g2 i, up2_o (by decide), up2_o (by decide), up2_o (by decide), f1 0 (by omega)]
    · by_cases c : 3 * (j + 1) ≤ q
      · exact g3 q c h2
      · rw [g4 q (by omega), up2_r, up2_r, up2_r]
        have hq : q = 3 * j ∨ q = 3 * j + 1 ∨ q = 3 * j + 2 := by omega
        rcases hq with rfl | rfl | rfl
        · rw [if_neg (by omega), if_neg (by omega), if_pos ⟨rfl, rfl⟩]
        · rw [if_neg (by omega), if_pos ⟨rfl, rfl⟩]
        · rw [if_pos ⟨rfl, rfl⟩]
    · rw [g4 q (by omega), up2_r, if_neg (by omega), up2_r, if_neg (by omega), up2_r, if_neg (by omega), f1 49 (by omega)]
theorem m_find_l {t : TT} {n W p k : Nat} {w : RR} (hp : p < n) (hk : k ≤ 10) (hw : OKw w n W) : ∀ (m j f : Nat) (s : SS), j + m = k → m < f → s 52 = (R_wl 0 n w j).2 → s 51 5 = 0 → ∃ s' : SS, l_X6_findRows_13 f (nI p, nI k, nI j, s, t) = some (s', t) ∧ (∀ c : Nat, c ≠ 52 → c ≠ 59 → s' c = s c) ∧ (∀ q : Nat, q < 56 → s' 52 q = s 55 q) ∧ (∀ q : Nat, 3 * j ≤ q → q < 3 * k → s' 59 q = RD n w p q) ∧ (∀ q : Nat, q < 3 * j → s' 59 q = s 59 q)
  | 0, j, f + 1, s, hj, _, h, hz => by
    have e : j = k := by omega
    subst e
    refine ⟨cp2 s 52 (mv (s 55) (s 52)), ?_, fun c h1 h2 => cp2_n h1, fun q hq => by rw [cp2_s, mv_at hq], fun q h1 h2 => by omega, fun q hq => by rw [cp2_n (by decide)]⟩
    show b_X6_findRows_13 (l_X6_findRows_13 f) (nI p) (nI j) (nI j) s t = _
    simp only [b_X6_findRows_13, nI_le (Nat.le_refl j) (show j < 2 ^ 31 by omega), if_true, m_moveAll (show 55 ≠ 52 by decide), bs]
  | m + 1, j, f + 1, s, hj, hf, h, hz => by
    have hn := hw.1
    have hp8 : p < 8 := by omega
    have hok := R_wl_ok (left := 0) hw j
    have e4 := m_weekGoes (s := s) (t := t) hok
    rw [← h, cp2_i, hz, h] at e4
    obtain ⟨i0, i1, i2⟩ := r3m j (by omega)
    have k1 : (R_week 0 n (R_wl 0 n w j).2).2 (8 + 6 * p + 1) = RD n w p (3 * j) := by rw [RD0]; rfl
    have k3 : (R_week 0 n (R_wl 0 n w j).2).2 (8 + 6 * p + 3) = RD n w p (3 * j + 1) := by rw [RD1]; rfl
    have k2 : (R_week 0 n (R_wl 0 n w j).2).1 = RD n w p (3 * j + 2) := RD2.symm
    obtain ⟨s', e2, g1, g2, g3, g4⟩ := m_find_l (t := t) hp hk hw m (j + 1) f (up2 (up2 (up2 (cp2 s 52 (R_week 0 n (R_wl 0 n w j).2).2) 59 (3 * j) (RD n w p (3 * j))) 59 (3 * j + 1) (RD n w p (3 * j + 1))) 59 (3 * j + 2) (RD n w p (3 * j + 2))) (by omega) (by omega) (by rw [up2_o (by decide), up2_o (by decide), up2_o (by decide), cp2_s]; rfl) (by rw [up2_o (by decide), up2_o (by decide), up2_o (by decide), cp2_n (by decide)]; exact hz)
    refine ⟨s', ?_, fun c h1 h2 => ?_, fun q hq => ?_, fun q h1 h2 => ?_, fun q hq => ?_⟩
    · show b_X6_findRows_13 (l_X6_findRows_13 f) (nI p) (nI k) (nI j) s t = _
      simp only [b_X6_findRows_13, nI_ge (show j < k by omega) (show k < 2 ^ 31 by omega), if_false, e4, bs, its_1 hp8, its_3 hp8, i0, i1, i2, wr_e, cp2_s, up2_o (show 52 ≠ 59 by decide), k1, k3, k2, nI_1]
      exact e2
    · rw [g1 c h1 h2, up2_o h2, up2_o h2, up2_o h2, cp2_n h1]
    · rw [g2 q hq, up2_o (by decide), up2_o (by decide), up2_o (by decide), cp2_n (by decide)]
    · by_cases c : 3 * (j + 1) ≤ q
      · exact g3 q c h2
      · rw [g4 q (by omega), up2_r, up2_r, up2_r]
        have hq : q = 3 * j ∨ q = 3 * j + 1 ∨ q = 3 * j + 2 := by omega
        rcases hq with rfl | rfl | rfl
        · rw [if_neg (by omega), if_neg (by omega), if_pos ⟨rfl, rfl⟩]
        · rw [if_neg (by omega), if_pos ⟨rfl, rfl⟩]
        · rw [if_pos ⟨rfl, rfl⟩]
    · rw [g4 q (by omega), up2_r, if_neg (by omega), up2_r, if_neg (by omega), up2_r, if_neg (by omega), cp2_n (by decide)]
theorem m_find {s : SS} {t : TT} {n W p k : Nat} {w : RR} (hp : p < n) (hk : k ≤ 10) (hw : OKw w n W) (h52 : s 52 = w) (hz : s 51 5 = 0) : ∃ s' : SS, f_X6_findRows (nI p) (nI k) s t = some (s', t) ∧ (∀ c : Nat, c ≠ 52 → c ≠ 55 → c ≠ 59 → s' c = s c) ∧ (∀ q : Nat, q < 56 → s' 52 q = s 52 q) ∧ ∀ q : Nat, q < 3 * k → s' 59 q = RD n w p q := by
  obtain ⟨s1, e1, m1, q51, q52, q55⟩ := m_start (sM := s) (t := t)
  obtain ⟨s', e2, g1, g2, g3, -⟩ := m_find_l (t := t) hp hk hw k 0 300 s1 (by omega) (by omega) (q52.trans h52) (by rw [q51]; exact hz)
  refine ⟨s', ?_, fun c c1 c2 c3 => ?_, fun q hq => by rw [g2 q hq, q55 q hq, q52], fun q hq => g3 q (by omega) hq⟩
  · simp only [f_X6_findRows, e1, bs]
    exact e2
  · rw [g1 c c1 c3]
    by_cases e : c = 51
    · subst e; exact q51
    · by_cases e7 : c = 57
      · subst e7
        have h57 := m_moveAll (s := s) (t := t) (show 52 ≠ 55 by decide)
        rw [e1] at h57
        simp only [Option.some.injEq, Prod.mk.injEq, and_true] at h57
        rw [h57, cp2_n (by decide)]
      · exact m1.1 c e c1 c2 e7 c3
theorem m_pcopy_l {t : TT} {k : Nat} (hk : k ≤ 10) : ∀ (m j f : Nat) (s : SS), j + m = 3 * k → m < f → ∃ s' : SS, l_X6_prove_33 f (nI k, nI j, s, t) = some (nI k, s', t) ∧ (∀ c : Nat, c ≠ 58 → s' c = s c) ∧ (∀ q : Nat, j ≤ q → q < 3 * k → s' 58 q = s 59 q) ∧ (∀ q : Nat, q < j → s' 58 q = s 58 q)
  | 0, j, f + 1, s, hj, _ => by
    have e : j = 3 * k := by omega
    refine ⟨s, ?_, fun _ _ => rfl, fun q h1 h2 => by omega, fun _ _ => rfl⟩
    have e3 : (3 : Int32) * nI k = nI (3 * k) := nI_mul 3 k
    show b_X6_prove_33 (l_X6_prove_33 f) (nI k) (nI j) s t = _
    simp only [b_X6_prove_33, e3, e, nI_le (Nat.le_refl (3 * k)) (show 3 * k < 2 ^ 31 by omega), if_true]
  | m + 1, j, f + 1, s, hj, hf => by
    have e3 : (3 : Int32) * nI k = nI (3 * k) := nI_mul 3 k
    obtain ⟨s', e2, g1, g2, g3⟩ := m_pcopy_l (t := t) hk m (j + 1) f (up2 s 58 j (s 59 j)) (by omega) (by omega)
    refine ⟨s', ?_, fun c hc => by rw [g1 c hc, up2_o hc], fun q h1 h2 => ?_, fun q hq => by rw [g3 q (by omega), up2_r, if_neg (by omega)]⟩
    · show b_X6_prove_33 (l_X6_prove_33 f) (nI k) (nI j) s t = _
      simp only [b_X6_prove_33, e3, nI_ge (show j < 3 * k by omega) (show 3 * k < 2 ^ 31 by omega), if_false, rx30 (show j < 30 by omega), bs, wr_e, nI_1]
      exact e2
    · by_cases c : q = j
      · subst c; rw [g3 q (by omega), up2_r, if_pos ⟨rfl, rfl⟩]
      · rw [g2 q (by omega) h2, up2_o (by decide)]
theorem s_prove {s : SS} {t : TT} {W : Nat} (hW : W < 2 ^ 29) (x y : Int32) (h : Rel s t W) : Sim (f_X5_prove x y) (f_X6_prove x y) s t W := by
  obtain ⟨⟨n, hw, hr⟩, -, -, -, -, -, -, h0⟩ := id h
  have h8 : s 1 8 = nI n := hr.1
  have h6 := hw.2.1
  cases hb : wi x 0 (nI n - 1) with
  | false => exact Sim.of h (-1) (by simp only [f_X5_prove, c_has, h8, bs, b2_z, hb, if_true]) (by simp only [f_X6_prove, m_isOne, h6, bs, b2_z, hb, if_true])
  | true =>
  obtain ⟨p, hp, rfl⟩ := wi_one hw.1 hb
  cases hc : wi y 1 10 with
  | false => exact Sim.of h (-1) (by simp only [f_X5_prove, c_has, c_isWithin, h8, bs, b2_z, hb, hc, Bool.true_eq_false, if_false, if_true]) (by simp only [f_X6_prove, m_isOne, m_in, h6, bs, b2_z, hb, hc, Bool.true_eq_false, if_false, if_true])
  | true =>
  obtain ⟨k, hk1, hk, rfl⟩ := wi_fr1 (n := 10) (by decide) hc
  obtain ⟨s1, e1, f1, r1⟩ := c_trial (t := t) hr
  obtain ⟨s2, e2, g1, g2, g3, -⟩ := c_prove_l (t := t) hW hp hk hw k 0 300 s1 (by omega) (by omega) r1
  have q52 : s2 52 = s 52 := by rw [g1 52 (by omega) (by decide) (by decide)]; exact f1 52 (by omega)
  have q51 : s2 51 = s 51 := by rw [g1 51 (by omega) (by decide) (by decide)]; exact f1 51 (by omega)
  obtain ⟨s3, e3, k1, k2, k3⟩ := m_find (s := s2) (t := t) hp hk hw q52 (by rw [q51]; exact h0)
  obtain ⟨s4, e4, l1, l2, -⟩ := m_pcopy_l (t := t) hk (3 * k) 0 300 (up2 s3 51 17 (nI k)) (by omega) (by omega)
  have o : ∀ c : Nat, c ≠ 52 → c ≠ 55 → c ≠ 59 → c ≠ 58 → c ≠ 51 → c ≠ 49 → c ≠ 0 → (c < 19 ∨ 27 < c) → s4 c = s c := fun c c1 c2 c3 c4 c5 c6 c7 c8 => by
    rw [l1 c c4, up2_o c5, k1 c c1 c2 c3, g1 c c8 c6 c7]; exact f1 c (by omega)
  have o0 : ∀ i : Nat, s4 0 i = if i = 9 then nI k else s 0 i := fun i => by
    rw [l1 0 (by decide), up2_o (by decide), k1 0 (by decide) (by decide) (by decide), g2 i, f1 0 (by omega)]
  have o51 : ∀ i : Nat, s4 51 i = if i = 17 then nI k else s 51 i := fun i => by
    rw [l1 51 (by decide), up2_r, k1 51 (by decide) (by decide) (by decide), q51]
    by_cases e : i = 17 <;> simp [e]
  have o52 : ∀ q : Nat, q < 56 → s4 52 q = s 52 q := fun q hq => by
    rw [l1 52 (by decide), up2_o (by decide), k2 q hq, q52]
  refine ⟨nI k, s2, s4, t, t, ?_, ?_, Rel.more (W := W) (Rel.ex [0, 19, 20, 21, 22, 23, 24, 25, 26, 27, 49, 51, 52, 55, 58, 59] h (fun c hc => ?_) (Or.inr ⟨n, hw.cg o52, ?_⟩) (Or.inl ⟨by decide, by rw [o0]; rfl, by rw [o51]; rfl, o 54 (by decide) (by decide) (by decide) (by decide) (by decide) (by decide) (by decide) (by decide)⟩) (Or.inl ⟨by rw [o 28 (by decide) (by decide) (by decide) (by decide) (by decide) (by decide) (by decide) (by decide)], by rw [o51]; rfl, o 29 (by decide) (by decide) (by decide) (by decide) (by decide) (by decide) (by decide) (by decide), o 56 (by decide) (by decide) (by decide) (by decide) (by decide) (by decide) (by decide) (by decide)⟩) (Or.inr ⟨k, hk, by rw [o0]; rfl, by rw [o51]; rfl, fun i hi => ?_⟩) (Or.inl ⟨by decide, o 60 (by decide) (by decide) (by decide) (by decide) (by decide) (by decide) (by decide) (by decide), o 61 (by decide) (by decide) (by decide) (by decide) (by decide) (by decide) (by decide) (by decide), rfl⟩) (Or.inl ⟨by decide, o 63 (by decide) (by decide) (by decide) (by decide) (by decide) (by decide) (by decide) (by decide), o 64 (by decide) (by decide) (by decide) (by decide) (by decide) (by decide) (by decide) (by decide), o 65 (by decide) (by decide) (by decide) (by decide) (by decide) (by decide) (by decide) (by decide)⟩) (Or.inl ⟨by rw [o 33 (by decide) (by decide) (by decide) (by decide) (by decide) (by decide) (by decide) (by decide)], by rw [o51]; rfl, o 34 (by decide) (by decide) (by decide) (by decide) (by decide) (by decide) (by decide) (by decide), o 66 (by decide) (by decide) (by decide) (by decide) (by decide) (by decide) (by decide) (by decide)⟩) (by rw [o51]; rfl)) (by omega)⟩
  · simp only [f_X5_prove, c_has, c_isWithin, h8, bs, b2_z, hb, hc, Bool.true_eq_false, if_false, e1]
    exact e2
  · simp only [f_X6_prove, m_isOne, m_in, q52, h6, bs, b2_z, hb, hc, Bool.true_eq_false, if_false, e3, wr_e]
    exact e4
  · simp only [List.mem_cons, List.not_mem_nil, or_false, not_or] at hc
    exact o c (by omega) (by omega) (by omega) (by omega) (by omega) (by omega) (by omega) (by omega)
  · exact (hr.fr (fun c h1 h2 => o c (by omega) (by omega) (by omega) (by omega) (by omega) (by omega) (by omega) (by omega))).cg hw.1 o52
  · have a1 : s4 49 i = RD n (s 52) p i := by
      rw [l1 49 (by decide), up2_o (by decide), k1 49 (by decide) (by decide) (by decide)]
      exact g3 i (by omega) hi
    have a2 : s4 58 i = RD n (s 52) p i := by
      rw [l2 i (by omega) hi, up2_o (by decide)]
      exact k3 i hi
    rw [a1, a2]
/-- the first ROW that isn't right -/
def jr (a b : Nat → Int32) : Nat → Nat → Int32
  | 0, _ => 0
  | m + 1, j => if a (3 * j) = b (3 * j) then (if a (3 * j + 1) = b (3 * j + 1) then (if a (3 * j + 2) = b (3 * j + 2) then jr a b m (j + 1) else nI (j + 1)) else nI (j + 1)) else nI (j + 1)
theorem c_judge_l {t : TT} {n W p r : Nat} {w : RR} (hW : W < 2 ^ 29) (hp : p < n) (hr : r ≤ 10) (hw : OKw w n W) : ∀ (m j f : Nat) (s : SS), j + m = r → m < f → s 0 9 = nI r → RW s 19 (R_wl 0 n w j).2 n → ∃ s' : SS, l_X5_judge_20 f (nI p, nI j, s, t) = some (jr (s 49) (RD n w p) m j, s', t) ∧ Fr 19 s s'
  | 0, j, f + 1, s, hj, _, h9, h => by
    have e : j = r := by omega
    subst e
    refine ⟨s, ?_, Fr.rf⟩
    show b_X5_judge_20 (l_X5_judge_20 f) (nI p) (nI j) s t = _
    simp only [b_X5_judge_20, h9, nI_le (Nat.le_refl j) (show j < 2 ^ 31 by omega), if_true, jr]
  | m + 1, j, f + 1, s, hj, hf, h9, h => by
    have hn := hw.1
    have hp8 : p < 8 := by omega
    have hok := R_wl_ok (left := 0) hw j
    obtain ⟨s1, e1, f1, r1⟩ := c_passWeek (t := t) (may := 255) (left := 0) (show W + j < 2 ^ 31 by omega) h hok (May.all hn)
    obtain ⟨i0, i1, i2⟩ := r3c j (by omega)
    have k1 : s1 22 p = RD n w p (3 * j) := by rw [RD0]; exact (r1.2.2.2.2.2.2 p hp).2.1
    have k3 : s1 24 p = RD n w p (3 * j + 1) := by rw [RD1]; exact (r1.2.2.2.2.2.2 p hp).2.2.2.1
    have k2 : (R_week 0 n (R_wl 0 n w j).2).1 = RD n w p (3 * j + 2) := RD2.symm
    have q49 : s1 49 = s 49 := f1 49 (by omega)
    have q0 : s1 0 = s 0 := f1 0 (by omega)
    have hshow : ∀ x, b_X5_judge_20 (l_X5_judge_20 f) (nI p) (nI j) s t = x → l_X5_judge_20 (f + 1) (nI p, nI j, s, t) = x := fun x hx => hx
    by_cases c0 : s 49 (3 * j) = RD n w p (3 * j)
    · by_cases c1 : s 49 (3 * j + 1) = RD n w p (3 * j + 1)
      · by_cases c2 : s 49 (3 * j + 2) = RD n w p (3 * j + 2)
        · obtain ⟨s', e2, f2⟩ := c_judge_l (t := t) hW hp hr hw m (j + 1) f s1 (by omega) (by omega) (by rw [q0]; exact h9) r1
          rw [q49] at e2
          refine ⟨s', hshow _ ?_, f1.tr f2⟩
          simp only [b_X5_judge_20, h9, nI_ge (show j < r by omega) (show r < 2 ^ 31 by omega), if_false, e1, bs, rx8 hp8, i0, i1, i2, k1, k3, k2, q49, c0, c1, c2, if_true, nI_1, jr]
          exact e2
        · exact ⟨s1, hshow _ (by simp only [b_X5_judge_20, h9, nI_ge (show j < r by omega) (show r < 2 ^ 31 by omega), if_false, e1, bs, rx8 hp8, i0, i1, i2, k1, k3, k2, q49, c0, c1, c2, if_true, nI_1, jr]), f1⟩
      · exact ⟨s1, hshow _ (by simp only [b_X5_judge_20, h9, nI_ge (show j < r by omega) (show r < 2 ^ 31 by omega), if_false, e1, bs, rx8 hp8, i0, i1, k1, k3, q49, c0, c1, if_true, nI_1, jr]), f1⟩
    · exact ⟨s1, hshow _ (by simp only [b_X5_judge_20, h9, nI_ge (show j < r by omega) (show r < 2 ^ 31 by omega), if_false, e1, bs, rx8 hp8, i0, k1, q49, c0, nI_1, jr]), f1⟩
theorem d3 : ∀ q : Nat, q < 30 → nI q / 3 + 1 = nI (q / 3 + 1) := by decide +kernel
theorem m_judge_l {t : TT} {r : Nat} {b : Nat → Int32} (hr : r ≤ 10) : ∀ (m j f : Nat) (s : SS), j + m = r → 3 * m < f → s 51 17 = nI r → (∀ q : Nat, q < 3 * r → s 59 q = b q) → l_X6_judge_21 f (nI (3 * j), s, t) = some (jr (s 58) b m j, s, t)
  | 0, j, f + 1, s, hj, _, h17, hb => by
    have e : j = r := by omega
    subst e
    have e3 : (3 : Int32) * nI j = nI (3 * j) := nI_mul 3 j
    show b_X6_judge_21 (l_X6_judge_21 f) (nI (3 * j)) s t = _
    simp only [b_X6_judge_21, h17, e3, nI_le (Nat.le_refl (3 * j)) (show 3 * j < 2 ^ 31 by omega), if_true, jr]
  | m + 1, j, f + 1 + 1 + 1, s, hj, hf, h17, hb => by
    have e3 : (3 : Int32) * nI r = nI (3 * r) := nI_mul 3 r
    have ih := m_judge_l (t := t) hr m (j + 1) f s (by omega) (by omega) h17 hb
    have b0 := hb (3 * j) (by omega)
    have b1 := hb (3 * j + 1) (by omega)
    have b2' := hb (3 * j + 2) (by omega)
    have d0 := d3 (3 * j) (by omega)
    have d1 := d3 (3 * j + 1) (by omega)
    have d2 := d3 (3 * j + 2) (by omega)
    rw [show 3 * j / 3 = j by omega] at d0
    rw [show (3 * j + 1) / 3 = j by omega] at d1
    rw [show (3 * j + 2) / 3 = j by omega] at d2
    show b_X6_judge_21 (l_X6_judge_21 (f + 1 + 1)) (nI (3 * j)) s t = _
    by_cases c0 : s 58 (3 * j) = b (3 * j)
    · simp only [b_X6_judge_21, h17, e3, nI_ge (show 3 * j < 3 * r by omega) (show 3 * r < 2 ^ 31 by omega), if_false, rx30 (show 3 * j < 30 by omega), bs, b0, c0, if_true, nI_1, jr]
      show b_X6_judge_21 (l_X6_judge_21 (f + 1)) (nI (3 * j + 1)) s t = _
      by_cases c1 : s 58 (3 * j + 1) = b (3 * j + 1)
      · simp only [b_X6_judge_21, h17, e3, nI_ge (show 3 * j + 1 < 3 * r by omega) (show 3 * r < 2 ^ 31 by omega), if_false, rx30 (show 3 * j + 1 < 30 by omega), bs, b1, c1, if_true, nI_1]
        show b_X6_judge_21 (l_X6_judge_21 f) (nI (3 * j + 2)) s t = _
        by_cases c2 : s 58 (3 * j + 2) = b (3 * j + 2)
        · simp only [b_X6_judge_21, h17, e3, nI_ge (show 3 * j + 2 < 3 * r by omega) (show 3 * r < 2 ^ 31 by omega), if_false, rx30 (show 3 * j + 2 < 30 by omega), bs, b2', c2, if_true, nI_1]
          exact ih
        · simp only [b_X6_judge_21, h17, e3, nI_ge (show 3 * j + 2 < 3 * r by omega) (show 3 * r < 2 ^ 31 by omega), if_false, rx30 (show 3 * j + 2 < 30 by omega), bs, b2', c2, d2]
      · simp only [b_X6_judge_21, h17, e3, nI_ge (show 3 * j + 1 < 3 * r by omega) (show 3 * r < 2 ^ 31 by omega), if_false, rx30 (show 3 * j + 1 < 30 by omega), bs, b1, c1, d1]
    · simp only [b_X6_judge_21, h17, e3, nI_ge (show 3 * j < 3 * r by omega) (show 3 * r < 2 ^ 31 by omega), if_false, rx30 (show 3 * j < 30 by omega), bs, b0, c0, jr, d0]
theorem jr_cg {a a' b : Nat → Int32} : ∀ (m j r : Nat), j + m = r → (∀ q : Nat, q < 3 * r → a' q = a q) → jr a' b m j = jr a b m j
  | 0, _, _, _, _ => rfl
  | m + 1, j, r, hj, h => by
    unfold jr
    rw [h (3 * j) (by omega), h (3 * j + 1) (by omega), h (3 * j + 2) (by omega), jr_cg m (j + 1) r (by omega) h]
theorem s_judge {s : SS} {t : TT} {W : Nat} (hW : W < 2 ^ 29) (x : Int32) (h : Rel s t W) : Sim (f_X5_judge x) (f_X6_judge x) s t W := by
  obtain ⟨⟨n, hw, hr⟩, -, -, ⟨r, hr10, h9, h17, hrow⟩, -, -, -, h0⟩ := id h
  have h8 : s 1 8 = nI n := hr.1
  have h6 := hw.2.1
  cases hb : wi x 0 (nI n - 1) with
  | false => exact Sim.of h (-1) (by simp only [f_X5_judge, c_has, h8, bs, b2_z, hb, if_true]) (by simp only [f_X6_judge, m_isOne, h6, bs, b2_z, hb, if_true])
  | true =>
  obtain ⟨p, hp, rfl⟩ := wi_one hw.1 hb
  obtain ⟨s1, e1, f1, r1⟩ := c_trial (t := t) hr
  have q0 : s1 0 = s 0 := f1 0 (by omega)
  have q49 : s1 49 = s 49 := f1 49 (by omega)
  obtain ⟨s2, e2, f2⟩ := c_judge_l (t := t) hW hp hr10 hw r 0 300 s1 (by omega) (by omega) (by rw [q0]; exact h9) r1
  have f3 := f1.tr f2
  have q52 : s2 52 = s 52 := f3 52 (by omega)
  have q51 : s2 51 = s 51 := f3 51 (by omega)
  obtain ⟨s3, e3, k1, k2, k3⟩ := m_find (s := s2) (t := t) (k := r) hp hr10 hw q52 (by rw [q51]; exact h0)
  have x51 : s3 51 = s 51 := (k1 51 (by decide) (by decide) (by decide)).trans q51
  have x58 : s3 58 = s 58 := (k1 58 (by decide) (by decide) (by decide)).trans (f3 58 (by omega))
  have e4 := m_judge_l (t := t) hr10 r 0 300 s3 (by omega) (by omega) (by rw [x51]; exact h17) k3
  have ej : jr (s3 58) (RD n (s 52) p) r 0 = jr (s1 49) (RD n (s 52) p) r 0 := jr_cg r 0 r (by omega) (fun q hq => by rw [x58, q49, hrow q hq])
  rw [ej] at e4
  have m5 : MF s2 s3 := ⟨fun c c1 c2 c3 c4 c5 => k1 c c2 c3 c5, fun i _ => by rw [k1 51 (by decide) (by decide) (by decide)], k2⟩
  refine ⟨jr (s1 49) (RD n (s 52) p) r 0, s2, s3, t, t, ?_, ?_, (h.tr (Tr.of f3.fc m5 h0 (by rw [x51]; exact h0))).more (by omega)⟩
  · simp only [f_X5_judge, c_has, h8, bs, b2_z, hb, Bool.true_eq_false, if_false, e1]
    exact e2
  · simp only [f_X6_judge, m_isOne, q52, q51, h6, h17, bs, b2_z, hb, Bool.true_eq_false, if_false, e3]
    exact e4
