/-! odds, hope: Euclid's steps -/
def eu : Nat → Nat → Nat → Bool
  | 0, _, y => y == 0
  | n + 1, x, y => y == 0 || eu n y (x % y)
def fb : Nat → Nat
  | 0 => 1
  | 1 => 2
  | n + 2 => fb (n + 1) + fb n
theorem eu_fb : ∀ (n : Nat), (∀ x y : Nat, y < x → y < fb n → eu n x y = true) ∧ (∀ x y : Nat, y < x → y < fb (n + 1) → eu (n + 1) x y = true)
  | 0 => by
    refine ⟨fun x y _ h => ?_, fun x y hxy h => ?_⟩
    · have e : y = 0 := by simp only [fb] at h; omega
      subst e; rfl
    · simp only [fb] at h
      have e : y = 0 ∨ y = 1 := by omega
      rcases e with rfl | rfl
      · rfl
      · simp [eu, Nat.mod_one]
  | n + 1 => by
    obtain ⟨ih1, ih2⟩ := eu_fb n
    refine ⟨ih2, fun x y hxy h => ?_⟩
    by_cases y0 : y = 0
    · subst y0; rfl
    · have hr : x % y < y := Nat.mod_lt _ (by omega)
      show (y == 0 || eu (n + 1) y (x % y)) = true
      rw [Bool.or_eq_true]
      right
      by_cases c : x % y < fb (n + 1)
      · exact ih2 y (x % y) hr c
      · by_cases r0 : x % y = 0
        · rw [r0]; simp [eu]
        · show (x % y == 0 || eu n (x % y) (y % (x % y))) = true
          rw [Bool.or_eq_true]
          right
          refine ih1 _ _ (Nat.mod_lt _ (by omega)) ?_
          have h2 : fb (n + 1 + 1) = fb (n + 1) + fb n := rfl
          have h3 : y % (x % y) ≤ y - x % y := by
            have := Nat.mod_eq_sub_mod (show y ≥ x % y by omega)
            rw [this]
            exact Nat.mod_le _ _
          omega
theorem eu_ok {x y : Nat} (h : y < x) (hy : y < 10 ^ 18) : eu 90 x y = true := (eu_fb 90).1 x y h (Nat.lt_of_lt_of_le hy (by decide +kernel))
/-- where Euclid's steps end -/
def eg : Nat → Nat → Nat → Nat
  | 0, x, _ => x
  | n + 1, x, y => if y = 0 then x else eg n y (x % y)
theorem lg0 {n : Nat} (hn : n < 2 ^ 63) : (lg_cmp (lN n) 0 = 0) = (n = 0) := by
  have e : (lN n = 0) = (n = 0) := propext (pk_lEQ (b := 0) hn (by decide))
  unfold lg_cmp
  by_cases h0 : n = 0
  · subst h0
    simp [show ¬ lN 0 > 0 by decide, show lN 0 = 0 by decide]
  · have h1 : lN n > 0 := (pk_lLT (a := 0) (by decide) hn).mpr (by omega)
    rw [if_pos h1]
    simp [h0]
theorem lg1 {n : Nat} (hn : n < 2 ^ 63) : (lg_cmp (lN n) 0 ≤ 0) = (n = 0) := by
  unfold lg_cmp
  by_cases h0 : n = 0
  · subst h0
    simp [show ¬ lN 0 > 0 by decide, show lN 0 = 0 by decide]
  · have h1 : lN n > 0 := (pk_lLT (a := 0) (by decide) hn).mpr (by omega)
    rw [if_pos h1]
    simp [h0]
theorem lz {n : Nat} (hn : n < 2 ^ 63) : (lN n = 0) = (n = 0) := propext (pk_lEQ (b := 0) hn (by decide))
theorem nI_100 {j : Nat} (hj : j < 2 ^ 31) : ((100 : Int32) ≤ nI j) = (100 ≤ j) := propext (nI_leI (a := 100) (by decide) hj)
theorem c_gcd {s : SS} {t : TT} : ∀ (m x y i f : Nat), x < 2 ^ 63 → y < 2 ^ 63 → eu m x y = true → i + m < 100 → m < f → l_X5_commonDivisor_9 f (lN x, lN y, nI i, s, t) = some (lN (eg m x y), s, t)
  | 0, x, y, i, f + 1, hx, hy, he, hi, _ => by
    have e0 : y = 0 := by simpa [eu] using he
    subst e0
    show b_X5_commonDivisor_9 (l_X5_commonDivisor_9 f) (lN x) (lN 0) (nI i) s t = _
    simp only [b_X5_commonDivisor_9, nI_100 (show i < 2 ^ 31 by omega), show ¬ 100 ≤ i by omega, if_false, lg0 (show 0 < 2 ^ 63 by decide), if_true, eg]
  | m + 1, x, y, i, f + 1, hx, hy, he, hi, hf => by
    show b_X5_commonDivisor_9 (l_X5_commonDivisor_9 f) (lN x) (lN y) (nI i) s t = _
    by_cases e0 : y = 0
    · subst e0
      simp only [b_X5_commonDivisor_9, nI_100 (show i < 2 ^ 31 by omega), show ¬ 100 ≤ i by omega, if_false, lg0 (show 0 < 2 ^ 63 by decide), if_true, eg]
    · have he' : eu m y (x % y) = true := by
        have : (y == 0 || eu m y (x % y)) = true := he
        simpa [e0] using this
      have hr : x % y < 2 ^ 63 := Nat.lt_of_le_of_lt (Nat.mod_le _ _) hx
      simp only [b_X5_commonDivisor_9, nI_100 (show i < 2 ^ 31 by omega), show ¬ 100 ≤ i by omega, if_false, lg0 hy, lz hy, e0, pk_lRem hx (show 0 < y by omega) hy, nI_1, eg]
      exact c_gcd m y (x % y) (i + 1) f hy hr he' (by omega) (by omega)
/-- a part of a fraction, by what Euclid leaves -/
def pt (A B g : Nat) (part : Int32) : Int64 := if part = 0 then lN A / lN g else lN B / lN g
theorem m_low {s : SS} {t : TT} {A B : Nat} {part : Int32} : ∀ (m x y f : Nat), x < 2 ^ 63 → y < 2 ^ 63 → eu m x y = true → eg m x y ≠ 0 → eg m x y < 2 ^ 63 → m < f → l_X6_lowest_6 f (lN A, lN B, part, lN x, lN y, s, t) = some (pt A B (eg m x y) part, s, t)
  | 0, x, y, f + 1, hx, hy, he, hg, hg2, _ => by
    have e0 : y = 0 := by simpa [eu] using he
    subst e0
    show b_X6_lowest_6 (l_X6_lowest_6 f) (lN A) (lN B) part (lN x) (lN 0) s t = _
    simp only [eg] at hg hg2 ⊢
    simp only [b_X6_lowest_6, lg0 (show 0 < 2 ^ 63 by decide), if_true, lz hx, hg, if_false, pt, ite_q]
  | m + 1, x, y, f + 1, hx, hy, he, hg, hg2, hf => by
    show b_X6_lowest_6 (l_X6_lowest_6 f) (lN A) (lN B) part (lN x) (lN y) s t = _
    by_cases e0 : y = 0
    · subst e0
      simp only [eg, if_true] at hg hg2 ⊢
      simp only [b_X6_lowest_6, lg0 (show 0 < 2 ^ 63 by decide), if_true, lz hx, hg, if_false, pt, ite_q]
    · have he' : eu m y (x % y) = true := by
        have : (y == 0 || eu m y (x % y)) = true := he
        simpa [e0] using this
      have hr : x % y < 2 ^ 63 := Nat.lt_of_le_of_lt (Nat.mod_le _ _) hx
      simp only [eg, e0, if_false] at hg hg2 ⊢
      simp only [b_X6_lowest_6, lg0 hy, lz hy, e0, if_false, pk_lRem hx (show 0 < y by omega) hy]
      exact m_low m y (x % y) f hy hr he' hg hg2 (by omega)
theorem eg_pos : ∀ (m x y : Nat), 0 < x → 0 < eg m x y ∧ eg m x y ≤ max x y
  | 0, x, y, h => ⟨h, Nat.le_max_left _ _⟩
  | m + 1, x, y, h => by
    unfold eg
    by_cases e0 : y = 0
    · rw [if_pos e0]; exact ⟨h, Nat.le_max_left _ _⟩
    · rw [if_neg e0]
      obtain ⟨h1, h2⟩ := eg_pos m y (x % y) (by omega)
      refine ⟨h1, Nat.le_trans h2 ?_⟩
      have hr : x % y < y := Nat.mod_lt _ (by omega)
      rw [Nat.max_eq_left (by omega)]
      exact Nat.le_max_right _ _
theorem part_eq {s s' : SS} {t t' : TT} {A B : Nat} {part : Int32} (hA : A < 10 ^ 18) (hB0 : 0 < B) (hB : B < 10 ^ 18) : ∃ r : Int64, f_X5_partOf (lN A) (lN B) part s t = some (r, s, t) ∧ f_X6_lowest (lN A) (lN B) part s' t' = some (r, s', t') := by
  have hA63 : A < 2 ^ 63 := by omega
  have hB63 : B < 2 ^ 63 := by omega
  have hr : A % B < B := Nat.mod_lt _ hB0
  have he : eu 90 B (A % B) = true := eu_ok hr (by omega)
  have heC : eu 91 A B = true := by show (B == 0 || eu 90 B (A % B)) = true; rw [he, Bool.or_true]
  obtain ⟨g1, g2⟩ := eg_pos 90 B (A % B) hB0
  rw [Nat.max_eq_left (by omega)] at g2
  have hC := c_gcd (s := s) (t := t) 91 A B 0 300 hA63 hB63 heC (by omega) (by omega)
  have egC : eg 91 A B = eg 90 B (A % B) := by show (if B = 0 then A else eg 90 B (A % B)) = _; rw [if_neg (by omega)]
  rw [egC] at hC
  have hC2 : f_X5_commonDivisor (lN A) (lN B) s t = some (lN (eg 90 B (A % B)), s, t) := hC
  refine ⟨pt A B (eg 90 B (A % B)) part, ?_, ?_⟩
  · simp only [f_X5_partOf, hC2, bs, j_X5_partOf_17, lg1 (show eg 90 B (A % B) < 2 ^ 63 by omega), lz (show eg 90 B (A % B) < 2 ^ 63 by omega), show ¬ eg 90 B (A % B) = 0 by omega, if_false, pt, ite_q]
  · show l_X6_lowest_6 300 (lN A, lN B, part, lN B, lN A, s', t') = _
    by_cases c : A < B
    · have e1 : A % B = A := Nat.mod_eq_of_lt c
      rw [e1] at he g1 g2 ⊢
      exact m_low 90 B A 300 hB63 hA63 he (by omega) (by omega) (by omega)
    · by_cases c2 : A = B
      · subst c2
        have e1 : A % A = 0 := Nat.mod_self A
        rw [e1] at g1 g2 ⊢
        have e2 : eg 90 A 0 = A := by show (if 0 = 0 then A else _) = A; rw [if_pos rfl]
        have h2 := m_low (s := s') (t := t') (A := A) (B := A) (part := part) 2 A A 300 hA63 hA63 (by simp [eu]) (by simp [eg]; omega) (by simp [eg]; omega) (by omega)
        have e3 : eg 2 A A = A := by simp [eg]
        rw [e3] at h2
        rw [e2]
        exact h2
      · have e1 : B % A = B := Nat.mod_eq_of_lt (by omega)
        have h2 := m_low (s := s') (t := t') (A := A) (B := B) (part := part) 92 B A 300 hB63 hA63 (by
          show (A == 0 || eu 91 A (B % A)) = true
          rw [e1, heC, Bool.or_true]) (by
          show (if A = 0 then B else eg 91 A (B % A)) ≠ 0
          rw [if_neg (by omega), e1, egC]; omega) (by
          show (if A = 0 then B else eg 91 A (B % A)) < 2 ^ 63
          rw [if_neg (by omega), e1, egC]; omega) (by omega)
        have e3 : eg 92 B A = eg 90 B (A % B) := by
          show (if A = 0 then B else eg 91 A (B % A)) = _
          rw [if_neg (by omega), e1, egC]
        rw [e3] at h2
        exact h2
theorem SimL.of {f g : SS → TT → Option (Int64 × SS × TT)} {s : SS} {t : TT} {W : Nat} (h : Rel s t W) (r : Int64) (hf : f s t = some (r, s, t)) (hg : g s t = some (r, s, t)) : SimL f g s t W := ⟨r, s, s, t, t, hf, hg, h.more (by omega)⟩
theorem s_hope {s : SS} {t : TT} {W : Nat} (x y : Int32) (h : Rel s t W) : SimL (f_X5_hope x y) (f_X6_hope x y) s t W := by
  obtain ⟨⟨n, hw, hr⟩, -⟩ := id h
  cases hb : wi x 0 99 with
  | false => exact SimL.of h (-1) (by simp only [f_X5_hope, c_isWithin, bs, b2_z, hb, if_true]) (by simp only [f_X6_hope, m_in, bs, b2_z, hb, if_true])
  | true =>
  cases hc : wi y 0 1 with
  | false => exact SimL.of h (-1) (by simp only [f_X5_hope, c_isWithin, bs, b2_z, hb, hc, Bool.true_eq_false, if_false, if_true]) (by simp only [f_X6_hope, m_in, bs, b2_z, hb, hc, Bool.true_eq_false, if_false, if_true])
  | true =>
  obtain ⟨a, ha, rfl⟩ := wi_two (n := 99) (by decide) hb
  obtain ⟨k, hk, ek⟩ := hw.2.2.1 3 (by omega)
  have hk99 : k ≤ 99 := hk
  have e3 : s 2 3 = nI k := (hr.2.2.1 3 (by omega)).trans ek
  have hm : a * k ≤ 99 * 99 := Nat.mul_le_mul ha hk99
  obtain ⟨r, e1, e2⟩ := part_eq (s := s) (s' := s) (t := t) (t' := t) (A := a * k) (B := 100) (part := y) (by omega) (by omega) (by omega)
  have e4 : (nI a).toInt64 * (nI k).toInt64 = lN (a * k) := by rw [nI_l (by omega), nI_l (by omega), lN_mul]
  refine SimL.of h r ?_ ?_
  · simp only [f_X5_hope, c_isWithin, bs, b2_z, hb, hc, Bool.true_eq_false, if_false, rx4_3, e3, e4]
    rw [show f_X5_partOf (lN (a * k)) 100 y s t = _ from e1]
    rfl
  · simp only [f_X6_hope, m_in, bs, b2_z, hb, hc, Bool.true_eq_false, if_false, rx56_3, ek, e4]
    rw [show f_X6_lowest (lN (a * k)) 100 y s t = _ from e2]
    rfl
def cc (n k : Nat) : Nat → Nat
  | 0 => 1
  | i + 1 => cc n k i * (n - k + (i + 1)) / (i + 1)
def wv (n : Nat) : Nat → Nat
  | 0 => 1
  | i + 1 => wv n i * (n - i) / (i + 1)
theorem cc_le : ∀ n : Nat, n < 9 → ∀ k : Nat, k < n + 1 → ∀ i : Nat, i < k + 1 → cc n k i ≤ 70 := by decide +kernel
theorem wv_le : ∀ n : Nat, n < 9 → ∀ i : Nat, i < n + 1 → wv n i ≤ 70 := by decide +kernel
theorem cc_wv : ∀ n : Nat, n < 9 → ∀ k : Nat, k < n + 1 → cc n k k = wv n k := by decide +kernel
theorem c_choices_l {s : SS} {t : TT} {n k : Nat} (hn : n < 9) (hk : k ≤ n) : ∀ (m i f : Nat), i + m = k → m < f → l_X5_choices_5 f (nI n, nI k, lN (cc n k i), nI (i + 1), s, t) = some (lN (cc n k k), s, t)
  | 0, i, f + 1, hi, _ => by
    have e : i = k := by omega
    subst e
    show b_X5_choices_5 (l_X5_choices_5 f) (nI n) (nI i) (lN (cc n i i)) (nI (i + 1)) s t = _
    unfold b_X5_choices_5
    rw [if_pos (nI_lt (by omega) (by omega))]
  | m + 1, i, f + 1, hi, hf => by
    have ih := c_choices_l (s := s) (t := t) hn hk m (i + 1) f (by omega) (by omega)
    have hc := cc_le n hn k (by omega) i (by omega)
    show b_X5_choices_5 (l_X5_choices_5 f) (nI n) (nI k) (lN (cc n k i)) (nI (i + 1)) s t = _
    have c0 : ¬ nI k < nI (i + 1) := nI_nlt (by omega) (by omega)
    have e1 : (nI (i + 1)).toInt64 = lN (i + 1) := nI_l (by omega)
    have e2 : (nI n - nI k + nI (i + 1)).toInt64 = lN (n - k + (i + 1)) := by rw [nI_sub hk, nI_add, nI_l (by omega)]
    have e3 : ¬ lN (i + 1) = 0 := fun z => by have := (pk_lEQ (b := 0) (show i + 1 < 2 ^ 63 by omega) (by decide)).mp z; omega
    have hm : cc n k i * (n - k + (i + 1)) ≤ 70 * 20 := Nat.mul_le_mul hc (by omega)
    have e4 : lN (cc n k i) * lN (n - k + (i + 1)) / lN (i + 1) = lN (cc n k (i + 1)) := by rw [lN_mul, pk_lDiv (by omega) (by omega) (by omega)]; rfl
    simp only [b_X5_choices_5, c0, if_false, e1, e2, e3, e4, nI_1]
    exact ih
theorem m_pow_l {s : SS} {t : TT} {a k : Nat} (ha : a < 2 ^ 31) (hk : k < 200) : ∀ (m i f : Nat), i + m = k → m < f → l_X6_powerOf_5 f (nI a, nI k, lN (a ^ i), nI i, s, t) = some (lN (a ^ k), s, t)
  | 0, i, f + 1, hi, _ => by
    have e : i = k := by omega
    subst e
    show b_X6_powerOf_5 (l_X6_powerOf_5 f) (nI a) (nI i) (lN (a ^ i)) (nI i) s t = _
    unfold b_X6_powerOf_5
    rw [if_pos (nI_le (Nat.le_refl i) (by omega))]
  | m + 1, i, f + 1, hi, hf => by
    have ih := m_pow_l (s := s) (t := t) ha hk m (i + 1) f (by omega) (by omega)
    show b_X6_powerOf_5 (l_X6_powerOf_5 f) (nI a) (nI k) (lN (a ^ i)) (nI i) s t = _
    have c0 : ¬ nI k ≤ nI i := nI_ge (by omega) (by omega)
    have e1 : lN (a ^ i) * (nI a).toInt64 = lN (a ^ (i + 1)) := by rw [nI_l ha, lN_mul, Nat.pow_succ]
    simp only [b_X6_powerOf_5, c0, if_false, e1, nI_1]
    exact ih
theorem m_pow {s : SS} {t : TT} {a k : Nat} (ha : a < 2 ^ 31) (hk : k < 200) : f_X6_powerOf (nI a) (nI k) s t = some (lN (a ^ k), s, t) := m_pow_l (s := s) (t := t) ha hk k 0 300 (by omega) (by omega)
/-- what stands above the line behind i pages -/
def ab (sl k i : Nat) : Nat := if i ≤ k then sl ^ i else sl ^ k * (100 - sl) ^ (i - k)
theorem c_odds_l {s : SS} {t : TT} {n k sl : Nat} {part : Int32} {r : Int64} (hn : n < 9) (hk : k ≤ n) (hs : sl ≤ 99) (hp : f_X5_partOf (lN (ab sl k n * cc n k k)) (lN (100 ^ n)) part s t = some (r, s, t)) : ∀ (m i f : Nat), i + m = n → m < f → l_X5_odds_52 f (nI n, nI k, part, nI sl, lN (ab sl k i), lN (100 ^ i), nI i, s, t) = some (r, s, t)
  | 0, i, f + 1, hi, _ => by
    have e : i = n := by omega
    subst e
    have hc : f_X5_choices (nI i) (nI k) s t = some (lN (cc i k k), s, t) := c_choices_l (s := s) (t := t) hn hk k 0 300 (by omega) (by omega)
    show b_X5_odds_52 (l_X5_odds_52 f) (nI i) (nI k) part (nI sl) (lN (ab sl k i)) (lN (100 ^ i)) (nI i) s t = _
    simp only [b_X5_odds_52, nI_le (Nat.le_refl i) (show i < 2 ^ 31 by omega), if_true, hc, bs, lN_mul, hp]
  | m + 1, i, f + 1, hi, hf => by
    have ih := c_odds_l (s := s) (t := t) hn hk hs hp m (i + 1) f (by omega) (by omega)
    have e0 : lN (100 ^ i) * 100 = lN (100 ^ (i + 1)) := by rw [Nat.pow_succ]; exact lN_mul (100 ^ i) 100
    show b_X5_odds_52 (l_X5_odds_52 f) (nI n) (nI k) part (nI sl) (lN (ab sl k i)) (lN (100 ^ i)) (nI i) s t = _
    by_cases c : k ≤ i
    · have e1 : ((100 : Int32) - nI sl).toInt64 = lN (100 - sl) := by rw [show (100 : Int32) - nI sl = nI (100 - sl) from nI_sub (a := 100) (by omega), nI_l (by omega)]
      have e2 : lN (ab sl k i) * lN (100 - sl) = lN (ab sl k (i + 1)) := by
        rw [lN_mul]
        congr 1
        unfold ab
        rw [if_neg (show ¬ i + 1 ≤ k by omega)]
        by_cases c2 : i ≤ k
        · have e : i = k := by omega
          subst e
          rw [if_pos (Nat.le_refl i), show i + 1 - i = 1 by omega, Nat.pow_one]
        · rw [if_neg c2, show i + 1 - k = (i - k) + 1 by omega, Nat.pow_succ, Nat.mul_assoc]
      simp only [b_X5_odds_52, j_X5_odds_78, nI_ge (show i < n by omega) (show n < 2 ^ 31 by omega), if_false, nI_le c (show i < 2 ^ 31 by omega), if_true, e1, e2, e0, nI_1]
      exact ih
    · have e2 : lN (ab sl k i) * lN sl = lN (ab sl k (i + 1)) := by
        rw [lN_mul]
        congr 1
        unfold ab
        rw [if_pos (show i + 1 ≤ k by omega), if_pos (show i ≤ k by omega), Nat.pow_succ]
      simp only [b_X5_odds_52, j_X5_odds_78, nI_ge (show i < n by omega) (show n < 2 ^ 31 by omega), nI_ge (show i < k by omega) (show k < 2 ^ 31 by omega), if_false, nI_l (show sl < 2 ^ 31 by omega), e2, e0, nI_1]
      exact ih
theorem m_odds_l {s : SS} {t : TT} {n k sl : Nat} {part : Int32} {r : Int64} (hn : n < 9) (hk : k ≤ n) (hs : sl ≤ 99) (h3 : s 52 3 = nI sl) (hp : f_X6_lowest (lN (wv n k * sl ^ k * (100 - sl) ^ (n - k))) (lN (100 ^ n)) part s t = some (r, s, t)) : ∀ (m i f : Nat), i + m = k → m < f → l_X6_odds_38 f (nI n, nI k, part, lN (wv n i), nI i, s, t) = some (r, s, t)
  | 0, i, f + 1, hi, _ => by
    have e : i = k := by omega
    subst e
    have e1 : (100 : Int32) - nI sl = nI (100 - sl) := nI_sub (a := 100) (by omega)
    have e2 : nI n - nI i = nI (n - i) := nI_sub hk
    have p1 := m_pow (s := s) (t := t) (a := sl) (k := i) (by omega) (by omega)
    have p2 := m_pow (s := s) (t := t) (a := 100 - sl) (k := n - i) (by omega) (by omega)
    have p3 : f_X6_powerOf 100 (nI n) s t = some (lN (100 ^ n), s, t) := m_pow (s := s) (t := t) (a := 100) (k := n) (by omega) (by omega)
    show b_X6_odds_38 (l_X6_odds_38 f) (nI n) (nI i) part (lN (wv n i)) (nI i) s t = _
    simp only [b_X6_odds_38, nI_le (Nat.le_refl i) (show i < 2 ^ 31 by omega), if_true, rx56_3, bs, h3, e1, e2, p1, p2, p3, lN_mul, hp]
  | m + 1, i, f + 1, hi, hf => by
    have ih := m_odds_l (s := s) (t := t) hn hk hs h3 hp m (i + 1) f (by omega) (by omega)
    have hc := wv_le n hn i (by omega)
    have e1 : (nI (i + 1)).toInt64 = lN (i + 1) := nI_l (by omega)
    have e2 : (nI n - nI i).toInt64 = lN (n - i) := by rw [nI_sub (by omega), nI_l (by omega)]
    have e3 : ¬ lN (i + 1) = 0 := fun z => by have := (pk_lEQ (b := 0) (show i + 1 < 2 ^ 63 by omega) (by decide)).mp z; omega
    have hm : wv n i * (n - i) ≤ 70 * 20 := Nat.mul_le_mul hc (by omega)
    have e4 : lN (wv n i) * lN (n - i) / lN (i + 1) = lN (wv n (i + 1)) := by rw [lN_mul, pk_lDiv (by omega) (by omega) (by omega)]; rfl
    show b_X6_odds_38 (l_X6_odds_38 f) (nI n) (nI k) part (lN (wv n i)) (nI i) s t = _
    simp only [b_X6_odds_38, nI_ge (show i < k by omega) (show k < 2 ^ 31 by omega), if_false, nI_1, e1, e2, e3, e4]
    exact ih
theorem s_odds {s : SS} {t : TT} {W : Nat} (x y z : Int32) (h : Rel s t W) : SimL (f_X5_odds x y z) (f_X6_odds x y z) s t W := by
  obtain ⟨⟨n, hw, hr⟩, -⟩ := id h
  cases hb : wi x 0 8 with
  | false => exact SimL.of h (-1) (by simp only [f_X5_odds, c_isWithin, bs, b2_z, hb, if_true]) (by simp only [f_X6_odds, m_in, bs, b2_z, hb, if_true])
  | true =>
  obtain ⟨a, ha, rfl⟩ := wi_two (n := 8) (by decide) hb
  cases hc : wi y 0 (nI a) with
  | false => exact SimL.of h (-1) (by simp only [f_X5_odds, c_isWithin, bs, b2_z, hb, hc, Bool.true_eq_false, if_false, if_true]) (by simp only [f_X6_odds, m_in, bs, b2_z, hb, hc, Bool.true_eq_false, if_false, if_true])
  | true =>
  obtain ⟨k, hk, rfl⟩ := wi_two (n := a) (by omega) hc
  cases hz : wi z 0 1 with
  | false => exact SimL.of h (-1) (by simp only [f_X5_odds, c_isWithin, bs, b2_z, hb, hc, hz, Bool.true_eq_false, if_false, if_true]) (by simp only [f_X6_odds, m_in, bs, b2_z, hb, hc, hz, Bool.true_eq_false, if_false, if_true])
  | true =>
  obtain ⟨sl, hsl, es⟩ := hw.2.2.1 3 (by omega)
  have hs : sl ≤ 99 := hsl
  have e3 : s 2 3 = nI sl := (hr.2.2.1 3 (by omega)).trans es
  have eA : ab sl k a * cc a k k = wv a k * sl ^ k * (100 - sl) ^ (a - k) := by
    rw [cc_wv a (by omega) k (by omega)]
    have e : ab sl k a = sl ^ k * (100 - sl) ^ (a - k) := by
      unfold ab
      by_cases c : a ≤ k
      · have e : a = k := by omega
        subst e
        rw [if_pos (Nat.le_refl a), Nat.sub_self, Nat.pow_zero, Nat.mul_one]
      · rw [if_neg c]
    rw [e, Nat.mul_comm, Nat.mul_assoc]
  have hA : wv a k * sl ^ k * (100 - sl) ^ (a - k) ≤ 70 * 100 ^ 8 := by
    have h1 : sl ^ k ≤ 100 ^ k := Nat.pow_le_pow_left (by omega) k
    have h2 : (100 - sl) ^ (a - k) ≤ 100 ^ (a - k) := Nat.pow_le_pow_left (by omega) _
    have h3 : sl ^ k * (100 - sl) ^ (a - k) ≤ 100 ^ a := by
      have := Nat.mul_le_mul h1 h2
      rw [← Nat.pow_add, show k + (a - k) = a by omega] at this
      exact this
    rw [Nat.mul_assoc]
    exact Nat.mul_le_mul (wv_le a (by omega) k (by omega)) (Nat.le_trans h3 (Nat.pow_le_pow_right (by omega) ha))
  have hB : 100 ^ a ≤ 100 ^ 8 := Nat.pow_le_pow_right (by omega) ha
  obtain ⟨r, e1, e2⟩ := part_eq (s := s) (s' := s) (t := t) (t' := t) (A := wv a k * sl ^ k * (100 - sl) ^ (a - k)) (B := 100 ^ a) (part := z) (Nat.lt_of_le_of_lt hA (by decide)) (Nat.pow_pos (by omega)) (Nat.lt_of_le_of_lt hB (by decide))
  rw [← eA] at e1
  have g1 := c_odds_l (s := s) (t := t) (n := a) (k := k) (sl := sl) (part := z) (by omega) hk hs e1 a 0 300 (by omega) (by omega)
  have g2 := m_odds_l (s := s) (t := t) (n := a) (k := k) (sl := sl) (part := z) (by omega) hk hs es e2 k 0 300 (by omega) (by omega)
  have g0 : ab sl k 0 = 1 := by unfold ab; rw [if_pos (Nat.zero_le k), Nat.pow_zero]
  rw [g0] at g1
  refine SimL.of h r ?_ ?_
  · simp only [f_X5_odds, c_isWithin, bs, b2_z, hb, hc, hz, Bool.true_eq_false, if_false, rx4_3, e3]
    exact g1
  · simp only [f_X6_odds, m_in, bs, b2_z, hb, hc, hz, Bool.true_eq_false, if_false]
    exact g2
