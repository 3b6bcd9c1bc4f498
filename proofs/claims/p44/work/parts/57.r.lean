/-! the reference's next token -/
theorem m_byteAt {s : SS} {t : TT} {m i : Nat} (hm : m ≤ 200) (h7 : s 51 7 = nI m) (hi : i < 2 ^ 31) : f_X6_byteAt (nI i) s t = some (if m ≤ i then -1 else s 56 i, s, t) := by
  by_cases c : m ≤ i
  · simp only [f_X6_byteAt, h7, nI_le c hi, if_true, c]
  · simp only [f_X6_byteAt, h7, nI_ge (show i < m by omega) (show m < 2 ^ 31 by omega), if_false, rx200 (show i < 200 by omega), bs, c]
theorem m_isL {x : Int32} {s : SS} {t : TT} : f_X6_isLetter x s t = some (b2 (isL x), s, t) := by
  simp only [f_X6_isLetter, m_in, bs, b2_k, if_true]; rfl
theorem m_isD {x : Int32} {s : SS} {t : TT} : f_X6_isDigit x s t = some (b2 (isD x), s, t) := by
  simp only [f_X6_isDigit, m_in, bs, b2_k, if_true]; rfl
def vN (b : RR) (a n : Nat) : Int32 := if n ≤ 3 then nI (dv b a n) else -1
def vW (b : RR) (a n : Nat) : Int64 := if n ≤ 9 then lN (vl b a n) else -1
theorem m_dig_l {b : RR} {t : TT} {m a : Nat} (hm : m ≤ 200) : ∀ (f x : Nat) (s : SS), s 51 8 = 2 → s 51 9 = nI a → s 51 10 = nI x → s 51 7 = nI m → s 56 = b → a ≤ x → x ≤ m → m - x < f → (∀ j : Nat, a ≤ j → j < x → isD (b j) = true) → s 51 12 = vN b a (x - a) → ∃ (s' : SS) (e : Nat), l_X6_advance_207 f (s, t) = some (s', t) ∧ Run isD b m a e ∧ s' 51 10 = nI e ∧ s' 51 12 = vN b a (e - a) ∧ (∀ c : Nat, c ≠ 51 → s' c = s c) ∧ ∀ i : Nat, i ≠ 10 → i ≠ 12 → s' 51 i = s 51 i
  | 0, x, s, _, _, _, _, _, _, _, hf, _, _ => by omega
  | f + 1, x, s, h8, h9, h10, h7, h56, hax, hx, hf, hd, hv => by
    show ∃ (s' : SS) (e : Nat), b_X6_advance_207 (l_X6_advance_207 f) s t = some (s', t) ∧ _
    have eb := m_byteAt (t := t) (i := x) hm h7 (by omega)
    rw [h56] at eb
    cases z : isD (if m ≤ x then -1 else b x) with
    | false =>
      refine ⟨s, x, ?_, ⟨hax, hx, hd, fun c => ?_⟩, h10, hv, fun _ _ => rfl, fun _ _ _ => rfl⟩
      · simp only [b_X6_advance_207, h8, if_true, h10, eb, bs, m_isD, z, b2_z]
      · rw [if_neg (by omega)] at z; exact z
    | true =>
      have c : ¬ m ≤ x := by
        intro c
        rw [if_pos c] at z
        exact absurd z (by decide +kernel)
      rw [if_neg c] at z eb
      have h52 : ∀ y : Int32, up2 (up2 s 51 12 y) 51 10 (nI (x + 1)) 56 = b := fun y => by rw [up2_o (by decide), up2_o (by decide)]; exact h56
      have hD : ∀ j : Nat, a ≤ j → j < x + 1 → isD (b j) = true := fun j j1 j2 => by
        by_cases q : j = x
        · subst q; exact z
        · exact hd j j1 (by omega)
      have go : ∀ y : Int32, y = vN b a (x + 1 - a) → ∃ (s' : SS) (e : Nat), l_X6_advance_207 f (up2 (up2 s 51 12 y) 51 10 (nI (x + 1)), t) = some (s', t) ∧ Run isD b m a e ∧ s' 51 10 = nI e ∧ s' 51 12 = vN b a (e - a) ∧ (∀ c : Nat, c ≠ 51 → s' c = s c) ∧ ∀ i : Nat, i ≠ 10 → i ≠ 12 → s' 51 i = s 51 i := by
        intro y hy
        obtain ⟨s', e, g1, g2, g3, g4, g5, g6⟩ := m_dig_l (t := t) (a := a) hm f (x + 1) (up2 (up2 s 51 12 y) 51 10 (nI (x + 1))) (by simp [up2_r, h8]) (by simp [up2_r, h9]) (by simp [up2_r]) (by simp [up2_r, h7]) (h52 y) (by omega) (by omega) (by omega) hD (by simp [up2_r]; exact hy)
        exact ⟨s', e, g1, g2, g3, g4, fun c hc => by rw [g5 c hc, up2_o hc, up2_o hc], fun i i1 i2 => by rw [g6 i i1 i2, up2_r, if_neg (fun q => i1 q.2), up2_r, if_neg (fun q => i2 q.2)]⟩
      by_cases c3 : 3 ≤ x - a
      · have c4 : (3 : Int32) ≤ nI (x - a) := nI_le (a := 3) c3 (by omega)
        simp only [b_X6_advance_207, h8, if_true, h10, eb, bs, m_isD, z, b2_z, Bool.true_eq_false, if_false, h9, nI_sub hax, c4, j_X6_advance_266, wr_e, up2_r, and_self, show ¬ (True ∧ 10 = 12) by decide, nI_1]
        exact go (-1) (by unfold vN; rw [if_neg (by omega)])
      · have c4 : ¬ (3 : Int32) ≤ nI (x - a) := nI_ge (b := 3) (by omega) (by decide)
        have hy : (10 : Int32) * s 51 12 + b x - 48 = vN b a (x + 1 - a) := by
          obtain ⟨d1, d2⟩ := dg1_ok z
          unfold vN
          rw [hv, vN, if_pos (by omega), if_pos (by omega), d2, show x + 1 - a = (x - a) + 1 by omega]
          simp only [dv]
          rw [show a + (x - a) = x by omega, show (10 : Int32) = nI 10 from rfl, show (48 : Int32) = nI 48 from rfl, nI_mul, nI_add, nI_sub (by omega)]
          exact congrArg nI (by omega)
        simp only [b_X6_advance_207, h8, if_true, h10, eb, bs, m_isD, z, b2_z, Bool.true_eq_false, if_false, h9, nI_sub hax, c4, j_X6_advance_266, wr_e, up2_r, and_self, show ¬ (True ∧ 10 = 12) by decide, nI_1]
        exact go _ hy
theorem m_end207 {s : SS} {t : TT} (h8 : ¬ s 51 8 = 2) (f : Nat) : l_X6_advance_207 (f + 1) (s, t) = some (s, t) := by
  show b_X6_advance_207 (l_X6_advance_207 f) s t = _
  simp only [b_X6_advance_207, h8, if_false]
theorem m_end126 {s : SS} {t : TT} (h8 : ¬ s 51 8 = 1) (f : Nat) : l_X6_advance_126 (f + 1) (s, t) = l_X6_advance_207 300 (s, t) := by
  show b_X6_advance_126 (l_X6_advance_126 f) s t = _
  simp only [b_X6_advance_126, h8, if_false]
theorem m_let_l {b : RR} {m a : Nat} (hm : m ≤ 200) : ∀ (f x : Nat) (s : SS) (t : TT), s 51 8 = 1 → s 51 9 = nI a → s 51 10 = nI x → s 51 7 = nI m → s 56 = b → a ≤ x → x ≤ m → m - x < f → (∀ j : Nat, a ≤ j → j < x → isL (b j) = true) → t 51 11 = vW b a (x - a) → ∃ (s' : SS) (t' : TT) (e : Nat), l_X6_advance_126 f (s, t) = some (s', t') ∧ Run isL b m a e ∧ s' 51 10 = nI e ∧ t' 51 11 = vW b a (e - a) ∧ (∀ c : Nat, c ≠ 51 → s' c = s c) ∧ (∀ i : Nat, i ≠ 10 → s' 51 i = s 51 i) ∧ ∀ c : Nat, c ≠ 51 → t' c = t c
  | 0, x, s, t, _, _, _, _, _, _, _, hf, _, _ => by omega
  | f + 1, x, s, t, h8, h9, h10, h7, h56, hax, hx, hf, hd, hv => by
    show ∃ (s' : SS) (t' : TT) (e : Nat), b_X6_advance_126 (l_X6_advance_126 f) s t = some (s', t') ∧ _
    have eb := m_byteAt (t := t) (i := x) hm h7 (by omega)
    rw [h56] at eb
    cases z : isL (if m ≤ x then -1 else b x) with
    | false =>
      refine ⟨s, t, x, ?_, ⟨hax, hx, hd, fun c => ?_⟩, h10, hv, fun _ _ => rfl, fun _ _ => rfl, fun _ _ => rfl⟩
      · simp only [b_X6_advance_126, h8, if_true, h10, eb, bs, m_isL, z, b2_z]
        exact m_end207 (by rw [h8]; decide) 299
      · rw [if_neg (by omega)] at z; exact z
    | true =>
      have c : ¬ m ≤ x := by
        intro c
        rw [if_pos c] at z
        exact absurd z (by decide +kernel)
      rw [if_neg c] at z eb
      have hD : ∀ j : Nat, a ≤ j → j < x + 1 → isL (b j) = true := fun j j1 j2 => by
        by_cases q : j = x
        · subst q; exact z
        · exact hd j j1 (by omega)
      have go : ∀ y : Int64, y = vW b a (x + 1 - a) → ∃ (s' : SS) (t' : TT) (e : Nat), l_X6_advance_126 f (up2 s 51 10 (nI (x + 1)), up2 t 51 11 y) = some (s', t') ∧ Run isL b m a e ∧ s' 51 10 = nI e ∧ t' 51 11 = vW b a (e - a) ∧ (∀ c : Nat, c ≠ 51 → s' c = s c) ∧ (∀ i : Nat, i ≠ 10 → s' 51 i = s 51 i) ∧ ∀ c : Nat, c ≠ 51 → t' c = t c := by
        intro y hy
        obtain ⟨s', t', e, g1, g2, g3, g4, g5, g6, g7⟩ := m_let_l (a := a) hm f (x + 1) (up2 s 51 10 (nI (x + 1))) (up2 t 51 11 y) (by simp [up2_r, h8]) (by simp [up2_r, h9]) (by simp [up2_r]) (by simp [up2_r, h7]) (by rw [up2_o (by decide)]; exact h56) (by omega) (by omega) (by omega) hD (by simp [up2_r]; exact hy)
        exact ⟨s', t', e, g1, g2, g3, g4, fun c hc => by rw [g5 c hc, up2_o hc], fun i i1 => by rw [g6 i i1, up2_r, if_neg (fun q => i1 q.2)], fun c hc => by rw [g7 c hc, up2_t hc]⟩
      by_cases c3 : 9 ≤ x - a
      · have c4 : (9 : Int32) ≤ nI (x - a) := nI_le (a := 9) c3 (by omega)
        simp only [b_X6_advance_126, h8, if_true, h10, eb, bs, m_isL, z, b2_z, Bool.true_eq_false, if_false, h9, nI_sub hax, c4, j_X6_advance_191, wr_e, nI_1]
        exact go (-1) (by unfold vW; rw [if_neg (by omega)])
      · have c4 : ¬ (9 : Int32) ≤ nI (x - a) := nI_ge (b := 9) (by omega) (by decide)
        have hy : (27 : Int64) * t 51 11 + Int32.toInt64 (b x) - 96 = vW b a (x + 1 - a) := by
          obtain ⟨d0, d1, d2⟩ := lt1_ok z
          unfold vW
          rw [hv, vW, if_pos (by omega), if_pos (by omega), d2, show x + 1 - a = (x - a) + 1 by omega, nI_l (by omega)]
          simp only [vl]
          rw [show a + (x - a) = x by omega, show (27 : Int64) = lN 27 from rfl, show (96 : Int64) = lN 96 from rfl, lN_mul, lN_add, lN_sub (by omega)]
          exact congrArg lN (by omega)
        simp only [b_X6_advance_126, h8, if_true, h10, eb, bs, m_isL, z, b2_z, Bool.true_eq_false, if_false, h9, nI_sub hax, c4, j_X6_advance_191, wr_e, nI_1]
        exact go _ hy
/-- what the reference's token may change -/
def Fa (s s' : SS) (t t' : TT) : Prop := (∀ c : Nat, c ≠ 51 → s' c = s c) ∧ (∀ c : Nat, c ≠ 51 → t' c = t c) ∧ ∀ i : Nat, i ≠ 8 → i ≠ 9 → i ≠ 10 → i ≠ 12 → s' 51 i = s 51 i
/-- the reference's token -/
def RT (s : SS) (t : TT) (k a e : Nat) : Prop := s 51 8 = nI k ∧ s 51 9 = nI a ∧ s 51 10 = nI e ∧ (k = 1 → t 51 11 = vW (s 56) a (e - a)) ∧ (k = 2 → s 51 12 = vN (s 56) a (e - a)) ∧ (k = 3 → s 51 12 = s 56 a)
theorem m_adv_l {b : RR} {t : TT} {m p : Nat} (hm : m ≤ 200) (hb : ∀ i : Nat, i < m → bd 255 (b i)) : ∀ (f x : Nat) (s : SS), s 51 9 = nI x → s 51 7 = nI m → s 56 = b → p ≤ x → x ≤ m → m - x < f → (∀ j : Nat, p ≤ j → j < x → isB (b j) = true) → ∃ (s' : SS) (t' : TT) (k a e : Nat), l_X6_advance_8 f (s, t) = some (s', t') ∧ Tok b m p k a e ∧ RT s' t' k a e ∧ Fa s s' t t'
  | 0, x, s, _, _, _, _, _, hf, _ => by omega
  | f + 1, x, s, h9, h7, h56, hpx, hx, hf, hB => by
    show ∃ (s' : SS) (t' : TT) (k a e : Nat), b_X6_advance_8 (l_X6_advance_8 f) s t = some (s', t') ∧ _
    have eb := m_byteAt (t := t) (i := x) hm h7 (by omega)
    rw [h56] at eb
    have h7' : ∀ y : Int32, up2 s 51 10 y 51 7 = nI m := fun y => by rw [up2_r, if_neg (by decide)]; exact h7
    have h9' : ∀ y : Int32, up2 s 51 10 y 51 9 = nI x := fun y => by rw [up2_r, if_neg (by decide)]; exact h9
    have h56' : ∀ y : Int32, up2 s 51 10 y 56 = b := fun y => by rw [up2_o (by decide)]; exact h56
    have eb' := m_byteAt (t := t) (i := x) hm (h7' (nI x)) (by omega)
    rw [h56'] at eb'
    by_cases c : m ≤ x
    · have ex : x = m := by omega
      rw [if_pos c] at eb eb'
      have hR : Run isB b m p x := ⟨hpx, hx, hB, fun z => by omega⟩
      refine ⟨up2 (up2 (up2 s 51 10 (nI x)) 51 8 0) 51 12 (-1), up2 t 51 11 0, 0, x, x, ?_, ⟨hR, Or.inl ⟨ex, rfl, ex⟩⟩, ⟨?_, ?_, ?_, fun z => absurd z (by decide), fun z => absurd z (by decide), fun z => absurd z (by decide)⟩, fun c hc => by rw [up2_o hc, up2_o hc, up2_o hc], fun c hc => up2_t hc, fun i i1 i2 i3 i4 => by simp [up2_r, i1, i3, i4]⟩
      · simp only [b_X6_advance_8, h9, eb, eb', bs, wr_e, show ¬ (-1 : Int32) = 32 by decide, if_false, h9', show ¬ (0 : Int32) ≤ -1 by decide, j_X6_advance_83, j_X6_advance_105]
        rw [if_neg (by simp [up2_r]), if_neg (by simp [up2_r]), m_end126 (by simp [up2_r]) 299, m_end207 (by simp [up2_r]) 299]
      · simp [up2_r]; rfl
      · simp [up2_r, h9]
      · simp [up2_r]
    · rw [if_neg c] at eb eb'
      have cx : x < m := by omega
      by_cases z : b x = 32
      · obtain ⟨s', t', k, a, e, g1, g2, g3, g4, g5, g6⟩ := m_adv_l (t := t) (p := p) hm hb f (x + 1) (up2 s 51 9 (nI (x + 1))) (by simp [up2_r]) (by simp [up2_r, h7]) (by rw [up2_o (by decide)]; exact h56) (by omega) (by omega) (by omega) (fun j j1 j2 => by
          by_cases q : j = x
          · subst q; unfold isB; rw [z]; rfl
          · exact hB j j1 (by omega))
        refine ⟨s', t', k, a, e, ?_, g2, g3, fun c hc => by rw [g4 c hc, up2_o hc], g5, fun i i1 i2 i3 i4 => by rw [g6 i i1 i2 i3 i4, up2_r, if_neg (fun q => i2 q.2)]⟩
        simp only [b_X6_advance_8, h9, eb, bs, wr_e, z, if_true, nI_1]
        exact g1
      · have hR : Run isB b m p x := ⟨hpx, hx, hB, fun _ => by unfold isB; exact decide_eq_false z⟩
        have h0 : (0 : Int32) ≤ b x := by
          obtain ⟨q, q1, q2⟩ := hb x cx
          rw [q2]
          exact nI_pos' (by omega)
        cases hl : isL (b x) with
        | true =>
          obtain ⟨s', t', e, g1, g2, g3, g4, g5, g6, g7⟩ := m_let_l (b := b) (a := x) hm 300 x (up2 (up2 (up2 s 51 10 (nI x)) 51 8 1) 51 12 (b x)) (up2 t 51 11 0) (by simp [up2_r]) (by simp [up2_r, h9]) (by simp [up2_r]) (by simp [up2_r, h7]) (by rw [up2_o (by decide), up2_o (by decide)]; exact h56' _) (Nat.le_refl _) hx (by omega) (fun j j1 j2 => by omega) (by simp [up2_r, vW, vl]; rfl)
          have s56 : s' 56 = b := by rw [g5 56 (by decide), up2_o (by decide), up2_o (by decide)]; exact h56' _
          refine ⟨s', t', 1, x, e, ?_, ⟨hR, Or.inr (Or.inl ⟨cx, rfl, hl, g2⟩)⟩, ⟨?_, ?_, g3, fun _ => by rw [s56]; exact g4, fun z => absurd z (by decide), fun z => absurd z (by decide)⟩, fun c hc => by rw [g5 c hc, up2_o hc, up2_o hc, up2_o hc], fun c hc => by rw [g7 c hc, up2_t hc], fun i i1 i2 i3 i4 => by rw [g6 i i3]; simp [up2_r, i1, i3, i4]⟩
          · simp only [b_X6_advance_8, h9, eb, eb', bs, wr_e, z, if_false, h9', h0, if_true, m_isL, hl, b2_z, Bool.true_eq_false, j_X6_advance_83, j_X6_advance_105]
            rw [if_neg (by simp [up2_r]), if_neg (by simp [up2_r])]
            exact g1
          · rw [g6 8 (by decide)]; simp [up2_r]; rfl
          · rw [g6 9 (by decide)]; simp [up2_r, h9]
        | false =>
          cases hd : isD (b x) with
          | true =>
            obtain ⟨s', e, g1, g2, g3, g4, g5, g6⟩ := m_dig_l (b := b) (t := up2 t 51 11 0) (a := x) hm 300 x (up2 (up2 (up2 s 51 10 (nI x)) 51 8 2) 51 12 0) (by simp [up2_r]) (by simp [up2_r, h9]) (by simp [up2_r]) (by simp [up2_r, h7]) (by rw [up2_o (by decide), up2_o (by decide)]; exact h56' _) (Nat.le_refl _) hx (by omega) (fun j j1 j2 => by omega) (by simp [up2_r, vN, dv]; rfl)
            have s56 : s' 56 = b := by rw [g5 56 (by decide), up2_o (by decide), up2_o (by decide)]; exact h56' _
            refine ⟨s', up2 t 51 11 0, 2, x, e, ?_, ⟨hR, Or.inr (Or.inr (Or.inl ⟨cx, rfl, hl, hd, g2⟩))⟩, ⟨?_, ?_, g3, fun z => absurd z (by decide), fun _ => by rw [s56]; exact g4, fun z => absurd z (by decide)⟩, fun c hc => by rw [g5 c hc, up2_o hc, up2_o hc, up2_o hc], fun c hc => up2_t hc, fun i i1 i2 i3 i4 => by rw [g6 i i3 i4]; simp [up2_r, i1, i3, i4]⟩
            · simp only [b_X6_advance_8, h9, eb, eb', bs, wr_e, z, if_false, h9', h0, if_true, m_isL, m_isD, hl, hd, b2_z, Bool.true_eq_false, j_X6_advance_83, j_X6_advance_105]
              rw [if_pos (by simp [up2_r]), if_neg (by simp [up2_r]), m_end126 (by simp [up2_r]) 299]
              exact g1
            · rw [g6 8 (by decide) (by decide)]; simp [up2_r]; rfl
            · rw [g6 9 (by decide) (by decide)]; simp [up2_r, h9]
          | false =>
            refine ⟨up2 (up2 (up2 (up2 s 51 10 (nI x)) 51 8 3) 51 12 (b x)) 51 10 (nI (x + 1)), up2 t 51 11 0, 3, x, x + 1, ?_, ⟨hR, Or.inr (Or.inr (Or.inr ⟨cx, rfl, hl, hd, rfl⟩))⟩, ⟨?_, ?_, ?_, fun z => absurd z (by decide), fun z => absurd z (by decide), fun _ => ?_⟩, fun c hc => by rw [up2_o hc, up2_o hc, up2_o hc, up2_o hc], fun c hc => up2_t hc, fun i i1 i2 i3 i4 => by simp [up2_r, i1, i3, i4]⟩
            · have e10 : up2 (up2 (up2 s 51 10 (nI x)) 51 8 3) 51 12 (b x) 51 10 + 1 = nI (x + 1) := by simp only [up2_r]; simp [nI_1]
              simp only [b_X6_advance_8, h9, eb, eb', bs, wr_e, z, if_false, h9', h0, if_true, m_isL, m_isD, hl, hd, b2_z, j_X6_advance_83, j_X6_advance_105]
              rw [if_neg (by simp [up2_r]), if_pos (by simp [up2_r]), e10, m_end126 (by simp [up2_r]) 299, m_end207 (by simp [up2_r]) 299]
            · simp [up2_r]; rfl
            · simp [up2_r, h9]
            · simp [up2_r]
            · rw [up2_o (show 56 ≠ 51 by decide), up2_o (show 56 ≠ 51 by decide), up2_o (show 56 ≠ 51 by decide), h56']; simp [up2_r]
theorem m_advance {s : SS} {t : TT} {m p : Nat} (hm : m ≤ 200) (h7 : s 51 7 = nI m) (hb : ∀ i : Nat, i < m → bd 255 (s 56 i)) (h10 : s 51 10 = nI p) (hp : p ≤ m) : ∃ (s' : SS) (t' : TT) (k a e : Nat), f_X6_advance s t = some (s', t') ∧ Tok (s 56) m p k a e ∧ RT s' t' k a e ∧ Fa s s' t t' := by
  obtain ⟨s', t', k, a, e, g1, g2, g3, g4, g5, g6⟩ := m_adv_l (t := t) (p := p) hm hb 300 p (up2 s 51 9 (nI p)) (by simp [up2_r]) (by simp [up2_r, h7]) (up2_o (by decide)) (Nat.le_refl _) hp (by omega) (fun j j1 j2 => by omega)
  refine ⟨s', t', k, a, e, ?_, g2, g3, fun c hc => by rw [g4 c hc, up2_o hc], g5, fun i i1 i2 i3 i4 => by rw [g6 i i1 i2 i3 i4, up2_r, if_neg (fun q => i2 q.2)]⟩
  simp only [f_X6_advance, h10, wr_e]
  exact g1
