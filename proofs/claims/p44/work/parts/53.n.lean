/-! thoughtFor (each side for itself), prove, judge -/
theorem tfc_in {t : TT} {n p k j : Nat} {sC : SS} {w : RR} {k25 : Int32 × Int32 × Int32 × SS × TT → Option (Int32 × SS × TT)} (hp : p < n) (hk : k ≤ 60) (hn : n ≤ 8) (hK : ∀ s1 : SS, Fr 19 sC s1 → ∃ (r : Int32) (s' : SS), k25 (nI p, nI k, nI (j + 1), s1, t) = some (r, s', t) ∧ Fr 19 s1 s') : ∀ (m i f V : Nat) (s1 : SS) (w1 : RR), i + m = k → m < f → V + m < 2 ^ 30 → Fr 19 sC s1 → RW s1 19 w1 n → OKw w1 n V → ∃ (r : Int32) (s' : SS), l_X5_thoughtFor_56 k25 f (nI p, nI k, nI j, nI i, s1, t) = some (r, s', t) ∧ Fr 19 s1 s' := by
  have hp8 : p < 8 := by omega
  have hend : ∀ s1 : SS, Fr 19 sC s1 → ∃ (r : Int32) (s' : SS), j_X5_thoughtFor_87 k25 (nI p) (nI k) (nI j) s1 t = some (r, s', t) ∧ Fr 19 s1 s' := fun s1 f1 => by
    simp only [j_X5_thoughtFor_87, rx8 hp8, bs, nI_1]
    by_cases c : s1 25 p ≤ 0
    · rw [if_pos c]; exact hK s1 f1
    · rw [if_neg c]; exact ⟨_, _, rfl, Fr.rf⟩
  intro m
  induction m with
  | zero =>
    intro i f V s1 w1 hi hf hV f1 h1 hw1
    obtain ⟨f, rfl⟩ : ∃ f' : Nat, f = f' + 1 := ⟨f - 1, by omega⟩
    have e : i = k := by omega
    subst e
    show ∃ (r : Int32) (s' : SS), b_X5_thoughtFor_56 k25 (l_X5_thoughtFor_56 k25 f) (nI p) (nI i) (nI j) (nI i) s1 t = some (r, s', t) ∧ Fr 19 s1 s'
    unfold b_X5_thoughtFor_56
    rw [if_pos (nI_le (Nat.le_refl i) (by omega))]
    exact hend s1 f1
  | succ m ih =>
    intro i f V s1 w1 hi hf hV f1 h1 hw1
    obtain ⟨f, rfl⟩ : ∃ f' : Nat, f = f' + 1 := ⟨f - 1, by omega⟩
    show ∃ (r : Int32) (s' : SS), b_X5_thoughtFor_56 k25 (l_X5_thoughtFor_56 k25 f) (nI p) (nI k) (nI j) (nI i) s1 t = some (r, s', t) ∧ Fr 19 s1 s'
    unfold b_X5_thoughtFor_56
    rw [if_neg (nI_ge (show i < k by omega) (by omega)), rx8 hp8, bs]
    by_cases c : s1 25 p = 0
    · rw [if_pos c]
      obtain ⟨s2, e2, f2, r2⟩ := c_passWeek (t := t) (may := 255) (left := 0) (show V < 2 ^ 31 by omega) h1 hw1 (May.all hn)
      rw [e2, bs, nI_1]
      obtain ⟨r, s', e3, f3⟩ := ih (i + 1) f (V + 1) s2 _ (by omega) (by omega) (by omega) (f1.tr f2) r2 (R_week_ok hw1)
      exact ⟨r, s', e3, f2.tr f3⟩
    · rw [if_neg c]; exact hend s1 f1
theorem tfc_out {t : TT} {n W p k : Nat} {w : RR} (hp : p < n) (hk : k ≤ 60) (hW : W < 2 ^ 29) (hw : OKw w n W) : ∀ (m j f : Nat) (sC : SS), j + m = 100 → m < f → RW sC 1 w n → ∃ (r : Int32) (s' : SS), l_X5_thoughtFor_25 f (nI p, nI k, nI j, sC, t) = some (r, s', t) ∧ Fr 19 sC s'
  | 0, j, f + 1, sC, hj, _, h => by
    have e : j = 100 := by omega
    subst e
    show ∃ (r : Int32) (s' : SS), b_X5_thoughtFor_25 (l_X5_thoughtFor_25 f) (nI p) (nI k) (nI 100) sC t = some (r, s', t) ∧ Fr 19 sC s'
    unfold b_X5_thoughtFor_25
    rw [if_pos (show (99 : Int32) < nI 100 by decide)]
    exact ⟨_, _, rfl, Fr.rf⟩
  | m + 1, j, f + 1, sC, hj, hf, h => by
    have hn := hw.1
    have hp8 : p < 8 := by omega
    have c0 : ¬ (99 : Int32) < nI j := nI_nlt (b := j) (a := 99) (by omega) (by decide)
    obtain ⟨s1, e1, f1, r1⟩ := c_trial (t := t) h
    have r3 := (r1.set1 (p := p) (x := nI j)).set4 (p := p) (x := 0)
    have ok3 : OKw (uw (uw w (8 + 6 * p + 1) (nI j)) (8 + 6 * p + 4) 0) n W := (hw.set (p := p) (j := 1) (by omega) (show bd 99 (nI j) from bd_n (by omega))).set (p := p) (j := 4) (by omega) (show bd 9999 (0 : Int32) from bd_c 0 rfl (by omega))
    have f3 : Fr 19 sC (up2 (up2 s1 22 p (nI j)) 25 p 0) := (f1.up (c := 22) (i := p) (v := nI j) ⟨by omega, by omega⟩).up ⟨by omega, by omega⟩
    obtain ⟨r, s', e4, f4⟩ := tfc_in (t := t) (j := j) (w := w) (k25 := l_X5_thoughtFor_25 f) hp hk hn (fun s2 f2 => tfc_out (t := t) hp hk hW hw m (j + 1) f s2 (by omega) (by omega) (h.fr (fun c h1 h2 => f2 c (by omega)))) k 0 300 W _ _ (by omega) (by omega) (by omega) f3 r3 ok3
    refine ⟨r, s', ?_, f3.tr f4⟩
    show b_X5_thoughtFor_25 (l_X5_thoughtFor_25 f) (nI p) (nI k) (nI j) sC t = _
    unfold b_X5_thoughtFor_25
    rw [if_neg c0, e1, bs, rx8 hp8]
    exact e4
def MB (sM sM' : SS) : Prop := (∀ c : Nat, c ≠ 52 → sM' c = sM c) ∧ ∀ k : Nat, k < 56 → sM' 52 k = sM 55 k
theorem tfm_in {t : TT} {n W p k j : Nat} {sM : SS} {w : RR} {k36 : Int32 × Int32 × Int32 × Int32 × SS × TT → Option (Int32 × SS × TT)} (hp : p < n) (hk : k ≤ 60) (hn : n ≤ 8) (hw : OKw w n W) (h55 : ∀ q : Nat, q < 56 → sM 55 q = w q) (hK : ∀ (x : Int32) (s1 : SS), (x = 0 ∨ x = 1) → MB sM s1 → ∃ (r : Int32) (s' : SS), k36 (nI p, nI k, nI j, x, s1, t) = some (r, s', t) ∧ MB sM s') : ∀ (m i f V : Nat) (x : Int32) (s1 : SS), i + m = k → m < f → V + m < 2 ^ 30 → (x = 0 ∨ x = 1) → (∀ c : Nat, c ≠ 52 → s1 c = sM c) → OKw (s1 52) n V → ∃ (r : Int32) (s' : SS), l_X6_thoughtFor_60 k36 f (nI p, nI k, nI j, x, nI i, s1, t) = some (r, s', t) ∧ MB sM s' := by
  have hp8 : p < 8 := by omega
  have hend : ∀ (x : Int32) (s1 : SS), (x = 0 ∨ x = 1) → (∀ c : Nat, c ≠ 52 → s1 c = sM c) → ∃ (r : Int32) (s' : SS), j_X6_thoughtFor_112 k36 (nI p) (nI k) (nI j) x s1 t = some (r, s', t) ∧ MB sM s' := fun x s1 hx f1 => by
    unfold j_X6_thoughtFor_112
    rw [m_moveAll (show 55 ≠ 52 by decide), bs]
    refine hK x (cp2 s1 52 (mv (s1 55) (s1 52))) hx ⟨fun c hc => by rw [cp2_n hc]; exact f1 c hc, fun q hq => by rw [cp2_s, mv_at hq, f1 55 (by decide)]⟩
  intro m
  induction m with
  | zero =>
    intro i f V x s1 hi hf hV hx f1 hw1
    obtain ⟨f, rfl⟩ : ∃ f' : Nat, f = f' + 1 := ⟨f - 1, by omega⟩
    have e : i = k := by omega
    subst e
    show ∃ (r : Int32) (s' : SS), b_X6_thoughtFor_60 k36 (l_X6_thoughtFor_60 k36 f) (nI p) (nI i) (nI j) x (nI i) s1 t = some (r, s', t) ∧ MB sM s'
    unfold b_X6_thoughtFor_60
    rw [if_pos (nI_le (Nat.le_refl i) (by omega))]
    exact hend x s1 hx f1
  | succ m ih =>
    intro i f V x s1 hi hf hV hx f1 hw1
    obtain ⟨f, rfl⟩ : ∃ f' : Nat, f = f' + 1 := ⟨f - 1, by omega⟩
    show ∃ (r : Int32) (s' : SS), b_X6_thoughtFor_60 k36 (l_X6_thoughtFor_60 k36 f) (nI p) (nI k) (nI j) x (nI i) s1 t = some (r, s', t) ∧ MB sM s'
    unfold b_X6_thoughtFor_60
    rw [if_neg (nI_ge (show i < k by omega) (by omega))]
    by_cases c : x = 0
    · rw [if_pos c]
      have e4 := m_weekGoes (s := s1) (t := t) hw1
      rw [cp2_i] at e4
      have e5 : (8 : Int32) + (6 : Int32) * nI p + (4 : Int32) = nI (8 + 6 * p + 4) := by rw [its_c p hp8]; exact nI_add _ 4
      rw [e4, bs, its_4 hp8, bs, e5, rx56 (show 8 + 6 * p + 4 < 56 by omega), bs, nI_1]
      have hg : ∀ y : Int32, (y = 0 ∨ y = 1) → ∃ (r : Int32) (s' : SS), l_X6_thoughtFor_60 k36 f (nI p, nI k, nI j, y, nI (i + 1), cp2 s1 52 (R_week (s1 51 5) n (s1 52)).2, t) = some (r, s', t) ∧ MB sM s' := fun y hy => ih (i + 1) f (V + 1) y _ (by omega) (by omega) (by omega) hy (fun c hc => by rw [cp2_n hc]; exact f1 c hc) (by rw [cp2_s]; exact R_week_ok hw1)
      by_cases c2 : cp2 s1 52 (R_week (s1 51 5) n (s1 52)).2 52 (8 + 6 * p + 4) ≤ cp2 s1 52 (R_week (s1 51 5) n (s1 52)).2 55 (8 + 6 * p + 4)
      · rw [if_pos c2]; exact hg 0 (Or.inl rfl)
      · rw [if_neg c2]; exact hg 1 (Or.inr rfl)
    · rw [if_neg c]; exact hend x s1 hx f1
theorem t99 : ∀ j : Nat, j < 100 → ¬ (99 : Int32) ≤ nI j - 1 := by decide +kernel
theorem tfm_out {t : TT} {n W p k : Nat} {w : RR} (hp : p < n) (hk : k ≤ 60) (hW : W < 2 ^ 29) (hw : OKw w n W) : ∀ (m j f : Nat) (x : Int32) (sM : SS), j + m = 100 → m + 1 < f → (x = 0 ∨ x = 1) → (∀ q : Nat, q < 56 → sM 55 q = w q) → (∀ q : Nat, q < 56 → sM 52 q = w q) → ∃ (r : Int32) (s' : SS), l_X6_thoughtFor_36 f (nI p, nI k, nI j - 1, x, sM, t) = some (r, s', t) ∧ MB sM s' := by
  have hstop : ∀ (f : Nat) (x3 x : Int32) (sM : SS), ((99 : Int32) ≤ x3 ∨ ¬ x = 0) → (∀ q : Nat, q < 56 → sM 55 q = w q) → (∀ q : Nat, q < 56 → sM 52 q = w q) → ∃ (r : Int32) (s' : SS), l_X6_thoughtFor_36 (f + 1) (nI p, nI k, x3, x, sM, t) = some (r, s', t) ∧ MB sM s' := fun f x3 x sM hx h55 h52 => by
    have hb : MB sM sM := ⟨fun _ _ => rfl, fun q hq => by rw [h55 q hq, h52 q hq]⟩
    have hj : ∃ (r : Int32) (s' : SS), j_X6_thoughtFor_126 x3 x sM t = some (r, s', t) ∧ MB sM s' := by
      unfold j_X6_thoughtFor_126
      by_cases c : x = 0
      · rw [if_pos c]; exact ⟨_, _, rfl, hb⟩
      · rw [if_neg c]; exact ⟨_, _, rfl, hb⟩
    show ∃ (r : Int32) (s' : SS), b_X6_thoughtFor_36 (l_X6_thoughtFor_36 f) (nI p) (nI k) x3 x sM t = some (r, s', t) ∧ MB sM s'
    unfold b_X6_thoughtFor_36
    by_cases c9 : (99 : Int32) ≤ x3
    · rw [if_pos c9]; exact hj
    · rw [if_neg c9, if_neg (hx.resolve_left c9)]; exact hj
  intro m
  induction m with
  | zero =>
    intro j f x sM hj hf hx h55 h52
    obtain ⟨f, rfl⟩ : ∃ f' : Nat, f = f' + 1 := ⟨f - 1, by omega⟩
    have e : j = 100 := by omega
    subst e
    exact hstop f _ x sM (Or.inl (by decide)) h55 h52
  | succ m ih =>
    intro j f x sM hj hf hx h55 h52
    obtain ⟨f, rfl⟩ : ∃ f' : Nat, f = f' + 1 := ⟨f - 1, by omega⟩
    rcases hx with rfl | rfl
    · have hn := hw.1
      have hp8 : p < 8 := by omega
      show ∃ (r : Int32) (s' : SS), b_X6_thoughtFor_36 (l_X6_thoughtFor_36 f) (nI p) (nI k) (nI j - 1) 0 sM t = some (r, s', t) ∧ MB sM s'
      unfold b_X6_thoughtFor_36
      rw [if_neg (t99 j (by omega)), if_pos rfl, Int32.sub_add_cancel, sets_1 hp8, bs]
      have hw0 : OKw (sM 52) n W := hw.cg h52
      obtain ⟨r, s', e, hb⟩ := tfm_in (t := t) (j := j) (sM := sM) (k36 := l_X6_thoughtFor_36 f) hp hk hn hw h55 (fun y s1 hy hb => by
        have g55 : ∀ q : Nat, q < 56 → s1 55 q = w q := fun q hq => by rw [hb.1 55 (by decide)]; exact h55 q hq
        have g52 : ∀ q : Nat, q < 56 → s1 52 q = w q := fun q hq => by rw [hb.2 q hq]; exact h55 q hq
        have hMB : ∀ s' : SS, MB s1 s' → MB sM s' := fun s' h' => ⟨fun c hc => (h'.1 c hc).trans (hb.1 c hc), fun q hq => by rw [h'.2 q hq, hb.1 55 (by decide)]⟩
        rcases hy with rfl | rfl
        · obtain ⟨r, s', e, h'⟩ := ih (j + 1) f 0 s1 (by omega) (by omega) (Or.inl rfl) g55 g52
          rw [nI_pred] at e
          exact ⟨r, s', e, hMB s' h'⟩
        · obtain ⟨f2, rfl⟩ : ∃ f' : Nat, f = f' + 1 := ⟨f - 1, by omega⟩
          obtain ⟨r, s', e, h'⟩ := hstop f2 (nI j) 1 s1 (Or.inr (by decide)) g55 g52
          exact ⟨r, s', e, hMB s' h'⟩) k 0 300 W 0 (cp2 sM 52 (uw (sM 52) (8 + 6 * p + 1) (nI j))) (by omega) (by omega) (by omega) (Or.inl rfl) (fun c hc => cp2_n hc) (by rw [cp2_s]; exact hw0.set (p := p) (j := 1) (by omega) (show bd 99 (nI j) from bd_n (by omega)))
      exact ⟨r, s', e, hb⟩
    · exact hstop f _ 1 sM (Or.inr (by decide)) h55 h52
theorem s_thoughtFor {s : SS} {t : TT} {W : Nat} (hW : W < 2 ^ 29) (x y : Int32) (h : Rel s t W) : Sim0 (f_X5_thoughtFor x y) (f_X6_thoughtFor x y) s t W := by
  obtain ⟨⟨n, hw, hr⟩, -, -, -, -, -, -, h0⟩ := id h
  have h8 : s 1 8 = nI n := hr.1
  have h6 := hw.2.1
  cases hb : wi x 0 (nI n - 1) with
  | false => exact (Sim.of h (-1) (by simp only [f_X5_thoughtFor, c_has, h8, bs, b2_z, hb, if_true]) (by simp only [f_X6_thoughtFor, m_isOne, h6, bs, b2_z, hb, if_true])).weak
  | true =>
  obtain ⟨p, hp, rfl⟩ := wi_one hw.1 hb
  cases hc : wi y 1 20 with
  | false => exact (Sim.of h (-1) (by simp only [f_X5_thoughtFor, c_has, c_isWithin, h8, bs, b2_z, hb, hc, Bool.true_eq_false, if_false, if_true]) (by simp only [f_X6_thoughtFor, m_isOne, m_in, h6, bs, b2_z, hb, hc, Bool.true_eq_false, if_false, if_true])).weak
  | true =>
  obtain ⟨k, hk1, hk, rfl⟩ := wi_fr1 (n := 20) (by decide) hc
  obtain ⟨r, s1, e1, f1⟩ := tfc_out (t := t) (p := p) (k := k) hp (by omega) hW hw 100 0 300 s (by omega) (by omega) hr
  have g52 : s1 52 = s 52 := f1 52 (by omega)
  have g51 : s1 51 = s 51 := f1 51 (by omega)
  obtain ⟨sM1, e2, m1, q51, q52, q55⟩ := m_start (sM := s1) (t := t)
  obtain ⟨r', sM2, e3, m2⟩ := tfm_out (t := t) (p := p) (k := k) hp (by omega) hW hw 100 0 300 0 sM1 (by omega) (by omega) (Or.inl rfl) (fun q hq => by rw [q55 q hq, q52, g52]) (fun q _ => by rw [q52, g52])
  have m5 : MF sM1 sM2 := ⟨fun c _ c2 _ _ _ => m2.1 c c2, fun i _ => by rw [m2.1 51 (by decide)], fun k hk => by rw [m2.2 k hk, q55 k hk]⟩
  refine ⟨r, r', s1, sM2, t, t, ?_, ?_, (h.tr (Tr.of f1.fc (m1.tr m5) h0 (by rw [m2.1 51 (by decide), q51, g51]; exact h0))).more (by omega)⟩
  · simp only [f_X5_thoughtFor, c_has, c_isWithin, h8, bs, b2_z, hb, hc, Bool.true_eq_false, if_false]
    exact e1
  · simp only [f_X6_thoughtFor, m_isOne, m_in, g52, h6, bs, b2_z, hb, hc, Bool.true_eq_false, if_false, e2]
    exact e3
