/-! fits: the same answers -/
def tol (g : Nat → Int64) (n : Nat) : Nat → Nat → Int32 → RR → Bool
  | 0, _, _, _ => true
  | m + 1, j, x, w => if g j = -1 ∨ g j = Int32.toInt64 (x + (R_week 0 n w).1) then tol g n m (j + 1) (x + (R_week 0 n w).1) (R_week 0 n w).2 else false
theorem tol_g {g g' : Nat → Int64} {n : Nat} : ∀ (m j : Nat) (x : Int32) (w : RR), (∀ i : Nat, j ≤ i → i < j + m → g i = g' i) → tol g n m j x w = tol g' n m j x w
  | 0, _, _, _, _ => rfl
  | m + 1, j, x, w, h => by
    simp only [tol, h j (Nat.le_refl j) (by omega), tol_g m (j + 1) (x + (R_week 0 n w).1) (R_week 0 n w).2 (fun i h1 h2 => h i (by omega) (by omega))]
theorem toldR {t : TT} {o n z : Nat} (ho : o < 19 ∨ 27 < o) (hz : z ≤ 40) (hn : n ≤ 8) : ∀ (m j f V : Nat) (x : Int32) (s : SS) (w : RR), j + m = z → m < f → V + m < 2 ^ 30 → s o 2 = nI z → RW s 19 w n → OKw w n V → ∃ s' : SS, l_X5_isTold_20 o f (x, nI j, s, t) = some (b2 (tol (t (o + 1)) n m j x w), s', t) ∧ Fr 19 s s'
  | 0, j, f + 1, V, x, s, w, hj, _, _, h2, _, _ => by
    have e : j = z := by omega
    subst e
    refine ⟨s, ?_, Fr.rf⟩
    show b_X5_isTold_20 o (l_X5_isTold_20 o f) x (nI j) s t = _
    unfold b_X5_isTold_20
    rw [h2, if_pos (nI_le (Nat.le_refl j) (by omega))]
    rfl
  | m + 1, j, f + 1, V, x, s, w, hj, hf, hV, h2, hr, hw => by
    obtain ⟨s1, e1, f1, r1⟩ := c_passWeek (t := t) (may := 255) (left := 0) (show V < 2 ^ 31 by omega) hr hw (May.all hn)
    have r40 : rx 40 (nI j) = some j := rx_n (by omega) (by decide)
    obtain ⟨s2, e2, f2⟩ := toldR (t := t) ho hz hn m (j + 1) f (V + 1) (x + (R_week 0 n w).1) s1 _ (by omega) (by omega) (by omega) (by rw [f1 o (by omega)]; exact h2) r1 (R_week_ok hw)
    show ∃ s' : SS, b_X5_isTold_20 o (l_X5_isTold_20 o f) x (nI j) s t = some (b2 (tol (t (o + 1)) n (m + 1) j x w), s', t) ∧ Fr 19 s s'
    unfold b_X5_isTold_20
    rw [h2, if_neg (nI_ge (show j < z by omega) (by omega)), e1, bs, r40, bs, nI_1]
    simp only [lg_eq, tol]
    by_cases c : t (o + 1) j = -1
    · rw [if_pos c, if_pos (Or.inl c)]; exact ⟨s2, e2, f1.tr f2⟩
    · rw [if_neg c, bs]
      by_cases d : t (o + 1) j = Int32.toInt64 (x + (R_week 0 n w).1)
      · rw [if_pos d, if_pos (Or.inr d)]; exact ⟨s2, e2, f1.tr f2⟩
      · rw [if_neg d, if_neg (fun z => z.elim c d)]; exact ⟨_, rfl, f1⟩
theorem b2_inj {a b : Bool} (h : b2 a = b2 b) : a = b := by cases a <;> cases b <;> first | rfl | (exact absurd h (by decide))
theorem tol_w {g : Nat → Int64} {n m V : Nat} {w w' : RR} {s : SS} (hn : n ≤ 8) (hm : m ≤ 40) (hV : V < 2 ^ 29) (h : RW s 19 w n) (h' : RW s 19 w' n) (ok : OKw w n V) (ok' : OKw w' n V) : tol g n m 0 0 w = tol g n m 0 0 w' := by
  have x : up2 s 37 2 (nI m) 37 2 = nI m := by rw [up2_r, if_pos ⟨rfl, rfl⟩]
  obtain ⟨s1, e1, -⟩ := toldR (t := fun _ i => g i) (o := 37) (z := m) (by omega) hm hn m 0 300 V 0 (up2 s 37 2 (nI m)) w (by omega) (by omega) (by omega) x (h.fr (fun c c1 c2 => up2_o (by omega))) ok
  obtain ⟨s2, e2, -⟩ := toldR (t := fun _ i => g i) (o := 37) (z := m) (by omega) hm hn m 0 300 V 0 (up2 s 37 2 (nI m)) w' (by omega) (by omega) (by omega) x (h'.fr (fun c c1 c2 => up2_o (by omega))) ok'
  rw [e1] at e2
  simp only [Option.some.injEq, Prod.mk.injEq] at e2
  exact b2_inj e2.1
theorem so_0 {t : TT} {q : Nat} (hq : q < 4) (f j : Nat) (y : Int32) (s : SS) : ∃ s' : SS, l_X6_isSo_7 (f + 1) (nI q, 0, y, nI j, s, t) = some (0, s', t) ∧ MB s s' := by
  refine ⟨cp2 s 52 (mv (s 55) (s 52)), ?_, fun c hc => cp2_n hc, fun k hk => by rw [cp2_s, mv_at hk]⟩
  show b_X6_isSo_7 (l_X6_isSo_7 f) (nI q) 0 y (nI j) s t = _
  unfold b_X6_isSo_7 j_X6_isSo_78
  rw [rx4 hq, bs, m_moveAll (show 55 ≠ 52 by decide), bs, if_pos (show (0 : Int32) = 0 from rfl), ite_self]
  rfl
theorem soR {t : TT} {n z q : Nat} (hq : q < 4) (hz : z ≤ 40) : ∀ (m j f V : Nat) (y : Int32) (s : SS), j + m = z → m + 1 < f → V + m < 2 ^ 30 → s 61 q = nI z → s 51 5 = 0 → OKw (s 52) n V → ∃ s' : SS, l_X6_isSo_7 f (nI q, 1, y, nI j, s, t) = some (b2 (tol (fun i => t 62 (40 * q + i)) n m j y (s 52)), s', t) ∧ MB s s' := by
  intro m
  induction m with
  | zero =>
    intro j f V y s hj hf hV h2 h5 hw
    obtain ⟨f, rfl⟩ : ∃ f' : Nat, f = f' + 1 := ⟨f - 1, by omega⟩
    have e : j = z := by omega
    subst e
    refine ⟨cp2 s 52 (mv (s 55) (s 52)), ?_, fun c hc => cp2_n hc, fun k hk => by rw [cp2_s, mv_at hk]⟩
    show b_X6_isSo_7 (l_X6_isSo_7 f) (nI q) 1 y (nI j) s t = _
    unfold b_X6_isSo_7 j_X6_isSo_78
    rw [rx4 hq, bs, h2, if_pos (nI_le (Nat.le_refl j) (by omega)), m_moveAll (show 55 ≠ 52 by decide), bs]
    rfl
  | succ m ih =>
    intro j f V y s hj hf hV h2 h5 hw
    obtain ⟨f, rfl⟩ : ∃ f' : Nat, f = f' + 1 := ⟨f - 1, by omega⟩
    obtain ⟨f, rfl⟩ : ∃ f' : Nat, f = f' + 1 := ⟨f - 1, by omega⟩
    show ∃ s' : SS, b_X6_isSo_7 (l_X6_isSo_7 (f + 1)) (nI q) 1 y (nI j) s t = some (b2 (tol (fun i => t 62 (40 * q + i)) n (m + 1) j y (s 52)), s', t) ∧ MB s s'
    unfold b_X6_isSo_7 j_X6_isSo_66
    have e4 := m_weekGoes (s := s) (t := t) hw
    rw [cp2_i, h5] at e4
    have e5 : (40 : Int32) * nI q + nI j = nI (40 * q + j) := by rw [show (40 : Int32) = nI 40 from rfl, nI_mul, nI_add]
    have r160 : rx 160 (nI (40 * q + j)) = some (40 * q + j) := rx_n (by omega) (by decide)
    obtain ⟨S, hS⟩ : ∃ S : SS, S = cp2 s 52 (R_week 0 n (s 52)).2 := ⟨_, rfl⟩
    have hMB : ∀ s' : SS, MB S s' → MB s s' := fun s' g => ⟨fun c hc => by rw [g.1 c hc, hS, cp2_n hc], fun k hk => by rw [g.2 k hk, hS, cp2_n (by decide)]⟩
    have S52 : S 52 = (R_week 0 n (s 52)).2 := by rw [hS, cp2_s]
    rw [rx4 hq, bs, h2, if_neg (nI_ge (show j < z by omega) (by omega)), if_neg (show ¬ (1 : Int32) = 0 by decide), e4, bs, e5, r160, bs, nI_1]
    simp only [lg_eq, tol]
    rw [← hS]
    obtain ⟨s2, g1, g2⟩ := ih (j + 1) (f + 1) (V + 1) (y + (R_week 0 n (s 52)).1) S (by omega) (by omega) (by omega) (by rw [hS, cp2_n (by decide)]; exact h2) (by rw [hS, cp2_n (by decide)]; exact h5) (by rw [S52]; exact R_week_ok hw)
    rw [S52] at g1
    by_cases c1 : t 62 (40 * q + j) = -1
    · rw [if_pos c1, if_pos (Or.inl c1)]; exact ⟨s2, g1, hMB _ g2⟩
    · rw [if_neg c1, bs]
      by_cases c2 : t 62 (40 * q + j) = Int32.toInt64 (y + (R_week 0 n (s 52)).1)
      · rw [if_pos c2, if_pos (Or.inr c2)]; exact ⟨s2, g1, hMB _ g2⟩
      · rw [if_neg c2, if_neg (fun z => z.elim c1 c2)]
        obtain ⟨s3, k1, k2⟩ := so_0 (t := t) hq f (j + 1) (y + (R_week 0 n (s 52)).1) S
        exact ⟨s3, k1, hMB _ k2⟩
/-- two ways to count -/
def cn (T : Nat → Bool) : Nat → Nat
  | 0 => 0
  | k + 1 => cn T k + if T k = true then 1 else 0
def fm (T : Nat → Bool) : Nat → Int32
  | 0 => -3
  | k + 1 => if T k = true ∧ cn T k = 0 then nI k else fm T k
def cd (T : Nat → Bool) : Nat → Nat
  | 0 => 0
  | d + 1 => cd T d + if T (99 - d) = true then 1 else 0
def vd (T : Nat → Bool) : Nat → Int32
  | 0 => -3
  | d + 1 => if T (99 - d) = true then nI (99 - d) else vd T d
theorem cn_le (T : Nat → Bool) : ∀ k : Nat, cn T k ≤ k
  | 0 => Nat.le_refl 0
  | k + 1 => by
    have := cn_le T k
    simp only [cn]
    split <;> omega
theorem cd_le (T : Nat → Bool) : ∀ k : Nat, cd T k ≤ k
  | 0 => Nat.le_refl 0
  | k + 1 => by
    have := cd_le T k
    simp only [cd]
    split <;> omega
theorem cn_cd (T : Nat → Bool) : ∀ d : Nat, d ≤ 100 → cn T (100 - d) + cd T d = cn T 100
  | 0, _ => Nat.add_zero (cn T 100)
  | d + 1, h => by
    have ih := cn_cd T d (by omega)
    rw [show 100 - d = (99 - d) + 1 by omega] at ih
    rw [show 100 - (d + 1) = 99 - d by omega]
    simp only [cn, cd] at ih ⊢
    omega
theorem vd_fm (T : Nat → Bool) : ∀ m : Nat, m ≤ 100 → vd T 100 = if cn T m = 0 then vd T (100 - m) else fm T m
  | 0, _ => (if_pos (show cn T 0 = 0 from rfl)).symm
  | m + 1, h => by
    rw [vd_fm T m (by omega)]
    rw [show 100 - m = (99 - m) + 1 by omega, show 100 - (m + 1) = 99 - m by omega]
    simp only [cn, fm, vd]
    rw [show 99 - (99 - m) = m by omega]
    by_cases c : cn T m = 0 <;> by_cases d : T m = true <;> simp [c, d]
