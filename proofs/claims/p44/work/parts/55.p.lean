/-! the tape, free of states: runs of bytes, tokens, words -/
def isB (x : Int32) : Bool := decide (x = 32)
def isL (x : Int32) : Bool := wi x 97 122
def isD (x : Int32) : Bool := wi x 48 57
theorem isB_L {x : Int32} (h : isL x = true) : isB x = false := by
  unfold isB
  rw [decide_eq_false_iff_not]
  intro e
  subst e
  exact absurd h (by decide +kernel)
theorem isB_D {x : Int32} (h : isD x = true) : isB x = false := by
  unfold isB
  rw [decide_eq_false_iff_not]
  intro e
  subst e
  exact absurd h (by decide +kernel)
def Run (P : Int32 → Bool) (b : RR) (m a e : Nat) : Prop := a ≤ e ∧ e ≤ m ∧ (∀ i : Nat, a ≤ i → i < e → P (b i) = true) ∧ (e < m → P (b e) = false)
theorem Run.lt {P : Int32 → Bool} {b : RR} {m a e e' : Nat} (h : Run P b m a e) (h' : Run P b m a e') : ¬ e < e' := by
  intro c
  have h1 := h.2.2.2 (by have := h'.2.1; omega)
  have h2 := h'.2.2.1 e h.1 c
  rw [h1] at h2
  cases h2
theorem Run.uq {P : Int32 → Bool} {b : RR} {m a e e' : Nat} (h : Run P b m a e) (h' : Run P b m a e') : e = e' := by
  have h1 := h.lt h'
  have h2 := h'.lt h
  omega
/-- the token behind place p: its sort k, from a to e -/
def Tok (b : RR) (m p k a e : Nat) : Prop := Run isB b m p a ∧ ((a = m ∧ k = 0 ∧ e = m) ∨ (a < m ∧ k = 1 ∧ isL (b a) = true ∧ Run isL b m a e) ∨ (a < m ∧ k = 2 ∧ isL (b a) = false ∧ isD (b a) = true ∧ Run isD b m a e) ∨ (a < m ∧ k = 3 ∧ isL (b a) = false ∧ isD (b a) = false ∧ e = a + 1))
theorem Tok.uq {b : RR} {m p k a e k' a' e' : Nat} (h : Tok b m p k a e) (h' : Tok b m p k' a' e') : k = k' ∧ a = a' ∧ e = e' := by
  obtain ⟨r, h⟩ := h
  obtain ⟨r', h'⟩ := h'
  have ea := r.uq r'
  subst ea
  refine ⟨?_, rfl, ?_⟩
  · rcases h with ⟨c, e1, _⟩ | ⟨c, e1, c2, _⟩ | ⟨c, e1, c2, c3, _⟩ | ⟨c, e1, c2, c3, _⟩ <;> rcases h' with ⟨d, f1, _⟩ | ⟨d, f1, d2, _⟩ | ⟨d, f1, d2, d3, _⟩ | ⟨d, f1, d2, d3, _⟩ <;> first | omega | simp_all
  · rcases h with ⟨c, e1, c1⟩ | ⟨c, e1, c2, c4⟩ | ⟨c, e1, c2, c3, c4⟩ | ⟨c, e1, c2, c3, c4⟩ <;> rcases h' with ⟨d, f1, d1⟩ | ⟨d, f1, d2, d4⟩ | ⟨d, f1, d2, d3, d4⟩ | ⟨d, f1, d2, d3, d4⟩ <;> first | omega | exact c4.uq d4 | simp_all
theorem Tok.le {b : RR} {m p k a e : Nat} (h : Tok b m p k a e) : p ≤ a ∧ a ≤ e ∧ e ≤ m ∧ (k ≠ 0 → a < e ∧ a < m) ∧ k ≤ 3 ∧ (k = 0 → a = m) := by
  obtain ⟨r, h⟩ := h
  have r1 := r.1
  have r2 := r.2.1
  rcases h with ⟨c, e1, c1⟩ | ⟨c, e1, c2, c4⟩ | ⟨c, e1, c2, c3, c4⟩ | ⟨c, e1, c2, c3, c4⟩
  · omega
  · have := c4.1
    have := c4.2.1
    have : a ≠ e := by
      intro z
      subst z
      have := c4.2.2.2 c
      rw [c2] at this
      cases this
    omega
  · have := c4.1
    have := c4.2.1
    have : a ≠ e := by
      intro z
      subst z
      have := c4.2.2.2 c
      rw [c3] at this
      cases this
    omega
  · omega
/-- letters and what they are worth -/
def lw (b : RR) (a : Nat) : Nat → List Int32
  | 0 => []
  | n + 1 => lw b a n ++ [b (a + n)]
theorem lw_len {b : RR} {a : Nat} : ∀ n : Nat, (lw b a n).length = n
  | 0 => rfl
  | n + 1 => by simp [lw, lw_len n]
def lt1 (x : Int32) : Nat := (x.toInt - 96).toNat
def vl (b : RR) (a : Nat) : Nat → Nat
  | 0 => 0
  | n + 1 => 27 * vl b a n + lt1 (b (a + n))
theorem lt1_ok {x : Int32} (h : isL x = true) : 1 ≤ lt1 x ∧ lt1 x ≤ 26 ∧ x = nI (96 + lt1 x) := by
  unfold isL wi at h
  simp only [Bool.and_eq_true, decide_eq_true_eq] at h
  have h1 := tI_le.mp h.1
  have h2 := tI_le.mp h.2
  rw [show (97 : Int32).toInt = 97 from rfl] at h1
  rw [show (122 : Int32).toInt = 122 from rfl] at h2
  unfold lt1
  refine ⟨by omega, by omega, ?_⟩
  apply Int32.toInt_inj.mp
  rw [nI_toInt (by omega)]
  omega
theorem vl_lt {b : RR} {a : Nat} : ∀ n : Nat, (∀ i : Nat, i < n → isL (b (a + i)) = true) → vl b a n < 27 ^ n
  | 0, _ => by simp [vl]
  | n + 1, h => by
    have h1 := vl_lt n (fun i hi => h i (by omega))
    have h2 := (lt1_ok (h n (by omega))).2.1
    have h3 : (27 : Nat) ^ (n + 1) = 27 * 27 ^ n := by rw [Nat.pow_succ]; omega
    rw [h3]
    simp only [vl]
    omega
def dc : Nat → Nat → List Int32
  | 0, _ => []
  | f + 1, v => if v = 0 then [] else dc f (v / 27) ++ [nI (96 + v % 27)]
theorem dc_vl {b : RR} {a : Nat} : ∀ n f : Nat, n ≤ f → (∀ i : Nat, i < n → isL (b (a + i)) = true) → dc f (vl b a n) = lw b a n
  | 0, f, _, _ => by
    match f with
    | 0 => rfl
    | f + 1 => simp [dc, vl, lw]
  | n + 1, 0, h, _ => by omega
  | n + 1, f + 1, hf, h => by
    obtain ⟨h1, h2, h3⟩ := lt1_ok (h n (by omega))
    have e1 : (27 * vl b a n + lt1 (b (a + n))) / 27 = vl b a n := by omega
    have e2 : (27 * vl b a n + lt1 (b (a + n))) % 27 = lt1 (b (a + n)) := by omega
    have e3 : ¬ 27 * vl b a n + lt1 (b (a + n)) = 0 := by omega
    simp only [dc, vl, lw, e3, if_false, e1, e2]
    rw [dc_vl n f (by omega) (fun i hi => h i (by omega)), ← h3]
def SP (w : Nat) : List Int32 := pm_sb.getD w []
def cde (w : Nat) : Nat := [913590, 152574828626, 12403634, 326018, 277800912, 1888, 16079, 6564799, 13691, 382984, 7871591333, 158575, 8527996].getD w 0
theorem cde_dc : ∀ w : Nat, w < 13 → dc 9 (cde w) = SP w := by decide +kernel
theorem cde_lt : ∀ w : Nat, w < 13 → cde w < 2 ^ 62 := by decide +kernel
def lv : List Int32 → Nat := fun L => L.foldl (fun v x => 27 * v + lt1 x) 0
theorem lv_SP : ∀ w : Nat, w < 13 → lv (SP w) = cde w := by decide +kernel
theorem lv_lw {b : RR} {a : Nat} : ∀ n : Nat, lv (lw b a n) = vl b a n
  | 0 => rfl
  | n + 1 => by
    have := lv_lw (b := b) (a := a) n
    unfold lv at this ⊢
    simp only [lw, vl, List.foldl_append, List.foldl_cons, List.foldl_nil, this]
theorem SP_len : ∀ w : Nat, w < 13 → (SP w).length ≤ 9 ∧ (SP w).length = pm_sl.getD w 0 := by decide +kernel
theorem vl_code {b : RR} {a n w : Nat} (hw : w < 13) (hn : n ≤ 9) (h : ∀ i : Nat, i < n → isL (b (a + i)) = true) : vl b a n = cde w ↔ lw b a n = SP w := by
  constructor
  · intro e
    rw [← cde_dc w hw, ← e]
    exact (dc_vl n 9 hn h).symm
  · intro e
    rw [← lv_lw, e, lv_SP w hw]
/-- the word that letters spell -/
def CV (b : RR) (a n : Nat) (v : Int32) : Prop := (∃ w : Nat, w < 13 ∧ v = nI w ∧ lw b a n = SP w) ∨ (v = -1 ∧ ∀ w : Nat, w < 13 → lw b a n ≠ SP w)
theorem SP_inj : ∀ w : Nat, w < 13 → ∀ w' : Nat, w' < 13 → SP w = SP w' → w = w' := by decide +kernel
theorem CV.iff {b : RR} {a n : Nat} {v : Int32} (h : CV b a n v) (w : Nat) (hw : w < 13) : v = nI w ↔ lw b a n = SP w := by
  rcases h with ⟨w', h1, h2, h3⟩ | ⟨h1, h2⟩
  · rw [h3, h2, nI_eq (by omega) (by omega)]
    exact ⟨fun e => by rw [e], fun e => SP_inj _ h1 _ hw e⟩
  · constructor
    · intro e
      rw [h1] at e
      have e2 := congrArg Int32.toInt e
      rw [nI_toInt (by omega), show (-1 : Int32).toInt = -1 from rfl] at e2
      omega
    · intro e
      exact absurd e (h2 w hw)
theorem lw_ext {b : RR} {a : Nat} {L : List Int32} : ∀ n : Nat, L.length = n → (lw b a n = L ↔ ∀ i : Nat, i < n → b (a + i) = L.getD i 0) := by
  intro n hn
  constructor
  · intro e i hi
    rw [← e]
    clear e hn
    induction n with
    | zero => omega
    | succ n ih =>
      by_cases c : i = n
      · subst c
        simp [lw, lw_len, List.getElem?_append]
      · have := ih (by omega)
        rw [this]
        simp only [lw]
        rw [List.getD_eq_getElem?_getD, List.getD_eq_getElem?_getD, List.getElem?_append_left (by rw [lw_len]; omega)]
  · intro h
    apply List.ext_getElem
    · rw [lw_len, hn]
    · intro i h1 h2
      rw [lw_len] at h1
      have h3 := h i h1
      rw [List.getD_eq_getElem?_getD, List.getElem?_eq_getElem h2] at h3
      simp only [Option.getD_some] at h3
      rw [← h3]
      clear h h2 h3 hn
      induction n with
      | zero => omega
      | succ n ih =>
        by_cases c : i = n
        · subst c
          simp [lw, lw_len]
        · simp only [lw]
          rw [List.getElem_append_left (by rw [lw_len]; omega)]
          exact ih (by first | omega | (rw [lw_len]; omega)) (by first | omega | (rw [lw_len]; omega))
/-- digits -/
def dg1 (x : Int32) : Nat := (x.toInt - 48).toNat
def dv (b : RR) (a : Nat) : Nat → Nat
  | 0 => 0
  | n + 1 => 10 * dv b a n + dg1 (b (a + n))
theorem dg1_ok {x : Int32} (h : isD x = true) : dg1 x ≤ 9 ∧ x = nI (48 + dg1 x) := by
  unfold isD wi at h
  simp only [Bool.and_eq_true, decide_eq_true_eq] at h
  have h1 := tI_le.mp h.1
  have h2 := tI_le.mp h.2
  rw [show (48 : Int32).toInt = 48 from rfl] at h1
  rw [show (57 : Int32).toInt = 57 from rfl] at h2
  unfold dg1
  refine ⟨by omega, ?_⟩
  apply Int32.toInt_inj.mp
  rw [nI_toInt (by omega)]
  omega
theorem dv_lt {b : RR} {a : Nat} : ∀ n : Nat, (∀ i : Nat, i < n → isD (b (a + i)) = true) → dv b a n < 10 ^ n
  | 0, _ => by simp [dv]
  | n + 1, h => by
    have h1 := dv_lt n (fun i hi => h i (by omega))
    have h2 := (dg1_ok (h n (by omega))).1
    have h3 : (10 : Nat) ^ (n + 1) = 10 * 10 ^ n := by rw [Nat.pow_succ]; omega
    rw [h3]
    simp only [dv]
    omega
/-- what the class keeps of a token -/
def TV (b : RR) (k a e : Nat) (v : Int32) : Prop := (k = 1 → CV b a (e - a) v) ∧ (k = 2 → v = if e - a ≤ 3 then nI (dv b a (e - a)) else 1000) ∧ (k = 3 → v = b a)
