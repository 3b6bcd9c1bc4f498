/-! numbers and rows: what the shallow functions are reckoned with -/
theorem wr_e {α β : Type} (v : α) (f : α → Option β) : wr v f = f v := rfl
theorem bs {α β : Type} (v : α) (f : α → Option β) : (some v).bind f = f v := rfl
theorem cp2_s {α : Type} {s : Nat → Nat → α} {c : Nat} {f : Nat → α} : cp2 s c f c = f := by funext b; simp [cp2]
theorem cp2_n {α : Type} {s : Nat → Nat → α} {a c : Nat} {f : Nat → α} (h : a ≠ c) : cp2 s c f a = s a := by funext b; simp [cp2, h]
theorem cp2_2 {α : Type} {s : Nat → Nat → α} {c : Nat} {f h : Nat → α} : cp2 (cp2 s c f) c h = cp2 s c h := by
  funext a b
  by_cases e : a = c <;> simp [cp2, e]
theorem cp2_i {α : Type} {s : Nat → Nat → α} {c : Nat} : cp2 s c (s c) = s := by
  funext a b
  by_cases e : a = c <;> simp [cp2, e]
abbrev RR : Type := Nat → Int32
def uw (w : RR) (k : Nat) (v : Int32) : RR := fun i => if i = k then v else w i
def gw (w : RR) (p j : Nat) : Int32 := w (8 + 6 * p + j)
theorem uw_s {w : RR} {k : Nat} {v : Int32} : uw w k v k = v := by simp [uw]
theorem uw_n {w : RR} {k i : Nat} {v : Int32} (h : i ≠ k) : uw w k v i = w i := by simp [uw, h]
theorem up2_cp {s : SS} {c k : Nat} {v : Int32} : up2 s c k v = cp2 s c (uw (s c) k v) := by
  funext a b
  by_cases e : a = c
  · subst e; simp [up2, cp2, uw]
  · simp [up2, cp2, e]
theorem up2_r {α : Type} {s : Nat → Nat → α} {c i a b : Nat} {v : α} : up2 s c i v a b = if a = c ∧ b = i then v else s a b := by
  unfold up2
  by_cases h : a = c <;> by_cases h2 : b = i <;> simp [h, h2]
theorem ite_q {α β : Type} {c : Prop} [Decidable c] {a b : α} {q : β} : (if c then some (a, q) else some (b, q)) = some ((if c then a else b), q) := by
  by_cases h : c <;> simp [h]
theorem b2_z {b : Bool} : (b2 b = 0) = (b = false) := by cases b <;> simp [b2]
theorem b2_t : b2 true = 1 := rfl
theorem b2_f : b2 false = 0 := rfl
theorem rx_n {m j : Nat} (h : j < m) (hm : m < 2 ^ 31) : rx m (nI j) = some j := by
  unfold rx
  rw [nI_clamp (by omega), if_pos ⟨nI_pos (by omega), h⟩]
theorem rx8 {j : Nat} (h : j < 8) : rx 8 (nI j) = some j := rx_n h (by decide)
theorem rx4 {j : Nat} (h : j < 4) : rx 4 (nI j) = some j := rx_n h (by decide)
theorem rx56 {j : Nat} (h : j < 56) : rx 56 (nI j) = some j := rx_n h (by decide)
theorem rx4_0 : rx 4 0 = some 0 := by decide +kernel
theorem rx4_1 : rx 4 1 = some 1 := by decide +kernel
theorem rx4_2 : rx 4 2 = some 2 := by decide +kernel
theorem rx4_3 : rx 4 3 = some 3 := by decide +kernel
theorem rx56_0 : rx 56 0 = some 0 := by decide +kernel
theorem rx56_1 : rx 56 1 = some 1 := by decide +kernel
theorem rx56_2 : rx 56 2 = some 2 := by decide +kernel
theorem rx56_3 : rx 56 3 = some 3 := by decide +kernel
theorem rx56_4 : rx 56 4 = some 4 := by decide +kernel
theorem rx56_5 : rx 56 5 = some 5 := by decide +kernel
theorem rx56_6 : rx 56 6 = some 6 := by decide +kernel
theorem rx56_7 : rx 56 7 = some 7 := by decide +kernel
theorem its_a : ∀ p : Nat, p < 8 → ∀ j : Nat, j < 6 → rx 56 (((8 : Int32) + (6 : Int32) * nI p) + nI j) = some (8 + 6 * p + j) := by decide +kernel
theorem its_b : ∀ p : Nat, p < 8 → rx 56 ((8 : Int32) + (6 : Int32) * nI p) = some (8 + 6 * p) := by decide +kernel
theorem nI_k0 : (0 : Int32) = nI 0 := rfl
theorem nI_k1 : (1 : Int32) = nI 1 := rfl
theorem nI_k2 : (2 : Int32) = nI 2 := rfl
theorem nI_k3 : (3 : Int32) = nI 3 := rfl
theorem nI_k4 : (4 : Int32) = nI 4 := rfl
theorem nI_k5 : (5 : Int32) = nI 5 := rfl
theorem l_it {α β : Type} {b : (α → Option β) → α → Option β} {n : Nat} {a : α} : it b (n + 1) a = b (it b n) a := rfl
/-- a number between 0 and m -/
def bd (m : Nat) (x : Int32) : Prop := ∃ k : Nat, k ≤ m ∧ x = nI k
theorem bd_i {m : Nat} {x : Int32} (hm : m < 2 ^ 31) : bd m x ↔ 0 ≤ x.toInt ∧ x.toInt ≤ m := by
  constructor
  · rintro ⟨k, hk, rfl⟩
    rw [nI_toInt (by omega)]
    omega
  · rintro ⟨h1, h2⟩
    refine ⟨x.toInt.toNat, by omega, ?_⟩
    apply Int32.toInt_inj.mp
    rw [nI_toInt (by omega)]
    omega
theorem bd_n {m k : Nat} (h : k ≤ m) : bd m (nI k) := ⟨k, h, rfl⟩
theorem bd_le {m m' : Nat} {x : Int32} (h : bd m x) (hm : m ≤ m') : bd m' x := by
  obtain ⟨k, hk, e⟩ := h
  exact ⟨k, by omega, e⟩
theorem kd {x : Int32} (h : bd 5 x) : x = 0 ∨ x = 1 ∨ x = 2 ∨ x = 3 ∨ x = 4 ∨ x = 5 := by
  obtain ⟨k, hk, rfl⟩ := h
  have h6 : k = 0 ∨ k = 1 ∨ k = 2 ∨ k = 3 ∨ k = 4 ∨ k = 5 := by omega
  rcases h6 with rfl | rfl | rfl | rfl | rfl | rfl
  · exact Or.inl rfl
  · exact Or.inr (Or.inl rfl)
  · exact Or.inr (Or.inr (Or.inl rfl))
  · exact Or.inr (Or.inr (Or.inr (Or.inl rfl)))
  · exact Or.inr (Or.inr (Or.inr (Or.inr (Or.inl rfl))))
  · exact Or.inr (Or.inr (Or.inr (Or.inr (Or.inr rfl))))
theorem tI_add {x y : Int32} (h1 : -2147483648 ≤ x.toInt + y.toInt) (h2 : x.toInt + y.toInt < 2147483648) : (x + y).toInt = x.toInt + y.toInt := by
  rw [Int32.toInt_add]
  exact Int.bmod_eq_of_le (by omega) (by omega)
theorem tI_sub {x y : Int32} (h1 : -2147483648 ≤ x.toInt - y.toInt) (h2 : x.toInt - y.toInt < 2147483648) : (x - y).toInt = x.toInt - y.toInt := by
  rw [Int32.toInt_sub]
  exact Int.bmod_eq_of_le (by omega) (by omega)
theorem tI_lt {x y : Int32} : x < y ↔ x.toInt < y.toInt := Int32.lt_iff_toInt_lt
theorem tI_le {x y : Int32} : x ≤ y ↔ x.toInt ≤ y.toInt := Int32.le_iff_toInt_le
theorem tI_eq {x y : Int32} : x = y ↔ x.toInt = y.toInt := Int32.toInt_inj.symm
/-- who may be asked about -/
theorem wi_one {x : Int32} {n : Nat} (hn : n ≤ 8) (h : wi x 0 (nI n - 1) = true) : ∃ p : Nat, p < n ∧ x = nI p := by
  simp only [wi, Bool.and_eq_true, decide_eq_true_eq] at h
  obtain ⟨h1, h2⟩ := h
  obtain ⟨p, hp, rfl⟩ := nI_of (Int32.not_lt.mpr h1)
  refine ⟨p, ?_, rfl⟩
  match n, hn with
  | 0, _ =>
    rw [tI_le, nI_toInt hp, show ((nI 0 : Int32) - 1).toInt = -1 from by decide +kernel] at h2
    omega
  | m + 1, hm =>
    rw [nI_pred, nI_leI hp (by omega)] at h2
    omega
theorem wi_two {x : Int32} {n : Nat} (hn : n < 2 ^ 31) (h : wi x 0 (nI n) = true) : ∃ p : Nat, p ≤ n ∧ x = nI p := by
  simp only [wi, Bool.and_eq_true, decide_eq_true_eq] at h
  obtain ⟨h1, h2⟩ := h
  obtain ⟨p, hp, rfl⟩ := nI_of (Int32.not_lt.mpr h1)
  exact ⟨p, (nI_leI hp hn).mp h2, rfl⟩
theorem wi_bd {x m : Int32} {n : Nat} (hm : m.toInt = n) (hn : n < 2 ^ 31) (h : wi x 0 m = true) : bd n x := by
  simp only [wi, Bool.and_eq_true, decide_eq_true_eq] at h
  rw [bd_i hn]
  have h1 := tI_le.mp h.1
  have h2 := tI_le.mp h.2
  rw [show (0 : Int32).toInt = 0 from rfl] at h1
  omega
theorem c_isWithin {x l m : Int32} {s : SS} {t : TT} : f_X5_isWithin x l m s t = some (b2 (wi x l m), s, t) := by
  unfold f_X5_isWithin
  by_cases h1 : x < l
  · rw [if_pos h1, wi_lt h1]; rfl
  · rw [if_neg h1]
    by_cases h2 : m < x
    · rw [if_pos h2, wi_gt h2]; rfl
    · rw [if_neg h2, wi_ok h1 h2]; rfl
theorem m_in {x l m : Int32} {s : SS} {t : TT} : f_X6_in x l m s t = some (b2 (wi x l m), s, t) := by
  unfold f_X6_in
  by_cases h1 : x < l
  · rw [if_pos h1, wi_lt h1]; rfl
  · rw [if_neg h1]
    by_cases h2 : m < x
    · rw [if_pos h2, wi_gt h2]; rfl
    · rw [if_neg h2, wi_ok h1 h2]; rfl
theorem b2_k (b : Bool) : ((b2 b == 0 || b2 b == 1) = true) = True := by cases b <;> simp [b2]
theorem c_isKind {x : Int32} {s : SS} {t : TT} : f_X5_isKind x s t = some (b2 (wi x 0 5), s, t) := by
  simp only [f_X5_isKind, c_isWithin, bs, b2_k, if_true]
theorem c_isPlace {x : Int32} {s : SS} {t : TT} : f_X5_isPlace x s t = some (b2 (wi x 0 3), s, t) := by
  simp only [f_X5_isPlace, c_isWithin, bs, b2_k, if_true]
theorem c_has {o : Nat} {x : Int32} {s : SS} {t : TT} : f_X1_has o x s t = some (b2 (wi x 0 (s o 8 - 1)), s, t) := by
  simp only [f_X1_has, c_isWithin, bs, b2_k, if_true]
theorem c_isInRow {x y : Int32} {s : SS} {t : TT} : f_X5_isInRow x y s t = some (b2 (wi x 0 (s 0 9 - 1) && wi y 0 2), s, t) := by
  simp only [f_X5_isInRow, c_isWithin, bs, b2_z]
  cases wi x 0 (s 0 9 - 1) <;> cases wi y 0 2 <;> rfl
theorem m_isOne {x : Int32} {s : SS} {t : TT} : f_X6_isOne x s t = some (b2 (wi x 0 (s 52 6 - 1)), s, t) := by
  simp only [f_X6_isOne, rx56_6, m_in, bs, b2_k, if_true]
theorem m_isShelf {x : Int32} {s : SS} {t : TT} : f_X6_isShelf x s t = some (b2 (wi x 0 3), s, t) := by
  simp only [f_X6_isShelf, m_in, bs, b2_k, if_true]
theorem m_isKind {x y : Int32} {s : SS} {t : TT} : f_X6_isKind x y s t = some (b2 (wi x 0 5 && wi y 0 9), s, t) := by
  simp only [f_X6_isKind, m_in, bs, b2_z]
  cases wi x 0 5 <;> cases wi y 0 9 <;> rfl
theorem m_isRow {x y : Int32} {s : SS} {t : TT} : f_X6_isRow x y s t = some (b2 (wi x 0 (s 51 17 - 1) && wi y 0 2), s, t) := by
  simp only [f_X6_isRow, m_in, bs, b2_z]
  cases wi x 0 (s 51 17 - 1) <;> cases wi y 0 2 <;> rfl
def und (k b : Int32) : Bool := decide (k = b) || (decide (b = 0) || ((decide (b = 1) && decide (k = 3)) || (decide (b = 2) && decide (k = 4))))
theorem c_isUnder {k b : Int32} {s : SS} {t : TT} : f_X5_isUnder k b s t = some (b2 (und k b), s, t) := by
  unfold f_X5_isUnder j_X5_isUnder_19 und
  by_cases h1 : k = b
  · simp [h1, b2]
  · by_cases h2 : b = 0
    · simp [h1, h2, b2]
    · by_cases h3 : b = 1
      · by_cases h4 : k = 3 <;> by_cases h5 : b = 2 <;> by_cases h6 : k = 4 <;> simp_all [b2]
      · by_cases h5 : b = 2 <;> by_cases h6 : k = 4 <;> simp_all [b2]
theorem m_isUnder {k b : Int32} {s : SS} {t : TT} : f_X6_isUnder k b s t = some (b2 (und k b), s, t) := by
  unfold f_X6_isUnder j_X6_isUnder_19 und
  by_cases h1 : k = b
  · subst h1
    by_cases h2 : k = 0 <;> simp [h2, b2]
  · have h0 : ¬ b = k := fun e => h1 e.symm
    by_cases h2 : b = 0
    · simp [h1, h2, b2]
    · by_cases h3 : b = 1
      · by_cases h4 : k = 3 <;> by_cases h5 : b = 2 <;> by_cases h6 : k = 4 <;> simp_all [b2]
      · by_cases h5 : b = 2 <;> by_cases h6 : k = 4 <;> simp_all [b2]
/-- held -/
def hl (x l m : Int32) : Int32 := if l ≤ x then (if x ≤ m then x else m) else l
theorem m_held {x l m : Int32} {s : SS} {t : TT} : f_X6_held x l m s t = some (hl x l m, s, t) := by
  simp only [f_X6_held, ite_q, hl]
theorem m_mostOf {x : Int32} {s : SS} {t : TT} : f_X6_mostOf x s t = some ((if x = 3 then 99 else 9), s, t) := by
  simp only [f_X6_mostOf, ite_q]
