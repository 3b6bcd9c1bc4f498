/-! packed: submasks -/
theorem sub_step : ∀ (f i S T : Nat), i < 2 ^ f → i &&& S = i → T &&& S = T → T < i → T ≤ (i - 1) &&& S
  | 0, i, S, T, h, _, _, ht => by omega
  | f + 1, i, S, T, h, hi, hT, ht => by
    have dd : ∀ a b : Nat, (a &&& b) / 2 = a / 2 &&& b / 2 := fun a b => Nat.and_div_two
    have m1 : ∀ a b : Nat, (a &&& b) % 2 = 1 ↔ a % 2 = 1 ∧ b % 2 = 1 := fun a b => Nat.and_mod_two_eq_one
    have h2 : 2 ^ (f + 1) = 2 * 2 ^ f := by rw [Nat.pow_succ]; omega
    have i2 : i / 2 &&& S / 2 = i / 2 := by rw [← dd, hi]
    have T2 : T / 2 &&& S / 2 = T / 2 := by rw [← dd, hT]
    have eR := Nat.div_add_mod ((i - 1) &&& S) 2
    rw [dd] at eR
    have mR := m1 (i - 1) S
    have mT := m1 T S
    rw [hT] at mT
    by_cases c : i % 2 = 1
    · have e : (i - 1) / 2 = i / 2 := by omega
      rw [e, i2] at eR
      omega
    · have e : (i - 1) / 2 = i / 2 - 1 := by omega
      rw [e] at eR
      by_cases d : T / 2 < i / 2
      · have ih := sub_step f (i / 2) (S / 2) (T / 2) (by omega) i2 T2 d
        have h1 : (i - 1) % 2 = 1 := by omega
        by_cases k : T % 2 = 1
        · have := mR.mpr ⟨h1, (mT.mp k).2⟩
          omega
        · omega
      · omega
/-- a packing: pages, the fill of the last -/
def Pk (a : Nat → Nat) (x : Nat) : Nat → Nat → Nat → Nat → Prop
  | 0, S, k, f => S = 0 ∧ k = 0 ∧ f = x
  | c + 1, S, k, f => ∃ S' k' f' p : Nat, Pk a x c S' k' f' ∧ S' / 2 ^ p % 2 = 0 ∧ S = S' + 2 ^ p ∧ ((f' + a p ≤ x ∧ k = k' ∧ f = f' + a p) ∨ (a p ≤ x ∧ k = k' + 1 ∧ f = a p))
/-- a step of the class -/
def stp (x a : Nat) (q : Nat × Nat) : Nat × Nat := if q.2 + a ≤ x then (q.1, q.2 + a) else (q.1 + 1, a)
def lxl (q r : Nat × Nat) : Prop := q.1 < r.1 ∨ (q.1 = r.1 ∧ q.2 ≤ r.2)
theorem stp_add {x a : Nat} {q r : Nat × Nat} (h : lxl q r) (hr : r.2 + a ≤ x) : lxl (stp x a q) (r.1, r.2 + a) := by
  unfold stp lxl at *
  by_cases c : q.2 + a ≤ x
  · rw [if_pos c]; simp only; omega
  · rw [if_neg c]; simp only; omega
theorem stp_new {x a : Nat} {q r : Nat × Nat} (h : lxl q r) : lxl (stp x a q) (r.1 + 1, a) := by
  unfold stp lxl at *
  by_cases c : q.2 + a ≤ x
  · rw [if_pos c]; simp only; omega
  · rw [if_neg c]; simp only; omega
