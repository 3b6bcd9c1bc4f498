/-! packed: sets as bits -/
theorem sub_step : ∀ (f i S T : Nat), i < 2 ^ f → i &&& S = i → T &&& S = T → T < i → T ≤ (i - 1) &&& S
  | 0, i, S, T, h, _, _, ht => by omega
  | f + 1, i, S, T, h, hi, hT, ht => by
    have dd : ∀ a b : Nat, (a &&& b) / 2 = a / 2 &&& b / 2 := fun a b => Nat.and_div_two
    have m1 : ∀ a b : Nat, (a &&& b) % 2 = 1 ↔ a % 2 = 1 ∧ b % 2 = 1 := fun a b => Nat.and_mod_two_eq_one
    have h2 : 2 ^ (f + 1) = 2 * 2 ^ f := by rw [Nat.pow_succ]; omega
    have i2 : i / 2 &&& S / 2 = i / 2 := by rw [← dd, hi]
    have T2 : T / 2 &&& S / 2 = T / 2 := by rw [← dd, hT]
    have eR := Nat.div_add_mod ((i - 1) &&& S) 2
    rw [dd] at eR
    have mR := m1 (i - 1) S
    have mT := m1 T S
    rw [hT] at mT
    by_cases c : i % 2 = 1
    · have e : (i - 1) / 2 = i / 2 := by omega
      rw [e, i2] at eR
      omega
    · have e : (i - 1) / 2 = i / 2 - 1 := by omega
      rw [e] at eR
      by_cases d : T / 2 < i / 2
      · have ih := sub_step f (i / 2) (S / 2) (T / 2) (by omega) i2 T2 d
        have h1 : (i - 1) % 2 = 1 := by omega
        by_cases k : T % 2 = 1
        · have := mR.mpr ⟨h1, (mT.mp k).2⟩
          omega
        · omega
      · omega
/-- S without T -/
def df (S T : Nat) : Nat := S ^^^ (S &&& T)
theorem df_t (S T i : Nat) : (df S T).testBit i = (S.testBit i && !T.testBit i) := by
  unfold df
  rw [Nat.testBit_xor, Nat.testBit_and]
  cases S.testBit i <;> cases T.testBit i <;> rfl
/-- T lies in S -/
def sb (T S : Nat) : Prop := ∀ i : Nat, T.testBit i = true → S.testBit i = true
theorem tb_or (S p i : Nat) : (S ||| 2 ^ p).testBit i = (S.testBit i || decide (p = i)) := by
  rw [Nat.testBit_or, Nat.testBit_two_pow]
theorem sb_and {T S : Nat} (h : sb T S) : T &&& S = T := by
  apply Nat.eq_of_testBit_eq
  intro i
  rw [Nat.testBit_and]
  cases hT : T.testBit i with
  | false => rfl
  | true => rw [h i hT]; rfl
theorem and_sb {T S : Nat} (h : T &&& S = T) : sb T S := by
  intro i hi
  rw [← h, Nat.testBit_and, Bool.and_eq_true] at hi
  exact hi.2
theorem sb_le {T S : Nat} (h : sb T S) : T ≤ S := Nat.le_trans (Nat.le_of_eq (sb_and h).symm) Nat.and_le_right
theorem df_sb (S T : Nat) : sb (df S T) S := fun i h => by
  rw [df_t, Bool.and_eq_true] at h
  exact h.1
theorem df_lt {S T p : Nat} (h : S.testBit p = true) (h2 : T.testBit p = true) : df S T < S := by
  rcases Nat.lt_or_eq_of_le (sb_le (df_sb S T)) with h3 | h3
  · exact h3
  · exfalso
    have e := df_t S T p
    rw [h3, h, h2] at e
    exact absurd e (by decide)
theorem bit_ex {S : Nat} (h : S ≠ 0) : ∃ p : Nat, S.testBit p = true := Nat.exists_testBit_of_ne_zero h
theorem bit_lt {S n p : Nat} (h : S < 2 ^ n) (hp : S.testBit p = true) : p < n := by
  rcases Nat.lt_or_ge p n with h1 | h1
  · exact h1
  · exfalso
    have e := Nat.testBit_lt_two_pow (Nat.lt_of_lt_of_le h (Nat.pow_le_pow_right (by decide) h1))
    rw [hp] at e
    exact absurd e (by decide)
theorem bit_ne {S p : Nat} (h : S.testBit p = true) : S ≠ 0 := by
  intro e
  rw [e, Nat.zero_testBit] at h
  exact absurd h (by decide)
theorem and_z {S M p : Nat} (h : M.testBit p = false) : df S (2 ^ p) &&& M = S &&& M := by
  apply Nat.eq_of_testBit_eq
  intro i
  simp only [Nat.testBit_and, df_t, Nat.testBit_two_pow]
  by_cases d : p = i
  · subst d; rw [h, Bool.and_false, Bool.and_false]
  · rw [decide_eq_false d, Bool.not_false, Bool.and_true]
/-- what all of a set have -/
def smb (a : Nat → Nat) : Nat → Nat → Nat
  | 0, _ => 0
  | n + 1, S => smb a n S + (if S.testBit n = true then a n else 0)
theorem smb_cg {a : Nat → Nat} {S T : Nat} : ∀ n : Nat, (∀ i : Nat, i < n → S.testBit i = T.testBit i) → smb a n S = smb a n T
  | 0, _ => rfl
  | n + 1, h => by
    simp only [smb]
    rw [smb_cg n (fun i hi => h i (by omega)), h n (by omega)]
theorem smb_ins {a : Nat → Nat} {S p : Nat} (hp : S.testBit p = false) : ∀ n : Nat, p < n → smb a n (S ||| 2 ^ p) = smb a n S + a p
  | 0, h => by omega
  | n + 1, h => by
    simp only [smb]
    by_cases e : p = n
    · subst e
      rw [smb_cg (S := S ||| 2 ^ p) (T := S) p (fun i hi => by rw [tb_or, decide_eq_false (show ¬ p = i by omega), Bool.or_false]), if_pos (by rw [tb_or, decide_eq_true (show p = p from rfl), Bool.or_true]), if_neg (by rw [hp]; decide)]
      rfl
    · have e2 : (S ||| 2 ^ p).testBit n = S.testBit n := by rw [tb_or, decide_eq_false e, Bool.or_false]
      rw [smb_ins hp n (by omega), e2]
      exact Nat.add_right_comm _ _ _
theorem smb_mono {a : Nat → Nat} {U T : Nat} (h : sb U T) : ∀ n : Nat, smb a n U ≤ smb a n T
  | 0 => Nat.le_refl _
  | n + 1 => by
    have ih := smb_mono (a := a) h n
    simp only [smb]
    by_cases c : U.testBit n = true
    · rw [if_pos c, if_pos (h n c)]; omega
    · rw [if_neg c]; exact Nat.le_trans ih (Nat.le_add_right _ _)
theorem smb_0 {a : Nat → Nat} : ∀ n : Nat, smb a n 0 = 0
  | 0 => rfl
  | n + 1 => by
    simp only [smb]
    rw [smb_0 n, Nat.zero_testBit, if_neg (by decide)]
theorem smb_b {a : Nat → Nat} {S : Nat} : ∀ n : Nat, (∀ p : Nat, p < n → a p ≤ 99) → smb a n S ≤ 99 * n
  | 0, _ => Nat.le_refl _
  | n + 1, h => by
    have ih := smb_b (S := S) n (fun p hp => h p (by omega))
    have h1 := h n (by omega)
    simp only [smb]
    by_cases c : S.testBit n = true
    · rw [if_pos c]; omega
    · rw [if_neg c]; omega
/-- one more on the pages: pages, the fill of the last -/
def stp (x a : Nat) (q : Nat × Nat) : Nat × Nat := if q.2 + a ≤ x then (q.1, q.2 + a) else (q.1 + 1, a)
theorem stp_p {x a : Nat} {q : Nat × Nat} (h : q.2 + a ≤ x) : stp x a q = (q.1, q.2 + a) := if_pos h
theorem stp_m {x a : Nat} {q : Nat × Nat} (h : ¬ q.2 + a ≤ x) : stp x a q = (q.1 + 1, a) := if_neg h
def lxl (q r : Nat × Nat) : Prop := q.1 < r.1 ∨ (q.1 = r.1 ∧ q.2 ≤ r.2)
theorem lxl_r (q : Nat × Nat) : lxl q q := Or.inr ⟨rfl, Nat.le_refl _⟩
theorem lxl_t {q r v : Nat × Nat} (h : lxl q r) (h2 : lxl r v) : lxl q v := by
  unfold lxl at *
  omega
theorem lxl_1 {q r : Nat × Nat} (h : lxl q r) : q.1 ≤ r.1 := by
  unfold lxl at h
  omega
theorem stp_add {x a : Nat} {q r : Nat × Nat} (h : lxl q r) (hr : r.2 + a ≤ x) : lxl (stp x a q) (r.1, r.2 + a) := by
  unfold stp lxl at *
  by_cases c : q.2 + a ≤ x
  · rw [if_pos c]; simp only; omega
  · rw [if_neg c]; simp only; omega
theorem stp_new {x a : Nat} {q r : Nat × Nat} (h : lxl q r) : lxl (stp x a q) (r.1 + 1, a) := by
  unfold stp lxl at *
  by_cases c : q.2 + a ≤ x
  · rw [if_pos c]; simp only; omega
  · rw [if_neg c]; simp only; omega
/-- what the one table holds below j -/
def IsV (a : Nat → Nat) (x n : Nat) (V : Nat → Nat × Nat) (j : Nat) : Prop := V 0 = (0, x) ∧ ∀ S : Nat, 0 < S → S < j → (V S).1 ≤ pc S ∧ (V S).2 ≤ x ∧ (∀ p : Nat, p < n → S.testBit p = true → lxl (V S) (stp x (a p) (V (df S (2 ^ p))))) ∧ ∃ p : Nat, p < n ∧ S.testBit p = true ∧ V S = stp x (a p) (V (df S (2 ^ p)))
theorem IsV.b {a : Nat → Nat} {x n j S : Nat} {V : Nat → Nat × Nat} (h : IsV a x n V j) (hS : S < j) : (V S).1 ≤ pc S ∧ (V S).2 ≤ x := by
  by_cases z : S = 0
  · subst z; rw [h.1]; exact ⟨Nat.zero_le _, Nat.le_refl _⟩
  · have g := h.2 S (by omega) hS
    exact ⟨g.1, g.2.1⟩
/-- what the other table holds below j -/
def IsR (a : Nat → Nat) (x n : Nat) (R : Nat → Nat) (j : Nat) : Prop := ∀ S : Nat, S < j → R S ≤ pc S ∧ (∀ T : Nat, sb T S → T ≠ 0 → smb a n T ≤ x → R S ≤ R (df S T) + 1) ∧ (R S = pc S ∨ ∃ T : Nat, sb T S ∧ T ≠ 0 ∧ smb a n T ≤ x ∧ R S = R (df S T) + 1)
theorem pk_low {a : Nat → Nat} {x n M : Nat} {V : Nat → Nat × Nat} {R : Nat → Nat} (hV : IsV a x n V (2 ^ n)) (hR : IsR a x n R (M + 1)) (hM : ∀ p : Nat, p < n → M.testBit p = decide (0 < a p)) : ∀ S : Nat, S < 2 ^ n → (S &&& M = 0 ∧ V S = (0, x)) ∨ ∃ T : Nat, sb T (S &&& M) ∧ T ≠ 0 ∧ smb a n T = (V S).2 ∧ R (df (S &&& M) T) + 1 ≤ (V S).1 := by
  intro S
  induction S using Nat.strongRecOn with
  | ind S ih =>
    intro hS
    by_cases z : S = 0
    · subst z; exact Or.inl ⟨Nat.zero_and M, hV.1⟩
    · obtain ⟨-, -, -, p, hp, hb, e⟩ := hV.2 S (by omega) hS
      have hlt : df S (2 ^ p) < S := df_lt hb Nat.testBit_two_pow_self
      have hb2 := hV.b (S := df S (2 ^ p)) (by omega)
      have ih1 := ih (df S (2 ^ p)) hlt (by omega)
      have mb : ∀ i : Nat, (df S (2 ^ p) &&& M).testBit i = ((S.testBit i && !decide (p = i)) && M.testBit i) := fun i => by rw [Nat.testBit_and, df_t, Nat.testBit_two_pow]
      have mS : ∀ i : Nat, (S &&& M).testBit i = (S.testBit i && M.testBit i) := fun i => by rw [Nat.testBit_and]
      by_cases c : a p = 0
      · have hMp : M.testBit p = false := by rw [hM p hp, c]; rfl
        have e2 : V S = V (df S (2 ^ p)) := by
          rw [e, c]
          exact stp_p (q := V (df S (2 ^ p))) (by omega)
        rw [and_z hMp, ← e2] at ih1
        exact ih1
      · have hMp : M.testBit p = true := by rw [hM p hp]; exact decide_eq_true (by omega)
        have nm : (df S (2 ^ p) &&& M).testBit p = false := by rw [mb, decide_eq_true (show p = p from rfl), Bool.not_true, Bool.and_false, Bool.false_and]
        have sT : sb (2 ^ p) (S &&& M) := fun i hi => by
          rw [Nat.testBit_two_pow] at hi
          have d : p = i := of_decide_eq_true hi
          subst d
          rw [mS, hb, hMp]; rfl
        have dT : df (S &&& M) (2 ^ p) = df S (2 ^ p) &&& M := by
          apply Nat.eq_of_testBit_eq
          intro i
          rw [df_t, mS, mb, Nat.testBit_two_pow]
          cases S.testBit i <;> cases M.testBit i <;> cases decide (p = i) <;> rfl
        have s2 : smb a n (2 ^ p) = a p := by
          have g := smb_ins (a := a) (S := 0) (p := p) (Nat.zero_testBit p) n hp
          rw [Nat.zero_or, smb_0, Nat.zero_add] at g
          exact g
        have n2 : 2 ^ p ≠ 0 := bit_ne (p := p) Nat.testBit_two_pow_self
        rcases ih1 with ⟨i1, i2⟩ | ⟨T, t1, t2, t3, t4⟩
        · have e3 : V S = (1, a p) := by
            rw [e, i2]
            exact stp_m (show ¬ x + a p ≤ x by omega)
          refine Or.inr ⟨2 ^ p, sT, n2, ?_, ?_⟩
          · rw [e3, s2]
          · rw [dT, i1, e3]
            have g := (hR 0 (by omega)).1
            rw [show pc 0 = 0 from rfl] at g
            show R 0 + 1 ≤ 1
            omega
        · by_cases d : (V (df S (2 ^ p))).2 + a p ≤ x
          · have e3 : V S = ((V (df S (2 ^ p))).1, (V (df S (2 ^ p))).2 + a p) := by
              rw [e]
              exact stp_p d
            have tp : T.testBit p = false := by
              cases h : T.testBit p with
              | false => rfl
              | true => exact absurd (t1 p h) (by rw [nm]; decide)
            refine Or.inr ⟨T ||| 2 ^ p, fun i hi => ?_, bit_ne (p := p) (by rw [tb_or, decide_eq_true (show p = p from rfl), Bool.or_true]), ?_, ?_⟩
            · rw [tb_or] at hi
              by_cases f : p = i
              · subst f; rw [mS, hb, hMp]; rfl
              · rw [decide_eq_false f, Bool.or_false] at hi
                have g := t1 i hi
                rw [mb] at g
                rw [mS]
                simp only [Bool.and_eq_true] at g ⊢
                exact ⟨g.1.1, g.2⟩
            · rw [smb_ins tp n hp, t3, e3]
            · have g : df (S &&& M) (T ||| 2 ^ p) = df (df S (2 ^ p) &&& M) T := by
                apply Nat.eq_of_testBit_eq
                intro i
                rw [df_t, df_t, mS, mb, tb_or]
                cases S.testBit i <;> cases M.testBit i <;> cases decide (p = i) <;> cases T.testBit i <;> rfl
              rw [g, e3]
              exact t4
          · have e3 : V S = ((V (df S (2 ^ p))).1 + 1, a p) := by
              rw [e]
              exact stp_m d
            refine Or.inr ⟨2 ^ p, sT, n2, ?_, ?_⟩
            · rw [e3, s2]
            · rw [dT, e3]
              have g := (hR (df S (2 ^ p) &&& M) (Nat.lt_succ_of_le Nat.and_le_right)).2.1 T t1 t2 (by rw [t3]; exact hb2.2)
              show R (df S (2 ^ p) &&& M) + 1 ≤ (V (df S (2 ^ p))).1 + 1
              omega
theorem pk_add {a : Nat → Nat} {x n : Nat} {V : Nat → Nat × Nat} (hV : IsV a x n V (2 ^ n)) {S T : Nat} (hS : sb T S) (hSn : S < 2 ^ n) (hx : smb a n T ≤ x) : ∀ U : Nat, sb U T → U ≠ 0 → lxl (V (df S T ||| U)) ((V (df S T)).1 + 1, smb a n U) := by
  intro U
  induction U using Nat.strongRecOn with
  | ind U ih =>
    intro hU z
    obtain ⟨p, hp⟩ := bit_ex z
    have hpT := hU p hp
    have hpS := hS p hpT
    have pn : p < n := bit_lt hSn hpS
    have tU : (df U (2 ^ p)).testBit p = false := by rw [df_t, Nat.testBit_two_pow_self, Bool.not_true, Bool.and_false]
    have eU : df U (2 ^ p) ||| 2 ^ p = U := by
      apply Nat.eq_of_testBit_eq
      intro i
      rw [tb_or, df_t, Nat.testBit_two_pow]
      by_cases d : p = i
      · subst d; rw [hp, decide_eq_true (show p = p from rfl)]; rfl
      · rw [decide_eq_false d, Bool.not_false, Bool.and_true, Bool.or_false]
    have sU : smb a n U = smb a n (df U (2 ^ p)) + a p := by
      have g := smb_ins (a := a) tU n pn
      rw [eU] at g
      exact g
    have sbS : sb (df S T ||| U) S := fun i hi => by
      rw [Nat.testBit_or, df_t, Bool.or_eq_true, Bool.and_eq_true] at hi
      rcases hi with h | h
      · exact h.1
      · exact hS i (hU i h)
    have bS : (df S T ||| U).testBit p = true := by rw [Nat.testBit_or, hp, Bool.or_true]
    have eD : df (df S T ||| U) (2 ^ p) = df S T ||| df U (2 ^ p) := by
      apply Nat.eq_of_testBit_eq
      intro i
      simp only [df_t, Nat.testBit_or, Nat.testBit_two_pow]
      by_cases d : p = i
      · subst d; rw [hpT, hpS, hp, decide_eq_true (show p = p from rfl)]; rfl
      · rw [decide_eq_false d]
        cases S.testBit i <;> cases T.testBit i <;> cases U.testBit i <;> rfl
    have hle := sb_le sbS
    have h2 := (hV.2 (df S T ||| U) (Nat.pos_of_ne_zero (bit_ne bS)) (Nat.lt_of_le_of_lt hle hSn)).2.2.1 p pn bS
    rw [eD] at h2
    by_cases c : df U (2 ^ p) = 0
    · rw [c, Nat.or_zero] at h2
      rw [sU, c, smb_0, Nat.zero_add]
      exact lxl_t h2 (stp_new (lxl_r _))
    · have h3 := ih (df U (2 ^ p)) (df_lt hp Nat.testBit_two_pow_self) (fun i hi => hU i (df_sb U (2 ^ p) i hi)) c
      have h4 : smb a n U ≤ x := Nat.le_trans (smb_mono hU n) hx
      rw [sU] at h4
      rw [sU]
      exact lxl_t h2 (stp_add (r := ((V (df S T)).1 + 1, smb a n (df U (2 ^ p)))) h3 h4)
theorem pk_high {a : Nat → Nat} {x n M : Nat} {V : Nat → Nat × Nat} {R : Nat → Nat} (hV : IsV a x n V (2 ^ n)) (hR : IsR a x n R (M + 1)) (hMn : M < 2 ^ n) : ∀ S : Nat, S ≤ M → (V S).1 ≤ R S := by
  intro S
  induction S using Nat.strongRecOn with
  | ind S ih =>
    intro hS
    rcases (hR S (by omega)).2.2 with h | ⟨T, t1, t2, t3, t4⟩
    · rw [h]
      exact (hV.b (S := S) (by omega)).1
    · obtain ⟨p, hp⟩ := bit_ex t2
      have hlt : df S T < S := df_lt (t1 p hp) hp
      have ih1 := ih (df S T) hlt (by omega)
      have h1 := lxl_1 (pk_add hV t1 (by omega) t3 T (fun _ h => h) t2)
      have e : df S T ||| T = S := by
        apply Nat.eq_of_testBit_eq
        intro i
        simp only [df_t, Nat.testBit_or]
        cases hT : T.testBit i with
        | false => rw [Bool.not_false, Bool.and_true, Bool.or_false]
        | true => rw [t1 i hT]; rfl
      rw [e] at h1
      have h2 : (V S).1 ≤ (V (df S T)).1 + 1 := h1
      omega
theorem pk_top {a : Nat → Nat} {x n M : Nat} {V : Nat → Nat × Nat} (hV : IsV a x n V (2 ^ n)) (hM : ∀ p : Nat, p < n → M.testBit p = decide (0 < a p)) : ∀ S : Nat, S < 2 ^ n → lxl (V S) (V (S &&& M)) := by
  intro S
  induction S using Nat.strongRecOn with
  | ind S ih =>
    intro hS
    by_cases c : sb S M
    · rw [sb_and c]; exact lxl_r _
    · obtain ⟨p, hp⟩ := Classical.not_forall.mp c
      obtain ⟨h1, h2⟩ := Classical.not_imp.mp hp
      have pn := bit_lt hS h1
      have h3 : M.testBit p = false := Bool.eq_false_iff.mpr h2
      have a0 : a p = 0 := by
        rw [hM p pn] at h3
        have g := of_decide_eq_false h3
        omega
      have hlt : df S (2 ^ p) < S := df_lt h1 Nat.testBit_two_pow_self
      have i1 := ih (df S (2 ^ p)) hlt (by omega)
      rw [and_z h3] at i1
      have h4 := (hV.2 S (Nat.pos_of_ne_zero (bit_ne h1)) hS).2.2.1 p pn h1
      have hb := (hV.b (S := df S (2 ^ p)) (by omega)).2
      rw [a0, stp_p (x := x) (a := 0) (q := V (df S (2 ^ p))) (by omega)] at h4
      exact lxl_t h4 i1
theorem pk_same {a : Nat → Nat} {x n M : Nat} {V : Nat → Nat × Nat} {R : Nat → Nat} (hV : IsV a x n V (2 ^ n)) (hR : IsR a x n R (M + 1)) (hM : ∀ p : Nat, p < n → M.testBit p = decide (0 < a p)) (hMn : M < 2 ^ n) : (V (2 ^ n - 1)).1 = R M := by
  have e : (2 ^ n - 1) &&& M = M := by
    apply Nat.eq_of_testBit_eq
    intro i
    rw [Nat.testBit_and, Nat.testBit_two_pow_sub_one]
    cases h : M.testBit i with
    | false => rw [Bool.and_false]
    | true => rw [decide_eq_true (bit_lt hMn h)]; rfl
  have h1 := lxl_1 (pk_top hV hM (2 ^ n - 1) (by omega))
  rw [e] at h1
  have h2 := pk_high hV hR hMn M (Nat.le_refl M)
  have h3 := pk_low hV hR hM (2 ^ n - 1) (by omega)
  rw [e] at h3
  rcases h3 with ⟨z, h4⟩ | ⟨T, t1, t2, t3, t4⟩
  · have h5 := (hR M (by omega)).1
    have h6 : pc M = 0 := by rw [z]; rfl
    have h7 : (V (2 ^ n - 1)).1 = 0 := by rw [h4]
    omega
  · have h5 := (hR M (by omega)).2.1 T t1 t2 (by rw [t3]; exact (hV.b (by omega)).2)
    omega
/-! tables that grow -/
def upf {α : Type} (V : Nat → α) (j : Nat) (q : α) : Nat → α := fun S => if S = j then q else V S
theorem upf_s {α : Type} {V : Nat → α} {j : Nat} {q : α} : upf V j q j = q := if_pos rfl
theorem upf_n {α : Type} {V : Nat → α} {j S : Nat} {q : α} (h : S ≠ j) : upf V j q S = V S := if_neg h
theorem IsV.snoc {a : Nat → Nat} {x n j : Nat} {V : Nat → Nat × Nat} {q : Nat × Nat} (h : IsV a x n V j) (h0 : 0 < j) (b1 : q.1 ≤ pc j) (b2 : q.2 ≤ x) (h1 : ∀ p : Nat, p < n → j.testBit p = true → lxl q (stp x (a p) (V (df j (2 ^ p))))) (h2 : ∃ p : Nat, p < n ∧ j.testBit p = true ∧ q = stp x (a p) (V (df j (2 ^ p)))) : IsV a x n (upf V j q) (j + 1) := by
  refine ⟨by rw [upf_n (show 0 ≠ j by omega)]; exact h.1, fun S hS1 hS2 => ?_⟩
  have e : ∀ p : Nat, S.testBit p = true → upf V j q (df S (2 ^ p)) = V (df S (2 ^ p)) := fun p hp => upf_n (by
    have g : df S (2 ^ p) < S := df_lt hp Nat.testBit_two_pow_self
    omega)
  by_cases c : S = j
  · subst c
    rw [upf_s]
    refine ⟨b1, b2, fun p hp hb => by rw [e p hb]; exact h1 p hp hb, ?_⟩
    obtain ⟨p, hp, hb, g⟩ := h2
    exact ⟨p, hp, hb, by rw [e p hb]; exact g⟩
  · rw [upf_n c]
    obtain ⟨g1, g2, g3, p, hp, hb, g⟩ := h.2 S hS1 (by omega)
    exact ⟨g1, g2, fun p hp hb => by rw [e p hb]; exact g3 p hp hb, p, hp, hb, by rw [e p hb]; exact g⟩
theorem IsR.snoc {a : Nat → Nat} {x n j v : Nat} {R : Nat → Nat} (h : IsR a x n R j) (h1 : v ≤ pc j) (h2 : ∀ T : Nat, sb T j → T ≠ 0 → smb a n T ≤ x → v ≤ R (df j T) + 1) (h3 : v = pc j ∨ ∃ T : Nat, sb T j ∧ T ≠ 0 ∧ smb a n T ≤ x ∧ v = R (df j T) + 1) : IsR a x n (upf R j v) (j + 1) := fun S hS => by
  have e : ∀ T : Nat, sb T S → T ≠ 0 → upf R j v (df S T) = R (df S T) := fun T t1 t2 => by
    obtain ⟨p, hp⟩ := bit_ex t2
    have g : df S T < S := df_lt (t1 p hp) hp
    exact upf_n (by omega)
  by_cases c : S = j
  · subst c
    rw [upf_s]
    refine ⟨h1, fun T t1 t2 t3 => by rw [e T t1 t2]; exact h2 T t1 t2 t3, ?_⟩
    rcases h3 with h3 | ⟨T, t1, t2, t3, t4⟩
    · exact Or.inl h3
    · exact Or.inr ⟨T, t1, t2, t3, by rw [e T t1 t2]; exact t4⟩
  · rw [upf_n c]
    obtain ⟨g1, g2, g3⟩ := h S (by omega)
    refine ⟨g1, fun T t1 t2 t3 => by rw [e T t1 t2]; exact g2 T t1 t2 t3, ?_⟩
    rcases g3 with g3 | ⟨T, t1, t2, t3, t4⟩
    · exact Or.inl g3
    · exact Or.inr ⟨T, t1, t2, t3, by rw [e T t1 t2]; exact t4⟩
