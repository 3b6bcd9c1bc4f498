/-! laws and people, call by call -/
theorem m_becomes {k : Nat} {v : Int32} {s : SS} {t : TT} (hk : k < 56) : f_X6_becomes (nI k) v s t = some (s 52 k, cp2 s 52 (uw (s 52) k v), t) := by
  simp only [f_X6_becomes, rx56 hk, bs, wr_e, up2_cp]
theorem its_c (p : Nat) (hp : p < 8) : (8 : Int32) + (6 : Int32) * nI p = nI (8 + 6 * p) := by
  have h : ∀ p : Nat, p < 8 → (8 : Int32) + (6 : Int32) * nI p = nI (8 + 6 * p) := by decide +kernel
  exact h p hp
theorem wi_no {x : Int32} {n : Nat} (hn : n < 2 ^ 31) (h : wi x 0 (nI n) = false) (k : Nat) (hk : k ≤ n) : ¬ x = nI k := by
  rintro rfl
  simp only [wi, Bool.and_eq_false_iff, decide_eq_false_iff_not] at h
  rcases h with h | h
  · exact h (nI_pos' (by omega))
  · exact h (nI_le hk hn)
theorem lm : ∀ k : Nat, k < 4 → ([9, 9, 9, 99] : List Int32).getD k 0 = (if nI k = 3 then 99 else 9) := by decide +kernel
theorem lm2 : ∀ k : Nat, k < 4 → (if nI k = 3 then 99 else 9 : Int32).toInt = ((ml k : Nat) : Int) := by decide +kernel
theorem lm3 : ∀ k : Nat, k < 4 → ml k < 2 ^ 31 := by decide +kernel
theorem s_lawOf {s : SS} {t : TT} {W : Nat} (x : Int32) (h : Rel s t W) : Sim (f_X5_lawOf x) (f_X6_lawOf x) s t W := by
  obtain ⟨⟨n, hw, hr⟩, -⟩ := id h
  cases hb : wi x 0 3 with
  | false => exact Sim.of h (-1) (by simp only [f_X5_lawOf, c_isWithin, bs, b2_z, hb, if_true]) (by simp only [f_X6_lawOf, m_in, bs, b2_z, hb, if_true])
  | true =>
    obtain ⟨k, hk, rfl⟩ := wi_two (n := 3) (by decide) hb
    have e : s 2 k = s 52 k := hr.2.2.1 k (by omega)
    exact Sim.of h (s 52 k) (by simp only [f_X5_lawOf, c_isWithin, bs, b2_z, hb, Bool.true_eq_false, if_false, rx4 (show k < 4 by omega), e]) (by simp only [f_X6_lawOf, m_in, bs, b2_z, hb, Bool.true_eq_false, if_false, rx56 (show k < 56 by omega)])
theorem s_set {s : SS} {t : TT} {W : Nat} (x v : Int32) (h : Rel s t W) : Sim (f_X5_set x v) (f_X6_set x v) s t W := by
  obtain ⟨⟨n, hw, hr⟩, -⟩ := id h
  cases hb : wi x 0 3 with
  | false => exact Sim.of h (-1) (by simp only [f_X5_set, c_isWithin, bs, b2_z, hb, if_true]) (by simp only [f_X6_set, m_in, bs, b2_z, hb, if_true])
  | true =>
    obtain ⟨k, hk, rfl⟩ := wi_two (n := 3) (by decide) hb
    have hk4 : k < 4 := by omega
    have e : s 2 k = s 52 k := hr.2.2.1 k hk4
    cases hc : wi v 0 (if nI k = 3 then 99 else 9) with
    | false => exact Sim.of h (-1) (by simp only [f_X5_set, c_isWithin, bs, b2_z, hb, Bool.true_eq_false, if_false, rx4 hk4, lm k hk4, hc, if_true]) (by simp only [f_X6_set, m_in, m_mostOf, bs, b2_z, hb, Bool.true_eq_false, if_false, hc, if_true])
    | true =>
      refine Sim.wr (w := uw (s 52) k v) (W' := W) h (s 52 k) (s1 := up2 s 2 k v) ?_ (Fr.rf.up ⟨by omega, by omega⟩) ?_ (hw.law hk4 (wi_bd (lm2 k hk4) (lm3 k hk4) hc)) (hr.law hk4) (Nat.le_refl _) (by omega)
      · simp only [f_X5_set, c_isWithin, bs, b2_z, hb, Bool.true_eq_false, if_false, rx4 hk4, lm k hk4, hc, wr_e, e]
      · simp only [f_X6_set, m_in, m_mostOf, bs, b2_z, hb, Bool.true_eq_false, if_false, hc, m_becomes (show k < 56 by omega), up2_o (show 52 ≠ 2 by decide)]
/-- one more -/
def R_add (w : RR) (n : Nat) (k th hd pg : Int32) : RR := uw (uw (uw (uw (uw (uw (uw w (8 + 6 * n + 0) k) (8 + 6 * n + 1) th) (8 + 6 * n + 2) hd) (8 + 6 * n + 3) pg) (8 + 6 * n + 4) 0) (8 + 6 * n + 5) 0) 6 (nI (n + 1))
theorem uw_r {w : RR} {k i : Nat} {v : Int32} : uw w k v i = if i = k then v else w i := rfl
theorem R_add_lo {w : RR} {n : Nat} {k th hd pg : Int32} (i : Nat) (hi : i < 8 + 6 * n) (h6 : i ≠ 6) : R_add w n k th hd pg i = w i := by
  unfold R_add
  rw [uw_n h6, uw_n (by omega), uw_n (by omega), uw_n (by omega), uw_n (by omega), uw_n (by omega), uw_n (by omega)]
theorem R_add_hi {w : RR} {n : Nat} {k th hd pg : Int32} : R_add w n k th hd pg (8 + 6 * n + 0) = k ∧ R_add w n k th hd pg (8 + 6 * n + 1) = th ∧ R_add w n k th hd pg (8 + 6 * n + 2) = hd ∧ R_add w n k th hd pg (8 + 6 * n + 3) = pg ∧ R_add w n k th hd pg (8 + 6 * n + 4) = 0 ∧ R_add w n k th hd pg (8 + 6 * n + 5) = 0 ∧ R_add w n k th hd pg 6 = nI (n + 1) := by
  unfold R_add
  refine ⟨?_, ?_, ?_, ?_, ?_, ?_, uw_s⟩
  · rw [uw_n (by omega), uw_n (by omega), uw_n (by omega), uw_n (by omega), uw_n (by omega), uw_n (by omega), uw_s]
  · rw [uw_n (by omega), uw_n (by omega), uw_n (by omega), uw_n (by omega), uw_n (by omega), uw_s]
  · rw [uw_n (by omega), uw_n (by omega), uw_n (by omega), uw_n (by omega), uw_s]
  · rw [uw_n (by omega), uw_n (by omega), uw_n (by omega), uw_s]
  · rw [uw_n (by omega), uw_n (by omega), uw_s]
  · rw [uw_n (by omega), uw_s]
theorem R_add_ok {w : RR} {n W : Nat} {k th hd pg : Int32} (h : OKw w n W) (hn : n < 8) (h0 : bd 5 k) (h1 : bd 99 th) (h2 : bd 9 hd) (h3 : bd 99 pg) : OKw (R_add w n k th hd pg) (n + 1) W := by
  obtain ⟨g1, g2, g3, g4, g5, g6⟩ := h
  obtain ⟨a0, a1, a2, a3, a4, a5, a6⟩ := R_add_hi (w := w) (n := n) (k := k) (th := th) (hd := hd) (pg := pg)
  refine ⟨by omega, a6, fun i hi => by rw [R_add_lo i (by omega) (by omega)]; exact g3 i hi, by rw [R_add_lo 4 (by omega) (by omega)]; exact g4, by rw [R_add_lo 5 (by omega) (by omega)]; exact g5, fun p hp j hj => ?_⟩
  by_cases e : p = n
  · subst e
    match j, hj with
    | 0, _ => rw [a0]; exact h0
    | 1, _ => rw [a1]; exact h1
    | 2, _ => rw [a2]; exact h2
    | 3, _ => rw [a3]; exact h3
    | 4, _ => rw [a4]; exact bd_c 0 rfl (by omega)
    | 5, _ => rw [a5]; exact bd_c 0 rfl (by omega)
  · rw [R_add_lo _ (by omega) (by omega)]; exact g6 p (by omega) j hj
theorem c_add {s : SS} {t : TT} {o n : Nat} {w : RR} {k th hd pg : Int32} (h : RW s o w n) (hn : n < 8) : ∃ s' : SS, f_X1_add o k th hd pg s t = some (s', t) ∧ Fr o s s' ∧ RW s' o (R_add w n k th hd pg) (n + 1) := by
  have h8 := h.1
  have r0 := h.set0 (p := n) (x := k)
  have r1 := r0.set1 (p := n) (x := th)
  have r2 := r1.set2 (p := n) (x := hd)
  have r3 := r2.set3 (p := n) (x := pg)
  have r4 := r3.set4 (p := n) (x := 0)
  have r5 := r4.set5 (p := n) (x := 0)
  refine ⟨_, (by simp only [f_X1_add, h8, r0.1, r1.1, r2.1, r3.1, r4.1, r5.1, rx8 hn, bs, wr_e, nI_1]; rfl), ((((((Fr.rf.up ⟨by omega, by omega⟩).up ⟨by omega, by omega⟩).up ⟨by omega, by omega⟩).up ⟨by omega, by omega⟩).up ⟨by omega, by omega⟩).up ⟨by omega, by omega⟩).up ⟨by omega, by omega⟩, ?_⟩
  obtain ⟨a0, a1, a2, a3, a4, a5, a6⟩ := R_add_hi (w := w) (n := n) (k := k) (th := th) (hd := hd) (pg := pg)
  obtain ⟨q1, q2, q3, q4, q5, q6, q7⟩ := r5
  have e8 : ∀ (s : SS) (v : Int32), up2 s o 8 v o 8 = v := fun s v => by rw [up2_r, if_pos ⟨rfl, rfl⟩]
  have e9 : ∀ (s : SS) (v : Int32) (i : Nat), i ≠ 8 → up2 s o 8 v o i = s o i := fun s v i hi => by rw [up2_r, if_neg (fun z => hi z.2)]
  refine ⟨e8 _ _, a6, fun i hi => ?_, ?_, ?_, ?_, fun p hp => ?_⟩
  · rw [up2_o (by omega), q3 i hi]; exact (uw_n (by omega)).symm
  · rw [e9 _ _ _ (by omega), q4]; exact (uw_n (by omega)).symm
  · rw [e9 _ _ _ (by omega), q5]; exact (uw_n (by omega)).symm
  · rw [e9 _ _ _ (by omega), q6]; exact (uw_n (by omega)).symm
  · by_cases e : p = n
    · subst e
      rw [a0, a1, a2, a3, a4, a5]
      refine ⟨?_, ?_, ?_, ?_, ?_, ?_⟩ <;> simp [up2_r]
    · obtain ⟨b0, b1, b2, b3, b4, b5⟩ := q7 p (by omega)
      refine ⟨?_, ?_, ?_, ?_, ?_, ?_⟩
      · rw [up2_o (by omega), b0]; exact (uw_n (by omega)).symm
      · rw [up2_o (by omega), b1]; exact (uw_n (by omega)).symm
      · rw [up2_o (by omega), b2]; exact (uw_n (by omega)).symm
      · rw [up2_o (by omega), b3]; exact (uw_n (by omega)).symm
      · rw [up2_o (by omega), b4]; exact (uw_n (by omega)).symm
      · rw [up2_o (by omega), b5]; exact (uw_n (by omega)).symm
theorem s_person {s : SS} {t : TT} {W : Nat} (k th hd pg : Int32) (h : Rel s t W) : Sim (f_X5_person k th hd pg) (f_X6_person k th hd pg) s t W := by
  obtain ⟨⟨n, hw, hr⟩, -⟩ := id h
  have h8 := hr.1
  have h6 := hw.2.1
  cases hk : wi k 0 5 with
  | false => exact Sim.of h (-1) (by simp only [f_X5_person, c_isKind, bs, b2_z, hk, if_true]) (by simp only [f_X6_person, m_isKind, bs, b2_z, hk, Bool.false_and, if_true])
  | true =>
  cases ht : wi th 0 99 with
  | false => exact Sim.of h (-1) (by simp only [f_X5_person, c_isKind, c_isWithin, bs, b2_z, hk, ht, Bool.true_eq_false, if_false, if_true]) (by cases wi hd 0 9 <;> simp [f_X6_person, m_isKind, m_in, b2_z, hk, ht])
  | true =>
  cases hh : wi hd 0 9 with
  | false => exact Sim.of h (-1) (by simp only [f_X5_person, c_isKind, c_isWithin, bs, b2_z, hk, ht, hh, Bool.true_eq_false, if_false, if_true]) (by simp only [f_X6_person, m_isKind, bs, b2_z, hk, hh, Bool.and_false, if_true])
  | true =>
  cases hp : wi pg 0 99 with
  | false => exact Sim.of h (-1) (by simp only [f_X5_person, c_isKind, c_isWithin, bs, b2_z, hk, ht, hh, hp, Bool.true_eq_false, if_false, if_true]) (by simp only [f_X6_person, m_isKind, m_in, bs, b2_z, hk, ht, hh, hp, Bool.and_true, Bool.true_eq_false, if_false, if_true])
  | true =>
  by_cases h9 : n = 8
  · subst h9
    exact Sim.of h (-2) (by simp only [f_X5_person, c_isKind, c_isWithin, bs, b2_z, hk, ht, hh, hp, Bool.true_eq_false, if_false, h8, show ¬ nI 8 < 8 from by decide]) (by simp only [f_X6_person, m_isKind, m_in, bs, b2_z, hk, ht, hh, hp, Bool.and_true, Bool.true_eq_false, if_false, rx56_6, h6, show nI 8 = 8 from rfl, if_true])
  · have hn : n < 8 := by have := hw.1; omega
    obtain ⟨s1, e1, f1, r1⟩ := c_add (t := t) (k := k) (th := th) (hd := hd) (pg := pg) hr hn
    have h52 : s1 52 = s 52 := f1 52 (by omega)
    have c1 : nI n < 8 := nI_lt (b := 8) hn (by decide)
    have c2 : ¬ nI n = 8 := fun z => h9 ((nI_eq (by omega) (by decide)).mp z)
    refine Sim.wr (w := R_add (s 52) n k th hd pg) (W' := W) h (nI n) (s1 := s1) ?_ f1 ?_ (R_add_ok hw hn (wi_bd rfl (by decide) hk) (wi_bd rfl (by decide) ht) (wi_bd rfl (by decide) hh) (wi_bd rfl (by decide) hp)) r1 (Nat.le_refl _) (by omega)
    · simp only [f_X5_person, c_isKind, c_isWithin, bs, b2_z, hk, ht, hh, hp, Bool.true_eq_false, if_false, h8, c1, if_true, e1, r1.1, nI_pred]
    · simp only [f_X6_person, m_isKind, m_in, bs, b2_z, hk, ht, hh, hp, Bool.and_true, Bool.true_eq_false, if_false, rx56_6, h52, h6, c2, sets_0 hn, sets_1 hn, sets_2 hn, sets_3 hn, sets_4 hn, sets_5 hn, cp2_s, cp2_2, wr_e, up2_cp, R_add, uw_n (show 6 ≠ 8 + 6 * n + 5 by omega), uw_n (show 6 ≠ 8 + 6 * n + 4 by omega), uw_n (show 6 ≠ 8 + 6 * n + 3 by omega), uw_n (show 6 ≠ 8 + 6 * n + 2 by omega), uw_n (show 6 ≠ 8 + 6 * n + 1 by omega), uw_n (show 6 ≠ 8 + 6 * n + 0 by omega), nI_1]
