/-! of, does, mind, thought, own, give -/
theorem uw_cm {w : RR} {a b : Nat} {x y : Int32} (h : a ≠ b) : uw (uw w a x) b y = uw (uw w b y) a x := by
  funext i
  by_cases h1 : i = a
  · subst h1; simp [uw, h]
  · by_cases h2 : i = b
    · subst h2; simp [uw, h1]
    · simp [uw, h1, h2]
theorem s_of {s : SS} {t : TT} {W : Nat} (x v : Int32) (h : Rel s t W) : Sim (f_X5_of x v) (f_X6_of x v) s t W := by
  obtain ⟨⟨n, hw, hr⟩, -⟩ := id h
  have h8 : s 1 8 = nI n := hr.1
  have h6 := hw.2.1
  cases hb : wi x 0 (nI n - 1) with
  | false => exact Sim.of h (-1) (by simp only [f_X5_of, c_has, h8, bs, b2_z, hb, if_true]) (by simp only [f_X6_of, m_isOne, h6, bs, b2_z, hb, if_true])
  | true =>
    obtain ⟨p, hp, rfl⟩ := wi_one hw.1 hb
    have hp8 : p < 8 := by have := hw.1; omega
    obtain ⟨k0, k1, k2, k3, k4, k5⟩ := hr.2.2.2.2.2.2 p hp
    cases hc : wi v 0 5 with
    | false =>
      have e0 : ¬ v = 0 := wi_no (n := 5) (by decide) hc 0 (by omega)
      have e1 : ¬ v = 1 := wi_no (n := 5) (by decide) hc 1 (by omega)
      have e2 : ¬ v = 2 := wi_no (n := 5) (by decide) hc 2 (by omega)
      have e3 : ¬ v = 3 := wi_no (n := 5) (by decide) hc 3 (by omega)
      have e4 : ¬ v = 4 := wi_no (n := 5) (by decide) hc 4 (by omega)
      have e5 : ¬ v = 5 := wi_no (n := 5) (by decide) hc 5 (by omega)
      exact Sim.of h (-1) (by simp only [f_X5_of, c_has, h8, bs, b2_z, hb, Bool.true_eq_false, if_false, e0, e1, e2, e3, e4, e5]) (by simp only [f_X6_of, m_isOne, m_in, h6, bs, b2_z, hb, hc, Bool.true_eq_false, if_false, if_true])
    | true =>
      have hv : bd 5 v := wi_bd rfl (by decide) hc
      rcases kd hv with rfl | rfl | rfl | rfl | rfl | rfl
      · exact Sim.of h (s 52 (8 + 6 * p + 0)) (by simp only [f_X5_of, c_has, h8, bs, b2_z, hb, Bool.true_eq_false, if_false, if_true, rx8 hp8]; exact congrArg (fun z => some (z, s, t)) k0) (by simp only [f_X6_of, m_isOne, m_in, h6, bs, b2_z, hb, hc, Bool.true_eq_false, if_false, its_0 hp8])
      · exact Sim.of h (s 52 (8 + 6 * p + 1)) (by simp only [f_X5_of, c_has, h8, bs, b2_z, hb, Bool.true_eq_false, if_false, if_true, rx8 hp8, show ¬ (1 : Int32) = 0 by decide]; exact congrArg (fun z => some (z, s, t)) k1) (by simp only [f_X6_of, m_isOne, m_in, h6, bs, b2_z, hb, hc, Bool.true_eq_false, if_false, its_1 hp8])
      · exact Sim.of h (s 52 (8 + 6 * p + 2)) (by simp only [f_X5_of, c_has, h8, bs, b2_z, hb, Bool.true_eq_false, if_false, if_true, rx8 hp8, show ¬ (2 : Int32) = 0 by decide, show ¬ (2 : Int32) = 1 by decide]; exact congrArg (fun z => some (z, s, t)) k2) (by simp only [f_X6_of, m_isOne, m_in, h6, bs, b2_z, hb, hc, Bool.true_eq_false, if_false, its_2 hp8])
      · exact Sim.of h (s 52 (8 + 6 * p + 3)) (by simp only [f_X5_of, c_has, h8, bs, b2_z, hb, Bool.true_eq_false, if_false, if_true, rx8 hp8, show ¬ (3 : Int32) = 0 by decide, show ¬ (3 : Int32) = 1 by decide, show ¬ (3 : Int32) = 2 by decide]; exact congrArg (fun z => some (z, s, t)) k3) (by simp only [f_X6_of, m_isOne, m_in, h6, bs, b2_z, hb, hc, Bool.true_eq_false, if_false, its_3 hp8])
      · exact Sim.of h (s 52 (8 + 6 * p + 4)) (by simp only [f_X5_of, c_has, h8, bs, b2_z, hb, Bool.true_eq_false, if_false, if_true, rx8 hp8, show ¬ (4 : Int32) = 0 by decide, show ¬ (4 : Int32) = 1 by decide, show ¬ (4 : Int32) = 2 by decide, show ¬ (4 : Int32) = 3 by decide]; exact congrArg (fun z => some (z, s, t)) k4) (by simp only [f_X6_of, m_isOne, m_in, h6, bs, b2_z, hb, hc, Bool.true_eq_false, if_false, its_4 hp8])
      · exact Sim.of h (s 52 (8 + 6 * p + 5)) (by simp only [f_X5_of, c_has, h8, bs, b2_z, hb, Bool.true_eq_false, if_false, if_true, rx8 hp8, show ¬ (5 : Int32) = 0 by decide, show ¬ (5 : Int32) = 1 by decide, show ¬ (5 : Int32) = 2 by decide, show ¬ (5 : Int32) = 3 by decide, show ¬ (5 : Int32) = 4 by decide]; exact congrArg (fun z => some (z, s, t)) k5) (by simp only [f_X6_of, m_isOne, m_in, h6, bs, b2_z, hb, hc, Bool.true_eq_false, if_false, its_5 hp8])
theorem s_does {s : SS} {t : TT} {W : Nat} (hW : W < 2 ^ 30) (x v : Int32) (h : Rel s t W) : Sim (f_X5_does x v) (f_X6_does x v) s t W := by
  obtain ⟨⟨n, hw, hr⟩, -⟩ := id h
  have h8 : s 1 8 = nI n := hr.1
  have h6 := hw.2.1
  cases hb : wi x 0 (nI n - 1) with
  | false => exact Sim.of h (-1) (by simp only [f_X5_does, c_has, h8, bs, b2_z, hb, if_true]) (by simp only [f_X6_does, m_isOne, h6, bs, b2_z, hb, if_true])
  | true =>
    obtain ⟨p, hp, rfl⟩ := wi_one hw.1 hb
    have hp8 : p < 8 := by have := hw.1; omega
    by_cases e0 : v = 0
    · exact Sim.of h (1000 + R_thinks (s 52) p) (by simp only [f_X5_does, c_has, h8, bs, b2_z, hb, Bool.true_eq_false, if_false, e0, if_true, c_thinking hr hw hp]) (by simp only [f_X6_does, m_isOne, h6, bs, b2_z, hb, Bool.true_eq_false, if_false, e0, if_true, m_thinksOf hp8])
    · by_cases e1 : v = 1
      · exact Sim.of h (1000 + R_needs (s 52) p) (by simp only [f_X5_does, c_has, h8, bs, b2_z, hb, Bool.true_eq_false, if_false, e0, e1, if_true, c_needing hr hw hp, show ¬ (1 : Int32) = 0 by decide]) (by simp only [f_X6_does, m_isOne, h6, bs, b2_z, hb, Bool.true_eq_false, if_false, e0, e1, if_true, m_needs hp8, show ¬ (1 : Int32) = 0 by decide])
      · by_cases e2 : v = 2
        · exact Sim.of h (1000 + R_says (s 52) p) (by simp only [f_X5_does, c_has, h8, bs, b2_z, hb, Bool.true_eq_false, if_false, e2, if_true, c_saying hr hw hp, show ¬ (2 : Int32) = 0 by decide, show ¬ (2 : Int32) = 1 by decide]) (by simp only [f_X6_does, m_isOne, h6, bs, b2_z, hb, Bool.true_eq_false, if_false, e2, if_true, m_says hp8, show ¬ (2 : Int32) = 0 by decide, show ¬ (2 : Int32) = 1 by decide])
        · by_cases e3 : v = 3
          · exact Sim.of h (if R_used (s 52) p = false then 1000 else 1001) (by simp only [f_X5_does, c_has, h8, bs, b2_z, hb, Bool.true_eq_false, if_false, e3, if_true, c_isUsing (show W < 2 ^ 31 by omega) hr hw hp, ite_q, show ¬ (3 : Int32) = 0 by decide, show ¬ (3 : Int32) = 1 by decide, show ¬ (3 : Int32) = 2 by decide]) (by simp only [f_X6_does, m_isOne, h6, bs, b2_z, hb, Bool.true_eq_false, if_false, e3, if_true, m_isUsed hp8, ite_q, show ¬ (3 : Int32) = 0 by decide, show ¬ (3 : Int32) = 1 by decide, show ¬ (3 : Int32) = 2 by decide])
          · exact Sim.of h (-1) (by simp only [f_X5_does, c_has, h8, bs, b2_z, hb, Bool.true_eq_false, if_false, e0, e1, e2, e3]) (by simp only [f_X6_does, m_isOne, h6, bs, b2_z, hb, Bool.true_eq_false, if_false, e0, e1, e2, e3])
theorem s_mind {s : SS} {t : TT} {W : Nat} (x k hd : Int32) (h : Rel s t W) : Sim (f_X5_mind x k hd) (f_X6_mind x k hd) s t W := by
  obtain ⟨⟨n, hw, hr⟩, -⟩ := id h
  have h8 : s 1 8 = nI n := hr.1
  have h6 := hw.2.1
  cases hb : wi x 0 (nI n - 1) with
  | false => exact Sim.of h (-1) (by simp only [f_X5_mind, c_has, h8, bs, b2_z, hb, if_true]) (by simp only [f_X6_mind, m_isOne, h6, bs, b2_z, hb, if_true])
  | true =>
  obtain ⟨p, hp, rfl⟩ := wi_one hw.1 hb
  have hp8 : p < 8 := by have := hw.1; omega
  cases hk : wi k 0 5 with
  | false => exact Sim.of h (-1) (by simp only [f_X5_mind, c_has, c_isKind, h8, bs, b2_z, hb, hk, Bool.true_eq_false, if_false, if_true]) (by simp only [f_X6_mind, m_isOne, m_isKind, h6, bs, b2_z, hb, hk, Bool.true_eq_false, Bool.false_and, if_false, if_true])
  | true =>
  cases hh : wi hd 0 9 with
  | false => exact Sim.of h (-1) (by simp only [f_X5_mind, c_has, c_isKind, c_isWithin, h8, bs, b2_z, hb, hk, hh, Bool.true_eq_false, if_false, if_true]) (by simp only [f_X6_mind, m_isOne, m_isKind, h6, bs, b2_z, hb, hk, hh, Bool.true_eq_false, Bool.and_false, if_false, if_true])
  | true =>
  have k0 : s 3 p = s 52 (8 + 6 * p + 0) := (hr.2.2.2.2.2.2 p hp).1
  refine Sim.wr (w := uw (uw (s 52) (8 + 6 * p + 0) k) (8 + 6 * p + 2) hd) (W' := W) h (s 52 (8 + 6 * p + 0)) (s1 := up2 (up2 s 3 p k) 5 p hd) ?_ ((Fr.rf.up ⟨by omega, by omega⟩).up ⟨by omega, by omega⟩) ?_ ((hw.set (by omega) (wi_bd rfl (by decide) hk)).set (by omega) (wi_bd rfl (by decide) hh)) hr.set0.set2 (Nat.le_refl _) (by omega)
  · simp only [f_X5_mind, c_has, c_isKind, c_isWithin, h8, bs, b2_z, hb, hk, hh, Bool.true_eq_false, if_false, rx8 hp8, wr_e, k0]
  · simp only [f_X6_mind, m_isOne, m_isKind, up2_o (show 52 ≠ 5 by decide), up2_o (show 52 ≠ 3 by decide), h6, bs, b2_z, hb, hk, hh, Bool.true_eq_false, Bool.and_true, if_false, sets_2 hp8, its_c p hp8, m_becomes (show 8 + 6 * p < 56 by omega), cp2_s, cp2_2, uw_n (show 8 + 6 * p ≠ 8 + 6 * p + 2 by omega)]
    rw [uw_cm (show 8 + 6 * p + 2 ≠ 8 + 6 * p by omega)]
    rfl
theorem s_thought {s : SS} {t : TT} {W : Nat} (x v : Int32) (h : Rel s t W) : Sim (f_X5_thought x v) (f_X6_thought x v) s t W := by
  obtain ⟨⟨n, hw, hr⟩, -⟩ := id h
  have h8 : s 1 8 = nI n := hr.1
  have h6 := hw.2.1
  cases hb : wi x 0 (nI n - 1) with
  | false => exact Sim.of h (-1) (by simp only [f_X5_thought, c_has, h8, bs, b2_z, hb, if_true]) (by simp only [f_X6_thought, m_isOne, h6, bs, b2_z, hb, if_true])
  | true =>
  obtain ⟨p, hp, rfl⟩ := wi_one hw.1 hb
  have hp8 : p < 8 := by have := hw.1; omega
  cases hk : wi v 0 99 with
  | false => exact Sim.of h (-1) (by simp only [f_X5_thought, c_has, c_isWithin, h8, bs, b2_z, hb, hk, Bool.true_eq_false, if_false, if_true]) (by simp only [f_X6_thought, m_isOne, m_in, h6, bs, b2_z, hb, hk, Bool.true_eq_false, if_false, if_true])
  | true =>
  have k1 : s 4 p = s 52 (8 + 6 * p + 1) := (hr.2.2.2.2.2.2 p hp).2.1
  refine Sim.wr (w := uw (s 52) (8 + 6 * p + 1) v) (W' := W) h (s 52 (8 + 6 * p + 1)) (s1 := up2 s 4 p v) ?_ (Fr.rf.up ⟨by omega, by omega⟩) ?_ (hw.set (by omega) (wi_bd rfl (by decide) hk)) hr.set1 (Nat.le_refl _) (by omega)
  · simp only [f_X5_thought, c_has, c_isWithin, h8, bs, b2_z, hb, hk, Bool.true_eq_false, if_false, rx8 hp8, wr_e, k1]
  · have e : nI (8 + 6 * p) + 1 = nI (8 + 6 * p + 1) := nI_1 _
    simp only [f_X6_thought, m_isOne, m_in, up2_o (show 52 ≠ 4 by decide), h6, bs, b2_z, hb, hk, Bool.true_eq_false, if_false, its_c p hp8, e, m_becomes (show 8 + 6 * p + 1 < 56 by omega)]
theorem s_own {s : SS} {t : TT} {W : Nat} (x v : Int32) (h : Rel s t W) : Sim (f_X5_own x v) (f_X6_own x v) s t W := by
  obtain ⟨⟨n, hw, hr⟩, -⟩ := id h
  have h8 : s 1 8 = nI n := hr.1
  have h6 := hw.2.1
  cases hb : wi x 0 (nI n - 1) with
  | false => exact Sim.of h (-1) (by simp only [f_X5_own, c_has, h8, bs, b2_z, hb, if_true]) (by simp only [f_X6_own, m_isOne, h6, bs, b2_z, hb, if_true])
  | true =>
  obtain ⟨p, hp, rfl⟩ := wi_one hw.1 hb
  have hp8 : p < 8 := by have := hw.1; omega
  cases hk : wi v 0 99 with
  | false => exact Sim.of h (-1) (by simp only [f_X5_own, c_has, c_isWithin, h8, bs, b2_z, hb, hk, Bool.true_eq_false, if_false, if_true]) (by simp only [f_X6_own, m_isOne, m_in, h6, bs, b2_z, hb, hk, Bool.true_eq_false, if_false, if_true])
  | true =>
  have k3 : s 6 p = s 52 (8 + 6 * p + 3) := (hr.2.2.2.2.2.2 p hp).2.2.2.1
  refine Sim.wr (w := uw (s 52) (8 + 6 * p + 3) v) (W' := W) h (s 52 (8 + 6 * p + 3)) (s1 := up2 s 6 p v) ?_ (Fr.rf.up ⟨by omega, by omega⟩) ?_ (hw.set (by omega) (wi_bd rfl (by decide) hk)) hr.set3 (Nat.le_refl _) (by omega)
  · simp only [f_X5_own, c_has, c_isWithin, h8, bs, b2_z, hb, hk, Bool.true_eq_false, if_false, rx8 hp8, wr_e, k3]
  · have e : nI (8 + 6 * p) + 3 = nI (8 + 6 * p + 3) := nI_add _ 3
    simp only [f_X6_own, m_isOne, m_in, up2_o (show 52 ≠ 6 by decide), h6, bs, b2_z, hb, hk, Bool.true_eq_false, if_false, its_c p hp8, e, m_becomes (show 8 + 6 * p + 3 < 56 by omega)]
theorem s_give {s : SS} {t : TT} {W : Nat} (x y : Int32) (h : Rel s t W) : Sim (f_X5_give x y) (f_X6_give x y) s t W := by
  obtain ⟨⟨n, hw, hr⟩, -⟩ := id h
  have h8 : s 1 8 = nI n := hr.1
  have h6 := hw.2.1
  cases hb : wi x 0 (nI n - 1) with
  | false => exact Sim.of h (-1) (by simp only [f_X5_give, c_has, h8, bs, b2_z, hb, if_true]) (by simp only [f_X6_give, m_isOne, h6, bs, b2_z, hb, if_true])
  | true =>
  cases hc : wi y 0 (nI n - 1) with
  | false => exact Sim.of h (-1) (by simp only [f_X5_give, c_has, h8, bs, b2_z, hb, hc, Bool.true_eq_false, if_false, if_true]) (by simp only [f_X6_give, m_isOne, h6, bs, b2_z, hb, hc, Bool.true_eq_false, if_false, if_true])
  | true =>
  obtain ⟨p, hp, rfl⟩ := wi_one hw.1 hb
  obtain ⟨q, hq, rfl⟩ := wi_one hw.1 hc
  have hp8 : p < 8 := by have := hw.1; omega
  have hq8 : q < 8 := by have := hw.1; omega
  by_cases e : p = q
  · exact Sim.of h (-1) (by simp only [f_X5_give, c_has, h8, bs, b2_z, hb, hc, Bool.true_eq_false, if_false, e, if_true]) (by simp only [f_X6_give, m_isOne, h6, bs, b2_z, hb, hc, Bool.true_eq_false, if_false, e, if_true])
  · have ne : ¬ nI p = nI q := fun z => e ((nI_eq (by omega) (by omega)).mp z)
    have kp : s 6 p = s 52 (8 + 6 * p + 3) := (hr.2.2.2.2.2.2 p hp).2.2.2.1
    have kq : s 6 q = s 52 (8 + 6 * q + 3) := (hr.2.2.2.2.2.2 q hq).2.2.2.1
    have bp : bd 99 (gw (s 52) p 3) := hw.at hp 3 (by omega)
    have bq : bd 99 (gw (s 52) q 3) := hw.at hq 3 (by omega)
    by_cases z0 : s 52 (8 + 6 * p + 3) = 0
    · exact Sim.of h (-3) (by simp only [f_X5_give, c_has, h8, bs, b2_z, hb, hc, Bool.true_eq_false, if_false, ne, rx8 hp8, kp, z0, if_true]) (by simp only [f_X6_give, m_isOne, h6, bs, b2_z, hb, hc, Bool.true_eq_false, if_false, ne, its_3 hp8, z0, if_true])
    · by_cases z9 : s 52 (8 + 6 * q + 3) = 99
      · exact Sim.of h (-3) (by simp only [f_X5_give, c_has, h8, bs, b2_z, hb, hc, Bool.true_eq_false, if_false, ne, rx8 hp8, rx8 hq8, kp, kq, z0, z9, show ¬ (99 : Int32) < 99 by decide]) (by simp only [f_X6_give, m_isOne, h6, bs, b2_z, hb, hc, Bool.true_eq_false, if_false, ne, its_3 hp8, its_3 hq8, z0, z9, if_true])
      · have l9 : s 52 (8 + 6 * q + 3) < 99 := by
          have b2 := (bd_i (by decide)).mp bq
          simp only [gw] at b2
          rw [tI_lt, show (99 : Int32).toInt = 99 from rfl]
          rw [tI_eq, show (99 : Int32).toInt = 99 from rfl] at z9
          omega
        have n0 : ¬ gw (s 52) p 3 ≤ 0 := fun z => z0 ((le_z (by decide) bp).mp z)
        have n9 : ¬ (99 : Int32) ≤ gw (s 52) q 3 := fun z => by rw [tI_le] at z; rw [tI_lt] at l9; simp only [gw] at z; omega
        refine Sim.wr (w := uw (uw (s 52) (8 + 6 * p + 3) (gw (s 52) p 3 - 1)) (8 + 6 * q + 3) (gw (s 52) q 3 + 1)) (W' := W) h (gw (s 52) q 3 + 1) (s1 := up2 (up2 s 6 p (s 6 p - 1)) 6 q (s 6 q + 1)) ?_ ((Fr.rf.up ⟨by omega, by omega⟩).up ⟨by omega, by omega⟩) ?_ ((hw.set (p := p) (j := 3) (by omega) (show bd 99 _ from bd_dec (by decide) bp n0)).set (p := q) (j := 3) (by omega) (show bd 99 _ from bd_inc (by decide) rfl bq n9)) ?_ (Nat.le_refl _) (by omega)
        · simp only [f_X5_give, c_has, h8, bs, b2_z, hb, hc, Bool.true_eq_false, if_false, ne, rx8 hp8, rx8 hq8, kp, kq, z0, l9, if_true, wr_e, up2_r, show ¬ q = p from fun z => e z.symm, and_false, and_self, gw]
        · simp only [f_X6_give, m_isOne, up2_o (show 52 ≠ 6 by decide), h6, bs, b2_z, hb, hc, Bool.true_eq_false, if_false, ne, its_3 hp8, its_3 hq8, z0, z9, sets_3 hp8, sets_3 hq8, cp2_s, cp2_2, uw_s, uw_n (show 8 + 6 * q + 3 ≠ 8 + 6 * p + 3 by omega), gw]
        · rw [kp, kq]; exact hr.set3.set3
