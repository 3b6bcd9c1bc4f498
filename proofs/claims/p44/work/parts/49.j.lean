/-! minds, feed -/
theorem mm_hl (v : Int32) : pmf_max 0 (pmf_min 99 v) = hl v 0 99 := by
  unfold pmf_max pmf_min hl
  have z : (0 : Int32).toInt = 0 := rfl
  have n9 : (99 : Int32).toInt = 99 := rfl
  by_cases c1 : v < 99
  · rw [if_pos c1]
    rw [tI_lt, n9] at c1
    by_cases c2 : (0 : Int32) < v
    · rw [if_pos c2]
      rw [tI_lt, z] at c2
      rw [if_pos (by rw [tI_le, z]; omega), if_pos (by rw [tI_le, n9]; omega)]
    · rw [if_neg c2]
      rw [tI_lt, z] at c2
      by_cases c3 : (0 : Int32) ≤ v
      · rw [if_pos c3, if_pos (by rw [tI_le, n9]; omega)]
        rw [tI_le, z] at c3
        rw [tI_eq, z]; omega
      · rw [if_neg c3]
  · rw [if_neg c1, if_pos (show (0 : Int32) < 99 by decide)]
    rw [tI_lt, n9] at c1
    rw [if_pos (by rw [tI_le, z]; omega)]
    by_cases c2 : v ≤ 99
    · rw [if_pos c2]
      rw [tI_le, n9] at c2
      rw [tI_eq, n9]; omega
    · rw [if_neg c2]
def R_minds (w : RR) (f : Nat → Int32) (p : Nat) : Nat → RR
  | 0 => w
  | m + 1 => uw (R_minds w f p m) (8 + 6 * (p + m) + 1) (hl (f m) 0 99)
theorem R_minds_ok {w : RR} {f : Nat → Int32} {p n W : Nat} (h : OKw w n W) : ∀ m : Nat, OKw (R_minds w f p m) n W
  | 0 => h
  | m + 1 => (R_minds_ok h m).set (by omega) (hl_bd (by decide) rfl)
theorem c_minds_l {t : TT} {q i p k n : Nat} {w : RR} {f : Nat → Int32} (hpk : p + k ≤ 8) (hik : i + k ≤ 40) (hf : ∀ m : Nat, m < k → Int64.toInt32 (t (37 + 3 * q + 1) (i + m)) = f m) : ∀ (m j fu : Nat) (s : SS), j + m = k → m < fu → RW s 1 (R_minds w f p j) n → ∃ s' : SS, l_X5_minds_107 fu (nI i, nI p, nI k, 37 + 3 * q, nI j, s, t) = some (nI k, s', t) ∧ Fr 1 s s' ∧ RW s' 1 (R_minds w f p k) n
  | 0, j, fu + 1, s, hj, _, h => by
    have e : j = k := by omega
    subst e
    refine ⟨s, ?_, Fr.rf, h⟩
    show b_X5_minds_107 (l_X5_minds_107 fu) (nI i) (nI p) (nI j) (37 + 3 * q) (nI j) s t = _
    simp only [b_X5_minds_107, nI_le (Nat.le_refl j) (show j < 2 ^ 31 by omega), if_true]
  | m + 1, j, fu + 1, s, hj, hfu, h => by
    have h1 : RW (up2 s 4 (p + j) (hl (f j) 0 99)) 1 (R_minds w f p (j + 1)) n := h.set1
    obtain ⟨s', e, f1, r1⟩ := c_minds_l (t := t) hpk hik hf m (j + 1) fu _ (by omega) (by omega) h1
    refine ⟨s', ?_, (Fr.rf.up ⟨by omega, by omega⟩).tr f1, r1⟩
    show b_X5_minds_107 (l_X5_minds_107 fu) (nI i) (nI p) (nI k) (37 + 3 * q) (nI j) s t = _
    simp only [b_X5_minds_107, nI_ge (show j < k by omega) (show k < 2 ^ 31 by omega), if_false, nI_add, rx40 (show i + j < 40 by omega), rx8 (show p + j < 8 by omega), bs, wr_e, mm_hl, hf j (by omega), nI_1]
    exact e
theorem rx160b : ∀ q : Nat, q < 4 → ∀ i : Nat, i < 40 → ∀ j : Nat, j < 8 → i + j < 40 → rx 160 (((40 : Int32) * nI q + nI i) + nI j) = some (40 * q + (i + j)) := by
  intro q hq i hi j hj hij
  rw [show ((40 : Int32) * nI q + nI i) + nI j = (40 : Int32) * nI q + nI (i + j) by rw [Int32.add_assoc, nI_add]]
  exact rx160 q hq (i + j) hij
theorem m_minds_l {s : SS} {t : TT} {q i p k : Nat} {w : RR} {f : Nat → Int32} (hq : q < 4) (hk : k ≤ 8) (hpk : p + k ≤ 8) (hik : i + k ≤ 40) (hf : ∀ m : Nat, m < k → Int64.toInt32 (t 62 (40 * q + (i + m))) = f m) : ∀ (m j fu : Nat), j + m = k → m < fu → l_X6_minds_81 fu (nI q, nI i, nI p, nI k, nI j, cp2 s 52 (R_minds w f p j), t) = some (nI k, cp2 s 52 (R_minds w f p k), t)
  | 0, j, fu + 1, hj, _ => by
    have e : j = k := by omega
    subst e
    show b_X6_minds_81 (l_X6_minds_81 fu) (nI q) (nI i) (nI p) (nI j) (nI j) (cp2 s 52 (R_minds w f p j)) t = _
    simp only [b_X6_minds_81, nI_le (Nat.le_refl j) (show j < 2 ^ 31 by omega), if_true]
  | m + 1, j, fu + 1, hj, hfu => by
    have ih := m_minds_l (s := s) (t := t) (w := w) hq hk hpk hik hf m (j + 1) fu (by omega) (by omega)
    show b_X6_minds_81 (l_X6_minds_81 fu) (nI q) (nI i) (nI p) (nI k) (nI j) (cp2 s 52 (R_minds w f p j)) t = _
    simp only [b_X6_minds_81, nI_ge (show j < k by omega) (show k < 2 ^ 31 by omega), if_false, rx160b q hq i (by omega) j (by omega) (by omega), bs, hf j (by omega), m_held, nI_add, sets_1 (show p + j < 8 by omega), cp2_s, cp2_2, nI_1]
    exact ih
theorem s_minds {s : SS} {t : TT} {W : Nat} (x y z v : Int32) (h : Rel s t W) : Sim (f_X5_minds x y z v) (f_X6_minds x y z v) s t W := by
  obtain ⟨⟨n, hw, hr⟩, -, -, -, hsh, -⟩ := id h
  have h8 : s 1 8 = nI n := hr.1
  have h6 := hw.2.1
  have hn := hw.1
  cases hb : wi x 0 3 with
  | false => exact Sim.of h (-1) (by simp only [f_X5_minds, c_isPlace, bs, b2_z, hb, if_true]) (by simp only [f_X6_minds, m_isShelf, bs, b2_z, hb, if_true])
  | true =>
  obtain ⟨q, hq3, rfl⟩ := wi_two (n := 3) (by decide) hb
  have hq : q < 4 := by omega
  cases hz : wi z 0 (nI n - 1) with
  | false => exact Sim.of h (-1) (by simp only [f_X5_minds, c_isPlace, c_has, h8, bs, b2_z, hb, hz, Bool.true_eq_false, if_false, if_true]) (by simp only [f_X6_minds, m_isShelf, m_isOne, h6, bs, b2_z, hb, hz, Bool.true_eq_false, if_false, if_true])
  | true =>
  obtain ⟨p, hp, rfl⟩ := wi_one hn hz
  cases hv : wi v 0 8 with
  | false => exact Sim.of h (-1) (by simp only [f_X5_minds, c_isPlace, c_has, c_isWithin, h8, bs, b2_z, hb, hz, hv, Bool.true_eq_false, if_false, if_true]) (by simp only [f_X6_minds, m_isShelf, m_isOne, m_in, h6, bs, b2_z, hb, hz, hv, Bool.true_eq_false, if_false, if_true])
  | true =>
  obtain ⟨k, hk, rfl⟩ := wi_two (n := 8) (by decide) hv
  have esub : nI n - nI p = nI (n - p) := nI_sub (by omega)
  by_cases hnp : k ≤ n - p
  · have c1 : nI k ≤ nI (n - p) := nI_le hnp (by omega)
    rcases hsh q hq with ⟨a1, a2⟩ | ⟨o, ho, a1, a2, m, hm, a3, a4, a5⟩
    · exact Sim.of h (-11) (by simp only [f_X5_minds, c_isPlace, c_has, c_isWithin, h8, bs, b2_z, hb, hz, hv, Bool.true_eq_false, if_false, esub, c1, if_true, rx4 hq, wr_e, a1]) (by simp only [f_X6_minds, f_X6_lacksSort, m_isShelf, m_isOne, m_in, h6, bs, b2_z, hb, hz, hv, Bool.true_eq_false, if_false, rx56_6, esub, c1, if_true, rx4 hq, a2, show ¬ (0 : Int32) ≤ -1 by decide, show ¬ (-11 : Int32) = 0 by decide])
    · have m1 : ¬ nI o = -1 := by
        intro z
        have := tI_eq.mp z
        rw [nI_toInt (by omega), show (-1 : Int32).toInt = -1 from rfl] at this
        omega
      have p1 : (0 : Int32) ≤ nI o := nI_pos' (by omega)
      by_cases o0 : nI o = 0
      · -- bytes
        have hneg : y < 0 ∨ ∃ i : Nat, i < 2 ^ 31 ∧ y = nI i := by
          by_cases c : y < 0
          · exact Or.inl c
          · exact Or.inr (nI_of c)
        rcases hneg with hneg | ⟨i, hi, rfl⟩
        · exact Sim.of h (-12) (by simp only [f_X5_minds, c_isPlace, c_has, c_isWithin, h8, bs, b2_z, hb, hz, hv, Bool.true_eq_false, if_false, esub, c1, if_true, rx4 hq, wr_e, a1, m1, o0, show ¬ (0 : Int32) = -1 by decide, wi_lt hneg]) (by simp only [f_X6_minds, f_X6_lacksSort, m_isShelf, m_isOne, m_in, h6, bs, b2_z, hb, hz, hv, Bool.true_eq_false, if_false, rx56_6, esub, c1, if_true, rx4 hq, a2, o0, show (0 : Int32) ≤ 0 by decide, hneg])
        · have nneg : ¬ nI i < 0 := nI_pos hi
          by_cases him : i ≤ m
          · have wt : wi (nI i) 0 (nI m) = true := by
              simp only [wi, Bool.and_eq_true, decide_eq_true_eq]
              exact ⟨nI_pos' hi, nI_le him (by omega)⟩
            have es1 : nI m - nI i = nI (m - i) := nI_sub him
            by_cases hfit : k ≤ m - i
            · have es2 : nI m - nI k = nI (m - k) := nI_sub (by omega)
              have c2 : nI k ≤ nI (m - i) := nI_le hfit (by omega)
              have c3 : nI i ≤ nI (m - k) := nI_le (by omega) (by omega)
              have ef : ∀ j : Nat, j < k → Int64.toInt32 (t (37 + 3 * q + 1) (i + j)) = Int64.toInt32 (t 62 (40 * q + (i + j))) := fun j hj => by
                rw [show 37 + 3 * q + 1 = 38 + 3 * q by omega, a5 (i + j) (by omega)]
              obtain ⟨s1, e1, f1, r1⟩ := c_minds_l (t := t) (q := q) (i := i) (p := p) (k := k) (w := s 52) (f := fun j => Int64.toInt32 (t 62 (40 * q + (i + j)))) (by omega) (by omega) ef k 0 300 s (by omega) (by omega) hr
              have h52 : s1 52 = s 52 := f1 52 (by omega)
              have e2 := m_minds_l (s := s1) (t := t) (q := q) (i := i) (p := p) (k := k) (w := s 52) (f := fun j => Int64.toInt32 (t 62 (40 * q + (i + j)))) hq hk (by omega) (by omega) (fun j hj => rfl) k 0 300 (by omega) (by omega)
              have e3 : cp2 s1 52 (R_minds (s 52) (fun j => Int64.toInt32 (t 62 (40 * q + (i + j)))) p 0) = s1 := by show cp2 s1 52 (s 52) = s1; rw [← h52, cp2_i]
              rw [e3] at e2
              have g61 : s1 61 = s 61 := f1 61 (by omega)
              have g60 : s1 60 = s 60 := f1 60 (by omega)
              refine Sim.wr (w := R_minds (s 52) (fun j => Int64.toInt32 (t 62 (40 * q + (i + j)))) p k) (W' := W) h (nI k) (s1 := s1) ?_ f1 ?_ (R_minds_ok hw k) r1 (Nat.le_refl _) (by omega)
              · simp only [f_X5_minds, c_isPlace, c_has, c_isWithin, h8, bs, b2_z, hb, hz, hv, Bool.true_eq_false, if_false, esub, c1, if_true, rx4 hq, wr_e, a1, m1, o0, show ¬ (0 : Int32) = -1 by decide, a3, wt, es1, c2]
                exact e1
              · simp only [f_X6_minds, f_X6_lacksSort, m_isShelf, m_isOne, m_in, h52, g60, g61, h6, bs, b2_z, hb, hz, hv, Bool.true_eq_false, if_false, rx56_6, esub, c1, if_true, rx4 hq, a2, o0, show (0 : Int32) ≤ 0 by decide, nneg, a4, es2, c3]
                exact e2
            · have c2 : ¬ nI k ≤ nI (m - i) := nI_ge (by omega) (by omega)
              refine Sim.of h (-12) (by simp only [f_X5_minds, c_isPlace, c_has, c_isWithin, h8, bs, b2_z, hb, hz, hv, Bool.true_eq_false, if_false, esub, c1, if_true, rx4 hq, wr_e, a1, m1, o0, show ¬ (0 : Int32) = -1 by decide, a3, wt, es1, c2]) ?_
              have c3 : ¬ nI i ≤ nI m - nI k := by
                rw [tI_le, tI_sub (by rw [nI_toInt (by omega), nI_toInt (by omega)]; omega) (by rw [nI_toInt (by omega), nI_toInt (by omega)]; omega), nI_toInt (by omega), nI_toInt (by omega), nI_toInt (by omega)]
                omega
              simp only [f_X6_minds, f_X6_lacksSort, m_isShelf, m_isOne, m_in, h6, bs, b2_z, hb, hz, hv, Bool.true_eq_false, if_false, rx56_6, esub, c1, if_true, rx4 hq, a2, o0, show (0 : Int32) ≤ 0 by decide, nneg, a4, c3]
          · have wf : wi (nI i) 0 (nI m) = false := by
              have : ¬ nI i ≤ nI m := nI_ge (by omega) hi
              simp [wi, this]
            have c3 : ¬ nI i ≤ nI m - nI k := by
              rw [tI_le, tI_sub (by rw [nI_toInt (by omega), nI_toInt (by omega)]; omega) (by rw [nI_toInt (by omega), nI_toInt (by omega)]; omega), nI_toInt (by omega), nI_toInt (by omega), nI_toInt (by omega)]
              omega
            exact Sim.of h (-12) (by simp only [f_X5_minds, c_isPlace, c_has, c_isWithin, h8, bs, b2_z, hb, hz, hv, Bool.true_eq_false, if_false, esub, c1, if_true, rx4 hq, wr_e, a1, m1, o0, show ¬ (0 : Int32) = -1 by decide, a3, wf]) (by simp only [f_X6_minds, f_X6_lacksSort, m_isShelf, m_isOne, m_in, h6, bs, b2_z, hb, hz, hv, Bool.true_eq_false, if_false, rx56_6, esub, c1, if_true, rx4 hq, a2, o0, show (0 : Int32) ≤ 0 by decide, nneg, a4, c3])
      · exact Sim.of h (-13) (by simp only [f_X5_minds, c_isPlace, c_has, c_isWithin, h8, bs, b2_z, hb, hz, hv, Bool.true_eq_false, if_false, esub, c1, if_true, rx4 hq, wr_e, a1, m1, o0]) (by simp only [f_X6_minds, f_X6_lacksSort, m_isShelf, m_isOne, m_in, h6, bs, b2_z, hb, hz, hv, Bool.true_eq_false, if_false, rx56_6, esub, c1, if_true, rx4 hq, a2, p1, o0, show ¬ (-13 : Int32) = 0 by decide])
  · have c1 : ¬ nI k ≤ nI (n - p) := nI_ge (by omega) (by omega)
    exact Sim.of h (-1) (by simp only [f_X5_minds, c_isPlace, c_has, c_isWithin, h8, bs, b2_z, hb, hz, hv, Bool.true_eq_false, if_false, esub, c1]) (by simp only [f_X6_minds, m_isShelf, m_isOne, m_in, h6, bs, b2_z, hb, hz, hv, Bool.true_eq_false, if_false, rx56_6, esub, c1])
/-! a byte of eight -/
theorem sh_s : ∀ i : Nat, i < 8 → (((8 : Int32) * nI i).toInt64 &&& 63).toBitVec.smod 64 = BitVec.ofNat 64 (8 * i) := by decide +kernel
theorem sh_u : ∀ i : Nat, i < 8 → (((8 : Int32) * nI i).toInt64.toUInt64 &&& Int64.toUInt64 63).toBitVec % 64 = BitVec.ofNat 64 (8 * i) := by decide +kernel
theorem and255 (y : Int64) : y &&& 255 = lN (y.toBitVec.toNat % 256) := by
  apply Int64.toBitVec_inj.mp
  apply BitVec.eq_of_toNat_eq
  rw [Int64.toBitVec_and, BitVec.toNat_and]
  have h : y.toBitVec.toNat &&& (255 : Int64).toBitVec.toNat = y.toBitVec.toNat % 256 := Nat.and_two_pow_sub_one_eq_mod _ 8
  rw [h]
  show _ = (BitVec.ofNat 64 (y.toBitVec.toNat % 256)).toNat
  rw [BitVec.toNat_ofNat, Nat.mod_eq_of_lt (show y.toBitVec.toNat % 256 < 2 ^ 64 by omega)]
theorem by_s (x : Int64) (i : Nat) (hi : i < 8) : (pmf_lshr x ((8 : Int32) * nI i)).toBitVec = x.toBitVec.sshiftRight (8 * i) := by
  unfold pmf_lshr
  rw [Int64.toBitVec_shiftRight, sh_s i hi, BitVec.sshiftRight', BitVec.toNat_ofNat, Nat.mod_eq_of_lt (by omega)]
theorem by_u (x : Int64) (i : Nat) (hi : i < 8) : (pmf_lushr x ((8 : Int32) * nI i)).toBitVec = x.toBitVec >>> (8 * i) := by
  unfold pmf_lushr
  show (x.toUInt64 >>> (((8 : Int32) * nI i).toInt64.toUInt64 &&& Int64.toUInt64 63)).toBitVec = _
  rw [UInt64.toBitVec_shiftRight, sh_u i hi]
  show x.toBitVec >>> (BitVec.ofNat 64 (8 * i)).toNat = _
  rw [BitVec.toNat_ofNat, Nat.mod_eq_of_lt (by omega)]
def byt (x : Int64) (i : Nat) : Nat := (x.toBitVec >>> (8 * i)).toNat % 256
theorem byt_u (x : Int64) (i : Nat) (hi : i < 8) : Int64.toInt32 ((pmf_lushr x ((8 : Int32) * nI i)) &&& 255) = nI (byt x i) := by
  rw [and255, by_u x i hi, lN_i]
  rfl
theorem byt_s (x : Int64) (i : Nat) (hi : i < 8) : Int64.toInt32 ((pmf_lshr x ((8 : Int32) * nI i)) &&& 255) = nI (byt x i) := by
  rw [and255, by_s x i hi, lN_i]
  unfold byt
  congr 1
  have h : (x.toBitVec.sshiftRight (8 * i)) &&& 255#64 = (x.toBitVec >>> (8 * i)) &&& 255#64 := by
    apply BitVec.eq_of_getLsbD_eq
    intro j hj
    rw [BitVec.getLsbD_and, BitVec.getLsbD_and, BitVec.getLsbD_sshiftRight, BitVec.getLsbD_ushiftRight]
    by_cases c : j < 8
    · have e1 : 8 * i + j < 64 := by omega
      simp [e1, show ¬ 64 ≤ j by omega]
    · have e2 : (255#64).getLsbD j = false := by
        have h8 : ∀ j : Nat, j < 64 → ¬ j < 8 → (255#64).getLsbD j = false := by decide +kernel
        exact h8 j hj c
      rw [e2, Bool.and_false, Bool.and_false]
  have h2 := congrArg BitVec.toNat h
  rw [BitVec.toNat_and, BitVec.toNat_and] at h2
  have e : ∀ z : Nat, z &&& (255#64).toNat = z % 256 := fun z => Nat.and_two_pow_sub_one_eq_mod z 8
  rw [e, e] at h2
  exact h2
