/-! packed: the same answers -/
theorem and_df (a b : Nat) : nI a &&& (nI b ^^^ ((-1) : Int32)) = nI (df a b) := by
  apply Int32.toBitVec_inj.mp
  apply BitVec.eq_of_getLsbD_eq
  intro i hi
  have e1 : ∀ c : Nat, (nI c).toBitVec = BitVec.ofNat 32 c := fun c => rfl
  have e2 : ((-1) : Int32).toBitVec = BitVec.allOnes 32 := by decide
  simp only [Int32.toBitVec_and, Int32.toBitVec_xor, e1, e2, BitVec.getLsbD_and, BitVec.getLsbD_xor, BitVec.getLsbD_ofNat, BitVec.getLsbD_allOnes, df_t, hi, decide_true, Bool.true_and]
  cases a.testBit i <;> cases b.testBit i <;> rfl
theorem and_nn (a b : Nat) : nI a &&& nI b = nI (a &&& b) := by
  apply Int32.toBitVec_inj.mp
  apply BitVec.eq_of_getLsbD_eq
  intro i hi
  have e1 : ∀ c : Nat, (nI c).toBitVec = BitVec.ofNat 32 c := fun c => rfl
  simp only [Int32.toBitVec_and, e1, BitVec.getLsbD_and, BitVec.getLsbD_ofNat, Nat.testBit_and, hi, decide_true, Bool.true_and]
theorem bit_0 : ∀ p : Nat, p < 8 → ∀ j : Nat, j < 256 → (((nI j >>> (nI p &&& 31)) &&& (1 : Int32) = 0) ↔ j.testBit p = false) := by decide +kernel
theorem bit_1 : ∀ p : Nat, p < 8 → ∀ j : Nat, j < 256 → (((nI j >>> (nI p &&& 31)) &&& (1 : Int32) = 1) ↔ j.testBit p = true) := by decide +kernel
theorem pc_df : ∀ p : Nat, p < 8 → ∀ j : Nat, j < 256 → j.testBit p = true → pc (df j (2 ^ p)) + 1 = pc j := by decide +kernel
theorem pc_8 (k : Nat) : pc k ≤ 8 := by unfold pc; omega
def enc (q : Nat × Nat) : Nat := 100 * q.1 + q.2
theorem enc_k {q : Nat × Nat} (h1 : q.1 ≤ 8) (h2 : q.2 ≤ 99) : nI (enc q) / 100 = nI q.1 := by
  have e : nI (enc q) / 100 = nI (enc q / 100) := pk_div (d := 100) (by unfold enc; omega) (by omega) (by omega)
  rw [e, show enc q / 100 = q.1 by unfold enc; omega]
theorem enc_f {q : Nat × Nat} (h1 : q.1 ≤ 8) (h2 : q.2 ≤ 99) : nI (enc q) - nI q.1 * 100 = nI q.2 := by
  have e : nI q.1 * 100 = nI (q.1 * 100) := nI_mul q.1 100
  rw [e, nI_sub (by unfold enc; omega), show enc q - q.1 * 100 = q.2 by unfold enc; omega]
theorem enc_n {q : Nat × Nat} {a : Nat} : (nI q.1 + (1 : Int32)) * (100 : Int32) + nI a = nI (enc (q.1 + 1, a)) := by
  have e : nI (q.1 + 1) * 100 = nI ((q.1 + 1) * 100) := nI_mul (q.1 + 1) 100
  rw [nI_1, e, nI_add]
  congr 1
  show (q.1 + 1) * 100 + a = 100 * (q.1 + 1) + a
  omega
theorem enc_a {q : Nat × Nat} {a : Nat} : nI (enc q) + nI a = nI (enc (q.1, q.2 + a)) := by
  rw [nI_add]
  congr 1
  show 100 * q.1 + q.2 + a = 100 * q.1 + (q.2 + a)
  omega
theorem enc_l {q r : Nat × Nat} (h : enc q ≤ enc r) (h1 : q.2 ≤ 99) (h2 : r.2 ≤ 99) : lxl q r := by
  unfold enc at h
  unfold lxl
  omega
theorem pmf_mn {a b : Nat} (ha : a < 2 ^ 31) (hb : b < 2 ^ 31) : pmf_min (nI a) (nI b) = nI (if b < a then b else a) := by
  unfold pmf_min
  by_cases c : b < a
  · rw [if_pos c, if_pos (nI_lt c ha)]
  · rw [if_neg c, if_neg (nI_nlt (by omega) hb)]
theorem stp_b {x a : Nat} {q : Nat × Nat} (h2 : q.2 ≤ x) (ha : a ≤ x) : (stp x a q).1 ≤ q.1 + 1 ∧ (stp x a q).2 ≤ x := by
  unfold stp
  by_cases c : q.2 + a ≤ x
  · rw [if_pos c]; exact ⟨Nat.le_succ _, c⟩
  · rw [if_neg c]; exact ⟨Nat.le_refl _, ha⟩
theorem leastP_v {s : SS} {t : TT} {n j X : Nat} {a : Nat → Nat} {V : Nat → Nat × Nat} (hn : n ≤ 8) (hj : j < 256) (hX : X ≤ 99) (h8 : s 1 8 = nI n) (ha : ∀ p : Nat, p < n → s 4 p = nI (a p)) (hax : ∀ p : Nat, p < n → a p ≤ X) (h50 : ∀ S : Nat, S < j → s 50 S = nI (enc (V S))) (hV : IsV a X n V j) : ∀ (m p f Y : Nat), p + m = n → m < f → Y ≤ 9999 → (∀ q : Nat, q < p → j.testBit q = true → Y ≤ enc (stp X (a q) (V (df j (2 ^ q))))) → (Y = 9999 ∨ ∃ q : Nat, q < n ∧ j.testBit q = true ∧ Y = enc (stp X (a q) (V (df j (2 ^ q))))) → ∃ Y' : Nat, l_X5_leastPacking_7 f (nI j, nI X, nI Y, nI p, s, t) = some (nI Y', s, t) ∧ (∀ q : Nat, q < n → j.testBit q = true → Y' ≤ enc (stp X (a q) (V (df j (2 ^ q))))) ∧ (Y' = 9999 ∨ ∃ q : Nat, q < n ∧ j.testBit q = true ∧ Y' = enc (stp X (a q) (V (df j (2 ^ q)))))
  | 0, p, f + 1, Y, hp, _, h1, h2, h3 => by
    have e : p = n := by omega
    subst e
    refine ⟨Y, ?_, h2, h3⟩
    show b_X5_leastPacking_7 (l_X5_leastPacking_7 f) (nI j) (nI X) (nI Y) (nI p) s t = some (nI Y, s, t)
    unfold b_X5_leastPacking_7
    rw [h8, if_pos (nI_le (Nat.le_refl p) (by omega))]
  | m + 1, p, f + 1, Y, hp, hf, h1, h2, h3 => by
    have p8 : p < 8 := by omega
    have pn : p < n := by omega
    obtain ⟨p1, -, -⟩ := shl_n p (by omega)
    by_cases z : j.testBit p = false
    · obtain ⟨Y', e1, e2, e3⟩ := leastP_v (t := t) hn hj hX h8 ha hax h50 hV m (p + 1) f Y (by omega) (by omega) h1 (fun q hq hb => by
        by_cases d : q = p
        · subst d; rw [z] at hb; exact absurd hb (by decide)
        · exact h2 q (by omega) hb) h3
      refine ⟨Y', ?_, e2, e3⟩
      show b_X5_leastPacking_7 (l_X5_leastPacking_7 f) (nI j) (nI X) (nI Y) (nI p) s t = some (nI Y', s, t)
      unfold b_X5_leastPacking_7
      rw [h8, if_neg (nI_ge pn (by omega)), if_pos ((bit_0 p p8 j hj).mpr z), nI_1]
      exact e1
    · have zt : j.testBit p = true := by
        cases h : j.testBit p with
        | false => exact absurd h z
        | true => rfl
      have hlt : df j (2 ^ p) < j := df_lt zt Nat.testBit_two_pow_self
      have b := hV.b hlt
      have b8 := pc_8 (df j (2 ^ p))
      have ap := hax p pn
      have sb2 := stp_b (a := a p) b.2 ap
      obtain ⟨w, hw⟩ : ∃ w : Nat, w = enc (stp X (a p) (V (df j (2 ^ p)))) := ⟨_, rfl⟩
      have w9 : w < 9999 := by rw [hw]; unfold enc; omega
      obtain ⟨Y', e1, e2, e3⟩ := leastP_v (t := t) hn hj hX h8 ha hax h50 hV m (p + 1) f (if w < Y then w else Y) (by omega) (by omega) (by split <;> omega) (fun q hq hb => by
        by_cases d : q = p
        · subst d
          rw [← hw]
          split <;> omega
        · have g := h2 q (by omega) hb
          refine Nat.le_trans ?_ g
          split <;> omega) (by
        by_cases c : w < Y
        · rw [if_pos c]; exact Or.inr ⟨p, pn, zt, hw⟩
        · rw [if_neg c]; exact h3)
      refine ⟨Y', ?_, e2, e3⟩
      show b_X5_leastPacking_7 (l_X5_leastPacking_7 f) (nI j) (nI X) (nI Y) (nI p) s t = some (nI Y', s, t)
      unfold b_X5_leastPacking_7 j_X5_leastPacking_100
      rw [h8, if_neg (nI_ge pn (by omega)), if_neg (fun c => z ((bit_0 p p8 j hj).mp c)), p1, and_df, rx256 (show df j (2 ^ p) < 256 by omega), bs, rx8 p8, bs, h50 _ hlt, ha p pn, enc_k (by omega) (by omega), enc_f (by omega) (by omega), enc_n, enc_a, nI_add, nI_1]
      by_cases c : (V (df j (2 ^ p))).2 + a p ≤ X
      · rw [if_neg (nI_nlt c (by omega))]
        rw [stp_p c] at hw
        rw [← hw, pmf_mn (by omega) (by omega)]
        exact e1
      · rw [if_pos (nI_lt (by omega) (by omega))]
        rw [stp_m c] at hw
        rw [← hw, pmf_mn (by omega) (by omega)]
        exact e1
theorem packV_l {t : TT} {n N X : Nat} {a : Nat → Nat} (hn : n ≤ 8) (hN : N = 2 ^ n) (hN2 : N ≤ 256) (hX : X ≤ 99) (hax : ∀ p : Nat, p < n → a p ≤ X) : ∀ (m j f : Nat) (s : SS) (V : Nat → Nat × Nat), j + m = N → m < f → 0 < j → s 1 8 = nI n → (∀ p : Nat, p < n → s 4 p = nI (a p)) → (∀ S : Nat, S < j → s 50 S = nI (enc (V S))) → IsV a X n V j → ∃ (r : Int32) (s' : SS) (V' : Nat → Nat × Nat), l_X5_packed_66 f (nI X, nI N, nI j, s, t) = some (r, s', t) ∧ (∀ c : Nat, c ≠ 50 → s' c = s c) ∧ IsV a X n V' N ∧ r = nI (V' (N - 1)).1
  | 0, j, f + 1, s, V, hj, _, h0, h8, h4, h50, hV => by
    have e : j = N := by omega
    subst e
    have b := hV.b (S := j - 1) (by omega)
    have b8 := pc_8 (j - 1)
    refine ⟨nI (V (j - 1)).1, s, V, ?_, fun _ _ => rfl, hV, rfl⟩
    show b_X5_packed_66 (l_X5_packed_66 f) (nI X) (nI j) (nI j) s t = some (nI (V (j - 1)).1, s, t)
    unfold b_X5_packed_66
    rw [if_pos (nI_le (Nat.le_refl j) (by omega)), show nI j - (1 : Int32) = nI (j - 1) from nI_sub (b := 1) h0, rx256 (show j - 1 < 256 by omega), bs, h50 _ (by omega), enc_k (by omega) (by omega)]
  | m + 1, j, f + 1, s, V, hj, hf, h0, h8, h4, h50, hV => by
    have j2 : j < 256 := by omega
    obtain ⟨Y, e1, e2, e3⟩ := leastP_v (t := t) hn j2 hX h8 h4 hax h50 hV n 0 300 9999 (by omega) (by omega) (by omega) (fun q hq => by omega) (Or.inl rfl)
    have e0 : f_X5_leastPacking (nI j) (nI X) s t = some (nI Y, s, t) := e1
    have bnd : ∀ q : Nat, q < n → j.testBit q = true → (stp X (a q) (V (df j (2 ^ q)))).1 ≤ pc j ∧ (stp X (a q) (V (df j (2 ^ q)))).2 ≤ X := fun q hq hb => by
      have hlt : df j (2 ^ q) < j := df_lt hb Nat.testBit_two_pow_self
      have b := hV.b hlt
      have g := stp_b (a := a q) b.2 (hax q hq)
      have g2 := pc_df q (by omega) j j2 hb
      exact ⟨by omega, g.2⟩
    have j8 := pc_8 j
    obtain ⟨q0, hq0⟩ := bit_ex (show j ≠ 0 by omega)
    have q0n : q0 < n := bit_lt (n := n) (by omega) hq0
    obtain ⟨q, hq, hb, hY⟩ : ∃ q : Nat, q < n ∧ j.testBit q = true ∧ Y = enc (stp X (a q) (V (df j (2 ^ q)))) := by
      rcases e3 with e3 | e3
      · exfalso
        have g := e2 q0 q0n hq0
        have g2 := bnd q0 q0n hq0
        unfold enc at g
        omega
      · exact e3
    have gq := bnd q hq hb
    have hV2 : IsV a X n (upf V j (stp X (a q) (V (df j (2 ^ q))))) (j + 1) := hV.snoc h0 gq.1 gq.2 (fun p hp hbp => by
      have g := e2 p hp hbp
      rw [hY] at g
      have g2 := bnd p hp hbp
      exact enc_l g (by omega) (by omega)) ⟨q, hq, hb, rfl⟩
    obtain ⟨r, s', V', g1, g2, g3, g4⟩ := packV_l (t := t) hn hN hN2 hX hax m (j + 1) f (up2 s 50 j (nI Y)) (upf V j (stp X (a q) (V (df j (2 ^ q))))) (by omega) (by omega) (by omega) (by rw [up2_o (by decide)]; exact h8) (fun p hp => by rw [up2_o (by decide)]; exact h4 p hp) (fun S hS => by
      by_cases c : S = j
      · subst c; rw [up2_s, upf_s, hY]
      · rw [up2_r, if_neg (fun e => c e.2), upf_n c]; exact h50 S (by omega)) hV2
    refine ⟨r, s', V', ?_, fun c hc => by rw [g2 c hc, up2_o hc], g3, g4⟩
    show b_X5_packed_66 (l_X5_packed_66 f) (nI X) (nI N) (nI j) s t = _
    unfold b_X5_packed_66
    rw [if_neg (nI_ge (show j < N by omega) (by omega)), e0, bs, rx256 j2, bs, wr_e, nI_1]
    exact g1
theorem packV {t : TT} {n X : Nat} {a : Nat → Nat} (hn : n ≤ 8) (hX : X ≤ 99) (h99 : ∀ p : Nat, p < n → a p ≤ 99) : ∀ (m p f : Nat) (s : SS), p + m = n → m < f → s 1 8 = nI n → (∀ q : Nat, q < n → s 4 q = nI (a q)) → (∀ q : Nat, q < p → a q ≤ X) → ∃ (r : Int32) (s' : SS), l_X5_packed_14 f (nI X, nI p, s, t) = some (r, s', t) ∧ (∀ c : Nat, c ≠ 50 → s' c = s c) ∧ ((r = -3 ∧ ∃ q : Nat, q < n ∧ X < a q) ∨ ((∀ q : Nat, q < n → a q ≤ X) ∧ ∃ V : Nat → Nat × Nat, IsV a X n V (2 ^ n) ∧ r = nI (V (2 ^ n - 1)).1))
  | 0, p, f + 1, s, hp, _, h8, h4, hx => by
    have e : p = n := by omega
    subst e
    obtain ⟨p1, p2, p3⟩ := shl_n p (by omega)
    have h8' : up2 s 50 0 (nI X) 1 8 = nI p := by rw [up2_o (by decide)]; exact h8
    obtain ⟨r, s', V', g1, g2, g3, g4⟩ := packV_l (t := t) (X := X) (a := a) hn rfl p2 hX hx (2 ^ p - 1) 1 300 (up2 s 50 0 (nI X)) (fun _ => (0, X)) (by omega) (by omega) (by omega) h8' (fun q hq => by rw [up2_o (by decide)]; exact h4 q hq) (fun S hS => by
      have z : S = 0 := by omega
      subst z
      rw [up2_s]
      congr 1
      unfold enc
      omega) ⟨rfl, fun S h1 h2 => by omega⟩
    refine ⟨r, s', ?_, fun c hc => by rw [g2 c hc, up2_o hc], Or.inr ⟨hx, V', g3, g4⟩⟩
    show b_X5_packed_14 (l_X5_packed_14 f) (nI X) (nI p) s t = some (r, s', t)
    unfold b_X5_packed_14
    rw [h8, if_pos (nI_le (Nat.le_refl p) (by omega)), show (0 : Int32) = nI 0 from rfl, rx256 (show 0 < 256 by omega), bs, wr_e, h8', p1]
    exact g1
  | m + 1, p, f + 1, s, hp, hf, h8, h4, hx => by
    have pn : p < n := by omega
    show ∃ (r : Int32) (s' : SS), b_X5_packed_14 (l_X5_packed_14 f) (nI X) (nI p) s t = some (r, s', t) ∧ _
    unfold b_X5_packed_14
    rw [h8, if_neg (nI_ge pn (by omega)), rx8 (show p < 8 by omega), bs, nI_1, h4 p pn]
    have hp9 := h99 p pn
    by_cases c : a p ≤ X
    · rw [if_pos (nI_le c (by omega))]
      exact packV (t := t) hn hX h99 m (p + 1) f s (by omega) (by omega) h8 h4 (fun q hq => by
        by_cases d : q = p
        · subst d; exact c
        · exact hx q (by omega))
    · rw [if_neg (nI_ge (by omega) (by omega))]
      exact ⟨_, _, rfl, fun _ _ => rfl, Or.inl ⟨rfl, p, pn, by omega⟩⟩
theorem thof_v {s : SS} {t : TT} {n i : Nat} {a : Nat → Nat} (hn : n ≤ 8) (hi : i < 256) (h6 : s 52 6 = nI n) (ha : ∀ p : Nat, p < n → s 52 (8 + 6 * p + 1) = nI (a p)) : ∀ (m p f : Nat), p + m = n → m < f → l_X6_thoughtOf_4 f (nI i, nI (smb a p i), nI p, s, t) = some (nI (smb a n i), s, t)
  | 0, p, f + 1, hp, _ => by
    have e : p = n := by omega
    subst e
    show b_X6_thoughtOf_4 (l_X6_thoughtOf_4 f) (nI i) (nI (smb a p i)) (nI p) s t = some (nI (smb a p i), s, t)
    unfold b_X6_thoughtOf_4
    rw [rx56_6, bs, h6, if_pos (nI_le (Nat.le_refl p) (by omega))]
  | m + 1, p, f + 1, hp, hf => by
    have p8 : p < 8 := by omega
    have ih := thof_v (t := t) hn hi h6 ha m (p + 1) f (by omega) (by omega)
    show b_X6_thoughtOf_4 (l_X6_thoughtOf_4 f) (nI i) (nI (smb a p i)) (nI p) s t = some (nI (smb a n i), s, t)
    unfold b_X6_thoughtOf_4 j_X6_thoughtOf_35
    rw [rx56_6, bs, h6, if_neg (nI_ge (show p < n by omega) (by omega)), its_1 p8, bs, nI_1, ha p (by omega)]
    by_cases z : i.testBit p = true
    · rw [if_pos ((bit_1 p p8 i hi).mpr z), nI_add]
      simp only [smb] at ih
      rw [if_pos z] at ih
      exact ih
    · rw [if_neg (fun c => z ((bit_1 p p8 i hi).mp c)), nI_k0, nI_add]
      simp only [smb] at ih
      rw [if_neg z] at ih
      exact ih
theorem packR_in {t : TT} {n N j X : Nat} {a : Nat → Nat} {w : RR} {R : Nat → Nat} {k67 : Int32 × Int32 × Int32 × SS × TT → Option (Int32 × SS × TT)} (hn : n ≤ 8) (hX : X ≤ 99) (hj : j < 256) (h6 : w 6 = nI n) (ha : ∀ p : Nat, p < n → w (8 + 6 * p + 1) = nI (a p)) (hs : ∀ S : Nat, smb a n S < 2 ^ 31) (hK : ∀ (s : SS) (R : Nat → Nat), s 52 = w → (∀ S : Nat, S < j + 1 → s 57 S = nI (R S)) → IsR a X n R (j + 1) → ∃ (r : Int32) (s' : SS) (R' : Nat → Nat), k67 (nI X, nI N, nI (j + 1), s, t) = some (r, s', t) ∧ (∀ c : Nat, c ≠ 57 → s' c = s c) ∧ IsR a X n R' (N + 1) ∧ r = nI (R' N)) (hR : IsR a X n R j) : ∀ (f i : Nat) (s : SS) (v : Nat), i < f → i &&& j = i → s 52 = w → (∀ S : Nat, S < j → s 57 S = nI (R S)) → s 57 j = nI v → v ≤ pc j → (v = pc j ∨ ∃ T : Nat, sb T j ∧ T ≠ 0 ∧ smb a n T ≤ X ∧ v = R (df j T) + 1) → (∀ T : Nat, sb T j → T ≠ 0 → smb a n T ≤ X → i < T → v ≤ R (df j T) + 1) → ∃ (r : Int32) (s' : SS) (R' : Nat → Nat), l_X6_packed_85 k67 f (nI X, nI N, nI j, nI i, s, t) = some (r, s', t) ∧ (∀ c : Nat, c ≠ 57 → s' c = s c) ∧ IsR a X n R' (N + 1) ∧ r = nI (R' N)
  | 0, i, s, v, hf, _, _, _, _, _, _, _ => by omega
  | f + 1, i, s, v, hf, hi, h52, h57, hv, v1, v2, v3 => by
    show ∃ (r : Int32) (s' : SS) (R' : Nat → Nat), b_X6_packed_85 k67 (l_X6_packed_85 k67 f) (nI X) (nI N) (nI j) (nI i) s t = some (r, s', t) ∧ _
    unfold b_X6_packed_85 j_X6_packed_141
    by_cases z : i = 0
    · subst z
      rw [if_pos (by decide), nI_1]
      refine hK s (upf R j v) h52 (fun S hS => ?_) (hR.snoc v1 (fun T t1 t2 t3 => v3 T t1 t2 t3 (Nat.pos_of_ne_zero t2)) v2)
      by_cases c : S = j
      · subst c; rw [upf_s]; exact hv
      · rw [upf_n c]; exact h57 S (by omega)
    · have ile : i ≤ j := sb_le (and_sb hi)
      have e1 : f_X6_thoughtOf (nI i) s t = some (nI (smb a n i), s, t) := thof_v (t := t) hn (by omega) (by rw [h52]; exact h6) (fun p hp => by rw [h52]; exact ha p hp) n 0 300 (by omega) (by omega)
      have hs1 : nI i - (1 : Int32) = nI (i - 1) := nI_sub (b := 1) (by omega)
      obtain ⟨p, hp⟩ := bit_ex z
      have hlt : df j i < j := df_lt (and_sb hi p hp) hp
      obtain ⟨d, hd⟩ : ∃ d : Nat, d = (i - 1) &&& j := ⟨_, rfl⟩
      have d1 : d ≤ i - 1 := by rw [hd]; exact Nat.and_le_left
      have d2 : d &&& j = d := by rw [hd, Nat.and_assoc, Nat.and_self]
      have up : ∀ T : Nat, sb T j → d < T → T = i ∨ i < T := fun T g1 g2 => by
        by_cases c : T < i
        · have g := sub_step 8 i j T (show i < 256 by omega) hi (sb_and g1) c
          rw [← hd] at g
          omega
        · omega
      have rb := (hR (df j i) hlt).1
      have rb8 := pc_8 (df j i)
      have jb8 := pc_8 j
      rw [if_neg (nI_nle (by omega) (by omega)), e1, bs, and_df, hs1, and_nn, ← hd, rx256 (show df j i < 256 by omega), rx256 hj]
      by_cases z1 : X < smb a n i
      · rw [if_pos (nI_lt z1 (hs i))]
        exact packR_in (t := t) hn hX hj h6 ha hs hK hR f d s v (by omega) d2 h52 h57 hv v1 v2 (fun T t1 t2 t3 t4 => by
          rcases up T t1 t4 with e | e
          · subst e; omega
          · exact v3 T t1 t2 t3 e)
      · rw [if_neg (nI_nlt (by omega) (by omega)), bs, bs]
        have ev : s 57 (df j i) + 1 = nI (R (df j i) + 1) := by rw [h57 _ hlt, nI_1]
        by_cases z2 : v ≤ R (df j i) + 1
        · rw [if_pos (show s 57 j ≤ s 57 (df j i) + 1 by rw [hv, ev]; exact nI_le z2 (by omega))]
          exact packR_in (t := t) hn hX hj h6 ha hs hK hR f d s v (by omega) d2 h52 h57 hv v1 v2 (fun T t1 t2 t3 t4 => by
            rcases up T t1 t4 with e | e
            · subst e; exact z2
            · exact v3 T t1 t2 t3 e)
        · rw [if_neg (show ¬ s 57 j ≤ s 57 (df j i) + 1 by rw [hv, ev]; exact nI_ge (by omega) (by omega)), bs, bs, wr_e]
          dsimp only
          rw [ev]
          obtain ⟨r, s', R', g1, g2, g3, g4⟩ := packR_in (t := t) hn hX hj h6 ha hs hK hR f d (up2 s 57 j (nI (R (df j i) + 1))) (R (df j i) + 1) (by omega) d2 (by rw [up2_o (by decide)]; exact h52) (fun S hS => by rw [up2_r, if_neg (fun e => by omega)]; exact h57 S hS) up2_s (by omega) (Or.inr ⟨i, and_sb hi, z, by omega, rfl⟩) (fun T t1 t2 t3 t4 => by
            rcases up T t1 t4 with e | e
            · subst e; exact Nat.le_refl _
            · have g := v3 T t1 t2 t3 e
              omega)
          exact ⟨r, s', R', g1, fun c hc => by rw [g2 c hc, up2_o hc], g3, g4⟩
theorem packR_l {t : TT} {n N X : Nat} {a : Nat → Nat} {w : RR} (hn : n ≤ 8) (hX : X ≤ 99) (hN : N < 256) (h6 : w 6 = nI n) (ha : ∀ p : Nat, p < n → w (8 + 6 * p + 1) = nI (a p)) (hs : ∀ S : Nat, smb a n S < 2 ^ 31) : ∀ (m j f : Nat) (s : SS) (R : Nat → Nat), j + m = N + 1 → m < f → s 52 = w → (∀ S : Nat, S < j → s 57 S = nI (R S)) → IsR a X n R j → ∃ (r : Int32) (s' : SS) (R' : Nat → Nat), l_X6_packed_67 f (nI X, nI N, nI j, s, t) = some (r, s', t) ∧ (∀ c : Nat, c ≠ 57 → s' c = s c) ∧ IsR a X n R' (N + 1) ∧ r = nI (R' N)
  | 0, j, f + 1, s, R, hj, _, h52, h57, hR => by
    have e : j = N + 1 := by omega
    subst e
    refine ⟨nI (R N), s, R, ?_, fun _ _ => rfl, hR, rfl⟩
    show b_X6_packed_67 (l_X6_packed_67 f) (nI X) (nI N) (nI (N + 1)) s t = some (nI (R N), s, t)
    unfold b_X6_packed_67
    rw [if_pos (nI_lt (show N < N + 1 by omega) (by omega)), rx256 hN, bs, h57 N (by omega)]
  | m + 1, j, f + 1, s, R, hj, hf, h52, h57, hR => by
    have j2 : j < 256 := by omega
    obtain ⟨r, s', R', g1, g2, g3, g4⟩ := packR_in (t := t) (N := N) (k67 := l_X6_packed_67 f) hn hX j2 h6 ha hs (fun s1 R1 c1 c2 c3 => packR_l (t := t) hn hX hN h6 ha hs m (j + 1) f s1 R1 (by omega) (by omega) c1 c2 c3) hR 300 j (up2 s 57 j (nI (pc j))) (pc j) (by omega) (Nat.and_self j) (by rw [up2_o (by decide)]; exact h52) (fun S hS => by rw [up2_r, if_neg (fun e => by omega)]; exact h57 S hS) up2_s (Nat.le_refl _) (Or.inl rfl) (fun T t1 _ _ t4 => by
      have g := sb_le t1
      omega)
    refine ⟨r, s', R', ?_, fun c hc => by rw [g2 c hc, up2_o hc], g3, g4⟩
    show b_X6_packed_67 (l_X6_packed_67 f) (nI X) (nI N) (nI j) s t = _
    unfold b_X6_packed_67
    rw [if_neg (nI_nlt (show j ≤ N by omega) (by omega)), m_ones j2, bs, rx256 j2, bs, wr_e]
    exact g1
theorem packR {t : TT} {n X : Nat} {a : Nat → Nat} {w : RR} (hn : n ≤ 8) (hX : X ≤ 99) (h6 : w 6 = nI n) (h99 : ∀ p : Nat, p < n → a p ≤ 99) (ha : ∀ p : Nat, p < n → w (8 + 6 * p + 1) = nI (a p)) (hs : ∀ S : Nat, smb a n S < 2 ^ 31) : ∀ (m p b f : Nat) (s : SS), p + m = n → m < f → b < 2 ^ p → (∀ q : Nat, q < p → b.testBit q = decide (0 < a q)) → (∀ q : Nat, q < p → a q ≤ X) → s 52 = w → ∃ (r : Int32) (s' : SS), l_X6_packed_16 f (nI X, nI b, nI p, s, t) = some (r, s', t) ∧ (∀ c : Nat, c ≠ 57 → s' c = s c) ∧ ((r = -3 ∧ ∃ q : Nat, q < n ∧ X < a q) ∨ ((∀ q : Nat, q < n → a q ≤ X) ∧ ∃ (M : Nat) (R : Nat → Nat), M < 2 ^ n ∧ (∀ q : Nat, q < n → M.testBit q = decide (0 < a q)) ∧ IsR a X n R (M + 1) ∧ r = nI (R M)))
  | 0, p, b, f + 1, s, hp, _, hb, hM, hx, h52 => by
    have e : p = n := by omega
    subst e
    have h2 : 2 ^ p ≤ 2 ^ 8 := Nat.pow_le_pow_right (by decide) hn
    obtain ⟨r, s', R', g1, g2, g3, g4⟩ := packR_l (t := t) (N := b) hn hX (by omega) h6 ha hs (b + 1) 0 300 s (fun _ => 0) (by omega) (by omega) h52 (fun S hS => by omega) (fun S hS => by omega)
    refine ⟨r, s', ?_, g2, Or.inr ⟨hx, b, R', hb, hM, g3, g4⟩⟩
    show b_X6_packed_16 (l_X6_packed_16 f) (nI X) (nI b) (nI p) s t = some (r, s', t)
    unfold b_X6_packed_16
    rw [rx56_6, bs, h52, h6, if_pos (nI_le (Nat.le_refl p) (by omega))]
    exact g1
  | m + 1, p, b, f + 1, s, hp, hf, hb, hM, hx, h52 => by
    have p8 : p < 8 := by omega
    have pn : p < n := by omega
    have h2 : 2 ^ (p + 1) = 2 * 2 ^ p := by rw [Nat.pow_succ]; omega
    have hp9 := h99 p pn
    have tb : b.testBit p = false := Nat.testBit_lt_two_pow hb
    show ∃ (r : Int32) (s' : SS), b_X6_packed_16 (l_X6_packed_16 f) (nI X) (nI b) (nI p) s t = some (r, s', t) ∧ _
    unfold b_X6_packed_16 j_X6_packed_57
    rw [rx56_6, bs, h52, h6, if_neg (nI_ge pn (by omega)), its_1 p8, bs, nI_1, or_0, h52, ha p pn]
    by_cases c : a p ≤ X
    · have hx2 : ∀ q : Nat, q < p + 1 → a q ≤ X := fun q hq => by
        by_cases d : q = p
        · subst d; exact c
        · exact hx q (by omega)
      rw [if_pos (nI_le c (by omega))]
      dsimp only
      rw [its_1 p8, bs, h52, ha p pn]
      by_cases d : a p = 0
      · rw [if_pos (show nI (a p) ≤ 0 by rw [d]; decide)]
        exact packR (t := t) hn hX h6 h99 ha hs m (p + 1) b f s (by omega) (by omega) (by omega) (fun q hq => by
          by_cases e : q = p
          · subst e; rw [tb, d]; rfl
          · exact hM q (by omega)) hx2 h52
      · rw [if_neg (nI_nle (by omega) (by omega)), or_bit p p8 b hb]
        exact packR (t := t) hn hX h6 h99 ha hs m (p + 1) (b + 2 ^ p) f s (by omega) (by omega) (by omega) (fun q hq => by
          rw [Nat.add_comm]
          by_cases e : q = p
          · subst e; rw [Nat.testBit_two_pow_add_eq, tb]; exact (decide_eq_true (by omega)).symm
          · rw [Nat.testBit_two_pow_add_gt (by omega)]; exact hM q (by omega)) hx2 h52
    · rw [if_neg (nI_ge (by omega) (by omega))]
      exact ⟨_, _, rfl, fun _ _ => rfl, Or.inl ⟨rfl, p, pn, by omega⟩⟩
theorem s_packed1 {s : SS} {t : TT} {W : Nat} (x : Int32) (h : Rel s t W) : Sim (f_X5_packed x) (f_X6_packed x) s t W := by
  obtain ⟨⟨n, hw, hr⟩, -, -, -, -, -, -, h0⟩ := id h
  have h8 : s 1 8 = nI n := hr.1
  have hn := hw.1
  cases hb : wi x 1 99 with
  | false => exact Sim.of h (-1) (by simp only [f_X5_packed, c_isWithin, bs, b2_z, hb, if_true]) (by simp only [f_X6_packed, m_in, bs, b2_z, hb, if_true])
  | true =>
  obtain ⟨X, hX1, hX, rfl⟩ := wi_fr1 (n := 99) (by decide) hb
  obtain ⟨a, hA⟩ : ∃ a : Nat → Nat, a = fun p => (s 52 (8 + 6 * p + 1)).toNatClampNeg := ⟨_, rfl⟩
  have hab : ∀ p : Nat, p < n → s 52 (8 + 6 * p + 1) = nI (a p) ∧ a p ≤ 99 := fun p hp => by
    obtain ⟨k, hk, e⟩ : bd 99 (s 52 (8 + 6 * p + 1)) := hw.2.2.2.2.2 p hp 1 (by decide)
    have e2 : a p = k := by
      rw [hA]
      show (s 52 (8 + 6 * p + 1)).toNatClampNeg = k
      rw [e, nI_clamp (by omega)]
    exact ⟨by rw [e2]; exact e, by omega⟩
  have hs : ∀ S : Nat, smb a n S < 2 ^ 31 := fun S => by
    have g := smb_b (S := S) n (fun p hp => (hab p hp).2)
    omega
  obtain ⟨r, s1, e1, f1, v1⟩ := packV (t := t) hn hX (fun p hp => (hab p hp).2) n 0 300 s (by omega) (by omega) h8 (fun q hq => by
    have g := (hr.2.2.2.2.2.2 q hq).2.1
    rw [(hab q hq).1] at g
    exact g) (fun q hq => by omega)
  have g52 : s1 52 = s 52 := f1 52 (by decide)
  have hf : ∀ L : Int32 × Int32 × Int32 × SS × TT → Option (Int32 × SS × TT), l_X6_packed_16 300 = L → f_X6_packed (nI X) s1 t = L (nI X, nI 0, nI 0, s1, t) := by
    intro L hL
    unfold f_X6_packed
    rw [hL]
    simp only [m_in, bs, b2_z, hb, Bool.true_eq_false, if_false]
    rfl
  obtain ⟨L, hL⟩ : ∃ L, l_X6_packed_16 300 = L := ⟨_, rfl⟩
  have h1 := packR (t := t) (X := X) (a := a) (w := s 52) hn hX hw.2.1 (fun p hp => (hab p hp).2) (fun p hp => (hab p hp).1) hs n 0 0 300 s1 (by omega) (by omega) (Nat.one_pos) (fun q hq => by omega) (fun q hq => by omega) g52
  rw [hL] at h1
  obtain ⟨r', s2, e2, f2, v2⟩ := h1
  have er : r = r' := by
    rcases v1 with ⟨v1, q, hq, hq2⟩ | ⟨v1, V, hV, v3⟩
    · rcases v2 with ⟨v2, -⟩ | ⟨v2, -⟩
      · rw [v1, v2]
      · have g := v2 q hq
        omega
    · rcases v2 with ⟨-, q, hq, hq2⟩ | ⟨-, M, R, hM, hMb, hR, v4⟩
      · have g := v1 q hq
        omega
      · rw [v3, v4, pk_same hV hR hMb hM]
  subst er
  refine ⟨r, s1, s2, t, t, ?_, (hf L hL).trans e2, (h.tr ⟨fun c c1 c2 c3 c4 c5 c6 => by rw [f2 c c3, f1 c c5], fun k hk => by rw [f2 52 (by decide), f1 52 (by decide)]⟩).more (by omega)⟩
  simp only [f_X5_packed, c_isWithin, bs, b2_z, hb, Bool.true_eq_false, if_false]
  rw [← e1, nI_k0]
