/-! fewest: the same answers -/
theorem may_n : ∀ n : Nat, n < 9 → ∀ j : Nat, j < 2 ^ n → ∀ p : Nat, p < n → (((nI j >>> (nI p &&& 31)) &&& 1 = 0) ↔ ¬ (((nI (2 ^ n - 1) &&& (nI j ^^^ ((-1) : Int32))) >>> (nI p &&& 31)) &&& 1 = 0)) := by decide +kernel
theorem pc_n : ∀ n : Nat, n < 9 → ∀ j : Nat, j < 2 ^ n → pc j ≤ n := by decide +kernel
theorem wl_w {n k V : Nat} {w w' : RR} {may l l' : Int32} {s : SS} (hk : k ≤ 60) (hV : V < 2 ^ 29) (h : RW s 19 w n) (h' : RW s 19 w' n) (ok : OKw w n V) (ok' : OKw w' n V) (m1 : May n may l) (m2 : May n may l') : (R_wl l n w k).1 = (R_wl l' n w' k).1 := by
  obtain ⟨s1, e1, -⟩ := c_wordsBy (t := fun _ _ => 0) (k := k) (by omega) (by omega) ok m1 h
  obtain ⟨s2, e2, -⟩ := c_wordsBy (t := fun _ _ => 0) (k := k) (by omega) (by omega) ok' m2 h'
  rw [e1] at e2
  simp only [Option.some.injEq, Prod.mk.injEq] at e2
  exact e2.1
/-- the best set: the fewest, then the first -/
def Best (P : Nat → Prop) (N : Nat) (r : Int32) : Prop := (r = -3 ∧ ∀ j : Nat, j < N → ¬ P j) ∨ ∃ b : Nat, b < N ∧ r = nI b ∧ P b ∧ ∀ j : Nat, j < N → P j → pc b < pc j ∨ (pc b = pc j ∧ b ≤ j)
theorem Best.uq {P : Nat → Prop} {N : Nat} {r r' : Int32} (h : Best P N r) (h' : Best P N r') : r = r' := by
  rcases h with ⟨rfl, h⟩ | ⟨b, b1, rfl, b2, b3⟩
  · rcases h' with ⟨rfl, _⟩ | ⟨b, b1, rfl, b2, b3⟩
    · rfl
    · exact absurd b2 (h b b1)
  · rcases h' with ⟨rfl, h⟩ | ⟨c, c1, rfl, c2, c3⟩
    · exact absurd b2 (h b b1)
    · have e1 := b3 c c1 c2
      have e2 := c3 b b1 b2
      have : b = c := by omega
      rw [this]
theorem fewR_in {t : TT} {n W k N c : Nat} {y : Int32} {w : RR} {P : Nat → Prop} {k36 : Int32 × Int32 × Int32 × Int32 × SS × TT → Option (Int32 × SS × TT)} (hk : k ≤ 60) (hW : W < 2 ^ 29) (hw : OKw w n W) (hN : N ≤ 256) (hP : ∀ j : Nat, j < N → (P j ↔ ¬ (R_wl (nI (255 - j)) n w k).1 < y)) (hc : c < 100) (hlo : ∀ j : Nat, j < N → pc j < c → ¬ P j) (hK : ∀ s : SS, RW s 1 w n → (∀ j : Nat, j < N → pc j < c + 1 → ¬ P j) → ∃ (r : Int32) (s' : SS), k36 (nI k, y, nI N, nI (c + 1), s, t) = some (r, s', t) ∧ Best P N r ∧ Fr 19 s s') : ∀ (m j f : Nat) (s : SS), j + m = N → m < f → RW s 1 w n → (∀ i : Nat, i < j → pc i = c → ¬ P i) → ∃ (r : Int32) (s' : SS), l_X5_fewest_51 k36 f (nI k, y, nI N, nI c, nI j, s, t) = some (r, s', t) ∧ Best P N r ∧ Fr 19 s s'
  | 0, j, f + 1, s, hj, _, hr, hno => by
    have e : j = N := by omega
    subst e
    show ∃ (r : Int32) (s' : SS), b_X5_fewest_51 k36 (l_X5_fewest_51 k36 f) (nI k) y (nI j) (nI c) (nI j) s t = some (r, s', t) ∧ _ ∧ Fr 19 s s'
    unfold b_X5_fewest_51
    rw [if_pos (nI_le (Nat.le_refl j) (by omega)), nI_1]
    refine hK s hr (fun i hi hp => ?_)
    by_cases z : pc i = c
    · exact hno i hi z
    · exact hlo i hi (by omega)
  | m + 1, j, f + 1, s, hj, hf, hr, hno => by
    show ∃ (r : Int32) (s' : SS), b_X5_fewest_51 k36 (l_X5_fewest_51 k36 f) (nI k) y (nI N) (nI c) (nI j) s t = some (r, s', t) ∧ _ ∧ Fr 19 s s'
    have hpc : pc j ≤ 8 := by unfold pc; omega
    unfold b_X5_fewest_51
    rw [if_neg (nI_ge (show j < N by omega) (by omega)), c_bitCount (show j < 256 by omega), bs, nI_1]
    by_cases d : pc j = c
    · obtain ⟨s1, e1, f1, r1⟩ := c_trial (t := t) hr
      obtain ⟨s2, e2, f2, -⟩ := c_wordsBy (t := t) (k := k) (may := nI j) (left := nI (255 - j)) (by omega) (by omega) hw (fun p hp => may_c j (by omega) p (by have := hw.1; omega)) r1
      rw [if_pos (show nI (pc j) = nI c by rw [d]), e1, bs, e2, bs]
      by_cases z : (R_wl (nI (255 - j)) n w k).1 < y
      · rw [if_pos z]
        obtain ⟨r, s3, e3, b3, f3⟩ := fewR_in (t := t) hk hW hw hN hP hc hlo hK m (j + 1) f s2 (by omega) (by omega) (hr.fr (fun c c1 c2 => (f1.tr f2) c (by omega))) (fun i hi hp => by
          by_cases q : i = j
          · subst q; exact fun u => (hP i (by omega)).mp u z
          · exact hno i (by omega) hp)
        exact ⟨r, s3, e3, b3, (f1.tr f2).tr f3⟩
      · rw [if_neg z]
        refine ⟨_, _, rfl, Or.inr ⟨j, by omega, rfl, (hP j (by omega)).mpr z, fun i hi hPi => ?_⟩, f1.tr f2⟩
        have h1 : ¬ pc i < c := fun u => hlo i hi u hPi
        have h2 : pc i = c → ¬ i < j := fun u v => hno i v u hPi
        omega
    · rw [if_neg (fun z => d ((nI_eq (by omega) (by omega)).mp z))]
      exact fewR_in (t := t) hk hW hw hN hP hc hlo hK m (j + 1) f s (by omega) (by omega) hr (fun i hi hp => by
        by_cases q : i = j
        · subst q; exact absurd hp d
        · exact hno i (by omega) hp)
theorem fewR_out {t : TT} {n W k N : Nat} {y : Int32} {w : RR} {P : Nat → Prop} (hk : k ≤ 60) (hW : W < 2 ^ 29) (hw : OKw w n W) (hN : N ≤ 256) (hpn : ∀ j : Nat, j < N → pc j ≤ n) (hP : ∀ j : Nat, j < N → (P j ↔ ¬ (R_wl (nI (255 - j)) n w k).1 < y)) : ∀ (m c f : Nat) (s : SS), c + m = n + 1 → m < f → RW s 1 w n → (∀ j : Nat, j < N → pc j < c → ¬ P j) → ∃ (r : Int32) (s' : SS), l_X5_fewest_36 f (nI k, y, nI N, nI c, s, t) = some (r, s', t) ∧ Best P N r ∧ Fr 19 s s'
  | 0, c, f + 1, s, hj, _, hr, hlo => by
    have hn := hw.1
    show ∃ (r : Int32) (s' : SS), b_X5_fewest_36 (l_X5_fewest_36 f) (nI k) y (nI N) (nI c) s t = some (r, s', t) ∧ _ ∧ Fr 19 s s'
    unfold b_X5_fewest_36
    rw [hr.1, if_pos (nI_lt (show n < c by omega) (by omega))]
    exact ⟨_, _, rfl, Or.inl ⟨rfl, fun j hj' => hlo j hj' (by have := hpn j hj'; omega)⟩, Fr.rf⟩
  | m + 1, c, f + 1, s, hj, hf, hr, hlo => by
    have hn := hw.1
    show ∃ (r : Int32) (s' : SS), b_X5_fewest_36 (l_X5_fewest_36 f) (nI k) y (nI N) (nI c) s t = some (r, s', t) ∧ _ ∧ Fr 19 s s'
    unfold b_X5_fewest_36
    rw [hr.1, if_neg (nI_nlt (show c ≤ n by omega) (by omega))]
    exact fewR_in (t := t) (k36 := l_X5_fewest_36 f) hk hW hw hN hP (by omega) hlo (fun s1 h1 h2 => fewR_out (t := t) hk hW hw hN hpn hP m (c + 1) f s1 (by omega) (by omega) h1 h2) N 0 300 s (by omega) (by omega) hr (fun i hi => by omega)
/-- what the reference holds to be best so far -/
def Bst (P : Nat → Prop) (j : Nat) (x : Int32) : Prop := (x = -1 ∧ ∀ i : Nat, i < j → ¬ P i) ∨ ∃ b : Nat, b < j ∧ x = nI b ∧ P b ∧ ∀ i : Nat, i < j → P i → pc b < pc i ∨ (pc b = pc i ∧ b ≤ i)
theorem mfewR {t : TT} {n W k N : Nat} {y : Int32} {w : RR} {P : Nat → Prop} {sC : SS} (hk : k ≤ 60) (hW : W < 2 ^ 29) (hw : OKw w n W) (hN : N < 256) (hNn : N = 2 ^ n - 1) (hC : RW sC 19 w n) (hP : ∀ j : Nat, j < N + 1 → (P j ↔ ¬ (R_wl (nI (255 - j)) n w k).1 < y)) : ∀ (m j f : Nat) (x : Int32) (s : SS), j + m = N + 1 → m < f → Bst P j x → (∀ q : Nat, q < 56 → s 55 q = w q) → (∀ q : Nat, q < 56 → s 52 q = w q) → ∃ (r : Int32) (s' : SS), l_X6_fewest_52 f (nI k, y, x, nI N, nI j, s, t) = some (r, s', t) ∧ Best P (N + 1) r ∧ MG w s s' ∧ s' 51 5 = 0
  | 0, j, f + 1, x, s, hj, _, hx, h55, h52 => by
    have ej : j = N + 1 := by omega
    subst ej
    show ∃ (r : Int32) (s' : SS), b_X6_fewest_52 (l_X6_fewest_52 f) (nI k) y x (nI N) (nI (N + 1)) s t = some (r, s', t) ∧ _ ∧ MG w s s' ∧ s' 51 5 = 0
    unfold b_X6_fewest_52
    rw [if_pos (nI_lt (show N < N + 1 by omega) (by omega)), wr_e]
    have hb : MG w s (up2 s 51 5 0) ∧ up2 s 51 5 0 51 5 = 0 := ⟨⟨fun c a b => up2_o a, fun i hi => by rw [up2_r, if_neg (fun z => hi z.2)], fun q hq => by rw [up2_o (by decide)]; exact h52 q hq⟩, by rw [up2_r, if_pos ⟨rfl, rfl⟩]⟩
    rcases hx with ⟨rfl, hx⟩ | ⟨b, b1, rfl, b2, b3⟩
    · rw [if_neg (by decide)]; exact ⟨_, _, rfl, Or.inl ⟨rfl, hx⟩, hb⟩
    · rw [if_pos (nI_pos' (by omega))]; exact ⟨_, _, rfl, Or.inr ⟨b, b1, rfl, b2, b3⟩, hb⟩
  | m + 1, j, f + 1, x, s, hj, hf, hx, h55, h52 => by
    show ∃ (r : Int32) (s' : SS), b_X6_fewest_52 (l_X6_fewest_52 f) (nI k) y x (nI N) (nI j) s t = some (r, s', t) ∧ _ ∧ MG w s s' ∧ s' 51 5 = 0
    have hn := hw.1
    have hj75 : (P j → Bst P (j + 1) (nI j)) → (¬ P j → Bst P (j + 1) x) → ∃ (r : Int32) (s' : SS), j_X6_fewest_75 (l_X6_fewest_52 f) (nI k) y x (nI N) (nI j) s t = some (r, s', t) ∧ Best P (N + 1) r ∧ MG w s s' ∧ s' 51 5 = 0 := by
      intro hy1 hy2
      obtain ⟨v, hv⟩ : ∃ v : Int32, v = nI N &&& (nI j ^^^ (-1 : Int32)) := ⟨_, rfl⟩
      have o52 : up2 s 51 5 v 52 = s 52 := up2_o (by decide)
      have ok0 : OKw (s 52) n W := hw.cg h52
      have ok : OKw (up2 s 51 5 v 52) n W := by rw [o52]; exact ok0
      have e := m_wordsBehind (s := up2 s 51 5 v) (t := t) (k := k) (by omega) ok
      rw [cp2_i] at e
      have v5 : up2 s 51 5 v 51 5 = v := by rw [up2_r, if_pos ⟨rfl, rfl⟩]
      have key : (R_wl (up2 s 51 5 v 51 5) n (up2 s 51 5 v 52) k).1 = (R_wl (nI (255 - j)) n w k).1 := by
        rw [v5, o52]
        refine wl_w (may := nI j) hk hW (hC.cg hn h52) hC ok0 hw (fun p hp => ?_) (fun p hp => may_c j (by omega) p (by omega))
        rw [hv, hNn]
        exact may_n n (by omega) j (by have := Nat.one_le_two_pow (n := n); omega) p hp
      unfold j_X6_fewest_75
      rw [← hv, wr_e, e, bs, nI_1, key]
      have hb : MG w s (cp2 (up2 s 51 5 v) 52 (mv (up2 s 51 5 v 55) (R_wl (up2 s 51 5 v 51 5) n (up2 s 51 5 v 52) k).2)) := ⟨fun c a b => by rw [cp2_n b, up2_o a], fun i hi => by rw [cp2_n (by decide), up2_r, if_neg (fun z => hi z.2)], fun q hq => by rw [cp2_s, mv_at hq, up2_o (by decide)]; exact h55 q hq⟩
      have go : ∀ x : Int32, Bst P (j + 1) x → ∃ (r : Int32) (s' : SS), l_X6_fewest_52 f (nI k, y, x, nI N, nI (j + 1), cp2 (up2 s 51 5 v) 52 (mv (up2 s 51 5 v 55) (R_wl (up2 s 51 5 v 51 5) n (up2 s 51 5 v 52) k).2), t) = some (r, s', t) ∧ Best P (N + 1) r ∧ MG w s s' ∧ s' 51 5 = 0 := fun x hx => by
        obtain ⟨r, s', g1, g0, g2, g3⟩ := mfewR (t := t) (y := y) hk hW hw hN hNn hC hP m (j + 1) f x _ (by omega) (by omega) hx (fun q hq => by rw [hb.1 55 (by decide) (by decide)]; exact h55 q hq) hb.2.2
        exact ⟨r, s', g1, g0, hb.tr g2, g3⟩
      by_cases z : (R_wl (nI (255 - j)) n w k).1 < y
      · rw [if_pos z]; exact go x (hy2 (fun u => (hP j (by omega)).mp u z))
      · rw [if_neg z]; exact go _ (hy1 ((hP j (by omega)).mpr z))
    unfold b_X6_fewest_52
    rw [if_neg (nI_nlt (show j ≤ N by omega) (by omega))]
    rcases hx with ⟨rfl, hx⟩ | ⟨b, b1, rfl, b2, b3⟩
    · rw [if_pos (by decide)]
      refine hj75 (fun u => Or.inr ⟨j, by omega, rfl, u, fun i hi hPi => ?_⟩) (fun u => Or.inl ⟨rfl, fun i hi => ?_⟩)
      · by_cases q : i = j
        · subst q; exact Or.inr ⟨rfl, Nat.le_refl _⟩
        · exact absurd hPi (hx i (by omega))
      · by_cases q : i = j
        · subst q; exact u
        · exact hx i (by omega)
    · have hb8 : pc b ≤ 8 := by unfold pc; omega
      have hj8 : pc j ≤ 8 := by unfold pc; omega
      rw [if_neg (nI_pos (by omega)), m_ones (show j < 256 by omega), bs, m_ones (show b < 256 by omega), bs, nI_1]
      by_cases z : pc b ≤ pc j
      · rw [if_pos (nI_le z (by omega))]
        refine mfewR (t := t) (y := y) hk hW hw hN hNn hC hP m (j + 1) f (nI b) s (by omega) (by omega) (Or.inr ⟨b, by omega, rfl, b2, fun i hi hPi => ?_⟩) h55 h52
        by_cases q : i = j
        · subst q; omega
        · exact b3 i (by omega) hPi
      · rw [if_neg (nI_ge (by omega) (by omega))]
        refine hj75 (fun u => Or.inr ⟨j, by omega, rfl, u, fun i hi hPi => ?_⟩) (fun u => Or.inr ⟨b, by omega, rfl, b2, fun i hi hPi => ?_⟩)
        · by_cases q : i = j
          · subst q; exact Or.inr ⟨rfl, Nat.le_refl _⟩
          · have := b3 i (by omega) hPi; omega
        · by_cases q : i = j
          · subst q; exact absurd hPi u
          · exact b3 i (by omega) hPi
theorem s_fewest1 {s : SS} {t : TT} {W : Nat} (hW : W < 2 ^ 29) (x y : Int32) (h : Rel s t W) : Sim (f_X5_fewest x y) (f_X6_fewest x y) s t W := by
  obtain ⟨⟨n, hw, hr⟩, -, -, -, -, -, -, h0⟩ := id h
  have h8 : s 1 8 = nI n := hr.1
  have hn := hw.1
  cases hb : wi x 1 10 with
  | false => exact Sim.of h (-1) (by simp only [f_X5_fewest, c_isWithin, bs, b2_z, hb, if_true]) (by simp only [f_X6_fewest, m_in, bs, b2_z, hb, if_true])
  | true =>
  cases hc : wi y 0 9999 with
  | false => exact Sim.of h (-1) (by simp only [f_X5_fewest, c_isWithin, bs, b2_z, hb, hc, Bool.true_eq_false, if_false, if_true]) (by simp only [f_X6_fewest, m_in, bs, b2_z, hb, hc, Bool.true_eq_false, if_false, if_true])
  | true =>
  obtain ⟨k, hk1, hk, rfl⟩ := wi_fr1 (n := 10) (by decide) hb
  obtain ⟨p1, p2, p3⟩ := shl_n n (by omega)
  obtain ⟨P, hP⟩ : ∃ P : Nat → Prop, P = fun j => ¬ (R_wl (nI (255 - j)) n (s 52) k).1 < y := ⟨_, rfl⟩
  have hP' : ∀ j : Nat, P j ↔ ¬ (R_wl (nI (255 - j)) n (s 52) k).1 < y := fun j => by rw [hP]
  obtain ⟨sC, -, -, hC⟩ := c_trial (t := t) hr
  obtain ⟨r, s1, e1, b1, f1⟩ := fewR_out (t := t) (k := k) (y := y) (P := P) (by omega) hW hw p2 (fun j hj => pc_n n (by omega) j hj) (fun j _ => hP' j) (n + 1) 0 300 s (by omega) (by omega) hr (fun j _ hj => by omega)
  have g52 : s1 52 = s 52 := f1 52 (by omega)
  have g51 : s1 51 = s 51 := f1 51 (by omega)
  obtain ⟨sM1, e2, m1, q51, q52, q55⟩ := m_start (sM := s1) (t := t)
  have k55 : ∀ q : Nat, q < 56 → sM1 55 q = s 52 q := fun q hq => by rw [q55 q hq, q52, g52]
  obtain ⟨r', sM2, e3, b2, m2, m3⟩ := mfewR (t := t) (k := k) (y := y) (N := 2 ^ n - 1) (P := P) (by omega) hW hw (by omega) rfl hC (fun j _ => hP' j) (2 ^ n) 0 300 (-1) sM1 (by omega) (by omega) (Or.inl ⟨rfl, fun i hi => by omega⟩) k55 (fun q _ => by rw [q52, g52])
  rw [show 2 ^ n - 1 + 1 = 2 ^ n by omega] at b2
  have er := b1.uq b2
  subst er
  have m5 : MF sM1 sM2 := ⟨fun c c1 c2 _ _ _ => m2.1 c c1 c2, m2.2.1, fun k hk => by rw [m2.2.2 k hk, q52, g52]⟩
  refine ⟨r, s1, sM2, t, t, ?_, ?_, (h.tr (Tr.of f1.fc (m1.tr m5) h0 m3)).more (by omega)⟩
  · simp only [f_X5_fewest, c_isWithin, bs, b2_z, hb, hc, Bool.true_eq_false, if_false, h8, p1]
    exact e1
  · have e6 : sM1 52 6 = nI n := by rw [q52, g52]; exact hw.2.1
    have e7 : nI (2 ^ n) - (1 : Int32) = nI (2 ^ n - 1) := nI_sub (b := 1) p3
    simp only [f_X6_fewest, m_in, bs, b2_z, hb, hc, Bool.true_eq_false, if_false, e2, rx56_6, e6, p1, e7]
    exact e3
