/-! shelf, taken, minds -/
/-- one shelf changes -/
theorem Rel.sf {s s' : SS} {t : TT} {W q : Nat} (h : Rel s t W) (hq : q < 4) (e : ∀ c : Nat, c ≠ 39 + 3 * q → c ≠ 63 → c ≠ 64 → c ≠ 65 → s' c = s c) (e63 : ∀ k : Nat, k ≠ q → s' 63 k = s 63 k) (e64 : ∀ k : Nat, k ≠ q → s' 64 k = s 64 k) (e65 : ∀ k : Nat, k ≠ q → s' 65 k = s 65 k) (hs : P_sf1 s' q) : Rel s' t W := by
  obtain ⟨g1, g2, g3, g4, g5, g6, g7, g8⟩ := h
  have e' : ∀ c : Nat, (c < 39 ∨ 48 < c) → c ≠ 63 → c ≠ 64 → c ≠ 65 → s' c = s c := fun c h1 h2 h3 h4 => e c (by omega) h2 h3 h4
  have e0 := e' 0 (by omega) (by omega) (by omega) (by omega)
  have e51 := e' 51 (by omega) (by omega) (by omega) (by omega)
  have e28 := e' 28 (by omega) (by omega) (by omega) (by omega)
  have e33 := e' 33 (by omega) (by omega) (by omega) (by omega)
  have e52 := e' 52 (by omega) (by omega) (by omega) (by omega)
  refine ⟨g1.fr (fun c h1 h2 => e' c (by omega) (by omega) (by omega) (by omega)) (fun k _ => by rw [e52]), g2.fr (by rw [e0]) (by rw [e51]) (fun c h1 h2 => e' c (by omega) (by omega) (by omega) (by omega)) (e' 54 (by omega) (by omega) (by omega) (by omega)), g3.fr (by rw [e28]) (by rw [e51]) (e' 29 (by omega) (by omega) (by omega) (by omega)) (e' 56 (by omega) (by omega) (by omega) (by omega)), g4.fr (by rw [e0]) (by rw [e51]) (e' 49 (by omega) (by omega) (by omega) (by omega)) (e' 58 (by omega) (by omega) (by omega) (by omega)), fun q' hq' => (g5 q' hq').fr (e _ (by omega) (by omega) (by omega) (by omega)) (by rw [e' 60 (by omega) (by omega) (by omega) (by omega)]) (by rw [e' 61 (by omega) (by omega) (by omega) (by omega)]) rfl (fun _ _ => rfl), fun q' hq' => ?_, g7.fr (by rw [e33]) (by rw [e51]) (e' 34 (by omega) (by omega) (by omega) (by omega)) (e' 66 (by omega) (by omega) (by omega) (by omega)), by rw [e51]; exact g8⟩
  by_cases z : q' = q
  · subst z; exact hs
  · exact (g6 q' hq').fr (e _ (by omega) (by omega) (by omega) (by omega)) (e63 q' z) (e64 q' z) (e65 q' z)
/-- what the reference's shelf becomes -/
theorem m_shelf_set {s : SS} {t : TT} {q : Nat} (hq : q < 4) (v : Int32) (a b x3 : Int32) (x2 : Int32) (hx : ¬ x2 = 1) (ha : a = x3) : j_X6_shelf_47 (nI q) x2 x3 v (nI q) s t = some (1, up2 (up2 (up2 s 63 q v) 64 q a) 65 q 0, t) := by
  subst ha
  simp only [j_X6_shelf_47, j_X6_shelf_68, rx4 hq, bs, wr_e, hx, if_false]
theorem m_shelf_row {s : SS} {t : TT} {q p : Nat} (hq : q < 4) (hp : p < 4) (v : Int32) : j_X6_shelf_47 (nI q) 1 (nI p) v (nI q) s t = some (1, up2 (up2 (up2 s 63 q v) 64 q (s 60 p)) 65 q (s 61 p), t) := by
  simp only [j_X6_shelf_47, j_X6_shelf_68, rx4 hq, rx4 hp, bs, wr_e, if_true, up2_o (show 60 ≠ 63 by decide), up2_o (show 61 ≠ 64 by decide), up2_o (show 61 ≠ 63 by decide)]
theorem sf_fr {s1 s : SS} {q : Nat} {a b c : Int32} (h1 : ∀ c : Nat, c ≠ 39 + 3 * q → s1 c = s c) : (∀ d : Nat, d ≠ 39 + 3 * q → d ≠ 63 → d ≠ 64 → d ≠ 65 → up2 (up2 (up2 s1 63 q a) 64 q b) 65 q c d = s d) := fun d d1 d2 d3 d4 => by rw [up2_o d4, up2_o d3, up2_o d2]; exact h1 d d1
theorem sf_key {s s1 : SS} {t : TT} {W q : Nat} {a b c : Int32} (h : Rel s t W) (hq : q < 4) (h1 : ∀ c : Nat, c ≠ 39 + 3 * q → s1 c = s c) (hs : (s1 (39 + 3 * q) 0 = 0 ∧ a = 0 ∧ s1 (39 + 3 * q) 1 = b) ∨ (s1 (39 + 3 * q) 0 = 1 ∧ a = 1 ∧ s1 (39 + 3 * q) 2 = b ∧ s1 (39 + 3 * q) 3 = c) ∨ (s1 (39 + 3 * q) 0 = 2 ∧ a = -1)) : Rel (up2 (up2 (up2 s1 63 q a) 64 q b) 65 q c) t (W + 60) := by
  have e9 : up2 (up2 (up2 s1 63 q a) 64 q b) 65 q c (39 + 3 * q) = s1 (39 + 3 * q) := by rw [up2_o (by omega), up2_o (by omega), up2_o (by omega)]
  have x63 : up2 (up2 (up2 s1 63 q a) 64 q b) 65 q c 63 q = a := by rw [up2_o (by omega), up2_o (by omega), up2_r, if_pos ⟨rfl, rfl⟩]
  have x64 : up2 (up2 (up2 s1 63 q a) 64 q b) 65 q c 64 q = b := by rw [up2_o (by omega), up2_r, if_pos ⟨rfl, rfl⟩]
  have x65 : up2 (up2 (up2 s1 63 q a) 64 q b) 65 q c 65 q = c := by rw [up2_r, if_pos ⟨rfl, rfl⟩]
  refine Rel.more (W := W) (h.sf hq (sf_fr h1) (fun k hk => ?_) (fun k hk => ?_) (fun k hk => ?_) ?_) (by omega)
  · rw [up2_o (by omega), up2_o (by omega), up2_r, if_neg (fun z => hk z.2), h1 63 (by omega)]
  · rw [up2_o (by omega), up2_r, if_neg (fun z => hk z.2), up2_o (by omega), h1 64 (by omega)]
  · rw [up2_r, if_neg (fun z => hk z.2), up2_o (by omega), up2_o (by omega), h1 65 (by omega)]
  · unfold P_sf1
    rw [e9, x63, x64, x65]
    exact hs
theorem s_shelf {s : SS} {t : TT} {W : Nat} (x y v : Int32) (h : Rel s t W) : Sim (f_X5_shelf x y v) (f_X6_shelf x y v) s t W := by
  obtain ⟨⟨n, hw, hr⟩, -, -, -, hsh, -⟩ := id h
  have h8 : s 1 8 = nI n := hr.1
  have h6 := hw.2.1
  cases hb : wi x 0 3 with
  | false => exact Sim.of h (-1) (by simp only [f_X5_shelf, c_isPlace, bs, b2_z, hb, if_true]) (by simp only [f_X6_shelf, m_isShelf, bs, b2_z, hb, if_true])
  | true =>
  obtain ⟨q, hq3, rfl⟩ := wi_two (n := 3) (by decide) hb
  have hq : q < 4 := by omega
  by_cases y0 : y = 0
  · subst y0
    cases hc : wi v 0 (nI n - 1) with
    | false => exact Sim.of h (-1) (by simp only [f_X5_shelf, j_X5_shelf_36, j_X5_shelf_65, c_isPlace, c_has, h8, bs, b2_z, hb, hc, Bool.true_eq_false, if_false, if_true, show ¬ (0 : Int32) = 1 by decide, show ¬ (0 : Int32) = 2 by decide]) (by simp only [f_X6_shelf, f_X6_isHeld, m_isShelf, m_isOne, h6, bs, b2_z, b2_k, hb, hc, Bool.true_eq_false, if_false, if_true])
    | true =>
      refine ⟨1, up2 (up2 s (39 + 3 * q) 0 0) (39 + 3 * q) 1 v, up2 (up2 (up2 (up2 (up2 s (39 + 3 * q) 0 0) (39 + 3 * q) 1 v) 63 q 0) 64 q v) 65 q 0, t, t, ?_, ?_, sf_key h hq (fun c hc => by rw [up2_o hc, up2_o hc]) (Or.inl ⟨by rw [up2_r, if_neg (by omega), up2_r, if_pos ⟨rfl, rfl⟩], rfl, by rw [up2_r, if_pos ⟨rfl, rfl⟩]⟩)⟩
      · simp only [f_X5_shelf, f_X3_holdPerson, c_isPlace, c_has, h8, bs, b2_z, hb, hc, Bool.true_eq_false, if_false, if_true, rx4 hq, wr_e]
      · have h6' : up2 (up2 s (39 + 3 * q) 0 0) (39 + 3 * q) 1 v 52 = s 52 := by rw [up2_o (by omega), up2_o (by omega)]
        simp only [f_X6_shelf, f_X6_isHeld, j_X6_shelf_46, m_isShelf, m_isOne, h6', h6, bs, b2_z, b2_k, hb, hc, Bool.true_eq_false, if_false, if_true, show ¬ (0 : Int32) = 1 by decide, show ¬ (0 : Int32) = 2 by decide]
        exact m_shelf_set hq 0 v 0 v 0 (by decide) rfl
  · by_cases y1 : y = 1
    · subst y1
      cases hc : wi v 0 3 with
      | false => exact Sim.of h (-1) (by simp only [f_X5_shelf, j_X5_shelf_36, j_X5_shelf_65, c_isPlace, bs, b2_z, hb, hc, Bool.true_eq_false, if_false, if_true, y0, show ¬ (1 : Int32) = 2 by decide]) (by simp only [f_X6_shelf, f_X6_isHeld, m_isShelf, bs, b2_z, b2_k, hb, hc, Bool.true_eq_false, if_false, if_true, y0])
      | true =>
        obtain ⟨p, hp3, rfl⟩ := wi_two (n := 3) (by decide) hc
        have hp : p < 4 := by omega
        rcases hsh p hp with ⟨a1, a2⟩ | ⟨k, hk, a1, a2, z, hz, a3, a4, a5⟩
        · refine ⟨1, up2 (up2 (up2 s (39 + 3 * q) 0 2) (39 + 3 * q) 2 (-1)) (39 + 3 * q) 3 (s (37 + 3 * p) 2), up2 (up2 (up2 (up2 (up2 (up2 s (39 + 3 * q) 0 2) (39 + 3 * q) 2 (-1)) (39 + 3 * q) 3 (s (37 + 3 * p) 2)) 63 q (-1)) 64 q (s 60 p)) 65 q (s 61 p), t, t, ?_, ?_, sf_key h hq (fun c hc => by rw [up2_o hc, up2_o hc, up2_o hc]) (Or.inr (Or.inr ⟨by rw [up2_r, if_neg (by omega), up2_r, if_neg (by omega), up2_r, if_pos ⟨rfl, rfl⟩], rfl⟩))⟩
          · simp only [f_X5_shelf, j_X5_shelf_36, f_X3_holdRow, j_X3_holdRow_14, c_isPlace, bs, b2_z, hb, hc, Bool.true_eq_false, if_false, if_true, y0, rx4 hq, rx4 hp, wr_e, a1, up2_o (show 37 + 3 * p ≠ 39 + 3 * q by omega)]
          · have g : ∀ c : Nat, c ≠ 39 + 3 * q → up2 (up2 (up2 s (39 + 3 * q) 0 2) (39 + 3 * q) 2 (-1)) (39 + 3 * q) 3 (s (37 + 3 * p) 2) c = s c := fun c hc => by rw [up2_o hc, up2_o hc, up2_o hc]
            simp only [f_X6_shelf, f_X6_isHeld, j_X6_shelf_42, m_isShelf, bs, b2_z, b2_k, hb, hc, Bool.true_eq_false, if_false, if_true, y0, show ¬ (1 : Int32) = 2 by decide, rx4 hp, g 60 (by omega), a2, show ¬ (0 : Int32) ≤ -1 by decide, m_shelf_row hq hp, g 61 (by omega)]
        · have c1 : ¬ nI k = -1 := by
            intro z
            have := tI_eq.mp z
            rw [nI_toInt (by omega), show (-1 : Int32).toInt = -1 from rfl] at this
            omega
          refine ⟨1, up2 (up2 (up2 s (39 + 3 * q) 0 1) (39 + 3 * q) 2 (nI k)) (39 + 3 * q) 3 (nI z), up2 (up2 (up2 (up2 (up2 (up2 s (39 + 3 * q) 0 1) (39 + 3 * q) 2 (nI k)) (39 + 3 * q) 3 (nI z)) 63 q 1) 64 q (nI k)) 65 q (nI z), t, t, ?_, ?_, sf_key h hq (fun c hc => by rw [up2_o hc, up2_o hc, up2_o hc]) (Or.inr (Or.inl ⟨by rw [up2_r, if_neg (by omega), up2_r, if_neg (by omega), up2_r, if_pos ⟨rfl, rfl⟩], rfl, by rw [up2_r, if_neg (by omega), up2_r, if_pos ⟨rfl, rfl⟩], by rw [up2_r, if_pos ⟨rfl, rfl⟩]⟩))⟩
          · simp only [f_X5_shelf, j_X5_shelf_36, f_X3_holdRow, j_X3_holdRow_14, c_isPlace, bs, b2_z, hb, hc, Bool.true_eq_false, if_false, if_true, y0, rx4 hq, rx4 hp, wr_e, a1, a3, c1, up2_o (show 37 + 3 * p ≠ 39 + 3 * q by omega)]
          · have g : ∀ c : Nat, c ≠ 39 + 3 * q → up2 (up2 (up2 s (39 + 3 * q) 0 1) (39 + 3 * q) 2 (nI k)) (39 + 3 * q) 3 (nI z) c = s c := fun c hc => by rw [up2_o hc, up2_o hc, up2_o hc]
            simp only [f_X6_shelf, f_X6_isHeld, j_X6_shelf_46, m_isShelf, bs, b2_z, b2_k, hb, hc, Bool.true_eq_false, if_false, if_true, y0, show ¬ (1 : Int32) = 2 by decide, rx4 hp, g 60 (by omega), a2, nI_pos' (show k < 2 ^ 31 by omega), m_shelf_row hq hp, g 61 (by omega), a4]
    · by_cases y2 : y = 2
      · subst y2
        refine ⟨1, up2 s (39 + 3 * q) 0 2, up2 (up2 (up2 (up2 s (39 + 3 * q) 0 2) 63 q (-1)) 64 q v) 65 q 0, t, t, ?_, ?_, sf_key h hq (fun c hc => by rw [up2_o hc]) (Or.inr (Or.inr ⟨by rw [up2_r, if_pos ⟨rfl, rfl⟩], rfl⟩))⟩
        · simp only [f_X5_shelf, j_X5_shelf_36, j_X5_shelf_65, c_isPlace, bs, b2_z, hb, Bool.true_eq_false, if_false, if_true, y0, y1, rx4 hq, wr_e]
        · simp only [f_X6_shelf, f_X6_isHeld, j_X6_shelf_42, m_isShelf, bs, b2_z, hb, Bool.true_eq_false, if_false, if_true, y0, y1, show ¬ (1 : Int32) = 0 by decide]
          exact m_shelf_set hq (-1) v 0 v 2 (by decide) rfl
      · exact Sim.of h (-1) (by simp only [f_X5_shelf, j_X5_shelf_36, j_X5_shelf_65, c_isPlace, bs, b2_z, hb, Bool.true_eq_false, if_false, y0, y1, y2]) (by simp only [f_X6_shelf, f_X6_isHeld, m_isShelf, bs, b2_z, hb, Bool.true_eq_false, if_false, if_true, y0, y1, y2])
theorem sub10 {a x : Int32} : (a = x - 10) = (x = 10 + a) := by
  apply propext
  constructor
  · rintro rfl; rw [Int32.add_comm, Int32.sub_add_cancel]
  · intro e; rw [e, Int32.add_comm, Int32.add_sub_cancel]
theorem s_taken {s : SS} {t : TT} {W : Nat} (x y : Int32) (h : Rel s t W) : Sim (f_X5_taken x y) (f_X6_taken x y) s t W := by
  obtain ⟨⟨n, hw, hr⟩, -, -, -, -, hsf, -⟩ := id h
  have h8 : s 1 8 = nI n := hr.1
  have h6 := hw.2.1
  cases hb : wi x 0 3 with
  | false => exact Sim.of h (-1) (by simp only [f_X5_taken, c_isPlace, c_isWithin, bs, b2_z, hb, if_true]) (by simp only [f_X6_taken, m_isShelf, bs, b2_z, hb, if_true])
  | true =>
  obtain ⟨q, hq3, rfl⟩ := wi_two (n := 3) (by decide) hb
  have hq : q < 4 := by omega
  have hj : ∀ (r : Int32) (f : Int32), f = b2 (wi y 10 13) → (wi y 0 5 = true ∨ wi y 10 13 = true) → j_X5_taken_29 (nI q) y f s t = some (r, s, t) → j_X6_taken_29 (nI q) y s t = some (r, s, t) → Sim (f_X5_taken (nI q) y) (f_X6_taken (nI q) y) s t W := fun r f hf hy e1 e2 => by
    refine Sim.of h r ?_ ?_
    · subst hf
      simp only [f_X5_taken, c_isPlace, c_isKind, c_isWithin, bs, b2_z, hb, Bool.true_eq_false, if_false]
      cases h1 : wi y 0 5 with
      | true => simp only [Bool.true_eq_false, if_false]; exact e1
      | false =>
        rw [h1] at hy
        have h2 : wi y 10 13 = true := hy.resolve_left (by decide)
        simp only [if_true, h2, Bool.true_eq_false, if_false]
        rw [h2] at e1
        exact e1
    · simp only [f_X6_taken, m_isShelf, m_in, bs, b2_z, hb, Bool.true_eq_false, if_false]
      cases h1 : wi y 0 5 with
      | true => simp only [Bool.true_eq_false, if_false]; exact e2
      | false =>
        rw [h1] at hy
        have h2 : wi y 10 13 = true := hy.resolve_left (by decide)
        simp only [if_true, h2, Bool.true_eq_false, if_false]
        exact e2
  by_cases hy : wi y 0 5 = true ∨ wi y 10 13 = true
  · rcases hsf q hq with ⟨a1, a2, a3⟩ | ⟨a1, a2, a3, a4⟩ | ⟨a1, a2⟩
    · cases hc : wi (s 64 q) 0 (nI n - 1) with
      | false => exact hj (-11) _ rfl hy (by simp only [j_X5_taken_29, rx4 hq, bs, wr_e, a1, a3, show ¬ (0 : Int32) = 1 by decide, show ¬ (0 : Int32) = 2 by decide, if_false, c_has, h8, b2_z, hc, if_true]) (by simp only [j_X6_taken_29, f_X6_kindOn, rx4 hq, bs, a2, if_true, m_isOne, h6, b2_z, hc, show ¬ (0 : Int32) ≤ -1 by decide, if_false])
      | true =>
        obtain ⟨p, hp, ep⟩ := wi_one hw.1 hc
        rw [ep] at hc
        have hp8 : p < 8 := by have := hw.1; omega
        have k0 : s 3 p = s 52 (8 + 6 * p + 0) := (hr.2.2.2.2.2.2 p hp).1
        have hk : bd 5 (gw (s 52) p 0) := hw.at hp 0 (by omega)
        have hk0 : (0 : Int32) ≤ s 52 (8 + 6 * p + 0) := by
          rw [tI_le, show (0 : Int32).toInt = 0 from rfl]; exact ((bd_i (by decide)).mp hk).1
        have hk9 : ¬ s 52 (8 + 6 * p + 0) = 9 := by
          intro z
          have := ((bd_i (by decide)).mp hk).2
          simp only [gw] at this
          rw [z] at this
          exact absurd this (by decide)
        have c9 : f_X1_has 1 (nI p) s t = some (b2 (wi (nI p) 0 (nI n - 1)), s, t) := by rw [c_has, h8]
        cases h10 : wi y 10 13 with
        | true =>
          have y10 : (10 : Int32) ≤ y := by simp only [wi, Bool.and_eq_true, decide_eq_true_eq] at h10; exact h10.1
          refine hj (-13) _ rfl hy ?_ ?_
          · rw [h10]
            simp only [j_X5_taken_29, j_X5_taken_124, j_X5_taken_125, rx4 hq, bs, wr_e, a1, a3, ep, show ¬ (0 : Int32) = 1 by decide, show ¬ (0 : Int32) = 2 by decide, if_false, c9, b2_z, b2_t, hc, Bool.true_eq_false, show ¬ (1 : Int32) = 0 by decide, if_true]
          · simp only [j_X6_taken_29, f_X6_kindOn, rx4 hq, bs, a2, ep, if_true, m_isOne, h6, b2_z, hc, Bool.true_eq_false, if_false, its_0 hp8, hk0, hk9, y10]
        | false =>
          have h05 : wi y 0 5 = true := hy.resolve_right (by rw [h10]; decide)
          have y10 : ¬ (10 : Int32) ≤ y := by
            intro z
            simp only [wi, Bool.and_eq_true, decide_eq_true_eq] at h05
            exact absurd (Int32.le_trans z h05.2) (by decide)
          cases hu : und (s 52 (8 + 6 * p + 0)) y with
          | false =>
            refine hj (-13) _ rfl hy ?_ ?_
            · rw [h10]
              simp only [j_X5_taken_29, j_X5_taken_124, j_X5_taken_125, rx4 hq, rx8 hp8, bs, wr_e, a1, a3, ep, show ¬ (0 : Int32) = 1 by decide, show ¬ (0 : Int32) = 2 by decide, if_false, c9, b2_z, b2_f, hc, Bool.true_eq_false, if_true, c_isUnder, k0, hu]
            · simp only [j_X6_taken_29, f_X6_kindOn, rx4 hq, bs, a2, ep, if_true, m_isOne, h6, b2_z, hc, Bool.true_eq_false, if_false, its_0 hp8, hk0, hk9, y10, m_isUnder, hu]
          | true =>
            refine hj (nI p) _ rfl hy ?_ ?_
            · rw [h10]
              simp only [j_X5_taken_29, j_X5_taken_124, j_X5_taken_125, rx4 hq, rx8 hp8, bs, wr_e, a1, a3, ep, show ¬ (0 : Int32) = 1 by decide, show ¬ (0 : Int32) = 2 by decide, if_false, c9, b2_z, b2_f, hc, Bool.true_eq_false, if_true, c_isUnder, k0, hu, show ¬ (1 : Int32) = 0 by decide]
            · simp only [j_X6_taken_29, f_X6_kindOn, rx4 hq, bs, a2, ep, if_true, m_isOne, h6, b2_z, hc, Bool.true_eq_false, if_false, its_0 hp8, hk0, hk9, y10, m_isUnder, hu]
    · by_cases hs : y = 10 + s 64 q
      · exact hj (s 65 q) _ rfl hy (by simp only [j_X5_taken_29, rx4 hq, bs, wr_e, a1, a3, a4, if_true, sub10, ← hs]) (by simp only [j_X6_taken_29, f_X6_kindOn, rx4 hq, bs, a2, show ¬ (1 : Int32) = 0 by decide, if_false, show (0 : Int32) ≤ 1 by decide, if_true, show (0 : Int32) ≤ 9 by decide, ← hs])
      · exact hj (-13) _ rfl hy (by simp only [j_X5_taken_29, rx4 hq, bs, wr_e, a1, a3, a4, if_true, sub10, hs, if_false]) (by simp only [j_X6_taken_29, f_X6_kindOn, rx4 hq, bs, a2, show ¬ (1 : Int32) = 0 by decide, if_false, show (0 : Int32) ≤ 1 by decide, if_true, show (0 : Int32) ≤ 9 by decide, hs])
    · exact hj (-11) _ rfl hy (by simp only [j_X5_taken_29, rx4 hq, bs, wr_e, a1, show ¬ (2 : Int32) = 1 by decide, if_false, if_true]) (by simp only [j_X6_taken_29, f_X6_kindOn, rx4 hq, bs, a2, show ¬ (-1 : Int32) = 0 by decide, if_false, show ¬ (0 : Int32) ≤ -1 by decide])
  · have h1 : wi y 0 5 = false := by cases z : wi y 0 5 with | false => rfl | true => exact absurd (Or.inl z) hy
    have h2 : wi y 10 13 = false := by cases z : wi y 10 13 with | false => rfl | true => exact absurd (Or.inr z) hy
    exact Sim.of h (-1) (by simp only [f_X5_taken, c_isPlace, c_isKind, c_isWithin, bs, b2_z, hb, h1, h2, Bool.true_eq_false, if_false, if_true]) (by simp only [f_X6_taken, m_isShelf, m_in, bs, b2_z, hb, h1, h2, Bool.true_eq_false, if_false, if_true])
