/-! act; odds, hope -/
theorem Rel.tc {s s' : SS} {t : TT} {W : Nat} (h : Rel s t W) (e : ∀ c : Nat, c ≠ 33 → c ≠ 34 → c ≠ 51 → c ≠ 66 → s' c = s c) (e51 : ∀ i : Nat, i ≠ 24 → i ≠ 25 → i ≠ 26 → i ≠ 28 → i ≠ 29 → s' 51 i = s 51 i) (htr : P_trace s') : Rel s' t W := by
  refine Rel.ex [33, 34, 51, 66] h (fun c hc => ?_) (Or.inl (by decide)) (Or.inl ⟨by decide, by rw [e 0 (by decide) (by decide) (by decide) (by decide)], e51 4 (by decide) (by decide) (by decide) (by decide) (by decide), e 54 (by decide) (by decide) (by decide) (by decide)⟩) (Or.inl ⟨by rw [e 28 (by decide) (by decide) (by decide) (by decide)], e51 7 (by decide) (by decide) (by decide) (by decide) (by decide), e 29 (by decide) (by decide) (by decide) (by decide), e 56 (by decide) (by decide) (by decide) (by decide)⟩) (Or.inl ⟨by rw [e 0 (by decide) (by decide) (by decide) (by decide)], e51 17 (by decide) (by decide) (by decide) (by decide) (by decide), e 49 (by decide) (by decide) (by decide) (by decide), e 58 (by decide) (by decide) (by decide) (by decide)⟩) (Or.inl ⟨by decide, e 60 (by decide) (by decide) (by decide) (by decide), e 61 (by decide) (by decide) (by decide) (by decide), rfl⟩) (Or.inl ⟨by decide, e 63 (by decide) (by decide) (by decide) (by decide), e 64 (by decide) (by decide) (by decide) (by decide), e 65 (by decide) (by decide) (by decide) (by decide)⟩) (Or.inr htr) (e51 5 (by decide) (by decide) (by decide) (by decide) (by decide))
  simp only [List.mem_cons, List.not_mem_nil, or_false, not_or] at hc
  exact e c hc.1 hc.2.1 hc.2.2.1 hc.2.2.2
theorem pr_perform {C0 M0 sC sM : SS} {t : TT} {k nb hd : Int32} (a x : Int32) (ha : bd 5 a) (hk : bd 5 k) (h : AR C0 M0 k nb hd 0 sC sM) (h3 : a = 0 ∨ a = 1 ∨ a = 2 ∨ a = 3) : ∃ (v v' st' : Int32) (sC' sM' : SS), f_X0_perform a x sC t = some (v, sC', t) ∧ (if a = 0 then (f_X6_thinksIt x sM t).bind (fun q17 => j_X6_act_121 q17.1 q17.2.1 q17.2.2) else if a = 1 then (f_X6_asksIt x sM t).bind (fun q16 => j_X6_act_121 q16.1 q16.2.1 q16.2.2) else if a = 2 then (f_X6_partsIt x sM t).bind (fun q15 => j_X6_act_121 q15.1 q15.2.1 q15.2.2) else (f_X6_writesIt x sM t).bind (fun q14 => j_X6_act_121 q14.1 q14.2.1 q14.2.2)) = some (if st' = 0 then v else -15, sM', t) ∧ AR C0 M0 k nb hd st' sC' sM' := by
  rcases h3 with rfl | rfl | rfl | rfl
  · obtain ⟨v, C, M, e1, e2, hA⟩ := pr_thinks (t := t) x hk h
    refine ⟨v, v, 0, C, M, by simp only [f_X0_perform, if_true, e1, bs], ?_, hA⟩
    simp only [if_true, e2, bs, j_X6_act_121, hA.2.1.2]
  · obtain ⟨v, C, M, e1, e2, hA⟩ := pr_asks (t := t) x hk h
    refine ⟨v, v, 0, C, M, by simp only [f_X0_perform, show ¬ (1 : Int32) = 0 by decide, if_false, if_true, e1, bs], ?_, hA⟩
    simp only [show ¬ (1 : Int32) = 0 by decide, if_false, if_true, e2, bs, j_X6_act_121, hA.2.1.2]
  · obtain ⟨v, v', st', C, M, e1, e2, hA, hz⟩ := pr_parts (t := t) x hk h
    refine ⟨v, v', st', C, M, by simp only [f_X0_perform, show ¬ (2 : Int32) = 0 by decide, show ¬ (2 : Int32) = 1 by decide, if_false, if_true, e1, bs], ?_, hA⟩
    simp only [show ¬ (2 : Int32) = 0 by decide, show ¬ (2 : Int32) = 1 by decide, if_false, if_true, e2, bs, j_X6_act_121, hA.2.1.2]
    rcases hz with rfl | ⟨rfl, rfl⟩
    · rfl
    · rfl
  · obtain ⟨v, v', st', C, M, e1, e2, hA, hz⟩ := pr_writes (t := t) x hk h
    refine ⟨v, v', st', C, M, by simp only [f_X0_perform, show ¬ (3 : Int32) = 0 by decide, show ¬ (3 : Int32) = 1 by decide, show ¬ (3 : Int32) = 2 by decide, if_false, if_true, e1, bs], ?_, hA⟩
    simp only [show ¬ (3 : Int32) = 0 by decide, show ¬ (3 : Int32) = 1 by decide, show ¬ (3 : Int32) = 2 by decide, if_false, e2, bs, j_X6_act_121, hA.2.1.2]
    rcases hz with rfl | ⟨rfl, rfl⟩
    · rfl
    · rfl
theorem s_act {s : SS} {t : TT} {W : Nat} (x a v : Int32) (h : Rel s t W) : Sim (f_X5_act x a v) (f_X6_act x a v) s t W := by
  obtain ⟨⟨n, hw, hr⟩, -, -, -, -, hsf, -⟩ := id h
  have h8 : s 1 8 = nI n := hr.1
  have h6 := hw.2.1
  -- what is left where nothing runs
  obtain ⟨s1, hs1⟩ : ∃ s1 : SS, s1 = up2 (up2 s 33 1 0) 33 2 0 := ⟨_, rfl⟩
  have o1 : ∀ c : Nat, c ≠ 33 → s1 c = s c := fun c hc => by rw [hs1, up2_o hc, up2_o hc]
  have of1 : f_X0_forget s t = some (s1, t) := by rw [hs1]; rfl
  have z1 : s1 33 1 = 0 := by rw [hs1, up2_r, if_neg (by omega), up2_r, if_pos ⟨rfl, rfl⟩]
  have z2 : s1 33 2 = 0 := by rw [hs1, up2_r, if_pos ⟨rfl, rfl⟩]
  have key0 : ∀ sM : SS, (∀ c : Nat, c ≠ 51 → sM c = s1 c) → (∀ i : Nat, i ≠ 24 → i ≠ 25 → i ≠ 26 → i ≠ 28 → i ≠ 29 → sM 51 i = s 51 i) → sM 51 28 = 0 → Rel sM t (W + 60) := fun sM e1 e2 e3 => by
    refine Rel.more (W := W) (h.tc (fun c c1 c2 c3 c4 => by rw [e1 c c3, o1 c c1]) e2 ⟨0, by omega, by rw [e1 33 (by decide)]; exact z1, e3, fun i hi => by omega⟩) (by omega)
  have kM := key0 (up2 s1 51 28 0) (fun c hc => up2_o hc) (fun i _ _ _ h4 _ => by rw [up2_r, if_neg (fun z => h4 z.2), o1 51 (by decide)]) (by rw [up2_r, if_pos ⟨rfl, rfl⟩])
  have g51 : ∀ c : Nat, c ≠ 51 → up2 s1 51 28 0 c = s1 c := fun c hc => up2_o hc
  have neg1 : wi (-1) 0 5 = false := by decide
  cases hb : wi x 0 3 with
  | false =>
    refine ⟨0, s1, up2 s1 51 28 0, t, t, by simp only [f_X5_act, of1, c_isPlace, bs, b2_z, hb, if_true], ?_, kM⟩
    simp only [f_X6_act, m_isShelf, wr_e, bs, b2_z, hb, if_true, j_X6_act_21, m_in]
    cases wi a 0 3 <;> simp [neg1]
  | true =>
  obtain ⟨q, hq3, rfl⟩ := wi_two (n := 3) (by decide) hb
  have hq : q < 4 := by omega
  cases ha : wi a 0 3 with
  | false =>
    have hko : ∃ k : Int32, f_X6_kindOn (nI q) (up2 s1 51 28 0) t = some (k, up2 s1 51 28 0, t) := by
      simp only [f_X6_kindOn, rx4 hq, bs, g51 63 (by decide), g51 64 (by decide), o1 63 (by decide), o1 64 (by decide), m_isOne, g51 52 (by decide), o1 52 (by decide), h6, b2_z]
      by_cases e0 : s 63 q = 0
      · rw [if_pos e0]
        cases hc : wi (s 64 q) 0 (nI n - 1) with
        | false => exact ⟨_, by rw [if_pos rfl]⟩
        | true =>
          obtain ⟨p, hp, ep⟩ := wi_one hw.1 hc
          rw [ep, its_0 (show p < 8 by have := hw.1; omega)]
          exact ⟨_, by rw [if_neg (by decide)]; rfl⟩
      · rw [if_neg e0]
        by_cases e1 : 0 ≤ s 63 q
        · exact ⟨_, by rw [if_pos e1]⟩
        · exact ⟨_, by rw [if_neg e1]⟩
    obtain ⟨k, hko⟩ := hko
    exact ⟨0, s1, up2 s1 51 28 0, t, t, by simp only [f_X5_act, of1, c_isPlace, c_isWithin, bs, b2_z, hb, ha, Bool.true_eq_false, if_false, if_true], by simp only [f_X6_act, m_isShelf, wr_e, bs, b2_z, hb, Bool.true_eq_false, if_false, hko, j_X6_act_21, m_in, ha, if_true], kM⟩
  | true =>
  have gs : s1 (39 + 3 * q) = s (39 + 3 * q) := o1 _ (by omega)
  rcases hsf q hq with ⟨a1, a2, a3⟩ | ⟨a1, a2, a3, a4⟩ | ⟨a1, a2⟩
  · cases hc : wi (s 64 q) 0 (nI n - 1) with
    | false =>
      exact ⟨0, s1, up2 s1 51 28 0, t, t, by simp only [f_X5_act, of1, c_isPlace, c_isWithin, c_has, bs, b2_z, hb, ha, Bool.true_eq_false, if_false, if_true, rx4 hq, wr_e, gs, a1, a3, o1 1 (by decide), h8, hc], by simp only [f_X6_act, f_X6_kindOn, m_isShelf, m_isOne, wr_e, bs, b2_z, hb, Bool.true_eq_false, if_false, if_true, rx4 hq, g51 63 (by decide), g51 64 (by decide), o1 63 (by decide), o1 64 (by decide), g51 52 (by decide), o1 52 (by decide), h6, a2, hc, j_X6_act_21, m_in, ha, neg1], kM⟩
    | true =>
      obtain ⟨p, hp, ep⟩ := wi_one hw.1 hc
      rw [ep] at hc
      have hp8 : p < 8 := by have := hw.1; omega
      have k0 : s 3 p = s 52 (8 + 6 * p + 0) := (hr.2.2.2.2.2.2 p hp).1
      have k2 : s 5 p = s 52 (8 + 6 * p + 2) := (hr.2.2.2.2.2.2 p hp).2.2.1
      have hk : bd 5 (gw (s 52) p 0) := hw.at hp 0 (by omega)
      have hk5 : wi (s 52 (8 + 6 * p + 0)) 0 5 = true := by
        have := (bd_i (by decide)).mp hk
        simp only [gw] at this
        simp only [wi, Bool.and_eq_true, decide_eq_true_eq]
        rw [tI_le, tI_le]
        exact ⟨by rw [show (0 : Int32).toInt = 0 from rfl]; exact this.1, by rw [show (5 : Int32).toInt = 5 from rfl]; exact this.2⟩
      have ha5 : bd 5 a := bd_le (wi_bd (n := 3) rfl (by decide) ha) (by omega)
      have ha3 : a = 0 ∨ a = 1 ∨ a = 2 ∨ a = 3 := by
        obtain ⟨i, hi, rfl⟩ := wi_two (n := 3) (by decide) ha
        have h4 : i = 0 ∨ i = 1 ∨ i = 2 ∨ i = 3 := by omega
        rcases h4 with rfl | rfl | rfl | rfl
        · exact Or.inl rfl
        · exact Or.inr (Or.inl rfl)
        · exact Or.inr (Or.inr (Or.inl rfl))
        · exact Or.inr (Or.inr (Or.inr rfl))
      obtain ⟨sC, hsC⟩ : ∃ sC : SS, sC = up2 (up2 (up2 s1 33 3 (s 52 (8 + 6 * p + 0))) 33 4 (nI p)) 33 5 (s 52 (8 + 6 * p + 2)) := ⟨_, rfl⟩
      have oC : ∀ c : Nat, c ≠ 33 → sC c = s1 c := fun c hc => by rw [hsC, up2_o hc, up2_o hc, up2_o hc]
      have play : f_X0_play (s 52 (8 + 6 * p + 0)) (nI p) (s 52 (8 + 6 * p + 2)) s1 t = some (sC, t) := by rw [hsC]; rfl
      have cC : ∀ i : Nat, sC 33 i = if i = 3 then s 52 (8 + 6 * p + 0) else if i = 4 then nI p else if i = 5 then s 52 (8 + 6 * p + 2) else s1 33 i := fun i => by
        rw [hsC, up2_r, up2_r, up2_r]
        by_cases e3 : i = 3
        · subst e3; simp
        · by_cases e4 : i = 4
          · subst e4; simp
          · by_cases e5 : i = 5 <;> simp [e3, e4, e5]
      -- the class does not depend on the reference's cells: any state of the reference's with these numbers
      have hAR : ∀ sM : SS, sM 51 28 = 0 → sM 51 29 = 0 → sM 51 24 = s 52 (8 + 6 * p + 0) → sM 51 25 = nI p → sM 51 26 = s 52 (8 + 6 * p + 2) → AR sC sM (s 52 (8 + 6 * p + 0)) (nI p) (s 52 (8 + 6 * p + 2)) 0 sC sM := fun sM m1 m2 m3 m4 m5 => ⟨⟨0, by omega, by rw [cC]; exact z1, m1, fun i hi => by omega⟩, ⟨by rw [cC]; exact z2, m2⟩, ⟨by rw [cC]; rfl, by rw [cC]; rfl, by rw [cC]; rfl, m3, m4, m5⟩, fun _ _ _ => rfl, fun _ _ _ => rfl, fun _ _ _ _ _ _ => rfl⟩
      obtain ⟨M0, hM0⟩ : ∃ M0 : SS, M0 = up2 (up2 (up2 (up2 (up2 sC 51 28 0) 51 24 (s 52 (8 + 6 * p + 0))) 51 25 (nI p)) 51 26 (s 52 (8 + 6 * p + 2))) 51 29 0 := ⟨_, rfl⟩
      have cM : ∀ (S : SS) (i : Nat), up2 (up2 (up2 (up2 (up2 S 51 28 0) 51 24 (s 52 (8 + 6 * p + 0))) 51 25 (nI p)) 51 26 (s 52 (8 + 6 * p + 2))) 51 29 0 51 i = if i = 29 then 0 else if i = 26 then s 52 (8 + 6 * p + 2) else if i = 25 then nI p else if i = 24 then s 52 (8 + 6 * p + 0) else if i = 28 then 0 else S 51 i := fun S i => by
        rw [up2_r, up2_r, up2_r, up2_r, up2_r]
        simp
      obtain ⟨r, r', st, C1, M1, e1, e2, hA⟩ := pr_perform (t := t) a v ha5 hk (hAR M0 (by rw [hM0, cM]; rfl) (by rw [hM0, cM]; rfl) (by rw [hM0, cM]; rfl) (by rw [hM0, cM]; rfl) (by rw [hM0, cM]; rfl)) ha3
      obtain ⟨M2, hM2⟩ : ∃ M2 : SS, M2 = up2 (up2 (up2 (up2 (up2 C1 51 28 0) 51 24 (s 52 (8 + 6 * p + 0))) 51 25 (nI p)) 51 26 (s 52 (8 + 6 * p + 2))) 51 29 0 := ⟨_, rfl⟩
      obtain ⟨r2, r2', st2, C2, M3, e3, e4, hB⟩ := pr_perform (t := t) a v ha5 hk (hAR M2 (by rw [hM2, cM]; rfl) (by rw [hM2, cM]; rfl) (by rw [hM2, cM]; rfl) (by rw [hM2, cM]; rfl) (by rw [hM2, cM]; rfl)) ha3
      rw [e1] at e3
      simp only [Option.some.injEq, Prod.mk.injEq, and_true] at e3
      obtain ⟨rfl, rfl⟩ := e3
      have est : st = st2 := hA.2.1.1.symm.trans hB.2.1.1
      obtain ⟨hB1, hB2, hB3, hB4, hB5, hB6⟩ := hB
      have gC : ∀ c : Nat, c ≠ 33 → c ≠ 34 → C1 c = s c := fun c c1 c2 => by rw [hB4 c c1 c2, oC c c1, o1 c c1]
      refine ⟨if st2 = 0 then r else -15, C1, M3, t, t, ?_, ?_, ?_⟩
      · simp only [f_X5_act, of1, c_isPlace, c_isWithin, c_has, bs, b2_z, hb, ha, Bool.true_eq_false, if_false, if_true, rx4 hq, rx8 hp8, wr_e, gs, a1, a3, ep, o1 1 (by decide), o1 3 (by decide), o1 5 (by decide), h8, hc, k0, k2, play, e1, hB2.1, ite_q]
      · have x63 : up2 C1 51 28 0 63 = s 63 := by rw [up2_o (by decide), gC 63 (by decide) (by decide)]
        have x64 : up2 C1 51 28 0 64 = s 64 := by rw [up2_o (by decide), gC 64 (by decide) (by decide)]
        have x52 : up2 C1 51 28 0 52 = s 52 := by rw [up2_o (by decide), gC 52 (by decide) (by decide)]
        have y64 : ∀ z : Int32, up2 (up2 C1 51 28 0) 51 24 z 64 = s 64 := fun z => by rw [up2_o (by decide)]; exact x64
        have y52 : ∀ z : Int32, up2 (up2 (up2 C1 51 28 0) 51 24 z) 51 25 (nI p) 52 = s 52 := fun z => by rw [up2_o (by decide), up2_o (by decide)]; exact x52
        have y25 : ∀ (S : SS) (z : Int32), up2 S 51 25 z 51 25 = z := fun S z => by rw [up2_r, if_pos ⟨rfl, rfl⟩]
        simp only [f_X6_act, f_X6_kindOn, m_isShelf, m_isOne, wr_e, bs, b2_z, hb, Bool.true_eq_false, if_false, if_true, rx4 hq, x63, x64, x52, h6, a2, ep, hc, its_0 hp8, its_2 hp8, j_X6_act_21, m_in, ha, hk5, y64, y25, y52]
        rw [← hM2]
        exact e4
      · have gM : ∀ c : Nat, c ≠ 51 → c ≠ 66 → M3 c = C1 c := fun c c3 c4 => by rw [hB5 c c3 c4, hM2, up2_o c3, up2_o c3, up2_o c3, up2_o c3, up2_o c3]
        obtain ⟨b, b1, b2', b3, b4⟩ := hB1
        refine Rel.more (W := W) (h.tc (fun c c1 c2 c3 c4 => ?_) (fun i i1 i2 i3 i4 i5 => ?_) ⟨b, b1, by rw [gM 33 (by decide) (by decide)]; exact b2', b3, fun i hi => by rw [gM 34 (by decide) (by decide)]; exact b4 i hi⟩) (by omega)
        · rw [hB5 c c3 c4, hM2, up2_o c3, up2_o c3, up2_o c3, up2_o c3, up2_o c3]; exact gC c c1 c2
        · rw [hB6 i i1 i2 i3 i4 i5, hM2, cM, if_neg i5, if_neg i3, if_neg i2, if_neg i1, if_neg i4, gC 51 (by decide) (by decide)]
  · exact ⟨0, s1, up2 s1 51 28 0, t, t, by simp only [f_X5_act, of1, c_isPlace, c_isWithin, bs, b2_z, hb, ha, Bool.true_eq_false, if_false, rx4 hq, wr_e, gs, a1, show ¬ (1 : Int32) = 0 by decide], by simp only [f_X6_act, f_X6_kindOn, m_isShelf, wr_e, bs, b2_z, hb, Bool.true_eq_false, if_false, if_true, rx4 hq, g51 63 (by decide), o1 63 (by decide), a2, show ¬ (1 : Int32) = 0 by decide, show (0 : Int32) ≤ 1 by decide, j_X6_act_21, m_in, ha, show wi 9 0 5 = false by decide], kM⟩
  · exact ⟨0, s1, up2 s1 51 28 0, t, t, by simp only [f_X5_act, of1, c_isPlace, c_isWithin, bs, b2_z, hb, ha, Bool.true_eq_false, if_false, rx4 hq, wr_e, gs, a1, show ¬ (2 : Int32) = 0 by decide], by simp only [f_X6_act, f_X6_kindOn, m_isShelf, wr_e, bs, b2_z, hb, Bool.true_eq_false, if_false, if_true, rx4 hq, g51 63 (by decide), o1 63 (by decide), a2, show ¬ (-1 : Int32) = 0 by decide, show ¬ (0 : Int32) ≤ -1 by decide, j_X6_act_21, m_in, ha, neg1], kM⟩
