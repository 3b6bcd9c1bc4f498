/-! a copy of a row, out of a cell or out of a constant row -/
theorem pm_cpy_len {l g : List Int32} {sp dp n : Nat} (h1 : sp + n ≤ l.length) (h2 : dp + n ≤ g.length) : (pm_cpy l g sp dp n).length = g.length := by
  simp only [pm_cpy, List.length_append, List.length_take, List.length_drop]
  omega
theorem pm_cpy_at {l g : List Int32} {sp dp n : Nat} (h1 : sp + n ≤ l.length) (h2 : dp + n ≤ g.length) : (fun j : Nat => (pm_cpy l g sp dp n).getD j 0) = va_cpy (fun j : Nat => l.getD j 0) (fun j : Nat => g.getD j 0) sp dp n := by
  funext j
  simp only [va_cpy, List.getD, pm_cpy]
  by_cases a : j < dp
  · rw [List.getElem?_append_left (by rw [List.length_take]; omega), List.getElem?_take_of_lt a, if_neg (by omega)]
  · rw [List.getElem?_append_right (by rw [List.length_take]; omega), List.length_take, Nat.min_eq_left (by omega)]
    by_cases b : j < dp + n
    · rw [List.getElem?_append_left (by rw [List.length_take, List.length_drop]; omega), List.getElem?_take_of_lt (by omega), List.getElem?_drop, if_pos (by omega)]
    · rw [List.getElem?_append_right (by rw [List.length_take, List.length_drop]; omega), List.length_take, List.length_drop, Nat.min_eq_left (by omega), List.getElem?_drop, if_neg (by omega), show dp + n + (j - dp - n) = j by omega]
section COPY
variable {p : Program} {l : Launch} {e : Env} {R : Room} {s : State} {m : MethodId} {args : Array Value} {below : List Frame} {meth : Method} {c : Code} {H : Heap} {locs : List Loc} {cells slots : Nat} {Q : State → Prop}
variable {cc : ByteArray} {pc : Nat} {ls : Array Slot} {rest : List Value} {D : va_G} {cl : List vw_C} {A : Nat → Prop} {a : Nat} {tys : List (ClassId × FieldType)} {ws : va_W}
theorem pm_nn {z : Int32} (hz : ¬ z < 0) : z.toInt = (z.toNatClampNeg : Int) := by
  have hz0 : (0 : Int) ≤ z.toInt := by
    have := Int32.not_lt.mp hz
    simpa using Int32.le_iff_toInt_le.mp this
  show z.toInt = ((z.toInt.toNat : Nat) : Int)
  omega
/-- a copy out of a constant row of ints -/
theorem pm_copyk (hexec : p.tables.exec = Jvm.exec) (hb : c.code = cc) (hml : c.maxLocals = ls.size) {own : String} {index : Nat} (hown : s.vm.findClass own = some m.cls) (hlink : (Cond.methodLink own index arraycopyName).before args s = true) (hnat : (Cond.native arraycopyName).before args s = true) (hstat : (Cond.static arraycopyName).before args s = true) (hini : (Cond.initialized "java/lang/System").before args s = true)
    (hK : va_K D cl tys s) (hP : va_P D cl ws H) (hD : va_D A ws) (hS : va_S A s.heap H locs) {b0 n0 : Nat} {f : Nat → Int32} (hX : va_T .int b0 n0 (fun j => .int (f j)) A s s.heap) (q1 t1 : Nat) {c1 : ClassId} {n1 : Nat} {g : Nat → Int32} (ha1 : ws[q1]? = some (a, .inl (c1, n1, .inl g))) (ht1 : tys[t1]? = some (c1, .int))
    {sp dp n : Int32} (h1 : ¬ sp < 0) (h2 : ¬ dp < 0) (h3 : ¬ n < 0) (h4 : sp.toNatClampNeg + n.toNatClampNeg ≤ n0) (h5 : dp.toNatClampNeg + n.toNatClampNeg ≤ n1)
    (hframes : 1 ≤ R.frames) (hlocals : (rest.map fun v => v.category).sum + (nativeFrameWords "java/lang/System" "arraycopy" 5 + 11) ≤ R.locals) (hdg : decode cc pc = .ok (.invokestatic index, 3))
    (kk : ∀ (H1 : Heap) (locs1 : List Loc), va_P D cl (ws.set q1 (a, .inl (c1, n1, .inl (va_cpy f g sp.toNatClampNeg dp.toNatClampNeg n.toNatClampNeg)))) H1 → va_D A (ws.set q1 (a, .inl (c1, n1, .inl (va_cpy f g sp.toNatClampNeg dp.toNatClampNeg n.toNatClampNeg)))) → va_S A s.heap H1 locs1 → W p l e R s m args below meth c H1 locs1 cells slots Q (F0 m (pc + 3) ls rest)) : W p l e R s m args below meth c H locs cells slots Q (F0 m pc ls (.int n :: .int dp :: .ref a :: .int sp :: .ref b0 :: rest)) := by
  intro T hT X
  obtain ⟨scr, hs1, ⟨hs6, k0, hk0, cm0, hkk0⟩, hs3, hs4, -, hs5, hs7⟩ := hX
  have hc0 : H[b0]? = some scr := by rw [hS.2.1 b0 (Array.getElem?_eq_some_iff.mp hs1).1 hs7]; exact hs1
  have hc1 : H[a]? = some (vp_cell c1 (n1, .inl g)) := hP q1 _ ha1
  obtain ⟨-, k1, hk1, cm1, hkk1⟩ := (hK.2 t1 _ ht1).1 n1 (fun j => .int (g j))
  obtain ⟨vm', X', step⟩ := X.arraycopy hexec hown hlink hnat hstat hini (src := b0) (dst := a) (cs := scr) (cd := vp_cell c1 (n1, .inl g)) (srcPos := sp) (destPos := dp) (n := n) (by rw [hT]; exact hc0) (by rw [hT]; exact hc1)
    hs6 (fun _ h => by cases h) hs3 (fun h => by cases h) hk0 hk1 hkk0 hkk1 (by simp [refKind]) h1 h2 h3
    (by rw [pm_nn h1, pm_nn h3]; omega)
    (by rw [pm_nn h2, pm_nn h3]; show ¬ _ > ((arrV c1 n1 (fun j => .int (g j))).slots.size : Int); rw [arrV_size]; omega)
    (fun vm₁ _ i hi => by
      have e9 : scr.slots.getD (sp.toNatClampNeg + i) .null = .int (f (sp.toNatClampNeg + i)) := by
        rw [Array.getD_eq_getD_getElem?, hs5 _ (by omega)]
        rfl
      rw [e9]
      exact ⟨rfl, trivial⟩)
    (g := F0 m pc ls (.int n :: .int dp :: .ref a :: .int sp :: .ref b0 :: rest)) rfl (by rw [hml]) (rest := rest) rfl (by rw [hb]; exact hdg) hframes (by show 2 * 0 + _ + _ ≤ _; omega)
  have e1 : copied scr (vp_cell c1 (n1, .inl g)) sp dp n = vp_cell c1 (n1, .inl (va_cpy f g sp.toNatClampNeg dp.toNatClampNeg n.toNatClampNeg)) := va_copiedX (fun z => .int z) scr c1 f g hs5 h4
  rw [e1] at X' step
  have hl : a < H.size := (Array.getElem?_eq_some_iff.mp hc1).1
  have hheap : ((T.setVm vm').setCell a (vp_cell c1 (n1, .inl (va_cpy f g sp.toNatClampNeg dp.toNatClampNeg n.toNatClampNeg)))).heap = H.setIfInBounds a (vp_cell c1 (n1, .inl (va_cpy f g sp.toNatClampNeg dp.toNatClampNeg n.toNatClampNeg))) := by rw [← hT]; rfl
  have oq : ∀ q : Nat, q ≠ a → (H.setIfInBounds a (vp_cell c1 (n1, .inl (va_cpy f g sp.toNatClampNeg dp.toNatClampNeg n.toNatClampNeg))))[q]? = H[q]? := fun q hq => by simp [Array.getElem?_setIfInBounds, Ne.symm hq]
  have hAa : A a := hD.2 q1 _ ha1
  obtain ⟨t, a1, b1⟩ := kk _ _ (hP.set hD ha1 (show (H.setIfInBounds a _)[a]? = some _ by simp [Array.getElem?_setIfInBounds, hl]) oq) (hD.set ha1) ⟨by simp; exact hS.1, fun q g1 g2 => by
      rw [oq q (fun e => g2 (by rw [e]; exact hAa))]
      exact hS.2.1 q g1 g2, fun q hq => by
      rcases List.mem_append.mp hq with h | h
      · exact hS.2.2 q h
      · obtain ⟨z, -, hz⟩ := List.mem_map.mp h
        rw [← hz]
        exact hAa⟩ _ hheap X'
  exact ⟨t, step t a1, b1⟩
end COPY
theorem pmk_cp {T : pm_T} {K : pm_K} {cR : Nat → ClassId} {D : va_G} {M : pm_I} {pc index nx : Nat} (hw1 : Cond.methodLink M.1 index arraycopyName ∈ pm_w) (hw2 : Cond.native arraycopyName ∈ pm_w) (hw3 : Cond.static arraycopyName ∈ pm_w) (hw4 : Cond.initialized "java/lang/System" ∈ pm_w) (hf : 1 ≤ M.2.2.2.2.2.1) (hlo : 26 ≤ M.2.2.2.2.2.2)
    (hd : decode M.2.1 pc = .ok (.invokestatic index, 3)) (hn : pc + 3 = nx) : pm_ok T K cR D M pc (pms_cp nx) := by
  intro call cont hcall hcont L st h r h' hS
  unfold pms_cp at hS
  split at hS
  · next n dp b sp a t =>
    split at hS
    · cases hS
    · next hneg =>
      split at hS
      · next l g hrow hcell =>
        split at hS
        · next hcond =>
          obtain ⟨h4, h5, hcat⟩ := hcond
          have n1 : ¬ n < 0 := fun z => hneg (Or.inl z)
          have n2 : ¬ dp < 0 := fun z => hneg (Or.inr (Or.inl z))
          have n3 : ¬ sp < 0 := fun z => hneg (Or.inr (Or.inr z))
          refine pm_G.of_h List.length_set (pm_zs_set (e := .inl (pm_cpy l g sp.toNatClampNeg dp.toNatClampNeg n.toNatClampNeg)) (e0 := .inl g) (pm_cpy_len h4 h5) h b hcell) (hcont _ _ _ _ _ _ hS) ?_
          intro p l0 e R s m args below meth c0 A H locs cells slots Q ad ls hC hP hl kk
          obtain ⟨he, hb, -, hml, ho, hts, -, -, -, hK, hfr, hlr, -⟩ := hC
          subst hn
          have e1 : pm_e cR ad (.inl (pm_cpy l g sp.toNatClampNeg dp.toNatClampNeg n.toNatClampNeg)) = .inl (cR 0, g.length, .inl (va_cpy (fun j : Nat => l.getD j 0) (fun j : Nat => g.getD j 0) sp.toNatClampNeg dp.toNatClampNeg n.toNatClampNeg)) := by simp only [pm_e, pm_cpy_len h4 h5, pm_cpy_at h4 h5]
          have hlo2 : ((t.map (pm_V ad)).map fun v => v.category).sum + (nativeFrameWords "java/lang/System" "arraycopy" 5 + 11) ≤ R.locals := by
            rw [pm_cat]
            have e9 : nativeFrameWords "java/lang/System" "arraycopy" 5 = 7 := by decide +kernel
            omega
          rcases pm_row_of hrow with hcell0 | ⟨j, hj, rfl, hKj⟩
          · exact va_copyi he hb (hml.trans hl.2.1.symm) ho (hts _ hw1) (hts _ hw2) (hts _ hw3) (hts _ hw4) hK hP.1 hP.2.1 hP.2.2.1 a b 0 0 (pm_W_at hcell0) (pm_W_at hcell) rfl rfl rfl n3 n2 n1 h4 h5 (fun _ _ => rfl) (Nat.le_trans hf hfr) hlo2 hd (fun H1 locs1 g1 g2 g3 => kk H1 locs1 ls (hP.set e1 g1 g2 g3) hl)
          · exact pm_copyk he hb (hml.trans hl.2.1.symm) ho (hts _ hw1) (hts _ hw2) (hts _ hw3) (hts _ hw4) hK hP.1 hP.2.1 hP.2.2.1 (hP.2.2.2.1.1 j l hj hKj) b 0 (pm_W_at hcell) rfl n3 n2 n1 h4 h5 (Nat.le_trans hf hfr) hlo2 hd (fun H1 locs1 g1 g2 g3 => kk H1 locs1 ls (hP.set e1 g1 g2 g3) hl)
        · cases hS
      · cases hS
  · cases hS
