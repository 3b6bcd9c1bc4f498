/-! rows over the pure machine: from a point on, the method returns with what P says -/
def Wp (K : pm_K) (k pc : Nat) (L : pm_L) (st : List Value) (h : pm_H) (P : Option Value → pm_H → Prop) : Prop := ∃ (r : Option Value) (h' : pm_H), P r h' ∧ ∀ (cR : Nat → ClassId) (D : va_G), pm_G K cR D (pm_T0 k).2 pc L st h r h'
/-- a method's contract in the pure machine -/
def Wm (k : Nat) (as : List Value) (h : pm_H) (P : Option Value → pm_H → Prop) : Prop := ∃ (r : Option Value) (h' : pm_H), P r h' ∧ ∀ (cR : Nat → ClassId) (D : va_G), pm_M pm_T0 pl_Kc cR D k as h r h'
def pl_sub (K : pm_K) : Prop := ∀ (j : Nat) (l : List Int32), pl_Kc j = some l → K j = some l
theorem pl_sub_c : pl_sub pl_Kc := fun _ _ h => h
section ROWS
variable {K : pm_K} {k pc nx : Nat} {L L2 : pm_L} {st st2 : List Value} {h h2 : pm_H} {P : Option Value → pm_H → Prop}
theorem Wp.one {S : pm_S} (hC : pm_C0 k pc = S) (hS : ∀ (call : Nat → List Value → pm_H → pm_R) (cont : Nat → pm_L → List Value → pm_H → pm_R) (x : pm_R), cont nx L2 st2 h2 = x → S K call cont L st h = x) (hg : Wp K k nx L2 st2 h2 P) : Wp K k pc L st h P := by
  classical
  obtain ⟨r, h', hP, hG⟩ := hg
  refine ⟨r, h', hP, fun cR D => ?_⟩
  have hok := pm_C0_ok (K := K) (cR := cR) (D := D) k pc
  rw [hC] at hok
  refine hok (fun _ _ _ => none) (fun a b c d => if a = nx ∧ b = L2 ∧ c = st2 ∧ d = h2 then some (r, h') else none) (fun _ _ _ _ _ e => by cases e) (fun a b c d r1 h1 e => ?_) L st h r h' (hS _ _ _ (if_pos ⟨rfl, rfl, rfl, rfl⟩))
  split at e
  · next q =>
    obtain ⟨rfl, rfl, rfl, rfl⟩ := q
    cases e
    exact hG cR D
  · cases e
theorem Wp.call {S : pm_S} {c : Nat} {as : List Value} {rest : List Value} {P1 : Option Value → pm_H → Prop} (hKK : pl_sub K) (hC : pm_C0 k pc = S) (hS : ∀ (call : Nat → List Value → pm_H → pm_R) (cont : Nat → pm_L → List Value → pm_H → pm_R), S K call cont L st h = pm_back cont nx L rest h (call c as h)) (hcat : (rest.map fun v => v.category).sum ≤ 8)
    (hm : Wm c as h P1) (hlen : ∀ r2 h2, P1 r2 h2 → h2.length = h.length ∨ (pm_rL h.length h2.length L = true ∧ pm_rS h.length h2.length rest = true)) (hg : ∀ r2 h2, P1 r2 h2 → Wp K k nx L (r2.toList ++ rest) h2 P) : Wp K k pc L st h P := by
  classical
  obtain ⟨r2, h2, hP1, hM⟩ := hm
  obtain ⟨r, h', hP, hG⟩ := hg r2 h2 hP1
  refine ⟨r, h', hP, fun cR D => ?_⟩
  have hok := pm_C0_ok (K := K) (cR := cR) (D := D) k pc
  rw [hC] at hok
  refine hok (fun a b d => if a = c ∧ b = as ∧ d = h then some (r2, h2) else none) (fun a b c d => if a = nx ∧ b = L ∧ c = r2.toList ++ rest ∧ d = h2 then some (r, h') else none) (fun a b d r1 h1 e => ?_) (fun a b c d r1 h1 e => ?_) L st h r h' ?_
  · split at e
    · next q =>
      obtain ⟨rfl, rfl, rfl⟩ := q
      cases e
      exact pm_M.more hKK (hM cR D)
    · cases e
  · split at e
    · next q =>
      obtain ⟨rfl, rfl, rfl, rfl⟩ := q
      cases e
      exact hG cR D
    · cases e
  · rw [hS, if_pos ⟨rfl, rfl, rfl⟩]
    show (if _ then _ else none) = _
    rw [if_pos ⟨hcat, hlen r2 h2 hP1⟩, if_pos ⟨rfl, rfl, rfl, rfl⟩]
theorem Wp.ret {S : pm_S} {r : Option Value} (hC : pm_C0 k pc = S) (hS : ∀ (call : Nat → List Value → pm_H → pm_R) (cont : Nat → pm_L → List Value → pm_H → pm_R), S K call cont L st h = some (r, h)) (hP : P r h) : Wp K k pc L st h P := by
  refine ⟨r, h, hP, fun cR D => ?_⟩
  have hok := pm_C0_ok (K := K) (cR := cR) (D := D) k pc
  rw [hC] at hok
  exact hok (fun _ _ _ => none) (fun _ _ _ _ => none) (fun _ _ _ _ _ e => by cases e) (fun _ _ _ _ _ _ e => by cases e) L st h r h (hS _ _)
theorem Wp.mono {Q : Option Value → pm_H → Prop} (hg : Wp K k pc L st h P) (hPQ : ∀ r h', P r h' → Q r h') : Wp K k pc L st h Q := by
  obtain ⟨r, h', hP, hG⟩ := hg
  exact ⟨r, h', hPQ r h' hP, hG⟩
theorem Wm.mono {as : List Value} {Q : Option Value → pm_H → Prop} (hg : Wm k as h P) (hPQ : ∀ r h', P r h' → Q r h') : Wm k as h Q := by
  obtain ⟨r, h', hP, hG⟩ := hg
  exact ⟨r, h', hPQ r h' hP, hG⟩
/-- a contract out of the walk of the body -/
theorem Wm.of {as : List Value} {t : MethodName × pm_I} {L0 : pm_L} (hT : pm_T0 k = t) (hlen : (pm_la as).length ≤ t.2.2.2.1) (hL : pm_en t.2.2.2.1 as = L0) (hg : Wp pl_Kc k 0 L0 [] h P) : Wm k as h P := by
  obtain ⟨r, h', hP, hG⟩ := hg
  refine ⟨r, h', hP, fun cR D => ?_⟩
  have h1 := pT_of (pT_all k)
  exact pm_M_of h1.1 h1.2.1 h1.2.2 (by rw [hT]; exact hlen) (by rw [hT, hL]; have h2 := hG cR D; rw [hT] at h2; exact h2)
/-- a contract out of a run -/
theorem Wm.run {as : List Value} {n : Nat} {r : Option Value} {h' : pm_H} (hr : pm_call pm_C0 pm_T0 pl_Kc n k as h = some (r, h')) (hP : P r h') : Wm k as h P := by
  refine ⟨r, h', hP, fun cR D => ?_⟩
  have h1 := pT_of (pT_all k)
  unfold pm_call at hr
  split at hr
  · next hlen => exact pm_M_of h1.1 h1.2.1 h1.2.2 hlen (pm_sound (fun k => pm_C0_ok k) (fun k => (pT_of (pT_all k)).1) (fun k => (pT_of (pT_all k)).2.1) (fun k => (pT_of (pT_all k)).2.2) n k 0 _ _ _ _ _ hr)
  · cases hr
theorem w_li {i : Nat} {x : Int32} (hC : pm_C0 k pc = pms_li i nx) (hL : L[i]? = some (some (.int x))) (hg : Wp K k nx L (.int x :: st) h P) : Wp K k pc L st h P := Wp.one hC (fun call cont y hy => by simp only [pms_li, hL]; exact hy) hg
theorem w_ll {i : Nat} {x : Int64} (hC : pm_C0 k pc = pms_ll i nx) (hL : L[i]? = some (some (.long x))) (hg : Wp K k nx L (.long x :: st) h P) : Wp K k pc L st h P := Wp.one hC (fun call cont y hy => by simp only [pms_ll, hL]; exact hy) hg
theorem w_la {i a : Nat} (hC : pm_C0 k pc = pms_la i nx) (hL : L[i]? = some (some (.ref a))) (hg : Wp K k nx L (.ref a :: st) h P) : Wp K k pc L st h P := Wp.one hC (fun call cont y hy => by simp only [pms_la, hL]; exact hy) hg
theorem w_si {i : Nat} {x : Int32} (hC : pm_C0 k pc = pms_si i nx) (hlt : i < L.length) (hL : pm_s L i (.int x) = L2) (hg : Wp K k nx L2 st h P) : Wp K k pc L (.int x :: st) h P := Wp.one hC (fun call cont y hy => by simp only [pms_si, if_pos hlt, hL]; exact hy) hg
theorem w_sl {i : Nat} {x : Int64} (hC : pm_C0 k pc = pms_sl i nx) (hlt : i + 1 < L.length) (hL : pm_s2 L i (.long x) = L2) (hg : Wp K k nx L2 st h P) : Wp K k pc L (.long x :: st) h P := Wp.one hC (fun call cont y hy => by simp only [pms_sl, if_pos hlt, hL]; exact hy) hg
theorem w_sa {i a : Nat} (hC : pm_C0 k pc = pms_sa i nx) (hlt : i < L.length) (hL : pm_s L i (.ref a) = L2) (hg : Wp K k nx L2 st h P) : Wp K k pc L (.ref a :: st) h P := Wp.one hC (fun call cont y hy => by simp only [pms_sa, if_pos hlt, hL]; exact hy) hg
theorem w_ci {v : Int32} (hC : pm_C0 k pc = pms_ci v nx) (hg : Wp K k nx L (.int v :: st) h P) : Wp K k pc L st h P := Wp.one hC (fun call cont y hy => hy) hg
theorem w_cl {v : Int64} (hC : pm_C0 k pc = pms_cl v nx) (hg : Wp K k nx L (.long v :: st) h P) : Wp K k pc L st h P := Wp.one hC (fun call cont y hy => hy) hg
theorem w_inc {i : Nat} {x n : Int32} (hC : pm_C0 k pc = pms_inc i n nx) (hL : L[i]? = some (some (.int x))) (hL2 : pm_s L i (.int (x + n)) = L2) (hg : Wp K k nx L2 st h P) : Wp K k pc L st h P := Wp.one hC (fun call cont y hy => by simp only [pms_inc, hL, hL2]; exact hy) hg
theorem w_iadd {x y : Int32} (hC : pm_C0 k pc = pms_b pmf_iadd nx) (hg : Wp K k nx L (.int (x + y) :: st) h P) : Wp K k pc L (.int y :: .int x :: st) h P := Wp.one hC (fun call cont z hz => hz) hg
theorem w_isub {x y : Int32} (hC : pm_C0 k pc = pms_b pmf_isub nx) (hg : Wp K k nx L (.int (x - y) :: st) h P) : Wp K k pc L (.int y :: .int x :: st) h P := Wp.one hC (fun call cont z hz => hz) hg
theorem w_imul {x y : Int32} (hC : pm_C0 k pc = pms_b pmf_imul nx) (hg : Wp K k nx L (.int (x * y) :: st) h P) : Wp K k pc L (.int y :: .int x :: st) h P := Wp.one hC (fun call cont z hz => hz) hg
theorem w_iand {x y : Int32} (hC : pm_C0 k pc = pms_b pmf_iand nx) (hg : Wp K k nx L (.int (x &&& y) :: st) h P) : Wp K k pc L (.int y :: .int x :: st) h P := Wp.one hC (fun call cont z hz => hz) hg
theorem w_ior {x y : Int32} (hC : pm_C0 k pc = pms_b pmf_ior nx) (hg : Wp K k nx L (.int (x ||| y) :: st) h P) : Wp K k pc L (.int y :: .int x :: st) h P := Wp.one hC (fun call cont z hz => hz) hg
theorem w_ixor {x y : Int32} (hC : pm_C0 k pc = pms_b pmf_ixor nx) (hg : Wp K k nx L (.int (x ^^^ y) :: st) h P) : Wp K k pc L (.int y :: .int x :: st) h P := Wp.one hC (fun call cont z hz => hz) hg
theorem w_ishl {x y : Int32} (hC : pm_C0 k pc = pms_b pmf_ishl nx) (hg : Wp K k nx L (.int (x <<< (y &&& 31)) :: st) h P) : Wp K k pc L (.int y :: .int x :: st) h P := Wp.one hC (fun call cont z hz => hz) hg
theorem w_ishr {x y : Int32} (hC : pm_C0 k pc = pms_b pmf_ishr nx) (hg : Wp K k nx L (.int (x >>> (y &&& 31)) :: st) h P) : Wp K k pc L (.int y :: .int x :: st) h P := Wp.one hC (fun call cont z hz => hz) hg
theorem w_iushr {x y : Int32} (hC : pm_C0 k pc = pms_b pmf_iushr nx) (hg : Wp K k nx L (.int (pmf_iushr x y) :: st) h P) : Wp K k pc L (.int y :: .int x :: st) h P := Wp.one hC (fun call cont z hz => hz) hg
theorem w_idiv {x y : Int32} (hC : pm_C0 k pc = pms_bd pmf_idiv nx) (hy : ¬ y = 0) (hg : Wp K k nx L (.int (x / y) :: st) h P) : Wp K k pc L (.int y :: .int x :: st) h P := Wp.one hC (fun call cont z hz => by simp only [pms_bd, if_neg hy]; exact hz) hg
theorem w_irem {x y : Int32} (hC : pm_C0 k pc = pms_bd pmf_irem nx) (hy : ¬ y = 0) (hg : Wp K k nx L (.int (x - x / y * y) :: st) h P) : Wp K k pc L (.int y :: .int x :: st) h P := Wp.one hC (fun call cont z hz => by simp only [pms_bd, if_neg hy]; exact hz) hg
theorem w_ineg {x : Int32} (hC : pm_C0 k pc = pms_u pmf_ineg nx) (hg : Wp K k nx L (.int (-x) :: st) h P) : Wp K k pc L (.int x :: st) h P := Wp.one hC (fun call cont z hz => hz) hg
theorem w_i2b {x : Int32} (hC : pm_C0 k pc = pms_u pmf_i2b nx) (hg : Wp K k nx L (.int (x.toInt8.toInt32) :: st) h P) : Wp K k pc L (.int x :: st) h P := Wp.one hC (fun call cont z hz => hz) hg
theorem w_i2s {x : Int32} (hC : pm_C0 k pc = pms_u pmf_i2s nx) (hg : Wp K k nx L (.int (x.toInt16.toInt32) :: st) h P) : Wp K k pc L (.int x :: st) h P := Wp.one hC (fun call cont z hz => hz) hg
theorem w_ladd {x y : Int64} (hC : pm_C0 k pc = pms_lb pmf_ladd nx) (hg : Wp K k nx L (.long (x + y) :: st) h P) : Wp K k pc L (.long y :: .long x :: st) h P := Wp.one hC (fun call cont z hz => hz) hg
theorem w_lsub {x y : Int64} (hC : pm_C0 k pc = pms_lb pmf_lsub nx) (hg : Wp K k nx L (.long (x - y) :: st) h P) : Wp K k pc L (.long y :: .long x :: st) h P := Wp.one hC (fun call cont z hz => hz) hg
theorem w_lmul {x y : Int64} (hC : pm_C0 k pc = pms_lb pmf_lmul nx) (hg : Wp K k nx L (.long (x * y) :: st) h P) : Wp K k pc L (.long y :: .long x :: st) h P := Wp.one hC (fun call cont z hz => hz) hg
theorem w_land {x y : Int64} (hC : pm_C0 k pc = pms_lb pmf_land nx) (hg : Wp K k nx L (.long (x &&& y) :: st) h P) : Wp K k pc L (.long y :: .long x :: st) h P := Wp.one hC (fun call cont z hz => hz) hg
theorem w_lor {x y : Int64} (hC : pm_C0 k pc = pms_lb pmf_lor nx) (hg : Wp K k nx L (.long (x ||| y) :: st) h P) : Wp K k pc L (.long y :: .long x :: st) h P := Wp.one hC (fun call cont z hz => hz) hg
theorem w_ldiv {x y : Int64} (hC : pm_C0 k pc = pms_lbd pmf_ldiv nx) (hy : ¬ y = 0) (hg : Wp K k nx L (.long (x / y) :: st) h P) : Wp K k pc L (.long y :: .long x :: st) h P := Wp.one hC (fun call cont z hz => by simp only [pms_lbd, if_neg hy]; exact hz) hg
theorem w_lrem {x y : Int64} (hC : pm_C0 k pc = pms_lbd pmf_lrem nx) (hy : ¬ y = 0) (hg : Wp K k nx L (.long (x - x / y * y) :: st) h P) : Wp K k pc L (.long y :: .long x :: st) h P := Wp.one hC (fun call cont z hz => by simp only [pms_lbd, if_neg hy]; exact hz) hg
theorem w_lshl {x : Int64} {y : Int32} (hC : pm_C0 k pc = pms_ls pmf_lshl nx) (hg : Wp K k nx L (.long (pmf_lshl x y) :: st) h P) : Wp K k pc L (.int y :: .long x :: st) h P := Wp.one hC (fun call cont z hz => hz) hg
theorem w_lshr {x : Int64} {y : Int32} (hC : pm_C0 k pc = pms_ls pmf_lshr nx) (hg : Wp K k nx L (.long (pmf_lshr x y) :: st) h P) : Wp K k pc L (.int y :: .long x :: st) h P := Wp.one hC (fun call cont z hz => hz) hg
theorem w_lushr {x : Int64} {y : Int32} (hC : pm_C0 k pc = pms_ls pmf_lushr nx) (hg : Wp K k nx L (.long (pmf_lushr x y) :: st) h P) : Wp K k pc L (.int y :: .long x :: st) h P := Wp.one hC (fun call cont z hz => hz) hg
theorem w_cmp {x y : Int64} (hC : pm_C0 k pc = pms_cmp nx) (hg : Wp K k nx L (.int (lg_cmp x y) :: st) h P) : Wp K k pc L (.long y :: .long x :: st) h P := Wp.one hC (fun call cont z hz => hz) hg
theorem w_i2l {x : Int32} (hC : pm_C0 k pc = pms_i2l nx) (hg : Wp K k nx L (.long x.toInt64 :: st) h P) : Wp K k pc L (.int x :: st) h P := Wp.one hC (fun call cont z hz => hz) hg
theorem w_l2i {x : Int64} (hC : pm_C0 k pc = pms_l2i nx) (hg : Wp K k nx L (.int x.toInt32 :: st) h P) : Wp K k pc L (.long x :: st) h P := Wp.one hC (fun call cont z hz => hz) hg
theorem w_dup {v : Value} (hC : pm_C0 k pc = pms_dup nx) (hv : v.category = 1) (hg : Wp K k nx L (v :: v :: st) h P) : Wp K k pc L (v :: st) h P := Wp.one hC (fun call cont z hz => by simp only [pms_dup, if_pos hv]; exact hz) hg
theorem w_dup2 {v w : Value} (hC : pm_C0 k pc = pms_dup2 nx) (hv : v.category = 1) (hw : w.category = 1) (hg : Wp K k nx L (v :: w :: v :: w :: st) h P) : Wp K k pc L (v :: w :: st) h P := Wp.one hC (fun call cont z hz => by simp only [pms_dup2, if_pos (And.intro hv hw)]; exact hz) hg
theorem w_pop {v : Value} (hC : pm_C0 k pc = pms_pop nx) (hv : v.category = 1) (hg : Wp K k nx L st h P) : Wp K k pc L (v :: st) h P := Wp.one hC (fun call cont z hz => by simp only [pms_pop, if_pos hv]; exact hz) hg
theorem w_mm {f : Int32 → Int32 → Int32} {x y : Int32} (hC : pm_C0 k pc = pms_mm f nx) (hcat : (st.map fun v => v.category).sum ≤ 8) (hg : Wp K k nx L (.int (f x y) :: st) h P) : Wp K k pc L (.int y :: .int x :: st) h P := Wp.one hC (fun call cont z hz => by simp only [pms_mm, if_pos hcat]; exact hz) hg
theorem w_go {tg : Nat} (hC : pm_C0 k pc = pms_go tg) (hg : Wp K k tg L st h P) : Wp K k pc L st h P := Wp.one hC (fun call cont z hz => hz) hg
theorem w_swI {x : Int32} {lo : Int} {ts : List Nat} {d tg : Nat} (hC : pm_C0 k pc = pms_sw lo ts d) (ht : (if x.toInt < lo then d else (ts[(x.toInt - lo).toNat]?).getD d) = tg) (hg : Wp K k tg L st h P) : Wp K k pc L (.int x :: st) h P := Wp.one hC (fun call cont z hz => by simp only [pms_sw, ht]; exact hz) hg
theorem w_ri {x : Int32} (hC : pm_C0 k pc = pms_ri) (hP : P (some (.int x)) h) : Wp K k pc L [.int x] h P := Wp.ret hC (fun _ _ => rfl) hP
theorem w_rz {x : Int32} (hC : pm_C0 k pc = pms_rz) (hx : (x == 0 || x == 1) = true) (hP : P (some (.int x)) h) : Wp K k pc L [.int x] h P := Wp.ret hC (fun _ _ => by simp only [pms_rz, if_pos hx]) hP
theorem w_rl {x : Int64} (hC : pm_C0 k pc = pms_rl) (hP : P (some (.long x)) h) : Wp K k pc L [.long x] h P := Wp.ret hC (fun _ _ => rfl) hP
theorem w_ra {x : Nat} (hC : pm_C0 k pc = pms_ra) (hP : P (some (.ref x)) h) : Wp K k pc L [.ref x] h P := Wp.ret hC (fun _ _ => rfl) hP
theorem w_rv (hC : pm_C0 k pc = pms_rv) (hP : P none h) : Wp K k pc L [] h P := Wp.ret hC (fun _ _ => rfl) hP
theorem w_oi {a : Nat} (hC : pm_C0 k pc = pms_oi nx) (hcat : (st.map fun v => v.category).sum ≤ 8) (hg : Wp K k nx L st h P) : Wp K k pc L (.ref a :: st) h P := Wp.one hC (fun call cont z hz => by simp only [pms_oi, if_pos hcat]; exact hz) hg
theorem w_gs {j : Nat} (hC : pm_C0 k pc = pms_gs j nx) (hg : Wp K k nx L (.ref (pm_B + j) :: st) h P) : Wp K k pc L st h P := Wp.one hC (fun call cont z hz => hz) hg
theorem w_gf {ci j a : Nat} {fs : List Value} {v : Value} (hC : pm_C0 k pc = pms_gf ci j nx) (hcell : h[a]? = some (pm_ob ci fs)) (hv : fs[j]? = some v) (hg : Wp K k nx L (v :: st) h P) : Wp K k pc L (.ref a :: st) h P := Wp.one hC (fun call cont z hz => by simp only [pms_gf, hcell, if_pos, hv]; exact hz) hg
theorem w_pf {ci j a : Nat} {fs : List Value} {v : Value} {ck : Value → Bool} (hC : pm_C0 k pc = pms_pf ci j ck nx) (hck : ck v = true) (hcell : h[a]? = some (pm_ob ci fs)) (hj : j < fs.length) (hset : h.set a (pm_ob ci (fs.set j v)) = h2) (hg : Wp K k nx L st h2 P) : Wp K k pc L (v :: .ref a :: st) h P := Wp.one hC (fun call cont z hz => by simp only [pms_pf, hck, hcell, if_pos, hj, and_self]; rw [show h.set a (.inr (.inr (.inr (ci, fs.set j v)))) = h2 from hset]; exact hz) hg
theorem w_ia {a : Nat} {i x : Int32} {l : List Int32} (hC : pm_C0 k pc = pms_ia nx) (hrow : pm_row K h a = some l) (hi : ¬ i < 0) (hx : l[i.toNatClampNeg]? = some x) (hg : Wp K k nx L (.int x :: st) h P) : Wp K k pc L (.int i :: .ref a :: st) h P := Wp.one hC (fun call cont z hz => by simp only [pms_ia, if_neg hi, hrow, hx]; exact hz) hg
theorem w_is {a : Nat} {i x : Int32} {l : List Int32} (hC : pm_C0 k pc = pms_is nx) (hcell : h[a]? = some (.inl l)) (hi : ¬ i < 0) (hlt : i.toNatClampNeg < l.length) (hset : h.set a (.inl (l.set i.toNatClampNeg x)) = h2) (hg : Wp K k nx L st h2 P) : Wp K k pc L (.int x :: .int i :: .ref a :: st) h P := Wp.one hC (fun call cont z hz => by simp only [pms_is, if_neg hi, hcell, if_pos hlt, hset]; exact hz) hg
theorem w_ja {a : Nat} {i : Int32} {x : Int64} {l : List Int64} (hC : pm_C0 k pc = pms_ja nx) (hcell : h[a]? = some (.inr (.inl l))) (hi : ¬ i < 0) (hx : l[i.toNatClampNeg]? = some x) (hg : Wp K k nx L (.long x :: st) h P) : Wp K k pc L (.int i :: .ref a :: st) h P := Wp.one hC (fun call cont z hz => by simp only [pms_ja, if_neg hi, hcell, hx]; exact hz) hg
theorem w_js {a : Nat} {i : Int32} {x : Int64} {l : List Int64} (hC : pm_C0 k pc = pms_js nx) (hcell : h[a]? = some (.inr (.inl l))) (hi : ¬ i < 0) (hlt : i.toNatClampNeg < l.length) (hset : h.set a (.inr (.inl (l.set i.toNatClampNeg x))) = h2) (hg : Wp K k nx L st h2 P) : Wp K k pc L (.long x :: .int i :: .ref a :: st) h P := Wp.one hC (fun call cont z hz => by simp only [pms_js, if_neg hi, hcell, if_pos hlt, hset]; exact hz) hg
theorem w_aa {a ty q : Nat} {i : Int32} {l : List (Option Nat)} (hC : pm_C0 k pc = pms_aa ty nx) (hcell : h[a]? = some (pm_qr ty l)) (hi : ¬ i < 0) (hx : l[i.toNatClampNeg]? = some (some q)) (hg : Wp K k nx L (.ref q :: st) h P) : Wp K k pc L (.int i :: .ref a :: st) h P := Wp.one hC (fun call cont z hz => by simp only [pms_aa, if_neg hi, hcell, if_pos, hx]; exact hz) hg
theorem w_len {a n : Nat} (hC : pm_C0 k pc = pms_len nx) (hl : pm_len K h a = some n) (hg : Wp K k nx L (.int (Int32.ofNat n) :: st) h P) : Wp K k pc L (.ref a :: st) h P := Wp.one hC (fun call cont z hz => by simp only [pms_len, hl]; exact hz) hg
theorem w_cp {a b : Nat} {n dp sp : Int32} {l g : List Int32} (hC : pm_C0 k pc = pms_cp nx) (hneg : ¬ (n < 0 ∨ dp < 0 ∨ sp < 0)) (hrow : pm_row K h a = some l) (hcell : h[b]? = some (.inl g)) (hb : sp.toNatClampNeg + n.toNatClampNeg ≤ l.length ∧ dp.toNatClampNeg + n.toNatClampNeg ≤ g.length ∧ (st.map fun v => v.category).sum ≤ 8) (hset : h.set b (.inl (pm_cpy l g sp.toNatClampNeg dp.toNatClampNeg n.toNatClampNeg)) = h2) (hg : Wp K k nx L st h2 P) : Wp K k pc L (.int n :: .int dp :: .ref b :: .int sp :: .ref a :: st) h P := Wp.one hC (fun call cont z hz => by simp only [pms_cp, if_neg hneg, hrow, hcell, if_pos hb, hset]; exact hz) hg
theorem w_if_eq {x : Int32} {tg : Nat} (hC : pm_C0 k pc = pms_if pmp_eq tg nx) (ht : x = 0 → Wp K k tg L st h P) (hf : ¬ (x = 0) → Wp K k nx L st h P) : Wp K k pc L (.int x :: st) h P := by
  by_cases c : x = 0
  · exact Wp.one hC (fun call cont z hz => by simp only [pms_if, show pmp_eq x = true from decide_eq_true c]; exact hz) (ht c)
  · exact Wp.one hC (fun call cont z hz => by simp only [pms_if, show pmp_eq x = false from decide_eq_false c]; exact hz) (hf c)
theorem w_if_ne {x : Int32} {tg : Nat} (hC : pm_C0 k pc = pms_if pmp_ne tg nx) (ht : ¬ x = 0 → Wp K k tg L st h P) (hf : ¬ (¬ x = 0) → Wp K k nx L st h P) : Wp K k pc L (.int x :: st) h P := by
  by_cases c : ¬ x = 0
  · exact Wp.one hC (fun call cont z hz => by simp only [pms_if, show pmp_ne x = true from decide_eq_true c]; exact hz) (ht c)
  · exact Wp.one hC (fun call cont z hz => by simp only [pms_if, show pmp_ne x = false from decide_eq_false c]; exact hz) (hf c)
theorem w_if_lt {x : Int32} {tg : Nat} (hC : pm_C0 k pc = pms_if pmp_lt tg nx) (ht : x < 0 → Wp K k tg L st h P) (hf : ¬ (x < 0) → Wp K k nx L st h P) : Wp K k pc L (.int x :: st) h P := by
  by_cases c : x < 0
  · exact Wp.one hC (fun call cont z hz => by simp only [pms_if, show pmp_lt x = true from decide_eq_true c]; exact hz) (ht c)
  · exact Wp.one hC (fun call cont z hz => by simp only [pms_if, show pmp_lt x = false from decide_eq_false c]; exact hz) (hf c)
theorem w_if_ge {x : Int32} {tg : Nat} (hC : pm_C0 k pc = pms_if pmp_ge tg nx) (ht : 0 ≤ x → Wp K k tg L st h P) (hf : ¬ (0 ≤ x) → Wp K k nx L st h P) : Wp K k pc L (.int x :: st) h P := by
  by_cases c : 0 ≤ x
  · exact Wp.one hC (fun call cont z hz => by simp only [pms_if, show pmp_ge x = true from decide_eq_true c]; exact hz) (ht c)
  · exact Wp.one hC (fun call cont z hz => by simp only [pms_if, show pmp_ge x = false from decide_eq_false c]; exact hz) (hf c)
theorem w_if_gt {x : Int32} {tg : Nat} (hC : pm_C0 k pc = pms_if pmp_gt tg nx) (ht : 0 < x → Wp K k tg L st h P) (hf : ¬ (0 < x) → Wp K k nx L st h P) : Wp K k pc L (.int x :: st) h P := by
  by_cases c : 0 < x
  · exact Wp.one hC (fun call cont z hz => by simp only [pms_if, show pmp_gt x = true from decide_eq_true c]; exact hz) (ht c)
  · exact Wp.one hC (fun call cont z hz => by simp only [pms_if, show pmp_gt x = false from decide_eq_false c]; exact hz) (hf c)
theorem w_if_le {x : Int32} {tg : Nat} (hC : pm_C0 k pc = pms_if pmp_le tg nx) (ht : x ≤ 0 → Wp K k tg L st h P) (hf : ¬ (x ≤ 0) → Wp K k nx L st h P) : Wp K k pc L (.int x :: st) h P := by
  by_cases c : x ≤ 0
  · exact Wp.one hC (fun call cont z hz => by simp only [pms_if, show pmp_le x = true from decide_eq_true c]; exact hz) (ht c)
  · exact Wp.one hC (fun call cont z hz => by simp only [pms_if, show pmp_le x = false from decide_eq_false c]; exact hz) (hf c)
theorem w_ic_eq {x y : Int32} {tg : Nat} (hC : pm_C0 k pc = pms_if2 pmq_eq tg nx) (ht : x = y → Wp K k tg L st h P) (hf : ¬ (x = y) → Wp K k nx L st h P) : Wp K k pc L (.int y :: .int x :: st) h P := by
  by_cases c : x = y
  · exact Wp.one hC (fun call cont z hz => by simp only [pms_if2, show pmq_eq x y = true from decide_eq_true c]; exact hz) (ht c)
  · exact Wp.one hC (fun call cont z hz => by simp only [pms_if2, show pmq_eq x y = false from decide_eq_false c]; exact hz) (hf c)
theorem w_ic_ne {x y : Int32} {tg : Nat} (hC : pm_C0 k pc = pms_if2 pmq_ne tg nx) (ht : ¬ x = y → Wp K k tg L st h P) (hf : ¬ (¬ x = y) → Wp K k nx L st h P) : Wp K k pc L (.int y :: .int x :: st) h P := by
  by_cases c : ¬ x = y
  · exact Wp.one hC (fun call cont z hz => by simp only [pms_if2, show pmq_ne x y = true from decide_eq_true c]; exact hz) (ht c)
  · exact Wp.one hC (fun call cont z hz => by simp only [pms_if2, show pmq_ne x y = false from decide_eq_false c]; exact hz) (hf c)
theorem w_ic_lt {x y : Int32} {tg : Nat} (hC : pm_C0 k pc = pms_if2 pmq_lt tg nx) (ht : x < y → Wp K k tg L st h P) (hf : ¬ (x < y) → Wp K k nx L st h P) : Wp K k pc L (.int y :: .int x :: st) h P := by
  by_cases c : x < y
  · exact Wp.one hC (fun call cont z hz => by simp only [pms_if2, show pmq_lt x y = true from decide_eq_true c]; exact hz) (ht c)
  · exact Wp.one hC (fun call cont z hz => by simp only [pms_if2, show pmq_lt x y = false from decide_eq_false c]; exact hz) (hf c)
theorem w_ic_ge {x y : Int32} {tg : Nat} (hC : pm_C0 k pc = pms_if2 pmq_ge tg nx) (ht : y ≤ x → Wp K k tg L st h P) (hf : ¬ (y ≤ x) → Wp K k nx L st h P) : Wp K k pc L (.int y :: .int x :: st) h P := by
  by_cases c : y ≤ x
  · exact Wp.one hC (fun call cont z hz => by simp only [pms_if2, show pmq_ge x y = true from decide_eq_true c]; exact hz) (ht c)
  · exact Wp.one hC (fun call cont z hz => by simp only [pms_if2, show pmq_ge x y = false from decide_eq_false c]; exact hz) (hf c)
theorem w_ic_gt {x y : Int32} {tg : Nat} (hC : pm_C0 k pc = pms_if2 pmq_gt tg nx) (ht : y < x → Wp K k tg L st h P) (hf : ¬ (y < x) → Wp K k nx L st h P) : Wp K k pc L (.int y :: .int x :: st) h P := by
  by_cases c : y < x
  · exact Wp.one hC (fun call cont z hz => by simp only [pms_if2, show pmq_gt x y = true from decide_eq_true c]; exact hz) (ht c)
  · exact Wp.one hC (fun call cont z hz => by simp only [pms_if2, show pmq_gt x y = false from decide_eq_false c]; exact hz) (hf c)
theorem w_ic_le {x y : Int32} {tg : Nat} (hC : pm_C0 k pc = pms_if2 pmq_le tg nx) (ht : x ≤ y → Wp K k tg L st h P) (hf : ¬ (x ≤ y) → Wp K k nx L st h P) : Wp K k pc L (.int y :: .int x :: st) h P := by
  by_cases c : x ≤ y
  · exact Wp.one hC (fun call cont z hz => by simp only [pms_if2, show pmq_le x y = true from decide_eq_true c]; exact hz) (ht c)
  · exact Wp.one hC (fun call cont z hz => by simp only [pms_if2, show pmq_le x y = false from decide_eq_false c]; exact hz) (hf c)
theorem w_st0 {c : Nat} {P1 : Option Value → pm_H → Prop} (hKK : pl_sub K) (hC : pm_C0 k pc = pms_st c 0 nx) (hcat : (st.map fun v => v.category).sum ≤ 8) (hm : Wm c [] h P1) (hlen : ∀ r2 h2, P1 r2 h2 → h2.length = h.length) (hg : ∀ r2 h2, P1 r2 h2 → Wp K k nx L (r2.toList ++ st) h2 P) : Wp K k pc L (st) h P :=
  Wp.call hKK hC (fun call cont => by simp [pms_st]) hcat hm (fun r2 h2 q => Or.inl (hlen r2 h2 q)) hg
theorem w_vi0 {ci c b : Nat} {fs : List Value} {P1 : Option Value → pm_H → Prop} (hKK : pl_sub K) (hC : pm_C0 k pc = pms_vi ci c 0 nx) (hcell : h[b]? = some (pm_ob ci fs)) (hcat : (st.map fun v => v.category).sum ≤ 8) (hm : Wm c [.ref b] h P1) (hlen : ∀ r2 h2, P1 r2 h2 → h2.length = h.length) (hg : ∀ r2 h2, P1 r2 h2 → Wp K k nx L (r2.toList ++ st) h2 P) : Wp K k pc L (.ref b :: st) h P :=
  Wp.call hKK hC (fun call cont => by simp [pms_vi, hcell]) hcat hm (fun r2 h2 q => Or.inl (hlen r2 h2 q)) hg
theorem w_st1 {c : Nat} {v0 : Value} {P1 : Option Value → pm_H → Prop} (hKK : pl_sub K) (hC : pm_C0 k pc = pms_st c 1 nx) (hcat : (st.map fun v => v.category).sum ≤ 8) (hm : Wm c [v0] h P1) (hlen : ∀ r2 h2, P1 r2 h2 → h2.length = h.length) (hg : ∀ r2 h2, P1 r2 h2 → Wp K k nx L (r2.toList ++ st) h2 P) : Wp K k pc L (v0 :: st) h P :=
  Wp.call hKK hC (fun call cont => by simp [pms_st]) hcat hm (fun r2 h2 q => Or.inl (hlen r2 h2 q)) hg
theorem w_vi1 {ci c b : Nat} {fs : List Value} {v0 : Value} {P1 : Option Value → pm_H → Prop} (hKK : pl_sub K) (hC : pm_C0 k pc = pms_vi ci c 1 nx) (hcell : h[b]? = some (pm_ob ci fs)) (hcat : (st.map fun v => v.category).sum ≤ 8) (hm : Wm c [.ref b, v0] h P1) (hlen : ∀ r2 h2, P1 r2 h2 → h2.length = h.length) (hg : ∀ r2 h2, P1 r2 h2 → Wp K k nx L (r2.toList ++ st) h2 P) : Wp K k pc L (v0 :: .ref b :: st) h P :=
  Wp.call hKK hC (fun call cont => by simp [pms_vi, hcell]) hcat hm (fun r2 h2 q => Or.inl (hlen r2 h2 q)) hg
theorem w_st2 {c : Nat} {v0 v1 : Value} {P1 : Option Value → pm_H → Prop} (hKK : pl_sub K) (hC : pm_C0 k pc = pms_st c 2 nx) (hcat : (st.map fun v => v.category).sum ≤ 8) (hm : Wm c [v0, v1] h P1) (hlen : ∀ r2 h2, P1 r2 h2 → h2.length = h.length) (hg : ∀ r2 h2, P1 r2 h2 → Wp K k nx L (r2.toList ++ st) h2 P) : Wp K k pc L (v1 :: v0 :: st) h P :=
  Wp.call hKK hC (fun call cont => by simp [pms_st]) hcat hm (fun r2 h2 q => Or.inl (hlen r2 h2 q)) hg
theorem w_vi2 {ci c b : Nat} {fs : List Value} {v0 v1 : Value} {P1 : Option Value → pm_H → Prop} (hKK : pl_sub K) (hC : pm_C0 k pc = pms_vi ci c 2 nx) (hcell : h[b]? = some (pm_ob ci fs)) (hcat : (st.map fun v => v.category).sum ≤ 8) (hm : Wm c [.ref b, v0, v1] h P1) (hlen : ∀ r2 h2, P1 r2 h2 → h2.length = h.length) (hg : ∀ r2 h2, P1 r2 h2 → Wp K k nx L (r2.toList ++ st) h2 P) : Wp K k pc L (v1 :: v0 :: .ref b :: st) h P :=
  Wp.call hKK hC (fun call cont => by simp [pms_vi, hcell]) hcat hm (fun r2 h2 q => Or.inl (hlen r2 h2 q)) hg
theorem w_st3 {c : Nat} {v0 v1 v2 : Value} {P1 : Option Value → pm_H → Prop} (hKK : pl_sub K) (hC : pm_C0 k pc = pms_st c 3 nx) (hcat : (st.map fun v => v.category).sum ≤ 8) (hm : Wm c [v0, v1, v2] h P1) (hlen : ∀ r2 h2, P1 r2 h2 → h2.length = h.length) (hg : ∀ r2 h2, P1 r2 h2 → Wp K k nx L (r2.toList ++ st) h2 P) : Wp K k pc L (v2 :: v1 :: v0 :: st) h P :=
  Wp.call hKK hC (fun call cont => by simp [pms_st]) hcat hm (fun r2 h2 q => Or.inl (hlen r2 h2 q)) hg
theorem w_vi3 {ci c b : Nat} {fs : List Value} {v0 v1 v2 : Value} {P1 : Option Value → pm_H → Prop} (hKK : pl_sub K) (hC : pm_C0 k pc = pms_vi ci c 3 nx) (hcell : h[b]? = some (pm_ob ci fs)) (hcat : (st.map fun v => v.category).sum ≤ 8) (hm : Wm c [.ref b, v0, v1, v2] h P1) (hlen : ∀ r2 h2, P1 r2 h2 → h2.length = h.length) (hg : ∀ r2 h2, P1 r2 h2 → Wp K k nx L (r2.toList ++ st) h2 P) : Wp K k pc L (v2 :: v1 :: v0 :: .ref b :: st) h P :=
  Wp.call hKK hC (fun call cont => by simp [pms_vi, hcell]) hcat hm (fun r2 h2 q => Or.inl (hlen r2 h2 q)) hg
theorem w_st4 {c : Nat} {v0 v1 v2 v3 : Value} {P1 : Option Value → pm_H → Prop} (hKK : pl_sub K) (hC : pm_C0 k pc = pms_st c 4 nx) (hcat : (st.map fun v => v.category).sum ≤ 8) (hm : Wm c [v0, v1, v2, v3] h P1) (hlen : ∀ r2 h2, P1 r2 h2 → h2.length = h.length) (hg : ∀ r2 h2, P1 r2 h2 → Wp K k nx L (r2.toList ++ st) h2 P) : Wp K k pc L (v3 :: v2 :: v1 :: v0 :: st) h P :=
  Wp.call hKK hC (fun call cont => by simp [pms_st]) hcat hm (fun r2 h2 q => Or.inl (hlen r2 h2 q)) hg
theorem w_vi4 {ci c b : Nat} {fs : List Value} {v0 v1 v2 v3 : Value} {P1 : Option Value → pm_H → Prop} (hKK : pl_sub K) (hC : pm_C0 k pc = pms_vi ci c 4 nx) (hcell : h[b]? = some (pm_ob ci fs)) (hcat : (st.map fun v => v.category).sum ≤ 8) (hm : Wm c [.ref b, v0, v1, v2, v3] h P1) (hlen : ∀ r2 h2, P1 r2 h2 → h2.length = h.length) (hg : ∀ r2 h2, P1 r2 h2 → Wp K k nx L (r2.toList ++ st) h2 P) : Wp K k pc L (v3 :: v2 :: v1 :: v0 :: .ref b :: st) h P :=
  Wp.call hKK hC (fun call cont => by simp [pms_vi, hcell]) hcat hm (fun r2 h2 q => Or.inl (hlen r2 h2 q)) hg
theorem w_st5 {c : Nat} {v0 v1 v2 v3 v4 : Value} {P1 : Option Value → pm_H → Prop} (hKK : pl_sub K) (hC : pm_C0 k pc = pms_st c 5 nx) (hcat : (st.map fun v => v.category).sum ≤ 8) (hm : Wm c [v0, v1, v2, v3, v4] h P1) (hlen : ∀ r2 h2, P1 r2 h2 → h2.length = h.length) (hg : ∀ r2 h2, P1 r2 h2 → Wp K k nx L (r2.toList ++ st) h2 P) : Wp K k pc L (v4 :: v3 :: v2 :: v1 :: v0 :: st) h P :=
  Wp.call hKK hC (fun call cont => by simp [pms_st]) hcat hm (fun r2 h2 q => Or.inl (hlen r2 h2 q)) hg
theorem w_vi5 {ci c b : Nat} {fs : List Value} {v0 v1 v2 v3 v4 : Value} {P1 : Option Value → pm_H → Prop} (hKK : pl_sub K) (hC : pm_C0 k pc = pms_vi ci c 5 nx) (hcell : h[b]? = some (pm_ob ci fs)) (hcat : (st.map fun v => v.category).sum ≤ 8) (hm : Wm c [.ref b, v0, v1, v2, v3, v4] h P1) (hlen : ∀ r2 h2, P1 r2 h2 → h2.length = h.length) (hg : ∀ r2 h2, P1 r2 h2 → Wp K k nx L (r2.toList ++ st) h2 P) : Wp K k pc L (v4 :: v3 :: v2 :: v1 :: v0 :: .ref b :: st) h P :=
  Wp.call hKK hC (fun call cont => by simp [pms_vi, hcell]) hcat hm (fun r2 h2 q => Or.inl (hlen r2 h2 q)) hg
end ROWS
