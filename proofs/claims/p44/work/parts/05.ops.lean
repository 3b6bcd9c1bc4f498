/-! the instructions that leave the cells as they are -/
def pms_no : pm_S := fun _ _ _ _ _ _ => none
def pms_li (i nx : Nat) : pm_S := fun _ _ cont L st h => match L[i]? with
  | some (some (.int x)) => cont nx L (.int x :: st) h
  | _ => none
def pms_ll (i nx : Nat) : pm_S := fun _ _ cont L st h => match L[i]? with
  | some (some (.long x)) => cont nx L (.long x :: st) h
  | _ => none
def pms_la (i nx : Nat) : pm_S := fun _ _ cont L st h => match L[i]? with
  | some (some (.ref x)) => cont nx L (.ref x :: st) h
  | _ => none
def pms_si (i nx : Nat) : pm_S := fun _ _ cont L st h => match st with
  | .int x :: t => if i < L.length then cont nx (pm_s L i (.int x)) t h else none
  | _ => none
def pms_sl (i nx : Nat) : pm_S := fun _ _ cont L st h => match st with
  | .long x :: t => if i + 1 < L.length then cont nx (pm_s2 L i (.long x)) t h else none
  | _ => none
def pms_sa (i nx : Nat) : pm_S := fun _ _ cont L st h => match st with
  | .ref x :: t => if i < L.length then cont nx (pm_s L i (.ref x)) t h else none
  | _ => none
def pms_ci (v : Int32) (nx : Nat) : pm_S := fun _ _ cont L st h => cont nx L (.int v :: st) h
def pms_cl (v : Int64) (nx : Nat) : pm_S := fun _ _ cont L st h => cont nx L (.long v :: st) h
def pms_inc (i : Nat) (n : Int32) (nx : Nat) : pm_S := fun _ _ cont L st h => match L[i]? with
  | some (some (.int x)) => cont nx (pm_s L i (.int (x + n))) st h
  | _ => none
def pms_b (f : Int32 → Int32 → Int32) (nx : Nat) : pm_S := fun _ _ cont L st h => match st with
  | .int y :: .int x :: t => cont nx L (.int (f x y) :: t) h
  | _ => none
def pms_bd (f : Int32 → Int32 → Int32) (nx : Nat) : pm_S := fun _ _ cont L st h => match st with
  | .int y :: .int x :: t => if y = 0 then none else cont nx L (.int (f x y) :: t) h
  | _ => none
def pms_u (f : Int32 → Int32) (nx : Nat) : pm_S := fun _ _ cont L st h => match st with
  | .int x :: t => cont nx L (.int (f x) :: t) h
  | _ => none
def pms_lb (f : Int64 → Int64 → Int64) (nx : Nat) : pm_S := fun _ _ cont L st h => match st with
  | .long y :: .long x :: t => cont nx L (.long (f x y) :: t) h
  | _ => none
def pms_lbd (f : Int64 → Int64 → Int64) (nx : Nat) : pm_S := fun _ _ cont L st h => match st with
  | .long y :: .long x :: t => if y = 0 then none else cont nx L (.long (f x y) :: t) h
  | _ => none
def pms_ls (f : Int64 → Int32 → Int64) (nx : Nat) : pm_S := fun _ _ cont L st h => match st with
  | .int y :: .long x :: t => cont nx L (.long (f x y) :: t) h
  | _ => none
def pms_cmp (nx : Nat) : pm_S := fun _ _ cont L st h => match st with
  | .long y :: .long x :: t => cont nx L (.int (lg_cmp x y) :: t) h
  | _ => none
def pms_i2l (nx : Nat) : pm_S := fun _ _ cont L st h => match st with
  | .int x :: t => cont nx L (.long x.toInt64 :: t) h
  | _ => none
def pms_l2i (nx : Nat) : pm_S := fun _ _ cont L st h => match st with
  | .long x :: t => cont nx L (.int x.toInt32 :: t) h
  | _ => none
def pms_dup (nx : Nat) : pm_S := fun _ _ cont L st h => match st with
  | v :: t => if v.category = 1 then cont nx L (v :: v :: t) h else none
  | _ => none
def pms_dup2 (nx : Nat) : pm_S := fun _ _ cont L st h => match st with
  | v :: w :: t => if v.category = 1 ∧ w.category = 1 then cont nx L (v :: w :: v :: w :: t) h else none
  | _ => none
def pms_pop (nx : Nat) : pm_S := fun _ _ cont L st h => match st with
  | v :: t => if v.category = 1 then cont nx L t h else none
  | _ => none
def pms_if (p : Int32 → Bool) (tg nx : Nat) : pm_S := fun _ _ cont L st h => match st with
  | .int x :: t => cont (bif p x then tg else nx) L t h
  | _ => none
def pms_if2 (p : Int32 → Int32 → Bool) (tg nx : Nat) : pm_S := fun _ _ cont L st h => match st with
  | .int y :: .int x :: t => cont (bif p x y then tg else nx) L t h
  | _ => none
def pms_go (tg : Nat) : pm_S := fun _ _ cont L st h => cont tg L st h
def pms_sw (lo : Int) (ts : List Nat) (d : Nat) : pm_S := fun _ _ cont L st h => match st with
  | .int x :: t => cont (if x.toInt < lo then d else (ts[(x.toInt - lo).toNat]?).getD d) L t h
  | _ => none
section OPS
variable {T : pm_T} {K : pm_K} {cR : Nat → ClassId} {D : va_G} {M : pm_I} {pc : Nat}
theorem pmk_no : pm_ok T K cR D M pc pms_no := fun call cont hc hk L st h r h' hS => by cases hS
theorem pmk_li_n {k : Fin 4} {i nx : Nat} (hd : decode M.2.1 pc = .ok (.iload_n k, 1)) (hi : (k : Nat) = i) (hn : pc + 1 = nx) : pm_ok T K cR D M pc (pms_li i nx) := by
  intro call cont hc hk L st h r h' hS
  unfold pms_li at hS
  split at hS
  · next x hx =>
    refine pm_G.of_t ?_ (hk _ _ _ _ _ _ hS)
    intro p l e R s m args below meth c H locs cells slots Q ad ls he hb ho hts hl kk
    subst hn
    exact lv_iload_n he hb hd hi (hl.2.2.2 _ _ hx) (kk ls hl)
  · cases hS
theorem pmk_li {i nx : Nat} (hd : decode M.2.1 pc = .ok (.iload i, 2)) (hn : pc + 2 = nx) : pm_ok T K cR D M pc (pms_li i nx) := by
  intro call cont hc hk L st h r h' hS
  unfold pms_li at hS
  split at hS
  · next x hx =>
    refine pm_G.of_t ?_ (hk _ _ _ _ _ _ hS)
    intro p l e R s m args below meth c H locs cells slots Q ad ls he hb ho hts hl kk
    subst hn
    exact lv_iload he hb hd (hl.2.2.2 _ _ hx) (kk ls hl)
  · cases hS
theorem pmk_ll_n {k : Fin 4} {i nx : Nat} (hd : decode M.2.1 pc = .ok (.lload_n k, 1)) (hi : (k : Nat) = i) (hn : pc + 1 = nx) : pm_ok T K cR D M pc (pms_ll i nx) := by
  intro call cont hc hk L st h r h' hS
  unfold pms_ll at hS
  split at hS
  · next x hx =>
    refine pm_G.of_t ?_ (hk _ _ _ _ _ _ hS)
    intro p l e R s m args below meth c H locs cells slots Q ad ls he hb ho hts hl kk
    subst hn
    exact lv_lload_n he hb hd hi (hl.2.2.2 _ _ hx) (kk ls hl)
  · cases hS
theorem pmk_ll {i nx : Nat} (hd : decode M.2.1 pc = .ok (.lload i, 2)) (hn : pc + 2 = nx) : pm_ok T K cR D M pc (pms_ll i nx) := by
  intro call cont hc hk L st h r h' hS
  unfold pms_ll at hS
  split at hS
  · next x hx =>
    refine pm_G.of_t ?_ (hk _ _ _ _ _ _ hS)
    intro p l e R s m args below meth c H locs cells slots Q ad ls he hb ho hts hl kk
    subst hn
    exact lv_lload he hb hd (hl.2.2.2 _ _ hx) (kk ls hl)
  · cases hS
theorem pmk_la_n {k : Fin 4} {i nx : Nat} (hd : decode M.2.1 pc = .ok (.aload_n k, 1)) (hi : (k : Nat) = i) (hn : pc + 1 = nx) : pm_ok T K cR D M pc (pms_la i nx) := by
  intro call cont hc hk L st h r h' hS
  unfold pms_la at hS
  split at hS
  · next x hx =>
    refine pm_G.of_t ?_ (hk _ _ _ _ _ _ hS)
    intro p l e R s m args below meth c H locs cells slots Q ad ls he hb ho hts hl kk
    subst hn
    exact lv_aload_n he hb hd hi (hl.2.2.2 _ _ hx) (kk ls hl)
  · cases hS
theorem pmk_la {i nx : Nat} (hd : decode M.2.1 pc = .ok (.aload i, 2)) (hn : pc + 2 = nx) : pm_ok T K cR D M pc (pms_la i nx) := by
  intro call cont hc hk L st h r h' hS
  unfold pms_la at hS
  split at hS
  · next x hx =>
    refine pm_G.of_t ?_ (hk _ _ _ _ _ _ hS)
    intro p l e R s m args below meth c H locs cells slots Q ad ls he hb ho hts hl kk
    subst hn
    exact lv_aload he hb hd (hl.2.2.2 _ _ hx) (kk ls hl)
  · cases hS
theorem pmk_si_n {k : Fin 4} {i nx : Nat} (hd : decode M.2.1 pc = .ok (.istore_n k, 1)) (hi : (k : Nat) = i) (hn : pc + 1 = nx) : pm_ok T K cR D M pc (pms_si i nx) := by
  intro call cont hc hk L st h r h' hS
  unfold pms_si at hS
  split at hS
  · next x t =>
    split at hS
    · next hlt =>
      refine pm_G.of_t ?_ (hk _ _ _ _ _ _ hS)
      intro p l e R s m args below meth c H locs cells slots Q ad ls he hb ho hts hl kk
      subst hn
      have hi2 : i < M.2.2.1 := by rw [← hl.1]; exact hlt
      exact lv_istore_n he hb hd hi hl.has hi2 rfl (fun ls' hl' => kk ls' (hl.store (v := .int x) hi2 hl'))
    · cases hS
  · cases hS
theorem pmk_si {i nx : Nat} (hd : decode M.2.1 pc = .ok (.istore i, 2)) (hn : pc + 2 = nx) : pm_ok T K cR D M pc (pms_si i nx) := by
  intro call cont hc hk L st h r h' hS
  unfold pms_si at hS
  split at hS
  · next x t =>
    split at hS
    · next hlt =>
      refine pm_G.of_t ?_ (hk _ _ _ _ _ _ hS)
      intro p l e R s m args below meth c H locs cells slots Q ad ls he hb ho hts hl kk
      subst hn
      have hi2 : i < M.2.2.1 := by rw [← hl.1]; exact hlt
      exact lv_istore he hb hd hl.has hi2 rfl (fun ls' hl' => kk ls' (hl.store (v := .int x) hi2 hl'))
    · cases hS
  · cases hS
theorem pmk_sl_n {k : Fin 4} {i nx : Nat} (hd : decode M.2.1 pc = .ok (.lstore_n k, 1)) (hi : (k : Nat) = i) (hn : pc + 1 = nx) : pm_ok T K cR D M pc (pms_sl i nx) := by
  intro call cont hc hk L st h r h' hS
  unfold pms_sl at hS
  split at hS
  · next x t =>
    split at hS
    · next hlt =>
      refine pm_G.of_t ?_ (hk _ _ _ _ _ _ hS)
      intro p l e R s m args below meth c H locs cells slots Q ad ls he hb ho hts hl kk
      subst hn
      have hi2 : i + 1 < M.2.2.1 := by rw [← hl.1]; exact hlt
      exact lv_lstore_n he hb hd hi hl.has hi2 rfl (fun ls' hl' => kk ls' (hl.store2 (v := .long x) hi2 hl'))
    · cases hS
  · cases hS
theorem pmk_sl {i nx : Nat} (hd : decode M.2.1 pc = .ok (.lstore i, 2)) (hn : pc + 2 = nx) : pm_ok T K cR D M pc (pms_sl i nx) := by
  intro call cont hc hk L st h r h' hS
  unfold pms_sl at hS
  split at hS
  · next x t =>
    split at hS
    · next hlt =>
      refine pm_G.of_t ?_ (hk _ _ _ _ _ _ hS)
      intro p l e R s m args below meth c H locs cells slots Q ad ls he hb ho hts hl kk
      subst hn
      have hi2 : i + 1 < M.2.2.1 := by rw [← hl.1]; exact hlt
      exact lv_lstore he hb hd hl.has hi2 rfl (fun ls' hl' => kk ls' (hl.store2 (v := .long x) hi2 hl'))
    · cases hS
  · cases hS
theorem pmk_sa_n {k : Fin 4} {i nx : Nat} (hd : decode M.2.1 pc = .ok (.astore_n k, 1)) (hi : (k : Nat) = i) (hn : pc + 1 = nx) : pm_ok T K cR D M pc (pms_sa i nx) := by
  intro call cont hc hk L st h r h' hS
  unfold pms_sa at hS
  split at hS
  · next x t =>
    split at hS
    · next hlt =>
      refine pm_G.of_t ?_ (hk _ _ _ _ _ _ hS)
      intro p l e R s m args below meth c H locs cells slots Q ad ls he hb ho hts hl kk
      subst hn
      have hi2 : i < M.2.2.1 := by rw [← hl.1]; exact hlt
      exact lv_astore_n he hb hd hi hl.has hi2 rfl (fun ls' hl' => kk ls' (hl.store (v := .ref x) hi2 hl'))
    · cases hS
  · cases hS
theorem pmk_sa {i nx : Nat} (hd : decode M.2.1 pc = .ok (.astore i, 2)) (hn : pc + 2 = nx) : pm_ok T K cR D M pc (pms_sa i nx) := by
  intro call cont hc hk L st h r h' hS
  unfold pms_sa at hS
  split at hS
  · next x t =>
    split at hS
    · next hlt =>
      refine pm_G.of_t ?_ (hk _ _ _ _ _ _ hS)
      intro p l e R s m args below meth c H locs cells slots Q ad ls he hb ho hts hl kk
      subst hn
      have hi2 : i < M.2.2.1 := by rw [← hl.1]; exact hlt
      exact lv_astore he hb hd hl.has hi2 rfl (fun ls' hl' => kk ls' (hl.store (v := .ref x) hi2 hl'))
    · cases hS
  · cases hS
theorem pmk_inc {i nx : Nat} {n : Int} {v : Int32} (hd : decode M.2.1 pc = .ok (.iinc i n, 3)) (hv : Int32.ofInt n = v) (hn : pc + 3 = nx) : pm_ok T K cR D M pc (pms_inc i v nx) := by
  intro call cont hc hk L st h r h' hS
  unfold pms_inc at hS
  split at hS
  · next x hx =>
    refine pm_G.of_t ?_ (hk _ _ _ _ _ _ hS)
    intro p l e R s m args below meth c H locs cells slots Q ad ls he hb ho hts hl kk
    subst hn
    subst hv
    have hi2 : i < M.2.2.1 := by rw [← hl.1]; exact (List.getElem?_eq_some_iff.mp hx).1
    obtain ⟨k, hk9⟩ := List.getElem?_of_mem (pm_a_of (ad := ad) hx)
    exact lv_iinc he hb hd hl.has hk9 rfl hi2 rfl (fun ls' hl' => kk ls' (hl.store (v := .int (x + Int32.ofInt n)) hi2 hl'))
  · cases hS
/-- a constant: by its row -/
theorem pmk_ci {v : Int32} {nx : Nat} (hr : ∀ (st : List Value) (L : pm_L), pm_t M pc L st nx L (.int v :: st)) : pm_ok T K cR D M pc (pms_ci v nx) :=
  fun call cont hc hk L st h r h' hS => pm_G.of_t (hr st L) (hk _ _ _ _ _ _ hS)
theorem pmk_cl {v : Int64} {nx : Nat} (hr : ∀ (st : List Value) (L : pm_L), pm_t M pc L st nx L (.long v :: st)) : pm_ok T K cR D M pc (pms_cl v nx) :=
  fun call cont hc hk L st h r h' hS => pm_G.of_t (hr st L) (hk _ _ _ _ _ _ hS)
theorem pmk_iconst {n : Int} {v : Int32} {nx : Nat} (hd : decode M.2.1 pc = .ok (.iconst n, 1)) (hv : Int32.ofInt n = v) (hn : pc + 1 = nx) : pm_ok T K cR D M pc (pms_ci v nx) :=
  pmk_ci (fun st L p l e R s m args below meth c H locs cells slots Q ad ls he hb ho hts hl kk => by subst hn; exact lv_iconst he hb hd hv (kk ls hl))
theorem pmk_bipush {n : Int} {v : Int32} {nx : Nat} (hd : decode M.2.1 pc = .ok (.bipush n, 2)) (hv : (Int8.ofInt n).toInt32 = v) (hn : pc + 2 = nx) : pm_ok T K cR D M pc (pms_ci v nx) :=
  pmk_ci (fun st L p l e R s m args below meth c H locs cells slots Q ad ls he hb ho hts hl kk => by subst hn; exact lv_bipush he hb hd hv (kk ls hl))
theorem pmk_sipush {n : Int} {v : Int32} {nx : Nat} (hd : decode M.2.1 pc = .ok (.sipush n, 3)) (hv : (Int16.ofInt n).toInt32 = v) (hn : pc + 3 = nx) : pm_ok T K cR D M pc (pms_ci v nx) :=
  pmk_ci (fun st L p l e R s m args below meth c H locs cells slots Q ad ls he hb ho hts hl kk => by subst hn; exact lv_sipush he hb hd hv (kk ls hl))
theorem pmk_ldc {index : Nat} {v : Int32} {nx : Nat} (hw : Cond.constant M.1 index v ∈ pm_w) (hd : decode M.2.1 pc = .ok (.ldc index, 2)) (hn : pc + 2 = nx) : pm_ok T K cR D M pc (pms_ci v nx) :=
  pmk_ci (fun st L p l e R s m args below meth c H locs cells slots Q ad ls he hb ho hts hl kk => by subst hn; exact lv_ldc he hb ho (hts _ hw) hd (kk ls hl))
theorem pmk_ldcw {index : Nat} {v : Int32} {nx : Nat} (hw : Cond.constant M.1 index v ∈ pm_w) (hd : decode M.2.1 pc = .ok (.ldc_w index, 3)) (hn : pc + 3 = nx) : pm_ok T K cR D M pc (pms_ci v nx) :=
  pmk_ci (fun st L p l e R s m args below meth c H locs cells slots Q ad ls he hb ho hts hl kk => by subst hn; exact lv_ldcw he hb ho (hts _ hw) hd (kk ls hl))
theorem pmk_lconst {n : Fin 2} {v : Int64} {nx : Nat} (hd : decode M.2.1 pc = .ok (.lconst n, 1)) (hv : Int64.ofNat (n : Nat) = v) (hn : pc + 1 = nx) : pm_ok T K cR D M pc (pms_cl v nx) :=
  pmk_cl (fun st L p l e R s m args below meth c H locs cells slots Q ad ls he hb ho hts hl kk => by subst hn; exact lv_lconst he hb hd hv (kk ls hl))
theorem pmk_ldc2 {index : Nat} {v : Int64} {nx : Nat} (hw : Cond.constantLong M.1 index v ∈ pm_w) (hd : decode M.2.1 pc = .ok (.ldc2_w index, 3)) (hn : pc + 3 = nx) : pm_ok T K cR D M pc (pms_cl v nx) :=
  pmk_cl (fun st L p l e R s m args below meth c H locs cells slots Q ad ls he hb ho hts hl kk => by subst hn; exact lv_ldc2 he hb ho (hts _ hw) hd (kk ls hl))
theorem pmk_b {f : Int32 → Int32 → Int32} {nx : Nat} (hr : ∀ (x y : Int32) (st : List Value) (L : pm_L), pm_t M pc L (.int y :: .int x :: st) nx L (.int (f x y) :: st)) : pm_ok T K cR D M pc (pms_b f nx) := by
  intro call cont hc hk L st h r h' hS
  unfold pms_b at hS
  split at hS
  · next y x t => exact pm_G.of_t (hr x y t L) (hk _ _ _ _ _ _ hS)
  · cases hS
theorem pmk_bd {f : Int32 → Int32 → Int32} {nx : Nat} (hr : ∀ (x y : Int32) (st : List Value) (L : pm_L), ¬ y = 0 → pm_t M pc L (.int y :: .int x :: st) nx L (.int (f x y) :: st)) : pm_ok T K cR D M pc (pms_bd f nx) := by
  intro call cont hc hk L st h r h' hS
  unfold pms_bd at hS
  split at hS
  · next y x t =>
    split at hS
    · cases hS
    · next hy => exact pm_G.of_t (hr x y t L hy) (hk _ _ _ _ _ _ hS)
  · cases hS
theorem pmk_u {f : Int32 → Int32} {nx : Nat} (hr : ∀ (x : Int32) (st : List Value) (L : pm_L), pm_t M pc L (.int x :: st) nx L (.int (f x) :: st)) : pm_ok T K cR D M pc (pms_u f nx) := by
  intro call cont hc hk L st h r h' hS
  unfold pms_u at hS
  split at hS
  · next x t => exact pm_G.of_t (hr x t L) (hk _ _ _ _ _ _ hS)
  · cases hS
theorem pmk_lb {f : Int64 → Int64 → Int64} {nx : Nat} (hr : ∀ (x y : Int64) (st : List Value) (L : pm_L), pm_t M pc L (.long y :: .long x :: st) nx L (.long (f x y) :: st)) : pm_ok T K cR D M pc (pms_lb f nx) := by
  intro call cont hc hk L st h r h' hS
  unfold pms_lb at hS
  split at hS
  · next y x t => exact pm_G.of_t (hr x y t L) (hk _ _ _ _ _ _ hS)
  · cases hS
theorem pmk_lbd {f : Int64 → Int64 → Int64} {nx : Nat} (hr : ∀ (x y : Int64) (st : List Value) (L : pm_L), ¬ y = 0 → pm_t M pc L (.long y :: .long x :: st) nx L (.long (f x y) :: st)) : pm_ok T K cR D M pc (pms_lbd f nx) := by
  intro call cont hc hk L st h r h' hS
  unfold pms_lbd at hS
  split at hS
  · next y x t =>
    split at hS
    · cases hS
    · next hy => exact pm_G.of_t (hr x y t L hy) (hk _ _ _ _ _ _ hS)
  · cases hS
theorem pmk_ls {f : Int64 → Int32 → Int64} {nx : Nat} (hr : ∀ (x : Int64) (y : Int32) (st : List Value) (L : pm_L), pm_t M pc L (.int y :: .long x :: st) nx L (.long (f x y) :: st)) : pm_ok T K cR D M pc (pms_ls f nx) := by
  intro call cont hc hk L st h r h' hS
  unfold pms_ls at hS
  split at hS
  · next y x t => exact pm_G.of_t (hr x y t L) (hk _ _ _ _ _ _ hS)
  · cases hS
theorem pmk_cmp {nx : Nat} (hd : decode M.2.1 pc = .ok (.lcmp, 1)) (hn : pc + 1 = nx) : pm_ok T K cR D M pc (pms_cmp nx) := by
  intro call cont hc hk L st h r h' hS
  unfold pms_cmp at hS
  split at hS
  · next y x t =>
    refine pm_G.of_t ?_ (hk _ _ _ _ _ _ hS)
    intro p l e R s m args below meth c H locs cells slots Q ad ls he hb ho hts hl kk
    subst hn
    exact W.lcmp he hb hd (kk ls hl)
  · cases hS
theorem pmk_i2l {nx : Nat} (hd : decode M.2.1 pc = .ok (.i2l, 1)) (hn : pc + 1 = nx) : pm_ok T K cR D M pc (pms_i2l nx) := by
  intro call cont hc hk L st h r h' hS
  unfold pms_i2l at hS
  split at hS
  · next x t =>
    refine pm_G.of_t ?_ (hk _ _ _ _ _ _ hS)
    intro p l e R s m args below meth c H locs cells slots Q ad ls he hb ho hts hl kk
    subst hn
    exact lv_i2l he hb hd rfl (kk ls hl)
  · cases hS
theorem pmk_l2i {nx : Nat} (hd : decode M.2.1 pc = .ok (.l2i, 1)) (hn : pc + 1 = nx) : pm_ok T K cR D M pc (pms_l2i nx) := by
  intro call cont hc hk L st h r h' hS
  unfold pms_l2i at hS
  split at hS
  · next x t =>
    refine pm_G.of_t ?_ (hk _ _ _ _ _ _ hS)
    intro p l e R s m args below meth c H locs cells slots Q ad ls he hb ho hts hl kk
    subst hn
    exact lv_l2i he hb hd rfl (kk ls hl)
  · cases hS
theorem pmk_dup {nx : Nat} (hd : decode M.2.1 pc = .ok (.dup, 1)) (hn : pc + 1 = nx) : pm_ok T K cR D M pc (pms_dup nx) := by
  intro call cont hc hk L st h r h' hS
  unfold pms_dup at hS
  split at hS
  · next v t =>
    split at hS
    · next hv =>
      refine pm_G.of_t ?_ (hk _ _ _ _ _ _ hS)
      intro p l e R s m args below meth c H locs cells slots Q ad ls he hb ho hts hl kk
      subst hn
      exact lv_dup he hb hd ((pm_V_cat ad v).trans hv) (kk ls hl)
    · cases hS
  · cases hS
theorem pmk_dup2 {nx : Nat} (hd : decode M.2.1 pc = .ok (.dup2, 1)) (hn : pc + 1 = nx) : pm_ok T K cR D M pc (pms_dup2 nx) := by
  intro call cont hc hk L st h r h' hS
  unfold pms_dup2 at hS
  split at hS
  · next v w t =>
    split at hS
    · next hv =>
      refine pm_G.of_t ?_ (hk _ _ _ _ _ _ hS)
      intro p l e R s m args below meth c H locs cells slots Q ad ls he hb ho hts hl kk
      subst hn
      exact lv_dup2_11 he hb hd ((pm_V_cat ad v).trans hv.1) ((pm_V_cat ad w).trans hv.2) (kk ls hl)
    · cases hS
  · cases hS
theorem pmk_pop {nx : Nat} (hd : decode M.2.1 pc = .ok (.pop, 1)) (hn : pc + 1 = nx) : pm_ok T K cR D M pc (pms_pop nx) := by
  intro call cont hc hk L st h r h' hS
  unfold pms_pop at hS
  split at hS
  · next v t =>
    split at hS
    · next hv =>
      refine pm_G.of_t ?_ (hk _ _ _ _ _ _ hS)
      intro p l e R s m args below meth c H locs cells slots Q ad ls he hb ho hts hl kk
      subst hn
      exact lv_pop he hb hd ((pm_V_cat ad v).trans hv) (kk ls hl)
    · cases hS
  · cases hS
theorem pmk_if {p : Int32 → Bool} {tg nx : Nat} (hr : ∀ (x : Int32) (st : List Value) (L : pm_L), pm_t M pc L (.int x :: st) (bif p x then tg else nx) L st) : pm_ok T K cR D M pc (pms_if p tg nx) := by
  intro call cont hc hk L st h r h' hS
  unfold pms_if at hS
  split at hS
  · next x t => exact pm_G.of_t (hr x t L) (hk _ _ _ _ _ _ hS)
  · cases hS
theorem pmk_if2 {p : Int32 → Int32 → Bool} {tg nx : Nat} (hr : ∀ (x y : Int32) (st : List Value) (L : pm_L), pm_t M pc L (.int y :: .int x :: st) (bif p x y then tg else nx) L st) : pm_ok T K cR D M pc (pms_if2 p tg nx) := by
  intro call cont hc hk L st h r h' hS
  unfold pms_if2 at hS
  split at hS
  · next y x t => exact pm_G.of_t (hr x y t L) (hk _ _ _ _ _ _ hS)
  · cases hS
theorem pmk_go {off : Int} {tg : Nat} (hd : decode M.2.1 pc = .ok (.goto off, 3)) (ht : (pc : Int) + off = (tg : Int)) : pm_ok T K cR D M pc (pms_go tg) := by
  intro call cont hc hk L st h r h' hS
  refine pm_G.of_t ?_ (hk _ _ _ _ _ _ hS)
  intro p l e R s m args below meth c H locs cells slots Q ad ls he hb ho hts hl kk
  exact lv_goto he hb hd ht (kk ls hl)
theorem pmk_sw {dflt lo hi : Int} {offs : Array Int} {len : Nat} {ts : List Nat} {d : Nat} (hd : decode M.2.1 pc = .ok (.tableswitch dflt lo hi offs, len)) (ht : (pc : Int) + dflt = (d : Int)) (hz : lo + (ts.length : Int) = hi + 1) (ho9 : (List.range ts.length).all (fun i => match offs[i]? with | some off => decide ((pc : Int) + off = ((ts.getD i 0 : Nat) : Int)) | none => false) = true) : pm_ok T K cR D M pc (pms_sw lo ts d) := by
  have ho : ∀ i : Nat, i < ts.length → ∃ off : Int, offs[i]? = some off ∧ (pc : Int) + off = ((ts.getD i 0 : Nat) : Int) := by
    intro i hi
    have h1 := List.all_eq_true.mp ho9 i (List.mem_range.mpr hi)
    split at h1
    · next off ho => exact ⟨off, ho, of_decide_eq_true h1⟩
    · cases h1
  intro call cont hc hk L st h r h' hS
  unfold pms_sw at hS
  split at hS
  · next x t =>
    refine pm_G.of_t ?_ (hk _ _ _ _ _ _ hS)
    intro p l e R s m args below meth c H locs cells slots Q ad ls he hb ho9 hts hl kk
    by_cases h1 : x.toInt < lo
    · rw [if_pos h1] at kk
      exact lv_tableOut he hb hd (Or.inl h1) ht (kk ls hl)
    · rw [if_neg h1] at kk
      by_cases h2 : hi < x.toInt
      · have h3 : ts[(x.toInt - lo).toNat]? = none := List.getElem?_eq_none (by omega)
        rw [h3] at kk
        exact lv_tableOut he hb hd (Or.inr h2) ht (kk ls hl)
      · have h4 : (x.toInt - lo).toNat < ts.length := by omega
        obtain ⟨off, h5, h6⟩ := ho _ h4
        rw [List.getElem?_eq_getElem h4] at kk
        refine lv_tableIn he hb hd h1 h2 h5 (tgt := ts[(x.toInt - lo).toNat]) ?_ (kk ls hl)
        rw [h6]
        simp [List.getD, List.getElem?_eq_getElem h4]
  · cases hS
end OPS
