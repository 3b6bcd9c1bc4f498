/-! the operations by their names; words; trees -/
def pmf_iadd (x y : Int32) : Int32 := x + y
def pmf_isub (x y : Int32) : Int32 := x - y
def pmf_imul (x y : Int32) : Int32 := x * y
def pmf_iand (x y : Int32) : Int32 := x &&& y
def pmf_ior (x y : Int32) : Int32 := x ||| y
def pmf_ixor (x y : Int32) : Int32 := x ^^^ y
def pmf_ishl (x y : Int32) : Int32 := x <<< (y &&& 31)
def pmf_ishr (x y : Int32) : Int32 := x >>> (y &&& 31)
def pmf_iushr (x y : Int32) : Int32 := (x.toUInt32 >>> (y.toUInt32 &&& Int32.toUInt32 31)).toInt32
def pmf_idiv (x y : Int32) : Int32 := x / y
def pmf_irem (x y : Int32) : Int32 := x - x / y * y
def pmf_ineg (x : Int32) : Int32 := -x
def pmf_i2b (x : Int32) : Int32 := x.toInt8.toInt32
def pmf_i2s (x : Int32) : Int32 := x.toInt16.toInt32
def pmf_ladd (x y : Int64) : Int64 := x + y
def pmf_lsub (x y : Int64) : Int64 := x - y
def pmf_lmul (x y : Int64) : Int64 := x * y
def pmf_land (x y : Int64) : Int64 := x &&& y
def pmf_lor (x y : Int64) : Int64 := x ||| y
def pmf_ldiv (x y : Int64) : Int64 := x / y
def pmf_lrem (x y : Int64) : Int64 := x - x / y * y
def pmf_lshl (x : Int64) (y : Int32) : Int64 := x <<< (y.toInt64 &&& 63)
def pmf_lshr (x : Int64) (y : Int32) : Int64 := x >>> (y.toInt64 &&& 63)
def pmf_lushr (x : Int64) (y : Int32) : Int64 := (x.toUInt64 >>> (y.toInt64.toUInt64 &&& Int64.toUInt64 63)).toInt64
def pmp_eq (x : Int32) : Bool := decide (x = 0)
def pmp_ne (x : Int32) : Bool := decide (¬ x = 0)
def pmp_lt (x : Int32) : Bool := decide (x < 0)
def pmp_ge (x : Int32) : Bool := decide (0 ≤ x)
def pmp_gt (x : Int32) : Bool := decide (0 < x)
def pmp_le (x : Int32) : Bool := decide (x ≤ 0)
def pmq_eq (x y : Int32) : Bool := decide (x = y)
def pmq_ne (x y : Int32) : Bool := decide (¬ x = y)
def pmq_lt (x y : Int32) : Bool := decide (x < y)
def pmq_ge (x y : Int32) : Bool := decide (y ≤ x)
def pmq_gt (x y : Int32) : Bool := decide (y < x)
def pmq_le (x y : Int32) : Bool := decide (x ≤ y)
section OPS2
variable {T : pm_T} {K : pm_K} {cR : Nat → ClassId} {D : va_G} {M : pm_I} {pc nx : Nat}
theorem pmk_iadd (hd : decode M.2.1 pc = .ok (.iadd, 1)) (hn : pc + 1 = nx) : pm_ok T K cR D M pc (pms_b pmf_iadd nx) := pmk_b (fun x y st L p l e R s m args below meth c H locs cells slots Q ad ls he hb ho hts hl kk => by subst hn; exact lv_iadd he hb hd (kk ls hl))
theorem pmk_isub (hd : decode M.2.1 pc = .ok (.isub, 1)) (hn : pc + 1 = nx) : pm_ok T K cR D M pc (pms_b pmf_isub nx) := pmk_b (fun x y st L p l e R s m args below meth c H locs cells slots Q ad ls he hb ho hts hl kk => by subst hn; exact lv_isub he hb hd (kk ls hl))
theorem pmk_imul (hd : decode M.2.1 pc = .ok (.imul, 1)) (hn : pc + 1 = nx) : pm_ok T K cR D M pc (pms_b pmf_imul nx) := pmk_b (fun x y st L p l e R s m args below meth c H locs cells slots Q ad ls he hb ho hts hl kk => by subst hn; exact lv_imul he hb hd (kk ls hl))
theorem pmk_iand (hd : decode M.2.1 pc = .ok (.iand, 1)) (hn : pc + 1 = nx) : pm_ok T K cR D M pc (pms_b pmf_iand nx) := pmk_b (fun x y st L p l e R s m args below meth c H locs cells slots Q ad ls he hb ho hts hl kk => by subst hn; exact lv_iand he hb hd (kk ls hl))
theorem pmk_ior (hd : decode M.2.1 pc = .ok (.ior, 1)) (hn : pc + 1 = nx) : pm_ok T K cR D M pc (pms_b pmf_ior nx) := pmk_b (fun x y st L p l e R s m args below meth c H locs cells slots Q ad ls he hb ho hts hl kk => by subst hn; exact lv_ior he hb hd (kk ls hl))
theorem pmk_ixor (hd : decode M.2.1 pc = .ok (.ixor, 1)) (hn : pc + 1 = nx) : pm_ok T K cR D M pc (pms_b pmf_ixor nx) := pmk_b (fun x y st L p l e R s m args below meth c H locs cells slots Q ad ls he hb ho hts hl kk => by subst hn; exact lv_ixor he hb hd (kk ls hl))
theorem pmk_ishl (hd : decode M.2.1 pc = .ok (.ishl, 1)) (hn : pc + 1 = nx) : pm_ok T K cR D M pc (pms_b pmf_ishl nx) := pmk_b (fun x y st L p l e R s m args below meth c H locs cells slots Q ad ls he hb ho hts hl kk => by subst hn; exact lv_ishl he hb hd (kk ls hl))
theorem pmk_ishr (hd : decode M.2.1 pc = .ok (.ishr, 1)) (hn : pc + 1 = nx) : pm_ok T K cR D M pc (pms_b pmf_ishr nx) := pmk_b (fun x y st L p l e R s m args below meth c H locs cells slots Q ad ls he hb ho hts hl kk => by subst hn; exact lv_ishr he hb hd (kk ls hl))
theorem pmk_iushr (hd : decode M.2.1 pc = .ok (.iushr, 1)) (hn : pc + 1 = nx) : pm_ok T K cR D M pc (pms_b pmf_iushr nx) := pmk_b (fun x y st L p l e R s m args below meth c H locs cells slots Q ad ls he hb ho hts hl kk => by subst hn; exact lv_iushr he hb hd rfl (kk ls hl))
theorem pmk_idiv (hd : decode M.2.1 pc = .ok (.idiv, 1)) (hn : pc + 1 = nx) : pm_ok T K cR D M pc (pms_bd pmf_idiv nx) := pmk_bd (fun x y st L hy p l e R s m args below meth c H locs cells slots Q ad ls he hb ho hts hl kk => by subst hn; exact lv_idiv he hb hd hy (kk ls hl))
theorem pmk_irem (hd : decode M.2.1 pc = .ok (.irem, 1)) (hn : pc + 1 = nx) : pm_ok T K cR D M pc (pms_bd pmf_irem nx) := pmk_bd (fun x y st L hy p l e R s m args below meth c H locs cells slots Q ad ls he hb ho hts hl kk => by subst hn; exact lv_irem he hb hd hy (kk ls hl))
theorem pmk_ineg (hd : decode M.2.1 pc = .ok (.ineg, 1)) (hn : pc + 1 = nx) : pm_ok T K cR D M pc (pms_u pmf_ineg nx) := pmk_u (fun x st L p l e R s m args below meth c H locs cells slots Q ad ls he hb ho hts hl kk => by subst hn; exact lv_ineg he hb hd (kk ls hl))
theorem pmk_i2b (hd : decode M.2.1 pc = .ok (.i2b, 1)) (hn : pc + 1 = nx) : pm_ok T K cR D M pc (pms_u pmf_i2b nx) := pmk_u (fun x st L p l e R s m args below meth c H locs cells slots Q ad ls he hb ho hts hl kk => by subst hn; exact lv_i2b he hb hd rfl (kk ls hl))
theorem pmk_i2s (hd : decode M.2.1 pc = .ok (.i2s, 1)) (hn : pc + 1 = nx) : pm_ok T K cR D M pc (pms_u pmf_i2s nx) := pmk_u (fun x st L p l e R s m args below meth c H locs cells slots Q ad ls he hb ho hts hl kk => by subst hn; exact lv_i2s he hb hd rfl (kk ls hl))
theorem pmk_ladd (hd : decode M.2.1 pc = .ok (.ladd, 1)) (hn : pc + 1 = nx) : pm_ok T K cR D M pc (pms_lb pmf_ladd nx) := pmk_lb (fun x y st L p l e R s m args below meth c H locs cells slots Q ad ls he hb ho hts hl kk => by subst hn; exact lv_ladd he hb hd (kk ls hl))
theorem pmk_lsub (hd : decode M.2.1 pc = .ok (.lsub, 1)) (hn : pc + 1 = nx) : pm_ok T K cR D M pc (pms_lb pmf_lsub nx) := pmk_lb (fun x y st L p l e R s m args below meth c H locs cells slots Q ad ls he hb ho hts hl kk => by subst hn; exact lv_lsub he hb hd (kk ls hl))
theorem pmk_lmul (hd : decode M.2.1 pc = .ok (.lmul, 1)) (hn : pc + 1 = nx) : pm_ok T K cR D M pc (pms_lb pmf_lmul nx) := pmk_lb (fun x y st L p l e R s m args below meth c H locs cells slots Q ad ls he hb ho hts hl kk => by subst hn; exact lv_lmul he hb hd (kk ls hl))
theorem pmk_land (hd : decode M.2.1 pc = .ok (.land, 1)) (hn : pc + 1 = nx) : pm_ok T K cR D M pc (pms_lb pmf_land nx) := pmk_lb (fun x y st L p l e R s m args below meth c H locs cells slots Q ad ls he hb ho hts hl kk => by subst hn; exact lv_land he hb hd (kk ls hl))
theorem pmk_lor (hd : decode M.2.1 pc = .ok (.lor, 1)) (hn : pc + 1 = nx) : pm_ok T K cR D M pc (pms_lb pmf_lor nx) := pmk_lb (fun x y st L p l e R s m args below meth c H locs cells slots Q ad ls he hb ho hts hl kk => by subst hn; exact lv_lor he hb hd (kk ls hl))
theorem pmk_ldiv (hd : decode M.2.1 pc = .ok (.ldiv, 1)) (hn : pc + 1 = nx) : pm_ok T K cR D M pc (pms_lbd pmf_ldiv nx) := pmk_lbd (fun x y st L hy p l e R s m args below meth c H locs cells slots Q ad ls he hb ho hts hl kk => by subst hn; exact lv_ldiv he hb hd hy (kk ls hl))
theorem pmk_lrem (hd : decode M.2.1 pc = .ok (.lrem, 1)) (hn : pc + 1 = nx) : pm_ok T K cR D M pc (pms_lbd pmf_lrem nx) := pmk_lbd (fun x y st L hy p l e R s m args below meth c H locs cells slots Q ad ls he hb ho hts hl kk => by subst hn; exact lv_lrem he hb hd hy (kk ls hl))
theorem pmk_lshl (hd : decode M.2.1 pc = .ok (.lshl, 1)) (hn : pc + 1 = nx) : pm_ok T K cR D M pc (pms_ls pmf_lshl nx) := pmk_ls (fun x y st L p l e R s m args below meth c H locs cells slots Q ad ls he hb ho hts hl kk => by subst hn; exact lv_lshl he hb hd rfl (kk ls hl))
theorem pmk_lshr (hd : decode M.2.1 pc = .ok (.lshr, 1)) (hn : pc + 1 = nx) : pm_ok T K cR D M pc (pms_ls pmf_lshr nx) := pmk_ls (fun x y st L p l e R s m args below meth c H locs cells slots Q ad ls he hb ho hts hl kk => by subst hn; exact lv_lshr he hb hd rfl (kk ls hl))
theorem pmk_lushr (hd : decode M.2.1 pc = .ok (.lushr, 1)) (hn : pc + 1 = nx) : pm_ok T K cR D M pc (pms_ls pmf_lushr nx) := pmk_ls (fun x y st L p l e R s m args below meth c H locs cells slots Q ad ls he hb ho hts hl kk => by subst hn; exact lv_lushr he hb hd rfl (kk ls hl))
theorem pmk_if_eq {off : Int} {tg : Nat} (hd : decode M.2.1 pc = .ok (.ifCond .eq off, 3)) (ht : (pc : Int) + off = (tg : Int)) (hn : pc + 3 = nx) : pm_ok T K cR D M pc (pms_if pmp_eq tg nx) := pmk_if (fun x st L p l e R s m args below meth c H locs cells slots Q ad ls he hb ho hts hl kk => by
  subst hn
  have k9 := kk ls hl
  exact lv_if_eq he hb hd ht (fun z => by rw [show pmp_eq x = true from decide_eq_true z] at k9; exact k9) (fun z => by rw [show pmp_eq x = false from decide_eq_false z] at k9; exact k9))
theorem pmk_if_ne {off : Int} {tg : Nat} (hd : decode M.2.1 pc = .ok (.ifCond .ne off, 3)) (ht : (pc : Int) + off = (tg : Int)) (hn : pc + 3 = nx) : pm_ok T K cR D M pc (pms_if pmp_ne tg nx) := pmk_if (fun x st L p l e R s m args below meth c H locs cells slots Q ad ls he hb ho hts hl kk => by
  subst hn
  have k9 := kk ls hl
  exact lv_if_ne he hb hd ht (fun z => by rw [show pmp_ne x = true from decide_eq_true z] at k9; exact k9) (fun z => by rw [show pmp_ne x = false from decide_eq_false (fun w => w z)] at k9; exact k9))
theorem pmk_if_lt {off : Int} {tg : Nat} (hd : decode M.2.1 pc = .ok (.ifCond .lt off, 3)) (ht : (pc : Int) + off = (tg : Int)) (hn : pc + 3 = nx) : pm_ok T K cR D M pc (pms_if pmp_lt tg nx) := pmk_if (fun x st L p l e R s m args below meth c H locs cells slots Q ad ls he hb ho hts hl kk => by
  subst hn
  have k9 := kk ls hl
  exact lv_if_lt he hb hd ht (fun z => by rw [show pmp_lt x = true from decide_eq_true z] at k9; exact k9) (fun z => by rw [show pmp_lt x = false from decide_eq_false z] at k9; exact k9))
theorem pmk_if_ge {off : Int} {tg : Nat} (hd : decode M.2.1 pc = .ok (.ifCond .ge off, 3)) (ht : (pc : Int) + off = (tg : Int)) (hn : pc + 3 = nx) : pm_ok T K cR D M pc (pms_if pmp_ge tg nx) := pmk_if (fun x st L p l e R s m args below meth c H locs cells slots Q ad ls he hb ho hts hl kk => by
  subst hn
  have k9 := kk ls hl
  exact lv_if_ge he hb hd ht (fun z => by rw [show pmp_ge x = true from decide_eq_true z] at k9; exact k9) (fun z => by rw [show pmp_ge x = false from decide_eq_false z] at k9; exact k9))
theorem pmk_if_gt {off : Int} {tg : Nat} (hd : decode M.2.1 pc = .ok (.ifCond .gt off, 3)) (ht : (pc : Int) + off = (tg : Int)) (hn : pc + 3 = nx) : pm_ok T K cR D M pc (pms_if pmp_gt tg nx) := pmk_if (fun x st L p l e R s m args below meth c H locs cells slots Q ad ls he hb ho hts hl kk => by
  subst hn
  have k9 := kk ls hl
  exact lv_if_gt he hb hd ht (fun z => by rw [show pmp_gt x = true from decide_eq_true z] at k9; exact k9) (fun z => by rw [show pmp_gt x = false from decide_eq_false z] at k9; exact k9))
theorem pmk_if_le {off : Int} {tg : Nat} (hd : decode M.2.1 pc = .ok (.ifCond .le off, 3)) (ht : (pc : Int) + off = (tg : Int)) (hn : pc + 3 = nx) : pm_ok T K cR D M pc (pms_if pmp_le tg nx) := pmk_if (fun x st L p l e R s m args below meth c H locs cells slots Q ad ls he hb ho hts hl kk => by
  subst hn
  have k9 := kk ls hl
  exact lv_if_le he hb hd ht (fun z => by rw [show pmp_le x = true from decide_eq_true z] at k9; exact k9) (fun z => by rw [show pmp_le x = false from decide_eq_false z] at k9; exact k9))
theorem pmk_icmp_eq {off : Int} {tg : Nat} (hd : decode M.2.1 pc = .ok (.if_icmp .eq off, 3)) (ht : (pc : Int) + off = (tg : Int)) (hn : pc + 3 = nx) : pm_ok T K cR D M pc (pms_if2 pmq_eq tg nx) := pmk_if2 (fun x y st L p l e R s m args below meth c H locs cells slots Q ad ls he hb ho hts hl kk => by
  subst hn
  have k9 := kk ls hl
  exact lv_icmp_eq he hb hd ht (fun z => by rw [show pmq_eq x y = true from decide_eq_true z] at k9; exact k9) (fun z => by rw [show pmq_eq x y = false from decide_eq_false z] at k9; exact k9))
theorem pmk_icmp_ne {off : Int} {tg : Nat} (hd : decode M.2.1 pc = .ok (.if_icmp .ne off, 3)) (ht : (pc : Int) + off = (tg : Int)) (hn : pc + 3 = nx) : pm_ok T K cR D M pc (pms_if2 pmq_ne tg nx) := pmk_if2 (fun x y st L p l e R s m args below meth c H locs cells slots Q ad ls he hb ho hts hl kk => by
  subst hn
  have k9 := kk ls hl
  exact lv_icmp_ne he hb hd ht (fun z => by rw [show pmq_ne x y = true from decide_eq_true z] at k9; exact k9) (fun z => by rw [show pmq_ne x y = false from decide_eq_false (fun w => w z)] at k9; exact k9))
theorem pmk_icmp_lt {off : Int} {tg : Nat} (hd : decode M.2.1 pc = .ok (.if_icmp .lt off, 3)) (ht : (pc : Int) + off = (tg : Int)) (hn : pc + 3 = nx) : pm_ok T K cR D M pc (pms_if2 pmq_lt tg nx) := pmk_if2 (fun x y st L p l e R s m args below meth c H locs cells slots Q ad ls he hb ho hts hl kk => by
  subst hn
  have k9 := kk ls hl
  exact lv_icmp_lt he hb hd ht (fun z => by rw [show pmq_lt x y = true from decide_eq_true z] at k9; exact k9) (fun z => by rw [show pmq_lt x y = false from decide_eq_false z] at k9; exact k9))
theorem pmk_icmp_ge {off : Int} {tg : Nat} (hd : decode M.2.1 pc = .ok (.if_icmp .ge off, 3)) (ht : (pc : Int) + off = (tg : Int)) (hn : pc + 3 = nx) : pm_ok T K cR D M pc (pms_if2 pmq_ge tg nx) := pmk_if2 (fun x y st L p l e R s m args below meth c H locs cells slots Q ad ls he hb ho hts hl kk => by
  subst hn
  have k9 := kk ls hl
  exact lv_icmp_ge he hb hd ht (fun z => by rw [show pmq_ge x y = true from decide_eq_true z] at k9; exact k9) (fun z => by rw [show pmq_ge x y = false from decide_eq_false z] at k9; exact k9))
theorem pmk_icmp_gt {off : Int} {tg : Nat} (hd : decode M.2.1 pc = .ok (.if_icmp .gt off, 3)) (ht : (pc : Int) + off = (tg : Int)) (hn : pc + 3 = nx) : pm_ok T K cR D M pc (pms_if2 pmq_gt tg nx) := pmk_if2 (fun x y st L p l e R s m args below meth c H locs cells slots Q ad ls he hb ho hts hl kk => by
  subst hn
  have k9 := kk ls hl
  exact lv_icmp_gt he hb hd ht (fun z => by rw [show pmq_gt x y = true from decide_eq_true z] at k9; exact k9) (fun z => by rw [show pmq_gt x y = false from decide_eq_false z] at k9; exact k9))
theorem pmk_icmp_le {off : Int} {tg : Nat} (hd : decode M.2.1 pc = .ok (.if_icmp .le off, 3)) (ht : (pc : Int) + off = (tg : Int)) (hn : pc + 3 = nx) : pm_ok T K cR D M pc (pms_if2 pmq_le tg nx) := pmk_if2 (fun x y st L p l e R s m args below meth c H locs cells slots Q ad ls he hb ho hts hl kk => by
  subst hn
  have k9 := kk ls hl
  exact lv_icmp_le he hb hd ht (fun z => by rw [show pmq_le x y = true from decide_eq_true z] at k9; exact k9) (fun z => by rw [show pmq_le x y = false from decide_eq_false z] at k9; exact k9))
end OPS2
def pm_nd {α : Type} (m : Nat) (a b : Nat → α) : Nat → α := fun k => bif Nat.ble k m then a k else b k
def pm_lf {α : Type} (d : α) (i : Nat) (v : α) : Nat → α := fun k => bif Nat.beq k i then v else d
theorem pm_nd_all {α : Type} {P : Nat → α → Prop} {m : Nat} {a b : Nat → α} (ha : ∀ k, P k (a k)) (hb : ∀ k, P k (b k)) : ∀ k, P k (pm_nd m a b k) := by
  intro k
  unfold pm_nd
  cases Nat.ble k m
  · exact hb k
  · exact ha k
theorem pm_lf_all {α : Type} {P : Nat → α → Prop} {i : Nat} {v d : α} (hv : P i v) (hd : ∀ k, P k d) : ∀ k, P k (pm_lf d i v k) := by
  intro k
  unfold pm_lf
  cases h : Nat.beq k i
  · exact hd k
  · rw [Nat.eq_of_beq_eq_true h]; exact hv
theorem pm_ndk {T : pm_T} {K : pm_K} {cR : Nat → ClassId} {D : va_G} {M : pm_I} {m : Nat} {a b : Nat → pm_S} (ha : ∀ k, pm_ok T K cR D M k (a k)) (hb : ∀ k, pm_ok T K cR D M k (b k)) : ∀ k, pm_ok T K cR D M k (pm_nd m a b k) := pm_nd_all (P := fun k S => pm_ok T K cR D M k S) ha hb
theorem pm_lfk {T : pm_T} {K : pm_K} {cR : Nat → ClassId} {D : va_G} {M : pm_I} {i : Nat} {v : pm_S} (hv : pm_ok T K cR D M i v) : ∀ k, pm_ok T K cR D M k (pm_lf pms_no i v k) := pm_lf_all (P := fun k S => pm_ok T K cR D M k S) hv (fun _ => pmk_no)
theorem pm_wm {w : Cond} (i : Nat) (h : lw_tbl[i]? = some w) (hg : goodWord w = true) : w ∈ pm_w := List.mem_filter.mpr ⟨List.mem_of_getElem? h, hg⟩
theorem pck_i (v : Value) (ad : Nat → Nat) (h : pm_ci v = true) : narrow .int (pm_V ad v) = pm_V ad v ∧ fits .int (pm_V ad v) = true := by
  cases v <;> first | exact ⟨rfl, rfl⟩ | cases h
theorem pck_l (v : Value) (ad : Nat → Nat) (h : pm_cl v = true) : narrow .long (pm_V ad v) = pm_V ad v ∧ fits .long (pm_V ad v) = true := by
  cases v <;> first | exact ⟨rfl, rfl⟩ | cases h
theorem pck_z (v : Value) (ad : Nat → Nat) (h : pm_cz v = true) : narrow .boolean (pm_V ad v) = pm_V ad v ∧ fits .boolean (pm_V ad v) = true := by
  cases v with
  | int x =>
    simp only [pm_cz, Bool.or_eq_true, beq_iff_eq] at h
    rcases h with rfl | rfl <;> exact ⟨by rw [pm_V_int]; decide +kernel, by rw [pm_V_int]; decide +kernel⟩
  | _ => cases h
theorem pck_r {ty : FieldType} (hty : (∃ n, ty = .object n) ∨ ∃ t, ty = .array t) (v : Value) (ad : Nat → Nat) (h : pm_cr v = true) : narrow ty (pm_V ad v) = pm_V ad v ∧ fits ty (pm_V ad v) = true := by
  cases v with
  | ref x => rcases hty with ⟨n, rfl⟩ | ⟨t, rfl⟩ <;> exact ⟨rfl, rfl⟩
  | _ => cases h
/-! Math.max, Math.min -/
def pmf_max (x y : Int32) : Int32 := if x < y then y else x
def pmf_min (x y : Int32) : Int32 := if y < x then y else x
def pms_mm (f : Int32 → Int32 → Int32) (nx : Nat) : pm_S := fun _ _ cont L st h => match st with
  | .int y :: .int x :: t => if (t.map fun v => v.category).sum ≤ 8 then cont nx L (.int (f x y) :: t) h else none
  | _ => none
theorem pm_G.of_r {K : pm_K} {cR : Nat → ClassId} {D : va_G} {M : pm_I} {pc nx : Nat} {L : pm_L} {st st' : List Value} {h h' : pm_H} {r : Option Value} (hg : pm_G K cR D M nx L st' h r h')
    (ht : ∀ (p : Program) (l : Launch) (e : Env) (R : Room) (s : State) (m : MethodId) (args : Array Value) (below : List Frame) (meth : Method) (c : Code) (A : Nat → Prop) (H : Heap) (locs : List Loc) (cells slots : Nat) (Q : State → Prop) (ad : Nat → Nat) (ls : Array Slot),
      pm_C cR D M p R s m args meth c A → pm_l ad M.2.2.1 ls L → cells ≤ R.cells → slots ≤ R.slots →
      W p l e R s m args below meth c H locs cells slots Q (F0 m nx ls (st'.map (pm_V ad))) →
      W p l e R s m args below meth c H locs cells slots Q (F0 m pc ls (st.map (pm_V ad)))) : pm_G K cR D M pc L st h r h' := by
  obtain ⟨⟨m1, m2⟩, hg⟩ := hg
  refine ⟨⟨m1, m2⟩, ?_⟩
  intro p l e R s m args below meth c A Q ad0 ad H locs ls cells slots n0 z0 hC hP hlo h1 h2 h3 h4 hX hQ
  exact ht p l e R s m args below meth c A H locs cells slots Q ad ls hC hlo (by omega) (by omega) (hg p l e R s m args below meth c A Q ad0 ad H locs ls cells slots n0 z0 hC hP hlo h1 h2 h3 h4 hX hQ)
theorem pmk_max {T : pm_T} {K : pm_K} {cR : Nat → ClassId} {D : va_G} {M : pm_I} {pc index nx : Nat} (hw1 : Cond.methodLink M.1 index Lib.Math.max.name ∈ pm_w) (hw2 : Cond.static Lib.Math.max.name ∈ pm_w) (hw3 : Cond.initialized "java/lang/Math" ∈ pm_w) (hw4 : Cond.code Lib.Math.max.name Lib.Math.max.code 2 (some .int) ∈ pm_w) (hf : 1 ≤ M.2.2.2.2.2.1) (hlo : 21 ≤ M.2.2.2.2.2.2) (hd : decode M.2.1 pc = .ok (.invokestatic index, 3)) (hn : pc + 3 = nx) : pm_ok T K cR D M pc (pms_mm pmf_max nx) := by
  intro call cont hcall hcont L st h r h' hS
  unfold pms_mm at hS
  split at hS
  · next y x t =>
    split at hS
    · next hcat =>
      refine pm_G.of_r (hcont _ _ _ _ _ _ hS) ?_
      intro p l e R s m args below meth c A H locs cells slots Q ad ls hC hl hc hs kk
      obtain ⟨he, hb, -, hml, ho, hts, -, -, -, -, hfr, hlr, -⟩ := hC
      subst hn
      exact va_mmax he hb (hml.trans hl.2.1.symm) ho (hts _ hw1) (hts _ hw2) (hts _ hw3) (hts _ hw4) (Nat.le_trans hf hfr) (by rw [pm_cat]; omega) hc hs hd kk
    · cases hS
  · cases hS
theorem pmk_min {T : pm_T} {K : pm_K} {cR : Nat → ClassId} {D : va_G} {M : pm_I} {pc index nx : Nat} (hw1 : Cond.methodLink M.1 index Lib.Math.min.name ∈ pm_w) (hw2 : Cond.static Lib.Math.min.name ∈ pm_w) (hw3 : Cond.initialized "java/lang/Math" ∈ pm_w) (hw4 : Cond.code Lib.Math.min.name Lib.Math.min.code 2 (some .int) ∈ pm_w) (hf : 1 ≤ M.2.2.2.2.2.1) (hlo : 21 ≤ M.2.2.2.2.2.2) (hd : decode M.2.1 pc = .ok (.invokestatic index, 3)) (hn : pc + 3 = nx) : pm_ok T K cR D M pc (pms_mm pmf_min nx) := by
  intro call cont hcall hcont L st h r h' hS
  unfold pms_mm at hS
  split at hS
  · next y x t =>
    split at hS
    · next hcat =>
      refine pm_G.of_r (hcont _ _ _ _ _ _ hS) ?_
      intro p l e R s m args below meth c A H locs cells slots Q ad ls hC hl hc hs kk
      obtain ⟨he, hb, -, hml, ho, hts, -, -, -, -, hfr, hlr, -⟩ := hC
      subst hn
      exact va_mmin he hb (hml.trans hl.2.1.symm) ho (hts _ hw1) (hts _ hw2) (hts _ hw3) (hts _ hw4) (Nat.le_trans hf hfr) (by rw [pm_cat]; omega) hc hs hd kk
    · cases hS
  · cases hS
