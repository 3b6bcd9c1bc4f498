-- bytes of code as numbers; a row of an instruction out of its bytes
def fd_q : List UInt8 → List Nat → Bool
  | _, [] => true
  | [], _ :: _ => false
  | x :: xs, b :: bs => Nat.beq x.toNat b && fd_q xs bs
abbrev fd_R (α : Type) := Reader DecodeError α
def fd_B (c : ByteArray) : Nat → List Nat → Prop
  | _, [] => True
  | p, b :: r => (Reader.u1 : fd_R Nat) c p = .ok (b, p + 1) ∧ fd_B c (p + 1) r
theorem fd_u (L : List UInt8) (p : Nat) (h0 : p < L.length) : (Reader.u1 : fd_R Nat) (ByteArray.mk (Array.mk L)) p = .ok (L[p].toNat, p + 1) := by
  have hs : p < (ByteArray.mk (Array.mk L)).size := h0
  show (do if h : p < (ByteArray.mk (Array.mk L)).size then do set (p + 1); Pure.pure (ByteArray.mk (Array.mk L))[p].toNat else MonadExcept.throw (HasTruncated.truncated p) : fd_R Nat) (ByteArray.mk (Array.mk L)) p = _
  rw [dif_pos hs]
  rfl
theorem fd_l : ∀ (bs : List Nat) (L : List UInt8) (p : Nat), fd_q (L.drop p) bs = true → fd_B (ByteArray.mk (Array.mk L)) p bs
  | [], _, _, _ => trivial
  | b :: r, L, p, h => by
    have hp : p < L.length := by
      refine Nat.lt_of_not_le fun hle => ?_
      rw [List.drop_eq_nil_of_le hle] at h
      exact absurd (show false = true from h) Bool.false_ne_true
    rw [List.drop_eq_getElem_cons hp] at h
    have h1 : (Nat.beq L[p].toNat b && fd_q (L.drop (p + 1)) r) = true := h
    rw [Bool.and_eq_true] at h1
    have h2 : L[p].toNat = b := Nat.eq_of_beq_eq_true h1.1
    refine ⟨?_, fd_l r L (p + 1) h1.2⟩
    rw [← h2]
    exact fd_u L p hp
theorem fd_o (c : ByteArray) (p : Nat) (bs : List Nat) (h : fd_q (c.data.toList.drop p) bs = true) : fd_B c p bs := by
  obtain ⟨⟨L⟩⟩ := c
  exact fd_l bs L p h
theorem fd_h {c : ByteArray} {p b : Nat} {r : List Nat} (h : fd_B c p (b :: r)) : (Reader.u1 : fd_R Nat) c p = .ok (b, p + 1) := And.left h
theorem fd_t1 {c : ByteArray} {p b : Nat} {r : List Nat} (h : fd_B c p (b :: r)) : fd_B c (p + 1) r := And.right h
theorem fd_t2 {c : ByteArray} {p a b : Nat} {r : List Nat} (h : fd_B c p (a :: b :: r)) : fd_B c (p + 2) r := fd_t1 (fd_t1 h)
theorem fd_t3 {c : ByteArray} {p a b d : Nat} {r : List Nat} (h : fd_B c p (a :: b :: d :: r)) : fd_B c (p + 3) r := fd_t1 (fd_t2 h)
theorem fd_b0 {α β : Type} (k : α → fd_R β) (c : ByteArray) (y : Except DecodeError (α × Nat)) (a : α) (s : Nat) (h : y = .ok (a, s)) : (do let (a, s) ← y; k a c s : Except DecodeError (β × Nat)) = k a c s := by
  subst h
  rfl
theorem fd_b {α β : Type} {x : fd_R α} {k : α → fd_R β} {c : ByteArray} {p : Nat} {a : α} {s : Nat} (h : x c p = .ok (a, s)) : (x >>= k) c p = k a c s := fd_b0 k c (x c p) a s h
theorem fd_m0 {α β : Type} (f : α → β) (y : Except DecodeError (α × Nat)) (a : α) (s : Nat) (h : y = .ok (a, s)) : (do let (a, s) ← y; .ok (f a, s) : Except DecodeError (β × Nat)) = .ok (f a, s) := by
  subst h
  rfl
theorem fd_m {α β : Type} {x : fd_R α} {f : α → β} {c : ByteArray} {p : Nat} {a : α} {s : Nat} (h : x c p = .ok (a, s)) : (f <$> x) c p = .ok (f a, s) := fd_m0 f (x c p) a s h
theorem fd_u1 {c : ByteArray} {p a : Nat} {r : List Nat} (h : fd_B c p (a :: r)) : (Reader.u1 : fd_R Nat) c p = .ok (a, p + 1) := fd_h h
theorem fd_u2 {c : ByteArray} {p a b : Nat} {r : List Nat} (h : fd_B c p (a :: b :: r)) : (Reader.u2 : fd_R Nat) c p = .ok (a * 256 + b, p + 2) := by
  show (Reader.u1 >>= fun hi => Reader.u1 >>= fun lo => Pure.pure (hi * 256 + lo) : fd_R Nat) c p = _
  refine Eq.trans (fd_b (fd_h h)) ?_
  refine Eq.trans (fd_b (fd_h (fd_t1 h))) ?_
  rfl
theorem fd_s1 {c : ByteArray} {p a : Nat} {r : List Nat} (h : fd_B c p (a :: r)) : (Reader.s1 : fd_R Int) c p = .ok (Reader.signed 8 a, p + 1) := by
  show (Reader.signed 8 <$> Reader.u1 : fd_R Int) c p = _
  exact fd_m (fd_u1 h)
theorem fd_s2 {c : ByteArray} {p a b : Nat} {r : List Nat} (h : fd_B c p (a :: b :: r)) : (Reader.s2 : fd_R Int) c p = .ok (Reader.signed 16 (a * 256 + b), p + 2) := by
  show (Reader.signed 16 <$> Reader.u2 : fd_R Int) c p = _
  exact fd_m (fd_u2 h)
theorem fd_d0 (y : Except DecodeError (Instr × Nat)) (pc n : Nat) (i : Instr) (h : y = .ok (i, pc + n)) : (do let (i, nx) ← y; Pure.pure (i, nx - pc) : Except DecodeError (Instr × Nat)) = .ok (i, n) := by
  subst h
  show Except.ok (i, pc + n - pc) = _
  rw [Nat.add_sub_cancel_left]
theorem fd_d {c : ByteArray} {pc n : Nat} {i : Instr} (h : (Decoder.instr pc : fd_R Instr) c pc = .ok (i, pc + n)) : decode c pc = .ok (i, n) := fd_d0 ((Decoder.instr pc : fd_R Instr) c pc) pc n i h
theorem fd_2 {c : ByteArray} {pc : Nat} {r : List Nat} (h : fd_B c pc (2 :: r)) : decode c pc = .ok (.iconst (-1), 1) := by
  refine fd_d ?_
  unfold Decoder.instr
  refine Eq.trans (fd_b (fd_h h)) ?_
  rfl
theorem fd_3 {c : ByteArray} {pc : Nat} {r : List Nat} (h : fd_B c pc (3 :: r)) : decode c pc = .ok (.iconst 0, 1) := by
  refine fd_d ?_
  unfold Decoder.instr
  refine Eq.trans (fd_b (fd_h h)) ?_
  rfl
theorem fd_4 {c : ByteArray} {pc : Nat} {r : List Nat} (h : fd_B c pc (4 :: r)) : decode c pc = .ok (.iconst 1, 1) := by
  refine fd_d ?_
  unfold Decoder.instr
  refine Eq.trans (fd_b (fd_h h)) ?_
  rfl
theorem fd_5 {c : ByteArray} {pc : Nat} {r : List Nat} (h : fd_B c pc (5 :: r)) : decode c pc = .ok (.iconst 2, 1) := by
  refine fd_d ?_
  unfold Decoder.instr
  refine Eq.trans (fd_b (fd_h h)) ?_
  rfl
theorem fd_6 {c : ByteArray} {pc : Nat} {r : List Nat} (h : fd_B c pc (6 :: r)) : decode c pc = .ok (.iconst 3, 1) := by
  refine fd_d ?_
  unfold Decoder.instr
  refine Eq.trans (fd_b (fd_h h)) ?_
  rfl
theorem fd_7 {c : ByteArray} {pc : Nat} {r : List Nat} (h : fd_B c pc (7 :: r)) : decode c pc = .ok (.iconst 4, 1) := by
  refine fd_d ?_
  unfold Decoder.instr
  refine Eq.trans (fd_b (fd_h h)) ?_
  rfl
theorem fd_8 {c : ByteArray} {pc : Nat} {r : List Nat} (h : fd_B c pc (8 :: r)) : decode c pc = .ok (.iconst 5, 1) := by
  refine fd_d ?_
  unfold Decoder.instr
  refine Eq.trans (fd_b (fd_h h)) ?_
  rfl
theorem fd_9 {c : ByteArray} {pc : Nat} {r : List Nat} (h : fd_B c pc (9 :: r)) : decode c pc = .ok (.lconst 0, 1) := by
  refine fd_d ?_
  unfold Decoder.instr
  refine Eq.trans (fd_b (fd_h h)) ?_
  rfl
theorem fd_10 {c : ByteArray} {pc : Nat} {r : List Nat} (h : fd_B c pc (10 :: r)) : decode c pc = .ok (.lconst 1, 1) := by
  refine fd_d ?_
  unfold Decoder.instr
  refine Eq.trans (fd_b (fd_h h)) ?_
  rfl
theorem fd_16 {c : ByteArray} {pc : Nat} {b0 : Nat} {v0 : Int} {r : List Nat} (h : fd_B c pc (16 :: b0 :: r)) (e0 : Reader.signed 8 b0 = v0) : decode c pc = .ok (.bipush v0, 2) := by
  subst e0
  refine fd_d ?_
  unfold Decoder.instr
  refine Eq.trans (fd_b (fd_h h)) ?_
  show (Reader.s1 >>= fun x0 => Pure.pure (Instr.bipush x0) : fd_R Instr) c (pc + 1) = _
  refine Eq.trans (fd_b (fd_s1 (fd_t1 h))) ?_
  rfl
theorem fd_17 {c : ByteArray} {pc : Nat} {b0 b1 : Nat} {v0 : Int} {r : List Nat} (h : fd_B c pc (17 :: b0 :: b1 :: r)) (e0 : Reader.signed 16 (b0 * 256 + b1) = v0) : decode c pc = .ok (.sipush v0, 3) := by
  subst e0
  refine fd_d ?_
  unfold Decoder.instr
  refine Eq.trans (fd_b (fd_h h)) ?_
  show (Reader.s2 >>= fun x0 => Pure.pure (Instr.sipush x0) : fd_R Instr) c (pc + 1) = _
  refine Eq.trans (fd_b (fd_s2 (fd_t1 h))) ?_
  rfl
theorem fd_18 {c : ByteArray} {pc : Nat} {b0 : Nat} {v0 : Nat} {r : List Nat} (h : fd_B c pc (18 :: b0 :: r)) (e0 : b0 = v0) : decode c pc = .ok (.ldc v0, 2) := by
  subst e0
  refine fd_d ?_
  unfold Decoder.instr
  refine Eq.trans (fd_b (fd_h h)) ?_
  show (Reader.u1 >>= fun x0 => Pure.pure (Instr.ldc x0) : fd_R Instr) c (pc + 1) = _
  refine Eq.trans (fd_b (fd_u1 (fd_t1 h))) ?_
  rfl
theorem fd_19 {c : ByteArray} {pc : Nat} {b0 b1 : Nat} {v0 : Nat} {r : List Nat} (h : fd_B c pc (19 :: b0 :: b1 :: r)) (e0 : b0 * 256 + b1 = v0) : decode c pc = .ok (.ldc_w v0, 3) := by
  subst e0
  refine fd_d ?_
  unfold Decoder.instr
  refine Eq.trans (fd_b (fd_h h)) ?_
  show (Reader.u2 >>= fun x0 => Pure.pure (Instr.ldc_w x0) : fd_R Instr) c (pc + 1) = _
  refine Eq.trans (fd_b (fd_u2 (fd_t1 h))) ?_
  rfl
theorem fd_20 {c : ByteArray} {pc : Nat} {b0 b1 : Nat} {v0 : Nat} {r : List Nat} (h : fd_B c pc (20 :: b0 :: b1 :: r)) (e0 : b0 * 256 + b1 = v0) : decode c pc = .ok (.ldc2_w v0, 3) := by
  subst e0
  refine fd_d ?_
  unfold Decoder.instr
  refine Eq.trans (fd_b (fd_h h)) ?_
  show (Reader.u2 >>= fun x0 => Pure.pure (Instr.ldc2_w x0) : fd_R Instr) c (pc + 1) = _
  refine Eq.trans (fd_b (fd_u2 (fd_t1 h))) ?_
  rfl
theorem fd_21 {c : ByteArray} {pc : Nat} {b0 : Nat} {v0 : Nat} {r : List Nat} (h : fd_B c pc (21 :: b0 :: r)) (e0 : b0 = v0) : decode c pc = .ok (.iload v0, 2) := by
  subst e0
  refine fd_d ?_
  unfold Decoder.instr
  refine Eq.trans (fd_b (fd_h h)) ?_
  show (Reader.u1 >>= fun x0 => Pure.pure (Instr.iload x0) : fd_R Instr) c (pc + 1) = _
  refine Eq.trans (fd_b (fd_u1 (fd_t1 h))) ?_
  rfl
theorem fd_22 {c : ByteArray} {pc : Nat} {b0 : Nat} {v0 : Nat} {r : List Nat} (h : fd_B c pc (22 :: b0 :: r)) (e0 : b0 = v0) : decode c pc = .ok (.lload v0, 2) := by
  subst e0
  refine fd_d ?_
  unfold Decoder.instr
  refine Eq.trans (fd_b (fd_h h)) ?_
  show (Reader.u1 >>= fun x0 => Pure.pure (Instr.lload x0) : fd_R Instr) c (pc + 1) = _
  refine Eq.trans (fd_b (fd_u1 (fd_t1 h))) ?_
  rfl
theorem fd_25 {c : ByteArray} {pc : Nat} {b0 : Nat} {v0 : Nat} {r : List Nat} (h : fd_B c pc (25 :: b0 :: r)) (e0 : b0 = v0) : decode c pc = .ok (.aload v0, 2) := by
  subst e0
  refine fd_d ?_
  unfold Decoder.instr
  refine Eq.trans (fd_b (fd_h h)) ?_
  show (Reader.u1 >>= fun x0 => Pure.pure (Instr.aload x0) : fd_R Instr) c (pc + 1) = _
  refine Eq.trans (fd_b (fd_u1 (fd_t1 h))) ?_
  rfl
theorem fd_26 {c : ByteArray} {pc : Nat} {r : List Nat} (h : fd_B c pc (26 :: r)) : decode c pc = .ok (.iload_n 0, 1) := by
  refine fd_d ?_
  unfold Decoder.instr
  refine Eq.trans (fd_b (fd_h h)) ?_
  rfl
theorem fd_27 {c : ByteArray} {pc : Nat} {r : List Nat} (h : fd_B c pc (27 :: r)) : decode c pc = .ok (.iload_n 1, 1) := by
  refine fd_d ?_
  unfold Decoder.instr
  refine Eq.trans (fd_b (fd_h h)) ?_
  rfl
theorem fd_28 {c : ByteArray} {pc : Nat} {r : List Nat} (h : fd_B c pc (28 :: r)) : decode c pc = .ok (.iload_n 2, 1) := by
  refine fd_d ?_
  unfold Decoder.instr
  refine Eq.trans (fd_b (fd_h h)) ?_
  rfl
theorem fd_29 {c : ByteArray} {pc : Nat} {r : List Nat} (h : fd_B c pc (29 :: r)) : decode c pc = .ok (.iload_n 3, 1) := by
  refine fd_d ?_
  unfold Decoder.instr
  refine Eq.trans (fd_b (fd_h h)) ?_
  rfl
theorem fd_30 {c : ByteArray} {pc : Nat} {r : List Nat} (h : fd_B c pc (30 :: r)) : decode c pc = .ok (.lload_n 0, 1) := by
  refine fd_d ?_
  unfold Decoder.instr
  refine Eq.trans (fd_b (fd_h h)) ?_
  rfl
theorem fd_31 {c : ByteArray} {pc : Nat} {r : List Nat} (h : fd_B c pc (31 :: r)) : decode c pc = .ok (.lload_n 1, 1) := by
  refine fd_d ?_
  unfold Decoder.instr
  refine Eq.trans (fd_b (fd_h h)) ?_
  rfl
theorem fd_32 {c : ByteArray} {pc : Nat} {r : List Nat} (h : fd_B c pc (32 :: r)) : decode c pc = .ok (.lload_n 2, 1) := by
  refine fd_d ?_
  unfold Decoder.instr
  refine Eq.trans (fd_b (fd_h h)) ?_
  rfl
theorem fd_42 {c : ByteArray} {pc : Nat} {r : List Nat} (h : fd_B c pc (42 :: r)) : decode c pc = .ok (.aload_n 0, 1) := by
  refine fd_d ?_
  unfold Decoder.instr
  refine Eq.trans (fd_b (fd_h h)) ?_
  rfl
theorem fd_43 {c : ByteArray} {pc : Nat} {r : List Nat} (h : fd_B c pc (43 :: r)) : decode c pc = .ok (.aload_n 1, 1) := by
  refine fd_d ?_
  unfold Decoder.instr
  refine Eq.trans (fd_b (fd_h h)) ?_
  rfl
theorem fd_44 {c : ByteArray} {pc : Nat} {r : List Nat} (h : fd_B c pc (44 :: r)) : decode c pc = .ok (.aload_n 2, 1) := by
  refine fd_d ?_
  unfold Decoder.instr
  refine Eq.trans (fd_b (fd_h h)) ?_
  rfl
theorem fd_45 {c : ByteArray} {pc : Nat} {r : List Nat} (h : fd_B c pc (45 :: r)) : decode c pc = .ok (.aload_n 3, 1) := by
  refine fd_d ?_
  unfold Decoder.instr
  refine Eq.trans (fd_b (fd_h h)) ?_
  rfl
theorem fd_46 {c : ByteArray} {pc : Nat} {r : List Nat} (h : fd_B c pc (46 :: r)) : decode c pc = .ok (.iaload, 1) := by
  refine fd_d ?_
  unfold Decoder.instr
  refine Eq.trans (fd_b (fd_h h)) ?_
  rfl
theorem fd_47 {c : ByteArray} {pc : Nat} {r : List Nat} (h : fd_B c pc (47 :: r)) : decode c pc = .ok (.laload, 1) := by
  refine fd_d ?_
  unfold Decoder.instr
  refine Eq.trans (fd_b (fd_h h)) ?_
  rfl
theorem fd_50 {c : ByteArray} {pc : Nat} {r : List Nat} (h : fd_B c pc (50 :: r)) : decode c pc = .ok (.aaload, 1) := by
  refine fd_d ?_
  unfold Decoder.instr
  refine Eq.trans (fd_b (fd_h h)) ?_
  rfl
theorem fd_51 {c : ByteArray} {pc : Nat} {r : List Nat} (h : fd_B c pc (51 :: r)) : decode c pc = .ok (.baload, 1) := by
  refine fd_d ?_
  unfold Decoder.instr
  refine Eq.trans (fd_b (fd_h h)) ?_
  rfl
theorem fd_54 {c : ByteArray} {pc : Nat} {b0 : Nat} {v0 : Nat} {r : List Nat} (h : fd_B c pc (54 :: b0 :: r)) (e0 : b0 = v0) : decode c pc = .ok (.istore v0, 2) := by
  subst e0
  refine fd_d ?_
  unfold Decoder.instr
  refine Eq.trans (fd_b (fd_h h)) ?_
  show (Reader.u1 >>= fun x0 => Pure.pure (Instr.istore x0) : fd_R Instr) c (pc + 1) = _
  refine Eq.trans (fd_b (fd_u1 (fd_t1 h))) ?_
  rfl
theorem fd_55 {c : ByteArray} {pc : Nat} {b0 : Nat} {v0 : Nat} {r : List Nat} (h : fd_B c pc (55 :: b0 :: r)) (e0 : b0 = v0) : decode c pc = .ok (.lstore v0, 2) := by
  subst e0
  refine fd_d ?_
  unfold Decoder.instr
  refine Eq.trans (fd_b (fd_h h)) ?_
  show (Reader.u1 >>= fun x0 => Pure.pure (Instr.lstore x0) : fd_R Instr) c (pc + 1) = _
  refine Eq.trans (fd_b (fd_u1 (fd_t1 h))) ?_
  rfl
theorem fd_58 {c : ByteArray} {pc : Nat} {b0 : Nat} {v0 : Nat} {r : List Nat} (h : fd_B c pc (58 :: b0 :: r)) (e0 : b0 = v0) : decode c pc = .ok (.astore v0, 2) := by
  subst e0
  refine fd_d ?_
  unfold Decoder.instr
  refine Eq.trans (fd_b (fd_h h)) ?_
  show (Reader.u1 >>= fun x0 => Pure.pure (Instr.astore x0) : fd_R Instr) c (pc + 1) = _
  refine Eq.trans (fd_b (fd_u1 (fd_t1 h))) ?_
  rfl
theorem fd_59 {c : ByteArray} {pc : Nat} {r : List Nat} (h : fd_B c pc (59 :: r)) : decode c pc = .ok (.istore_n 0, 1) := by
  refine fd_d ?_
  unfold Decoder.instr
  refine Eq.trans (fd_b (fd_h h)) ?_
  rfl
theorem fd_60 {c : ByteArray} {pc : Nat} {r : List Nat} (h : fd_B c pc (60 :: r)) : decode c pc = .ok (.istore_n 1, 1) := by
  refine fd_d ?_
  unfold Decoder.instr
  refine Eq.trans (fd_b (fd_h h)) ?_
  rfl
theorem fd_61 {c : ByteArray} {pc : Nat} {r : List Nat} (h : fd_B c pc (61 :: r)) : decode c pc = .ok (.istore_n 2, 1) := by
  refine fd_d ?_
  unfold Decoder.instr
  refine Eq.trans (fd_b (fd_h h)) ?_
  rfl
theorem fd_62 {c : ByteArray} {pc : Nat} {r : List Nat} (h : fd_B c pc (62 :: r)) : decode c pc = .ok (.istore_n 3, 1) := by
  refine fd_d ?_
  unfold Decoder.instr
  refine Eq.trans (fd_b (fd_h h)) ?_
  rfl
theorem fd_65 {c : ByteArray} {pc : Nat} {r : List Nat} (h : fd_B c pc (65 :: r)) : decode c pc = .ok (.lstore_n 2, 1) := by
  refine fd_d ?_
  unfold Decoder.instr
  refine Eq.trans (fd_b (fd_h h)) ?_
  rfl
theorem fd_76 {c : ByteArray} {pc : Nat} {r : List Nat} (h : fd_B c pc (76 :: r)) : decode c pc = .ok (.astore_n 1, 1) := by
  refine fd_d ?_
  unfold Decoder.instr
  refine Eq.trans (fd_b (fd_h h)) ?_
  rfl
theorem fd_77 {c : ByteArray} {pc : Nat} {r : List Nat} (h : fd_B c pc (77 :: r)) : decode c pc = .ok (.astore_n 2, 1) := by
  refine fd_d ?_
  unfold Decoder.instr
  refine Eq.trans (fd_b (fd_h h)) ?_
  rfl
theorem fd_78 {c : ByteArray} {pc : Nat} {r : List Nat} (h : fd_B c pc (78 :: r)) : decode c pc = .ok (.astore_n 3, 1) := by
  refine fd_d ?_
  unfold Decoder.instr
  refine Eq.trans (fd_b (fd_h h)) ?_
  rfl
theorem fd_79 {c : ByteArray} {pc : Nat} {r : List Nat} (h : fd_B c pc (79 :: r)) : decode c pc = .ok (.iastore, 1) := by
  refine fd_d ?_
  unfold Decoder.instr
  refine Eq.trans (fd_b (fd_h h)) ?_
  rfl
theorem fd_80 {c : ByteArray} {pc : Nat} {r : List Nat} (h : fd_B c pc (80 :: r)) : decode c pc = .ok (.lastore, 1) := by
  refine fd_d ?_
  unfold Decoder.instr
  refine Eq.trans (fd_b (fd_h h)) ?_
  rfl
theorem fd_83 {c : ByteArray} {pc : Nat} {r : List Nat} (h : fd_B c pc (83 :: r)) : decode c pc = .ok (.aastore, 1) := by
  refine fd_d ?_
  unfold Decoder.instr
  refine Eq.trans (fd_b (fd_h h)) ?_
  rfl
theorem fd_87 {c : ByteArray} {pc : Nat} {r : List Nat} (h : fd_B c pc (87 :: r)) : decode c pc = .ok (.pop, 1) := by
  refine fd_d ?_
  unfold Decoder.instr
  refine Eq.trans (fd_b (fd_h h)) ?_
  rfl
theorem fd_88 {c : ByteArray} {pc : Nat} {r : List Nat} (h : fd_B c pc (88 :: r)) : decode c pc = .ok (.pop2, 1) := by
  refine fd_d ?_
  unfold Decoder.instr
  refine Eq.trans (fd_b (fd_h h)) ?_
  rfl
theorem fd_89 {c : ByteArray} {pc : Nat} {r : List Nat} (h : fd_B c pc (89 :: r)) : decode c pc = .ok (.dup, 1) := by
  refine fd_d ?_
  unfold Decoder.instr
  refine Eq.trans (fd_b (fd_h h)) ?_
  rfl
theorem fd_92 {c : ByteArray} {pc : Nat} {r : List Nat} (h : fd_B c pc (92 :: r)) : decode c pc = .ok (.dup2, 1) := by
  refine fd_d ?_
  unfold Decoder.instr
  refine Eq.trans (fd_b (fd_h h)) ?_
  rfl
theorem fd_96 {c : ByteArray} {pc : Nat} {r : List Nat} (h : fd_B c pc (96 :: r)) : decode c pc = .ok (.iadd, 1) := by
  refine fd_d ?_
  unfold Decoder.instr
  refine Eq.trans (fd_b (fd_h h)) ?_
  rfl
theorem fd_97 {c : ByteArray} {pc : Nat} {r : List Nat} (h : fd_B c pc (97 :: r)) : decode c pc = .ok (.ladd, 1) := by
  refine fd_d ?_
  unfold Decoder.instr
  refine Eq.trans (fd_b (fd_h h)) ?_
  rfl
theorem fd_100 {c : ByteArray} {pc : Nat} {r : List Nat} (h : fd_B c pc (100 :: r)) : decode c pc = .ok (.isub, 1) := by
  refine fd_d ?_
  unfold Decoder.instr
  refine Eq.trans (fd_b (fd_h h)) ?_
  rfl
theorem fd_101 {c : ByteArray} {pc : Nat} {r : List Nat} (h : fd_B c pc (101 :: r)) : decode c pc = .ok (.lsub, 1) := by
  refine fd_d ?_
  unfold Decoder.instr
  refine Eq.trans (fd_b (fd_h h)) ?_
  rfl
theorem fd_104 {c : ByteArray} {pc : Nat} {r : List Nat} (h : fd_B c pc (104 :: r)) : decode c pc = .ok (.imul, 1) := by
  refine fd_d ?_
  unfold Decoder.instr
  refine Eq.trans (fd_b (fd_h h)) ?_
  rfl
theorem fd_105 {c : ByteArray} {pc : Nat} {r : List Nat} (h : fd_B c pc (105 :: r)) : decode c pc = .ok (.lmul, 1) := by
  refine fd_d ?_
  unfold Decoder.instr
  refine Eq.trans (fd_b (fd_h h)) ?_
  rfl
theorem fd_108 {c : ByteArray} {pc : Nat} {r : List Nat} (h : fd_B c pc (108 :: r)) : decode c pc = .ok (.idiv, 1) := by
  refine fd_d ?_
  unfold Decoder.instr
  refine Eq.trans (fd_b (fd_h h)) ?_
  rfl
theorem fd_109 {c : ByteArray} {pc : Nat} {r : List Nat} (h : fd_B c pc (109 :: r)) : decode c pc = .ok (.ldiv, 1) := by
  refine fd_d ?_
  unfold Decoder.instr
  refine Eq.trans (fd_b (fd_h h)) ?_
  rfl
theorem fd_112 {c : ByteArray} {pc : Nat} {r : List Nat} (h : fd_B c pc (112 :: r)) : decode c pc = .ok (.irem, 1) := by
  refine fd_d ?_
  unfold Decoder.instr
  refine Eq.trans (fd_b (fd_h h)) ?_
  rfl
theorem fd_113 {c : ByteArray} {pc : Nat} {r : List Nat} (h : fd_B c pc (113 :: r)) : decode c pc = .ok (.lrem, 1) := by
  refine fd_d ?_
  unfold Decoder.instr
  refine Eq.trans (fd_b (fd_h h)) ?_
  rfl
theorem fd_116 {c : ByteArray} {pc : Nat} {r : List Nat} (h : fd_B c pc (116 :: r)) : decode c pc = .ok (.ineg, 1) := by
  refine fd_d ?_
  unfold Decoder.instr
  refine Eq.trans (fd_b (fd_h h)) ?_
  rfl
theorem fd_120 {c : ByteArray} {pc : Nat} {r : List Nat} (h : fd_B c pc (120 :: r)) : decode c pc = .ok (.ishl, 1) := by
  refine fd_d ?_
  unfold Decoder.instr
  refine Eq.trans (fd_b (fd_h h)) ?_
  rfl
theorem fd_121 {c : ByteArray} {pc : Nat} {r : List Nat} (h : fd_B c pc (121 :: r)) : decode c pc = .ok (.lshl, 1) := by
  refine fd_d ?_
  unfold Decoder.instr
  refine Eq.trans (fd_b (fd_h h)) ?_
  rfl
theorem fd_122 {c : ByteArray} {pc : Nat} {r : List Nat} (h : fd_B c pc (122 :: r)) : decode c pc = .ok (.ishr, 1) := by
  refine fd_d ?_
  unfold Decoder.instr
  refine Eq.trans (fd_b (fd_h h)) ?_
  rfl
theorem fd_123 {c : ByteArray} {pc : Nat} {r : List Nat} (h : fd_B c pc (123 :: r)) : decode c pc = .ok (.lshr, 1) := by
  refine fd_d ?_
  unfold Decoder.instr
  refine Eq.trans (fd_b (fd_h h)) ?_
  rfl
theorem fd_124 {c : ByteArray} {pc : Nat} {r : List Nat} (h : fd_B c pc (124 :: r)) : decode c pc = .ok (.iushr, 1) := by
  refine fd_d ?_
  unfold Decoder.instr
  refine Eq.trans (fd_b (fd_h h)) ?_
  rfl
theorem fd_125 {c : ByteArray} {pc : Nat} {r : List Nat} (h : fd_B c pc (125 :: r)) : decode c pc = .ok (.lushr, 1) := by
  refine fd_d ?_
  unfold Decoder.instr
  refine Eq.trans (fd_b (fd_h h)) ?_
  rfl
theorem fd_126 {c : ByteArray} {pc : Nat} {r : List Nat} (h : fd_B c pc (126 :: r)) : decode c pc = .ok (.iand, 1) := by
  refine fd_d ?_
  unfold Decoder.instr
  refine Eq.trans (fd_b (fd_h h)) ?_
  rfl
theorem fd_127 {c : ByteArray} {pc : Nat} {r : List Nat} (h : fd_B c pc (127 :: r)) : decode c pc = .ok (.land, 1) := by
  refine fd_d ?_
  unfold Decoder.instr
  refine Eq.trans (fd_b (fd_h h)) ?_
  rfl
theorem fd_128 {c : ByteArray} {pc : Nat} {r : List Nat} (h : fd_B c pc (128 :: r)) : decode c pc = .ok (.ior, 1) := by
  refine fd_d ?_
  unfold Decoder.instr
  refine Eq.trans (fd_b (fd_h h)) ?_
  rfl
theorem fd_129 {c : ByteArray} {pc : Nat} {r : List Nat} (h : fd_B c pc (129 :: r)) : decode c pc = .ok (.lor, 1) := by
  refine fd_d ?_
  unfold Decoder.instr
  refine Eq.trans (fd_b (fd_h h)) ?_
  rfl
theorem fd_130 {c : ByteArray} {pc : Nat} {r : List Nat} (h : fd_B c pc (130 :: r)) : decode c pc = .ok (.ixor, 1) := by
  refine fd_d ?_
  unfold Decoder.instr
  refine Eq.trans (fd_b (fd_h h)) ?_
  rfl
theorem fd_132 {c : ByteArray} {pc : Nat} {b0 b1 : Nat} {v0 : Nat} {v1 : Int} {r : List Nat} (h : fd_B c pc (132 :: b0 :: b1 :: r)) (e0 : b0 = v0) (e1 : Reader.signed 8 b1 = v1) : decode c pc = .ok (.iinc v0 v1, 3) := by
  subst e0
  subst e1
  refine fd_d ?_
  unfold Decoder.instr
  refine Eq.trans (fd_b (fd_h h)) ?_
  show (Reader.u1 >>= fun x0 => Reader.s1 >>= fun x1 => Pure.pure (Instr.iinc x0 x1) : fd_R Instr) c (pc + 1) = _
  refine Eq.trans (fd_b (fd_u1 (fd_t1 h))) ?_
  refine Eq.trans (fd_b (fd_s1 (fd_t1 (fd_t1 h)))) ?_
  rfl
theorem fd_133 {c : ByteArray} {pc : Nat} {r : List Nat} (h : fd_B c pc (133 :: r)) : decode c pc = .ok (.i2l, 1) := by
  refine fd_d ?_
  unfold Decoder.instr
  refine Eq.trans (fd_b (fd_h h)) ?_
  rfl
theorem fd_136 {c : ByteArray} {pc : Nat} {r : List Nat} (h : fd_B c pc (136 :: r)) : decode c pc = .ok (.l2i, 1) := by
  refine fd_d ?_
  unfold Decoder.instr
  refine Eq.trans (fd_b (fd_h h)) ?_
  rfl
theorem fd_145 {c : ByteArray} {pc : Nat} {r : List Nat} (h : fd_B c pc (145 :: r)) : decode c pc = .ok (.i2b, 1) := by
  refine fd_d ?_
  unfold Decoder.instr
  refine Eq.trans (fd_b (fd_h h)) ?_
  rfl
theorem fd_146 {c : ByteArray} {pc : Nat} {r : List Nat} (h : fd_B c pc (146 :: r)) : decode c pc = .ok (.i2c, 1) := by
  refine fd_d ?_
  unfold Decoder.instr
  refine Eq.trans (fd_b (fd_h h)) ?_
  rfl
theorem fd_147 {c : ByteArray} {pc : Nat} {r : List Nat} (h : fd_B c pc (147 :: r)) : decode c pc = .ok (.i2s, 1) := by
  refine fd_d ?_
  unfold Decoder.instr
  refine Eq.trans (fd_b (fd_h h)) ?_
  rfl
theorem fd_148 {c : ByteArray} {pc : Nat} {r : List Nat} (h : fd_B c pc (148 :: r)) : decode c pc = .ok (.lcmp, 1) := by
  refine fd_d ?_
  unfold Decoder.instr
  refine Eq.trans (fd_b (fd_h h)) ?_
  rfl
theorem fd_153 {c : ByteArray} {pc : Nat} {b0 b1 : Nat} {v0 : Int} {r : List Nat} (h : fd_B c pc (153 :: b0 :: b1 :: r)) (e0 : Reader.signed 16 (b0 * 256 + b1) = v0) : decode c pc = .ok (.ifCond .eq v0, 3) := by
  subst e0
  refine fd_d ?_
  unfold Decoder.instr
  refine Eq.trans (fd_b (fd_h h)) ?_
  show (Reader.s2 >>= fun x0 => Pure.pure (Instr.ifCond .eq x0) : fd_R Instr) c (pc + 1) = _
  refine Eq.trans (fd_b (fd_s2 (fd_t1 h))) ?_
  rfl
theorem fd_154 {c : ByteArray} {pc : Nat} {b0 b1 : Nat} {v0 : Int} {r : List Nat} (h : fd_B c pc (154 :: b0 :: b1 :: r)) (e0 : Reader.signed 16 (b0 * 256 + b1) = v0) : decode c pc = .ok (.ifCond .ne v0, 3) := by
  subst e0
  refine fd_d ?_
  unfold Decoder.instr
  refine Eq.trans (fd_b (fd_h h)) ?_
  show (Reader.s2 >>= fun x0 => Pure.pure (Instr.ifCond .ne x0) : fd_R Instr) c (pc + 1) = _
  refine Eq.trans (fd_b (fd_s2 (fd_t1 h))) ?_
  rfl
theorem fd_155 {c : ByteArray} {pc : Nat} {b0 b1 : Nat} {v0 : Int} {r : List Nat} (h : fd_B c pc (155 :: b0 :: b1 :: r)) (e0 : Reader.signed 16 (b0 * 256 + b1) = v0) : decode c pc = .ok (.ifCond .lt v0, 3) := by
  subst e0
  refine fd_d ?_
  unfold Decoder.instr
  refine Eq.trans (fd_b (fd_h h)) ?_
  show (Reader.s2 >>= fun x0 => Pure.pure (Instr.ifCond .lt x0) : fd_R Instr) c (pc + 1) = _
  refine Eq.trans (fd_b (fd_s2 (fd_t1 h))) ?_
  rfl
theorem fd_156 {c : ByteArray} {pc : Nat} {b0 b1 : Nat} {v0 : Int} {r : List Nat} (h : fd_B c pc (156 :: b0 :: b1 :: r)) (e0 : Reader.signed 16 (b0 * 256 + b1) = v0) : decode c pc = .ok (.ifCond .ge v0, 3) := by
  subst e0
  refine fd_d ?_
  unfold Decoder.instr
  refine Eq.trans (fd_b (fd_h h)) ?_
  show (Reader.s2 >>= fun x0 => Pure.pure (Instr.ifCond .ge x0) : fd_R Instr) c (pc + 1) = _
  refine Eq.trans (fd_b (fd_s2 (fd_t1 h))) ?_
  rfl
theorem fd_158 {c : ByteArray} {pc : Nat} {b0 b1 : Nat} {v0 : Int} {r : List Nat} (h : fd_B c pc (158 :: b0 :: b1 :: r)) (e0 : Reader.signed 16 (b0 * 256 + b1) = v0) : decode c pc = .ok (.ifCond .le v0, 3) := by
  subst e0
  refine fd_d ?_
  unfold Decoder.instr
  refine Eq.trans (fd_b (fd_h h)) ?_
  show (Reader.s2 >>= fun x0 => Pure.pure (Instr.ifCond .le x0) : fd_R Instr) c (pc + 1) = _
  refine Eq.trans (fd_b (fd_s2 (fd_t1 h))) ?_
  rfl
theorem fd_159 {c : ByteArray} {pc : Nat} {b0 b1 : Nat} {v0 : Int} {r : List Nat} (h : fd_B c pc (159 :: b0 :: b1 :: r)) (e0 : Reader.signed 16 (b0 * 256 + b1) = v0) : decode c pc = .ok (.if_icmp .eq v0, 3) := by
  subst e0
  refine fd_d ?_
  unfold Decoder.instr
  refine Eq.trans (fd_b (fd_h h)) ?_
  show (Reader.s2 >>= fun x0 => Pure.pure (Instr.if_icmp .eq x0) : fd_R Instr) c (pc + 1) = _
  refine Eq.trans (fd_b (fd_s2 (fd_t1 h))) ?_
  rfl
theorem fd_160 {c : ByteArray} {pc : Nat} {b0 b1 : Nat} {v0 : Int} {r : List Nat} (h : fd_B c pc (160 :: b0 :: b1 :: r)) (e0 : Reader.signed 16 (b0 * 256 + b1) = v0) : decode c pc = .ok (.if_icmp .ne v0, 3) := by
  subst e0
  refine fd_d ?_
  unfold Decoder.instr
  refine Eq.trans (fd_b (fd_h h)) ?_
  show (Reader.s2 >>= fun x0 => Pure.pure (Instr.if_icmp .ne x0) : fd_R Instr) c (pc + 1) = _
  refine Eq.trans (fd_b (fd_s2 (fd_t1 h))) ?_
  rfl
theorem fd_161 {c : ByteArray} {pc : Nat} {b0 b1 : Nat} {v0 : Int} {r : List Nat} (h : fd_B c pc (161 :: b0 :: b1 :: r)) (e0 : Reader.signed 16 (b0 * 256 + b1) = v0) : decode c pc = .ok (.if_icmp .lt v0, 3) := by
  subst e0
  refine fd_d ?_
  unfold Decoder.instr
  refine Eq.trans (fd_b (fd_h h)) ?_
  show (Reader.s2 >>= fun x0 => Pure.pure (Instr.if_icmp .lt x0) : fd_R Instr) c (pc + 1) = _
  refine Eq.trans (fd_b (fd_s2 (fd_t1 h))) ?_
  rfl
theorem fd_162 {c : ByteArray} {pc : Nat} {b0 b1 : Nat} {v0 : Int} {r : List Nat} (h : fd_B c pc (162 :: b0 :: b1 :: r)) (e0 : Reader.signed 16 (b0 * 256 + b1) = v0) : decode c pc = .ok (.if_icmp .ge v0, 3) := by
  subst e0
  refine fd_d ?_
  unfold Decoder.instr
  refine Eq.trans (fd_b (fd_h h)) ?_
  show (Reader.s2 >>= fun x0 => Pure.pure (Instr.if_icmp .ge x0) : fd_R Instr) c (pc + 1) = _
  refine Eq.trans (fd_b (fd_s2 (fd_t1 h))) ?_
  rfl
theorem fd_163 {c : ByteArray} {pc : Nat} {b0 b1 : Nat} {v0 : Int} {r : List Nat} (h : fd_B c pc (163 :: b0 :: b1 :: r)) (e0 : Reader.signed 16 (b0 * 256 + b1) = v0) : decode c pc = .ok (.if_icmp .gt v0, 3) := by
  subst e0
  refine fd_d ?_
  unfold Decoder.instr
  refine Eq.trans (fd_b (fd_h h)) ?_
  show (Reader.s2 >>= fun x0 => Pure.pure (Instr.if_icmp .gt x0) : fd_R Instr) c (pc + 1) = _
  refine Eq.trans (fd_b (fd_s2 (fd_t1 h))) ?_
  rfl
theorem fd_164 {c : ByteArray} {pc : Nat} {b0 b1 : Nat} {v0 : Int} {r : List Nat} (h : fd_B c pc (164 :: b0 :: b1 :: r)) (e0 : Reader.signed 16 (b0 * 256 + b1) = v0) : decode c pc = .ok (.if_icmp .le v0, 3) := by
  subst e0
  refine fd_d ?_
  unfold Decoder.instr
  refine Eq.trans (fd_b (fd_h h)) ?_
  show (Reader.s2 >>= fun x0 => Pure.pure (Instr.if_icmp .le x0) : fd_R Instr) c (pc + 1) = _
  refine Eq.trans (fd_b (fd_s2 (fd_t1 h))) ?_
  rfl
theorem fd_167 {c : ByteArray} {pc : Nat} {b0 b1 : Nat} {v0 : Int} {r : List Nat} (h : fd_B c pc (167 :: b0 :: b1 :: r)) (e0 : Reader.signed 16 (b0 * 256 + b1) = v0) : decode c pc = .ok (.goto v0, 3) := by
  subst e0
  refine fd_d ?_
  unfold Decoder.instr
  refine Eq.trans (fd_b (fd_h h)) ?_
  show (Reader.s2 >>= fun x0 => Pure.pure (Instr.goto x0) : fd_R Instr) c (pc + 1) = _
  refine Eq.trans (fd_b (fd_s2 (fd_t1 h))) ?_
  rfl
theorem fd_172 {c : ByteArray} {pc : Nat} {r : List Nat} (h : fd_B c pc (172 :: r)) : decode c pc = .ok (.ireturn, 1) := by
  refine fd_d ?_
  unfold Decoder.instr
  refine Eq.trans (fd_b (fd_h h)) ?_
  rfl
theorem fd_173 {c : ByteArray} {pc : Nat} {r : List Nat} (h : fd_B c pc (173 :: r)) : decode c pc = .ok (.lreturn, 1) := by
  refine fd_d ?_
  unfold Decoder.instr
  refine Eq.trans (fd_b (fd_h h)) ?_
  rfl
theorem fd_176 {c : ByteArray} {pc : Nat} {r : List Nat} (h : fd_B c pc (176 :: r)) : decode c pc = .ok (.areturn, 1) := by
  refine fd_d ?_
  unfold Decoder.instr
  refine Eq.trans (fd_b (fd_h h)) ?_
  rfl
theorem fd_177 {c : ByteArray} {pc : Nat} {r : List Nat} (h : fd_B c pc (177 :: r)) : decode c pc = .ok (.return_, 1) := by
  refine fd_d ?_
  unfold Decoder.instr
  refine Eq.trans (fd_b (fd_h h)) ?_
  rfl
theorem fd_178 {c : ByteArray} {pc : Nat} {b0 b1 : Nat} {v0 : Nat} {r : List Nat} (h : fd_B c pc (178 :: b0 :: b1 :: r)) (e0 : b0 * 256 + b1 = v0) : decode c pc = .ok (.getstatic v0, 3) := by
  subst e0
  refine fd_d ?_
  unfold Decoder.instr
  refine Eq.trans (fd_b (fd_h h)) ?_
  show (Reader.u2 >>= fun x0 => Pure.pure (Instr.getstatic x0) : fd_R Instr) c (pc + 1) = _
  refine Eq.trans (fd_b (fd_u2 (fd_t1 h))) ?_
  rfl
theorem fd_180 {c : ByteArray} {pc : Nat} {b0 b1 : Nat} {v0 : Nat} {r : List Nat} (h : fd_B c pc (180 :: b0 :: b1 :: r)) (e0 : b0 * 256 + b1 = v0) : decode c pc = .ok (.getfield v0, 3) := by
  subst e0
  refine fd_d ?_
  unfold Decoder.instr
  refine Eq.trans (fd_b (fd_h h)) ?_
  show (Reader.u2 >>= fun x0 => Pure.pure (Instr.getfield x0) : fd_R Instr) c (pc + 1) = _
  refine Eq.trans (fd_b (fd_u2 (fd_t1 h))) ?_
  rfl
theorem fd_181 {c : ByteArray} {pc : Nat} {b0 b1 : Nat} {v0 : Nat} {r : List Nat} (h : fd_B c pc (181 :: b0 :: b1 :: r)) (e0 : b0 * 256 + b1 = v0) : decode c pc = .ok (.putfield v0, 3) := by
  subst e0
  refine fd_d ?_
  unfold Decoder.instr
  refine Eq.trans (fd_b (fd_h h)) ?_
  show (Reader.u2 >>= fun x0 => Pure.pure (Instr.putfield x0) : fd_R Instr) c (pc + 1) = _
  refine Eq.trans (fd_b (fd_u2 (fd_t1 h))) ?_
  rfl
theorem fd_182 {c : ByteArray} {pc : Nat} {b0 b1 : Nat} {v0 : Nat} {r : List Nat} (h : fd_B c pc (182 :: b0 :: b1 :: r)) (e0 : b0 * 256 + b1 = v0) : decode c pc = .ok (.invokevirtual v0, 3) := by
  subst e0
  refine fd_d ?_
  unfold Decoder.instr
  refine Eq.trans (fd_b (fd_h h)) ?_
  show (Reader.u2 >>= fun x0 => Pure.pure (Instr.invokevirtual x0) : fd_R Instr) c (pc + 1) = _
  refine Eq.trans (fd_b (fd_u2 (fd_t1 h))) ?_
  rfl
theorem fd_183 {c : ByteArray} {pc : Nat} {b0 b1 : Nat} {v0 : Nat} {r : List Nat} (h : fd_B c pc (183 :: b0 :: b1 :: r)) (e0 : b0 * 256 + b1 = v0) : decode c pc = .ok (.invokespecial v0, 3) := by
  subst e0
  refine fd_d ?_
  unfold Decoder.instr
  refine Eq.trans (fd_b (fd_h h)) ?_
  show (Reader.u2 >>= fun x0 => Pure.pure (Instr.invokespecial x0) : fd_R Instr) c (pc + 1) = _
  refine Eq.trans (fd_b (fd_u2 (fd_t1 h))) ?_
  rfl
theorem fd_184 {c : ByteArray} {pc : Nat} {b0 b1 : Nat} {v0 : Nat} {r : List Nat} (h : fd_B c pc (184 :: b0 :: b1 :: r)) (e0 : b0 * 256 + b1 = v0) : decode c pc = .ok (.invokestatic v0, 3) := by
  subst e0
  refine fd_d ?_
  unfold Decoder.instr
  refine Eq.trans (fd_b (fd_h h)) ?_
  show (Reader.u2 >>= fun x0 => Pure.pure (Instr.invokestatic x0) : fd_R Instr) c (pc + 1) = _
  refine Eq.trans (fd_b (fd_u2 (fd_t1 h))) ?_
  rfl
theorem fd_187 {c : ByteArray} {pc : Nat} {b0 b1 : Nat} {v0 : Nat} {r : List Nat} (h : fd_B c pc (187 :: b0 :: b1 :: r)) (e0 : b0 * 256 + b1 = v0) : decode c pc = .ok (.new v0, 3) := by
  subst e0
  refine fd_d ?_
  unfold Decoder.instr
  refine Eq.trans (fd_b (fd_h h)) ?_
  show (Reader.u2 >>= fun x0 => Pure.pure (Instr.new x0) : fd_R Instr) c (pc + 1) = _
  refine Eq.trans (fd_b (fd_u2 (fd_t1 h))) ?_
  rfl
theorem fd_188_10 {c : ByteArray} {pc : Nat} {r : List Nat} (h : fd_B c pc (188 :: 10 :: r)) : decode c pc = .ok (.newarray .int, 2) := by
  refine fd_d ?_
  unfold Decoder.instr
  refine Eq.trans (fd_b (fd_h h)) ?_
  show (Decoder.newarray pc : fd_R Instr) c (pc + 1) = _
  unfold Decoder.newarray
  refine Eq.trans (fd_b (fd_h (fd_t1 h))) ?_
  rfl
theorem fd_188_11 {c : ByteArray} {pc : Nat} {r : List Nat} (h : fd_B c pc (188 :: 11 :: r)) : decode c pc = .ok (.newarray .long, 2) := by
  refine fd_d ?_
  unfold Decoder.instr
  refine Eq.trans (fd_b (fd_h h)) ?_
  show (Decoder.newarray pc : fd_R Instr) c (pc + 1) = _
  unfold Decoder.newarray
  refine Eq.trans (fd_b (fd_h (fd_t1 h))) ?_
  rfl
theorem fd_189 {c : ByteArray} {pc : Nat} {b0 b1 : Nat} {v0 : Nat} {r : List Nat} (h : fd_B c pc (189 :: b0 :: b1 :: r)) (e0 : b0 * 256 + b1 = v0) : decode c pc = .ok (.anewarray v0, 3) := by
  subst e0
  refine fd_d ?_
  unfold Decoder.instr
  refine Eq.trans (fd_b (fd_h h)) ?_
  show (Reader.u2 >>= fun x0 => Pure.pure (Instr.anewarray x0) : fd_R Instr) c (pc + 1) = _
  refine Eq.trans (fd_b (fd_u2 (fd_t1 h))) ?_
  rfl
theorem fd_190 {c : ByteArray} {pc : Nat} {r : List Nat} (h : fd_B c pc (190 :: r)) : decode c pc = .ok (.arraylength, 1) := by
  refine fd_d ?_
  unfold Decoder.instr
  refine Eq.trans (fd_b (fd_h h)) ?_
  rfl
theorem fd_191 {c : ByteArray} {pc : Nat} {r : List Nat} (h : fd_B c pc (191 :: r)) : decode c pc = .ok (.athrow, 1) := by
  refine fd_d ?_
  unfold Decoder.instr
  refine Eq.trans (fd_b (fd_h h)) ?_
  rfl
