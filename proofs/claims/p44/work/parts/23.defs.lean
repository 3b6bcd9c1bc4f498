/-! what every method does, as a function of the numbers: a program laid these rows -/
def f_X0_forget (s : SS) (t : TT) : Option (SS × TT) :=
  wr (up2 s 33 1 0) fun s1 => wr (up2 s1 33 2 0) fun s2 => some (s2, t)
def f_X0_play (x1 : Int32) (x2 : Int32) (x3 : Int32) (s : SS) (t : TT) : Option (SS × TT) :=
  wr (up2 s 33 3 x1) fun s1 => wr (up2 s1 33 4 x2) fun s2 => wr (up2 s2 33 5 x3) fun s3 => some (s3, t)
def f_X0_enter (x1 : Int32) (s : SS) (t : TT) : Option (SS × TT) :=
  if 30 ≤ (s 33 1) then (some (s, t)) else ((rx 30 (s 33 1)).bind fun j2 => wr (up2 s 34 j2 x1) fun s2 => wr (up2 s2 33 1 ((s2 33 1) + (1 : Int32))) fun s3 => some (s3, t))
def j_X5_isUnder_19 (x0 : Int32) (x1 : Int32) (s : SS) (t : TT) : Option (Int32 × SS × TT) :=
  if x1 = 2 then (if x0 = 4 then (some (1, s, t)) else (some (0, s, t))) else (some (0, s, t))
def f_X5_isUnder (x0 : Int32) (x1 : Int32) (s : SS) (t : TT) : Option (Int32 × SS × TT) :=
  if x0 = x1 then (some (1, s, t)) else (if x1 = 0 then (some (1, s, t)) else (if x1 = 1 then (if x0 = 3 then (some (1, s, t)) else (j_X5_isUnder_19 x0 x1 s t)) else (j_X5_isUnder_19 x0 x1 s t)))
def j_X0_thinks_86 (x2 : Int32) (s : SS) (t : TT) : Option (Int32 × SS × TT) :=
  if (s 33 3) = 3 then (some ((x2 - (s 33 5)), s, t)) else (some (x2, s, t))
def j_X0_thinks_75 (x2 : Int32) (s : SS) (t : TT) : Option (Int32 × SS × TT) :=
  if (s 33 3) = 4 then (j_X0_thinks_86 (x2 + 2) s t) else (j_X0_thinks_86 x2 s t)
def j_X0_thinks_45 (x1 : Int32) (s : SS) (t : TT) : Option (Int32 × SS × TT) :=
  (f_X0_enter 10 s t).bind fun q1 => (f_X5_isUnder (q1.1 33 3) 2 q1.1 q1.2).bind fun q2 => if q2.1 = 0 then (j_X0_thinks_75 ((x1 * (4 : Int32)) - (q1.1 33 4)) q2.2.1 q2.2.2) else (j_X0_thinks_75 ((0 : Int32) - ((x1 * (4 : Int32)) - (q1.1 33 4))) q2.2.1 q2.2.2)
def j_X0_thinks_31 (x1 : Int32) (s : SS) (t : TT) : Option (Int32 × SS × TT) :=
  if (s 33 3) = 3 then ((f_X0_enter 51 s t).bind fun q2 => j_X0_thinks_45 x1 q2.1 q2.2) else (j_X0_thinks_45 x1 s t)
def j_X0_thinks_14 (x1 : Int32) (s : SS) (t : TT) : Option (Int32 × SS × TT) :=
  (f_X5_isUnder (s 33 3) 2 s t).bind fun q1 => if q1.1 = 0 then (j_X0_thinks_31 x1 q1.2.1 q1.2.2) else ((f_X0_enter 30 q1.2.1 q1.2.2).bind fun q3 => j_X0_thinks_31 x1 q3.1 q3.2)
def f_X0_thinks (x1 : Int32) (s : SS) (t : TT) : Option (Int32 × SS × TT) :=
  if (s 33 3) = 4 then ((f_X0_enter 40 s t).bind fun q2 => j_X0_thinks_14 x1 q2.1 q2.2) else (j_X0_thinks_14 x1 s t)
def j_X0_asks_63 (x2 : Int32) (s : SS) (t : TT) : Option (Int32 × SS × TT) :=
  if (s 33 3) = 4 then ((f_X0_thinks (s 33 5) s t).bind fun q2 => some ((x2 ^^^ q2.1), q2.2.1, q2.2.2)) else (some (x2, s, t))
def j_X0_asks_31 (x1 : Int32) (s : SS) (t : TT) : Option (Int32 × SS × TT) :=
  (f_X0_enter 11 s t).bind fun q1 => (f_X0_thinks x1 q1.1 q1.2).bind fun q2 => (f_X5_isUnder (q2.2.1 33 3) 1 q2.2.1 q2.2.2).bind fun q3 => if q3.1 = 0 then (j_X0_asks_63 (q2.1 + (q2.2.1 33 5)) q3.2.1 q3.2.2) else (j_X0_asks_63 ((q2.1 + (q2.2.1 33 5)) * (3 : Int32)) q3.2.1 q3.2.2)
def j_X0_asks_17 (x1 : Int32) (s : SS) (t : TT) : Option (Int32 × SS × TT) :=
  if (s 33 3) = 4 then ((f_X0_enter 41 s t).bind fun q2 => j_X0_asks_31 x1 q2.1 q2.2) else (j_X0_asks_31 x1 s t)
def f_X0_asks (x1 : Int32) (s : SS) (t : TT) : Option (Int32 × SS × TT) :=
  (f_X5_isUnder (s 33 3) 1 s t).bind fun q1 => if q1.1 = 0 then (j_X0_asks_17 x1 q1.2.1 q1.2.2) else ((f_X0_enter 20 q1.2.1 q1.2.2).bind fun q3 => j_X0_asks_17 x1 q3.1 q3.2)
def j_X0_parts_88 (x3 : Int32) (s : SS) (t : TT) : Option (Int32 × SS × TT) :=
  if (s 33 3) = 5 then ((f_X0_thinks (s 33 4) s t).bind fun q2 => some ((x3 - q2.1), q2.2.1, q2.2.2)) else (some (x3, s, t))
def j_X0_parts_70 (x2 : Int32) (y0 : Int32) (s : SS) (t : TT) : Option (Int32 × SS × TT) :=
  if x2 = 0 then none else if (s 33 3) = 3 then (j_X0_parts_88 ((y0 / x2) - (s 33 4)) s t) else (j_X0_parts_88 (y0 / x2) s t)
def j_X0_parts_28 (x1 : Int32) (s : SS) (t : TT) : Option (Int32 × SS × TT) :=
  (f_X0_enter 12 s t).bind fun q1 => if ((q1.1 33 5) - (q1.1 33 4)) = 0 then (wr (up2 q1.1 33 2 1) fun s4 => some (0, s4, q1.2)) else (if (q1.1 33 3) = 3 then (j_X0_parts_70 ((q1.1 33 5) - (q1.1 33 4)) (x1 * (2 : Int32)) q1.1 q1.2) else (j_X0_parts_70 ((q1.1 33 5) - (q1.1 33 4)) x1 q1.1 q1.2))
def j_X0_parts_14 (x1 : Int32) (s : SS) (t : TT) : Option (Int32 × SS × TT) :=
  if (s 33 3) = 5 then ((f_X0_enter 61 s t).bind fun q2 => j_X0_parts_28 x1 q2.1 q2.2) else (j_X0_parts_28 x1 s t)
def f_X0_parts (x1 : Int32) (s : SS) (t : TT) : Option (Int32 × SS × TT) :=
  if (s 33 3) = 3 then ((f_X0_enter 50 s t).bind fun q2 => j_X0_parts_14 x1 q2.1 q2.2) else (j_X0_parts_14 x1 s t)
def j_X0_writes_68 (x2 : Int32) (s : SS) (t : TT) : Option (Int32 × SS × TT) :=
  if (s 33 3) = 5 then (some (((8 : Int32) - x2), s, t)) else (some (x2, s, t))
def j_X0_writes_31 (x1 : Int32) (s : SS) (t : TT) : Option (Int32 × SS × TT) :=
  (f_X0_enter 13 s t).bind fun q1 => (f_X0_asks x1 q1.1 q1.2).bind fun q2 => (f_X5_isUnder (q2.2.1 33 3) 2 q2.2.1 q2.2.2).bind fun q3 => if q3.1 = 0 then (j_X0_writes_68 (q2.1 ^^^ (10 : Int32)) q3.2.1 q3.2.2) else ((f_X0_parts (q3.2.1 33 4) q3.2.1 q3.2.2).bind fun q5 => j_X0_writes_68 ((q2.1 ^^^ (10 : Int32)) + q5.1) q5.2.1 q5.2.2)
def j_X0_writes_17 (x1 : Int32) (s : SS) (t : TT) : Option (Int32 × SS × TT) :=
  if (s 33 3) = 5 then ((f_X0_enter 60 s t).bind fun q2 => j_X0_writes_31 x1 q2.1 q2.2) else (j_X0_writes_31 x1 s t)
def f_X0_writes (x1 : Int32) (s : SS) (t : TT) : Option (Int32 × SS × TT) :=
  (f_X5_isUnder (s 33 3) 2 s t).bind fun q1 => if q1.1 = 0 then (j_X0_writes_17 x1 q1.2.1 q1.2.2) else ((f_X0_enter 31 q1.2.1 q1.2.2).bind fun q3 => j_X0_writes_17 x1 q3.1 q3.2)
def f_X0_perform (x1 : Int32) (x2 : Int32) (s : SS) (t : TT) : Option (Int32 × SS × TT) :=
  if x1 = 0 then ((f_X0_thinks x2 s t).bind fun q2 => some (q2.1, q2.2.1, q2.2.2)) else (if x1 = 1 then ((f_X0_asks x2 s t).bind fun q4 => some (q4.1, q4.2.1, q4.2.2)) else (if x1 = 2 then ((f_X0_parts x2 s t).bind fun q6 => some (q6.1, q6.2.1, q6.2.2)) else (if x1 = 3 then ((f_X0_writes x2 s t).bind fun q8 => some (q8.1, q8.2.1, q8.2.2)) else (some (0, s, t)))))
def f_X1_begin (o : Nat) (s : SS) (t : TT) : Option (SS × TT) :=
  wr (cp2 s (o + 1) (fun i => ([3, 2, 1, 20] : List Int32).getD i 0)) fun s1 => wr (up2 s1 o 8 0) fun s2 => wr (up2 s2 o 9 0) fun s3 => wr (up2 s3 o 10 0) fun s4 => some (s4, t)
def f_X1_become (o : Nat) (o1 : Nat) (s : SS) (t : TT) : Option (SS × TT) :=
  wr (cp2 s (o + 1) (s (o1 + 1))) fun s1 => wr (cp2 s1 (o + 2) (s1 (o1 + 2))) fun s2 => wr (cp2 s2 (o + 3) (s2 (o1 + 3))) fun s3 => wr (cp2 s3 (o + 4) (s3 (o1 + 4))) fun s4 => wr (cp2 s4 (o + 5) (s4 (o1 + 5))) fun s5 => wr (cp2 s5 (o + 6) (s5 (o1 + 6))) fun s6 => wr (cp2 s6 (o + 7) (s6 (o1 + 7))) fun s7 => wr (up2 s7 o 8 (s7 o1 8)) fun s8 => wr (up2 s8 o 9 (s8 o1 9)) fun s9 => wr (up2 s9 o 10 (s9 o1 10)) fun s10 => wr (up2 s10 o 11 (s10 o1 11)) fun s11 => some (s11, t)
def f_X1_add (o : Nat) (x1 : Int32) (x2 : Int32) (x3 : Int32) (x4 : Int32) (s : SS) (t : TT) : Option (SS × TT) :=
  (rx 8 (s o 8)).bind fun j1 => wr (up2 s (o + 2) j1 x1) fun s1 => (rx 8 (s1 o 8)).bind fun j2 => wr (up2 s1 (o + 3) j2 x2) fun s2 => (rx 8 (s2 o 8)).bind fun j3 => wr (up2 s2 (o + 4) j3 x3) fun s3 => (rx 8 (s3 o 8)).bind fun j4 => wr (up2 s3 (o + 5) j4 x4) fun s4 => (rx 8 (s4 o 8)).bind fun j5 => wr (up2 s4 (o + 6) j5 0) fun s5 => (rx 8 (s5 o 8)).bind fun j6 => wr (up2 s5 (o + 7) j6 0) fun s6 => wr (up2 s6 o 8 ((s6 o 8) + (1 : Int32))) fun s7 => some (s7, t)
def f_X5_isWithin (x0 : Int32) (x1 : Int32) (x2 : Int32) (s : SS) (t : TT) : Option (Int32 × SS × TT) :=
  if x0 < x1 then (some (0, s, t)) else (if x2 < x0 then (some (0, s, t)) else (some (1, s, t)))
def f_X1_has (o : Nat) (x1 : Int32) (s : SS) (t : TT) : Option (Int32 × SS × TT) :=
  (f_X5_isWithin x1 0 ((s o 8) - (1 : Int32)) s t).bind fun q1 => if (q1.1 == 0 || q1.1 == 1) = true then some (q1.1, q1.2.1, q1.2.2) else none
def b_X1_sumOf_4 (o : Nat) (o1 : Nat) (k4 : Int32 × Int32 × SS × TT → Option (Int32 × SS × TT)) (x2 : Int32) (x3 : Int32) (s : SS) (t : TT) : Option (Int32 × SS × TT) :=
  if (s o 8) ≤ x3 then (some (x2, s, t)) else ((rx 8 x3).bind fun j2 => k4 ((x2 + (s o1 j2)), (x3 + 1), s, t))
def l_X1_sumOf_4 (o : Nat) (o1 : Nat) (n : Nat) : Int32 × Int32 × SS × TT → Option (Int32 × SS × TT) := it (fun k a => b_X1_sumOf_4 o o1 k a.1 a.2.1 a.2.2.1 a.2.2.2) n
def f_X1_sumOf (o : Nat) (o1 : Nat) (s : SS) (t : TT) : Option (Int32 × SS × TT) :=
  l_X1_sumOf_4 o o1 300 (0, 0, s, t)
def b_X1_countOf_4 (o : Nat) (o1 : Nat) (k4 : Int32 × Int32 × SS × TT → Option (Int32 × SS × TT)) (x2 : Int32) (x3 : Int32) (s : SS) (t : TT) : Option (Int32 × SS × TT) :=
  if (s o 8) ≤ x3 then (some (x2, s, t)) else ((rx 8 x3).bind fun j2 => if (s o1 j2) ≤ 0 then (k4 (x2, (x3 + 1), s, t)) else (k4 ((x2 + 1), (x3 + 1), s, t)))
def l_X1_countOf_4 (o : Nat) (o1 : Nat) (n : Nat) : Int32 × Int32 × SS × TT → Option (Int32 × SS × TT) := it (fun k a => b_X1_countOf_4 o o1 k a.1 a.2.1 a.2.2.1 a.2.2.2) n
def f_X1_countOf (o : Nat) (o1 : Nat) (s : SS) (t : TT) : Option (Int32 × SS × TT) :=
  l_X1_countOf_4 o o1 300 (0, 0, s, t)
def j_X1_needing_61 (o : Nat) (x2 : Int32) (x3 : Int32) (s : SS) (t : TT) : Option (Int32 × SS × TT) :=
  if x2 = 5 then (some ((x3 + (-7)), s, t)) else (some (x3, s, t))
def j_X1_needing_53 (o : Nat) (x2 : Int32) (x3 : Int32) (s : SS) (t : TT) : Option (Int32 × SS × TT) :=
  if x2 = 4 then (j_X1_needing_61 o x2 (x3 + (-5)) s t) else (j_X1_needing_61 o x2 x3 s t)
def j_X1_needing_41 (o : Nat) (x2 : Int32) (x3 : Int32) (s : SS) (t : TT) : Option (Int32 × SS × TT) :=
  (f_X5_isUnder x2 2 s t).bind fun q1 => if q1.1 = 0 then (j_X1_needing_53 o x2 x3 q1.2.1 q1.2.2) else (j_X1_needing_53 o x2 (x3 * (2 : Int32)) q1.2.1 q1.2.2)
def j_X1_needing_27 (o : Nat) (x1 : Int32) (x2 : Int32) (x3 : Int32) (s : SS) (t : TT) : Option (Int32 × SS × TT) :=
  if x2 = 3 then ((rx 8 x1).bind fun j2 => j_X1_needing_41 o x2 (x3 - (s (o + 4) j2)) s t) else (j_X1_needing_41 o x2 x3 s t)
def f_X1_needing (o : Nat) (x1 : Int32) (s : SS) (t : TT) : Option (Int32 × SS × TT) :=
  (rx 8 x1).bind fun j1 => (f_X5_isUnder (s (o + 2) j1) 1 s t).bind fun q2 => if q2.1 = 0 then (j_X1_needing_27 o x1 (s (o + 2) j1) 10 q2.2.1 q2.2.2) else ((rx 4 1).bind fun j4 => j_X1_needing_27 o x1 (s (o + 2) j1) ((10 : Int32) + (q2.2.1 (o + 1) j4)) q2.2.1 q2.2.2)
def b_X1_readySet_4 (o : Nat) (k4 : Int32 × Int32 × SS × TT → Option (Int32 × SS × TT)) (x1 : Int32) (x2 : Int32) (s : SS) (t : TT) : Option (Int32 × SS × TT) :=
  if (s o 8) ≤ x2 then (some (x1, s, t)) else ((rx 8 x2).bind fun j2 => (f_X1_needing o x2 s t).bind fun q3 => if (s (o + 3) j2) < q3.1 then (k4 (x1, (x2 + 1), q3.2.1, q3.2.2)) else (k4 ((x1 ||| ((1 : Int32) <<< (x2 &&& 31))), (x2 + 1), q3.2.1, q3.2.2)))
def l_X1_readySet_4 (o : Nat) (n : Nat) : Int32 × Int32 × SS × TT → Option (Int32 × SS × TT) := it (fun k a => b_X1_readySet_4 o k a.1 a.2.1 a.2.2.1 a.2.2.2) n
def f_X1_readySet (o : Nat) (s : SS) (t : TT) : Option (Int32 × SS × TT) :=
  l_X1_readySet_4 o 300 (0, 0, s, t)
def j_X1_thinking_54 (o : Nat) (x1 : Int32) (x2 : Int32) (x3 : Int32) (s : SS) (t : TT) : Option (Int32 × SS × TT) :=
  if x2 = 5 then ((rx 8 x1).bind fun j2 => some ((x3 + (s (o + 4) j2)), s, t)) else (some (x3, s, t))
def j_X1_thinking_40 (o : Nat) (x1 : Int32) (x2 : Int32) (x3 : Int32) (s : SS) (t : TT) : Option (Int32 × SS × TT) :=
  if x2 = 4 then ((rx 4 2).bind fun j2 => j_X1_thinking_54 o x1 x2 (x3 + (s (o + 1) j2)) s t) else (j_X1_thinking_54 o x1 x2 x3 s t)
def j_X1_thinking_29 (o : Nat) (x1 : Int32) (x2 : Int32) (x3 : Int32) (s : SS) (t : TT) : Option (Int32 × SS × TT) :=
  (f_X5_isUnder x2 2 s t).bind fun q1 => if q1.1 = 0 then (j_X1_thinking_40 o x1 x2 x3 q1.2.1 q1.2.2) else (j_X1_thinking_40 o x1 x2 (x3 + (-1)) q1.2.1 q1.2.2)
def j_X1_thinking_20 (o : Nat) (x1 : Int32) (x2 : Int32) (x3 : Int32) (s : SS) (t : TT) : Option (Int32 × SS × TT) :=
  if x2 = 3 then (j_X1_thinking_29 o x1 x2 (x3 * (2 : Int32)) s t) else (j_X1_thinking_29 o x1 x2 x3 s t)
def f_X1_thinking (o : Nat) (x1 : Int32) (s : SS) (t : TT) : Option (Int32 × SS × TT) :=
  (rx 8 x1).bind fun j1 => (f_X5_isUnder (s (o + 2) j1) 1 s t).bind fun q2 => if q2.1 = 0 then (j_X1_thinking_20 o x1 (s (o + 2) j1) 2 q2.2.1 q2.2.2) else (j_X1_thinking_20 o x1 (s (o + 2) j1) (2 + 1) q2.2.1 q2.2.2)
def j_X1_saying_60 (o : Nat) (x1 : Int32) (x2 : Int32) (x3 : Int32) (s : SS) (t : TT) : Option (Int32 × SS × TT) :=
  if x2 = 4 then ((rx 8 x1).bind fun j2 => some ((x3 + (pmf_max 0 ((s (o + 5) j2) - (1 : Int32)))), s, t)) else (some (x3, s, t))
def j_X1_saying_43 (o : Nat) (x1 : Int32) (x2 : Int32) (x3 : Int32) (s : SS) (t : TT) : Option (Int32 × SS × TT) :=
  (f_X5_isUnder x2 2 s t).bind fun q1 => if q1.1 = 0 then (j_X1_saying_60 o x1 x2 x3 q1.2.1 q1.2.2) else ((rx 4 2).bind fun j3 => j_X1_saying_60 o x1 x2 (x3 + (q1.2.1 (o + 1) j3)) q1.2.1 q1.2.2)
def j_X1_saying_35 (o : Nat) (x1 : Int32) (x2 : Int32) (x3 : Int32) (s : SS) (t : TT) : Option (Int32 × SS × TT) :=
  if x2 = 3 then (j_X1_saying_43 o x1 x2 (x3 + (-1)) s t) else (j_X1_saying_43 o x1 x2 x3 s t)
def f_X1_saying (o : Nat) (x1 : Int32) (s : SS) (t : TT) : Option (Int32 × SS × TT) :=
  (rx 8 x1).bind fun j1 => if (s (o + 2) j1) = 5 then (some (0, s, t)) else ((rx 8 x1).bind fun j3 => (f_X5_isUnder (s (o + 2) j1) 1 s t).bind fun q4 => if q4.1 = 0 then (j_X1_saying_35 o x1 (s (o + 2) j1) ((1 : Int32) + (s (o + 4) j3)) q4.2.1 q4.2.2) else (j_X1_saying_35 o x1 (s (o + 2) j1) (((1 : Int32) + (s (o + 4) j3)) * (2 : Int32)) q4.2.1 q4.2.2))
def j_X1_isUsing_30 (o : Nat) (x2 : Int32) (s : SS) (t : TT) : Option (Int32 × SS × TT) :=
  (f_X5_isUnder x2 2 s t).bind fun q1 => if q1.1 = 0 then (some (1, q1.2.1, q1.2.2)) else (if ((q1.2.1 o 9) - (q1.2.1 o 9) / 2 * 2) = 0 then (some (0, q1.2.1, q1.2.2)) else (some (1, q1.2.1, q1.2.2)))
def f_X1_isUsing (o : Nat) (x1 : Int32) (s : SS) (t : TT) : Option (Int32 × SS × TT) :=
  (rx 8 x1).bind fun j1 => if (s (o + 2) j1) = 5 then (some (0, s, t)) else (if (s (o + 2) j1) = 4 then (if ((s o 9) - (s o 9) / 3 * 3) = 0 then (j_X1_isUsing_30 o (s (o + 2) j1) s t) else (some (0, s, t))) else (j_X1_isUsing_30 o (s (o + 2) j1) s t))
def b_X1_think_2 (o : Nat) (k2 : Int32 × SS × TT → Option (SS × TT)) (x1 : Int32) (s : SS) (t : TT) : Option (SS × TT) :=
  if (s o 8) ≤ x1 then (some (s, t)) else ((rx 8 x1).bind fun j2 => (f_X1_thinking o x1 s t).bind fun q3 => (rx 8 x1).bind fun j4 => wr (up2 q3.2.1 (o + 3) j4 (pmf_min 99 ((s (o + 3) j2) + q3.1))) fun s4 => (f_X1_needing o x1 s4 q3.2.2).bind fun q5 => (rx 8 x1).bind fun j6 => wr (up2 q5.2.1 (o + 8) j6 q5.1) fun s6 => k2 ((x1 + 1), s6, q5.2.2))
def l_X1_think_2 (o : Nat) (n : Nat) : Int32 × SS × TT → Option (SS × TT) := it (fun k a => b_X1_think_2 o k a.1 a.2.1 a.2.2) n
def f_X1_think (o : Nat) (s : SS) (t : TT) : Option (SS × TT) :=
  l_X1_think_2 o 300 (0, s, t)
def b_X1_keenest_8 (o : Nat) (k8 : Int32 × Int32 × Int32 × Int32 × SS × TT → Option (Int32 × SS × TT)) (x1 : Int32) (x2 : Int32) (x3 : Int32) (x4 : Int32) (s : SS) (t : TT) : Option (Int32 × SS × TT) :=
  if (s o 8) ≤ x4 then (some (x2, s, t)) else ((rx 8 x4).bind fun j2 => (rx 8 x4).bind fun j3 => if ((s (o + 3) j2) - (s (o + 8) j3)) ≤ x3 then (k8 (x1, x2, x3, (x4 + 1), s, t)) else ((rx 8 x4).bind fun j5 => if 99 ≤ (s (o + 5) j5) then (k8 (x1, x2, x3, (x4 + 1), s, t)) else (if ((x1 >>> (x4 &&& 31)) &&& (1 : Int32)) = 0 then (k8 (x1, x2, x3, (x4 + 1), s, t)) else (k8 (x1, x4, ((s (o + 3) j2) - (s (o + 8) j3)), (x4 + 1), s, t)))))
def l_X1_keenest_8 (o : Nat) (n : Nat) : Int32 × Int32 × Int32 × Int32 × SS × TT → Option (Int32 × SS × TT) := it (fun k a => b_X1_keenest_8 o k a.1 a.2.1 a.2.2.1 a.2.2.2.1 a.2.2.2.2.1 a.2.2.2.2.2) n
def f_X1_keenest (o : Nat) (x1 : Int32) (s : SS) (t : TT) : Option (Int32 × SS × TT) :=
  l_X1_keenest_8 o 300 (x1, (-3), (-1), 0, s, t)
def b_X1_handOut_7 (o : Nat) (k7 : Int32 × Int32 × SS × TT → Option (SS × TT)) (x1 : Int32) (x2 : Int32) (s : SS) (t : TT) : Option (SS × TT) :=
  if x2 ≤ 0 then (some (s, t)) else ((f_X1_keenest o x1 s t).bind fun q2 => if 0 ≤ q2.1 then ((rx 8 q2.1).bind fun j4 => (rx 8 q2.1).bind fun j5 => wr (up2 q2.2.1 (o + 5) j5 ((q2.2.1 (o + 5) j4) + (1 : Int32))) fun s5 => (rx 8 q2.1).bind fun j6 => (rx 8 q2.1).bind fun j7 => wr (up2 s5 (o + 6) j7 (pmf_min 9999 ((s5 (o + 6) j6) + (1 : Int32)))) fun s7 => (rx 8 q2.1).bind fun j8 => (rx 8 q2.1).bind fun j9 => (rx 8 q2.1).bind fun j10 => wr (up2 s7 (o + 3) j10 ((s7 (o + 3) j8) - (s7 (o + 8) j9))) fun s10 => k7 (x1, (x2 + (-1)), s10, q2.2.2)) else (wr (up2 q2.2.1 o 10 (pmf_min 9999 ((q2.2.1 o 10) + x2))) fun s11 => some (s11, q2.2.2)))
def l_X1_handOut_7 (o : Nat) (n : Nat) : Int32 × Int32 × SS × TT → Option (SS × TT) := it (fun k a => b_X1_handOut_7 o k a.1 a.2.1 a.2.2.1 a.2.2.2) n
def f_X1_handOut (o : Nat) (x1 : Int32) (s : SS) (t : TT) : Option (SS × TT) :=
  (rx 4 0).bind fun j1 => l_X1_handOut_7 o 300 (x1, (s (o + 1) j1), s, t)
def b_X1_speak_4 (o : Nat) (k4 : Int32 × Int32 × SS × TT → Option (Int32 × SS × TT)) (x1 : Int32) (x2 : Int32) (s : SS) (t : TT) : Option (Int32 × SS × TT) :=
  if (s o 8) ≤ x2 then (some (x1, s, t)) else ((rx 8 x2).bind fun j2 => if (s (o + 5) j2) = 0 then (k4 (x1, (x2 + 1), s, t)) else ((f_X1_saying o x2 s t).bind fun q4 => (rx 8 x2).bind fun j5 => (rx 8 x2).bind fun j6 => wr (up2 q4.2.1 (o + 7) j6 (pmf_min 99999 ((q4.2.1 (o + 7) j5) + q4.1))) fun s6 => (f_X1_isUsing o x2 s6 q4.2.2).bind fun q7 => if q7.1 = 0 then (k4 ((x1 + q4.1), (x2 + 1), q7.2.1, q7.2.2)) else ((rx 8 x2).bind fun j9 => (rx 8 x2).bind fun j10 => wr (up2 q7.2.1 (o + 5) j10 ((q7.2.1 (o + 5) j9) - (1 : Int32))) fun s10 => k4 ((x1 + q4.1), (x2 + 1), s10, q7.2.2))))
def l_X1_speak_4 (o : Nat) (n : Nat) : Int32 × Int32 × SS × TT → Option (Int32 × SS × TT) := it (fun k a => b_X1_speak_4 o k a.1 a.2.1 a.2.2.1 a.2.2.2) n
def f_X1_speak (o : Nat) (s : SS) (t : TT) : Option (Int32 × SS × TT) :=
  l_X1_speak_4 o 300 (0, 0, s, t)
def f_X1_passWeek (o : Nat) (x1 : Int32) (s : SS) (t : TT) : Option (Int32 × SS × TT) :=
  (f_X1_think o s t).bind fun q1 => (f_X1_handOut o x1 q1.1 q1.2).bind fun q2 => (f_X1_speak o q2.1 q2.2).bind fun q3 => wr (up2 q3.2.1 o 9 ((q3.2.1 o 9) + (1 : Int32))) fun s4 => some (q3.1, s4, q3.2.2)
def f_X1_draw (o : Nat) (s : SS) (t : TT) : Option (Int32 × SS × TT) :=
  wr (up2 s o 11 (((s o 11) * (1103515245 : Int32)) + (12345 : Int32))) fun s1 => some ((pmf_iushr (s1 o 11) (16 : Int32)), s1, t)
def j_X1_passWeekByDraws_43 (o : Nat) (s : SS) (t : TT) : Option (Int32 × SS × TT) :=
  (f_X1_passWeek o 255 s t).bind fun q1 => some (q1.1, q1.2.1, q1.2.2)
def f_X1_passWeekByDraws (o : Nat) (s : SS) (t : TT) : Option (Int32 × SS × TT) :=
  if (s o 8) ≤ 0 then (j_X1_passWeekByDraws_43 o  s t) else ((f_X1_draw o s t).bind fun q2 => if (q2.2.1 o 8) = 0 then none else (f_X1_draw o q2.2.1 q2.2.2).bind fun q4 => (rx 4 3).bind fun j5 => if (q4.2.1 (o + 1) j5) ≤ (q4.1 - q4.1 / 100 * 100) then (j_X1_passWeekByDraws_43 o  q4.2.1 q4.2.2) else ((rx 8 (q2.1 - q2.1 / (q2.2.1 o 8) * (q2.2.1 o 8))).bind fun j7 => (rx 8 (q2.1 - q2.1 / (q2.2.1 o 8) * (q2.2.1 o 8))).bind fun j8 => wr (up2 q4.2.1 (o + 3) j8 ((q4.2.1 (o + 3) j7) / 2)) fun s8 => j_X1_passWeekByDraws_43 o  s8 q4.2.2))
def b_X2_begin_12 (o : Nat) (k12 : Int32 × SS × TT → Option (SS × TT)) (x3 : Int32) (s : SS) (t : TT) : Option (SS × TT) :=
  if (Int32.ofNat 40) ≤ x3 then (some (s, t)) else ((rx 40 x3).bind fun j2 => wr (up2 t (o + 1) j2 0) fun t2 => k12 ((x3 + 1), s, t2))
def l_X2_begin_12 (o : Nat) (n : Nat) : Int32 × SS × TT → Option (SS × TT) := it (fun k a => b_X2_begin_12 o k a.1 a.2.1 a.2.2) n
def f_X2_begin (o : Nat) (x1 : Int32) (x2 : Int32) (s : SS) (t : TT) : Option (SS × TT) :=
  wr (up2 s o 1 x1) fun s1 => wr (up2 s1 o 2 x2) fun s2 => l_X2_begin_12 o 300 (0, s2, t)
def f_X3_holdPerson (o : Nat) (x1 : Int32) (s : SS) (t : TT) : Option (SS × TT) :=
  wr (up2 s o 0 0) fun s1 => wr (up2 s1 o 1 x1) fun s2 => some (s2, t)
def j_X3_holdRow_14 (o : Nat) (o1 : Nat) (y0 : Int32) (s : SS) (t : TT) : Option (SS × TT) :=
  wr (up2 s o 0 y0) fun s1 => wr (up2 s1 o 2 (s1 o1 1)) fun s2 => wr (up2 s2 o 3 (s2 o1 2)) fun s3 => some (s3, t)
def f_X3_holdRow (o : Nat) (o1 : Nat) (s : SS) (t : TT) : Option (SS × TT) :=
  if (s o1 1) = (-1) then (j_X3_holdRow_14 o o1 2 s t) else (j_X3_holdRow_14 o o1 1 s t)
def b_X4_take_17 (k17 : Int64 × Int32 × Int32 × SS × TT → Option (Int32 × SS × TT)) (x1 : Int64) (x3 : Int32) (x4 : Int32) (s : SS) (t : TT) : Option (Int32 × SS × TT) :=
  if x3 ≤ x4 then (wr (up2 s 28 7 ((s 28 7) + x3)) fun s2 => some (1, s2, t)) else ((rx 200 ((s 28 7) + x4)).bind fun j3 => wr (up2 s 29 j3 (Int64.toInt32 ((pmf_lushr x1 ((8 : Int32) * x4)) &&& (255 : Int64)))) fun s3 => k17 (x1, x3, (x4 + 1), s3, t))
def l_X4_take_17 (n : Nat) : Int64 × Int32 × Int32 × SS × TT → Option (Int32 × SS × TT) := it (fun k a => b_X4_take_17 k a.1 a.2.1 a.2.2.1 a.2.2.2.1 a.2.2.2.2) n
def f_X4_take (x1 : Int64) (x3 : Int32) (s : SS) (t : TT) : Option (Int32 × SS × TT) :=
  if x3 ≤ ((200 : Int32) - (s 28 7)) then (l_X4_take_17 300 (x1, x3, 0, s, t)) else (some (0, s, t))
def f_X4_isLetter (x0 : Int32) (s : SS) (t : TT) : Option (Int32 × SS × TT) :=
  (f_X5_isWithin x0 97 122 s t).bind fun q1 => if (q1.1 == 0 || q1.1 == 1) = true then some (q1.1, q1.2.1, q1.2.2) else none
def f_X4_spelling (x0 : Int32) (s : SS) (t : TT) : Option (Nat × SS × TT) :=
  if x0 = 0 then (some (0, s, t)) else (if x0 = 1 then (some (1, s, t)) else (if x0 = 2 then (some (2, s, t)) else (if x0 = 3 then (some (3, s, t)) else (if x0 = 4 then (some (4, s, t)) else (if x0 = 5 then (some (5, s, t)) else (if x0 = 6 then (some (6, s, t)) else (if x0 = 7 then (some (7, s, t)) else (if x0 = 8 then (some (8, s, t)) else (if x0 = 9 then (some (9, s, t)) else (if x0 = 10 then (some (10, s, t)) else (if x0 = 11 then (some (11, s, t)) else (if x0 = 12 then (some (12, s, t)) else (some (13, s, t))))))))))))))
def b_X4_isSpelt_23 (k23 : Nat × Int32 × Int32 × Int32 × SS × TT → Option (Int32 × SS × TT)) (x1 : Nat) (x2 : Int32) (x3 : Int32) (x4 : Int32) (s : SS) (t : TT) : Option (Int32 × SS × TT) :=
  if x3 ≤ x4 then (some (1, s, t)) else ((rx 200 (x2 + x4)).bind fun j2 => (rs x1).bind fun i3 => (rx (pm_sl.getD x1 0) x4).bind fun j3 => if (s 29 j2) = ((pm_sb.getD x1 []).getD j3 0) then (k23 (x1, x2, x3, (x4 + 1), s, t)) else (some (0, s, t)))
def l_X4_isSpelt_23 (n : Nat) : Nat × Int32 × Int32 × Int32 × SS × TT → Option (Int32 × SS × TT) := it (fun k a => b_X4_isSpelt_23 k a.1 a.2.1 a.2.2.1 a.2.2.2.1 a.2.2.2.2.1 a.2.2.2.2.2) n
def f_X4_isSpelt (x1 : Nat) (x2 : Int32) (x3 : Int32) (s : SS) (t : TT) : Option (Int32 × SS × TT) :=
  (rs x1).bind fun i1 => if (Int32.ofNat (pm_sl.getD x1 0)) = x3 then (if (x2 + x3) ≤ (s 28 7) then (l_X4_isSpelt_23 300 (x1, x2, x3, 0, s, t)) else (some (0, s, t))) else (some (0, s, t))
def b_X4_wordAt_2 (k2 : Int32 × Int32 × Int32 × SS × TT → Option (Int32 × SS × TT)) (x1 : Int32) (x2 : Int32) (x3 : Int32) (s : SS) (t : TT) : Option (Int32 × SS × TT) :=
  if 12 < x3 then (some ((-1), s, t)) else ((f_X4_spelling x3 s t).bind fun q2 => (f_X4_isSpelt q2.1 x1 x2 q2.2.1 q2.2.2).bind fun q3 => if q3.1 = 0 then (k2 (x1, x2, (x3 + 1), q3.2.1, q3.2.2)) else (some (x3, q3.2.1, q3.2.2)))
def l_X4_wordAt_2 (n : Nat) : Int32 × Int32 × Int32 × SS × TT → Option (Int32 × SS × TT) := it (fun k a => b_X4_wordAt_2 k a.1 a.2.1 a.2.2.1 a.2.2.2.1 a.2.2.2.2) n
def f_X4_wordAt (x1 : Int32) (x2 : Int32) (s : SS) (t : TT) : Option (Int32 × SS × TT) :=
  l_X4_wordAt_2 300 (x1, x2, 0, s, t)
def f_X4_addToken (x1 : Int32) (x2 : Int32) (x3 : Int32) (s : SS) (t : TT) : Option (SS × TT) :=
  if (Int32.ofNat 201) ≤ (s 28 4) then (some (s, t)) else ((rx 201 (s 28 4)).bind fun j2 => wr (up2 s 30 j2 x1) fun s2 => (rx 201 (s2 28 4)).bind fun j3 => wr (up2 s2 31 j3 x2) fun s3 => (rx 201 (s3 28 4)).bind fun j4 => wr (up2 s3 32 j4 x3) fun s4 => wr (up2 s4 28 4 ((s4 28 4) + (1 : Int32))) fun s5 => some (s5, t))
def j_X4_cutName_30 (x1 : Int32) (x2 : Int32) (s : SS) (t : TT) : Option (Int32 × SS × TT) :=
  (f_X4_wordAt x1 (x2 - x1) s t).bind fun q1 => (f_X4_addToken 1 q1.1 x1 q1.2.1 q1.2.2).bind fun q2 => some (x2, q2.1, q2.2)
def b_X4_cutName_4 (k4 : Int32 × Int32 × SS × TT → Option (Int32 × SS × TT)) (x1 : Int32) (x2 : Int32) (s : SS) (t : TT) : Option (Int32 × SS × TT) :=
  if (s 28 7) ≤ x2 then (j_X4_cutName_30 x1 x2 s t) else ((rx 200 x2).bind fun j2 => (f_X4_isLetter (s 29 j2) s t).bind fun q3 => if q3.1 = 0 then (j_X4_cutName_30 x1 x2 q3.2.1 q3.2.2) else (k4 (x1, (x2 + 1), q3.2.1, q3.2.2)))
def l_X4_cutName_4 (n : Nat) : Int32 × Int32 × SS × TT → Option (Int32 × SS × TT) := it (fun k a => b_X4_cutName_4 k a.1 a.2.1 a.2.2.1 a.2.2.2) n
def f_X4_cutName (x1 : Int32) (s : SS) (t : TT) : Option (Int32 × SS × TT) :=
  l_X4_cutName_4 300 (x1, (x1 + (1 : Int32)), s, t)
def f_X4_isDigit (x0 : Int32) (s : SS) (t : TT) : Option (Int32 × SS × TT) :=
  (f_X5_isWithin x0 48 57 s t).bind fun q1 => if (q1.1 == 0 || q1.1 == 1) = true then some (q1.1, q1.2.1, q1.2.2) else none
def j_X4_cutNumber_67 (x1 : Int32) (x3 : Int32) (y0 : Int32) (y1 : Int32) (s : SS) (t : TT) : Option (Int32 × SS × TT) :=
  (f_X4_addToken y1 y0 x1 s t).bind fun q1 => some (x3, q1.1, q1.2)
def j_X4_cutNumber_51 (x1 : Int32) (x2 : Int32) (x3 : Int32) (s : SS) (t : TT) : Option (Int32 × SS × TT) :=
  if (x3 - x1) ≤ 3 then (j_X4_cutNumber_67 x1 x3 x2 2 s t) else (j_X4_cutNumber_67 x1 x3 1000 2 s t)
def b_X4_cutNumber_4 (k4 : Int32 × Int32 × Int32 × SS × TT → Option (Int32 × SS × TT)) (x1 : Int32) (x2 : Int32) (x3 : Int32) (s : SS) (t : TT) : Option (Int32 × SS × TT) :=
  if (s 28 7) ≤ x3 then (j_X4_cutNumber_51 x1 x2 x3 s t) else ((rx 200 x3).bind fun j2 => (f_X4_isDigit (s 29 j2) s t).bind fun q3 => if q3.1 = 0 then (j_X4_cutNumber_51 x1 x2 x3 q3.2.1 q3.2.2) else ((rx 200 x3).bind fun j5 => k4 (x1, (pmf_min 1000 (((x2 * (10 : Int32)) + (q3.2.1 29 j5)) - (48 : Int32))), (x3 + 1), q3.2.1, q3.2.2)))
def l_X4_cutNumber_4 (n : Nat) : Int32 × Int32 × Int32 × SS × TT → Option (Int32 × SS × TT) := it (fun k a => b_X4_cutNumber_4 k a.1 a.2.1 a.2.2.1 a.2.2.2.1 a.2.2.2.2) n
def f_X4_cutNumber (x1 : Int32) (s : SS) (t : TT) : Option (Int32 × SS × TT) :=
  l_X4_cutNumber_4 300 (x1, 0, x1, s, t)
def j_X4_cut_91 (s : SS) (t : TT) : Option (SS × TT) :=
  (f_X4_addToken 0 0 (s 28 7) s t).bind fun q1 => some (q1.1, q1.2)
def b_X4_cut_9 (k9 : Int32 × Int32 × SS × TT → Option (SS × TT)) (x1 : Int32) (x2 : Int32) (s : SS) (t : TT) : Option (SS × TT) :=
  if 200 ≤ x2 then (j_X4_cut_91  s t) else (if (s 28 7) ≤ x1 then (j_X4_cut_91  s t) else ((rx 200 x1).bind fun j3 => if (s 29 j3) = 32 then (k9 ((x1 + 1), (x2 + 1), s, t)) else ((f_X4_isLetter (s 29 j3) s t).bind fun q5 => if q5.1 = 0 then ((f_X4_isDigit (s 29 j3) q5.2.1 q5.2.2).bind fun q7 => if q7.1 = 0 then ((f_X4_addToken 3 (s 29 j3) x1 q7.2.1 q7.2.2).bind fun q9 => k9 ((x1 + 1), (x2 + 1), q9.1, q9.2)) else ((f_X4_cutNumber x1 q7.2.1 q7.2.2).bind fun q10 => k9 (q10.1, (x2 + 1), q10.2.1, q10.2.2))) else ((f_X4_cutName x1 q5.2.1 q5.2.2).bind fun q11 => k9 (q11.1, (x2 + 1), q11.2.1, q11.2.2)))))
def l_X4_cut_9 (n : Nat) : Int32 × Int32 × SS × TT → Option (SS × TT) := it (fun k a => b_X4_cut_9 k a.1 a.2.1 a.2.2.1 a.2.2.2) n
def f_X4_cut (s : SS) (t : TT) : Option (SS × TT) :=
  wr (up2 s 28 4 0) fun s1 => l_X4_cut_9 300 (0, 0, s1, t)
def f_X5_isKind (x0 : Int32) (s : SS) (t : TT) : Option (Int32 × SS × TT) :=
  (f_X5_isWithin x0 0 5 s t).bind fun q1 => if (q1.1 == 0 || q1.1 == 1) = true then some (q1.1, q1.2.1, q1.2.2) else none
def f_X4_fail (s : SS) (t : TT) : Option (SS × TT) :=
  if 0 ≤ (s 28 6) then (some (s, t)) else ((rx 201 (s 28 5)).bind fun j2 => wr (up2 s 28 6 (s 32 j2)) fun s3 => some (s3, t))
def j_X4_numberUpTo_26 (s : SS) (t : TT) : Option (Int32 × SS × TT) :=
  (f_X4_fail s t).bind fun q1 => some (0, q1.1, q1.2)
def f_X4_numberUpTo (x1 : Int32) (s : SS) (t : TT) : Option (Int32 × SS × TT) :=
  (rx 201 (s 28 5)).bind fun j1 => if (s 30 j1) = 2 then ((rx 201 (s 28 5)).bind fun j3 => if (s 31 j3) ≤ x1 then ((rx 201 (s 28 5)).bind fun j5 => wr (up2 s 28 5 ((s 28 5) + (1 : Int32))) fun s6 => some ((s 31 j5), s6, t)) else (j_X4_numberUpTo_26  s t)) else (j_X4_numberUpTo_26  s t)
def f_X4_numberBehind (x1 : Int32) (x2 : Int32) (s : SS) (t : TT) : Option (Int32 × SS × TT) :=
  (rx 201 (s 28 5)).bind fun j1 => if (s 30 j1) = 1 then ((rx 201 (s 28 5)).bind fun j3 => if (s 31 j3) = x1 then (wr (up2 s 28 5 ((s 28 5) + (1 : Int32))) fun s5 => (f_X4_numberUpTo x2 s5 t).bind fun q6 => some (q6.1, q6.2.1, q6.2.2)) else (some (0, s, t))) else (some (0, s, t))
def f_X4_tellPerson (o1 : Nat) (x2 : Int32) (s : SS) (t : TT) : Option (SS × TT) :=
  wr (up2 s 28 5 ((s 28 5) + (1 : Int32))) fun s1 => (f_X4_numberBehind 10 99 s1 t).bind fun q2 => (f_X4_numberBehind 11 9 q2.2.1 q2.2.2).bind fun q3 => (f_X4_numberBehind 12 99 q3.2.1 q3.2.2).bind fun q4 => (f_X1_add o1 x2 q2.1 q3.1 q4.1 q4.2.1 q4.2.2).bind fun q5 => some (q5.1, q5.2)
def j_X4_passSemicolon_40 (s : SS) (t : TT) : Option (SS × TT) :=
  (f_X4_fail s t).bind fun q1 => some (q1.1, q1.2)
def f_X4_passSemicolon (s : SS) (t : TT) : Option (SS × TT) :=
  (rx 201 (s 28 5)).bind fun j1 => if (s 30 j1) = 3 then ((rx 201 (s 28 5)).bind fun j3 => if (s 31 j3) = 59 then (wr (up2 s 28 5 ((s 28 5) + (1 : Int32))) fun s5 => some (s5, t)) else (j_X4_passSemicolon_40  s t)) else (j_X4_passSemicolon_40  s t)
def j_X4_tellOne_100 (o1 : Nat) (s : SS) (t : TT) : Option (SS × TT) :=
  (f_X4_passSemicolon s t).bind fun q1 => some (q1.1, q1.2)
def j_X4_tellOne_52 (o1 : Nat) (x2 : Int32) (s : SS) (t : TT) : Option (SS × TT) :=
  (f_X5_isWithin x2 6 9 s t).bind fun q1 => if q1.1 = 0 then ((f_X4_fail q1.2.1 q1.2.2).bind fun q3 => j_X4_tellOne_100 o1  q3.1 q3.2) else (wr (up2 q1.2.1 28 5 ((q1.2.1 28 5) + (1 : Int32))) fun s4 => (rx 4 (x2 - (6 : Int32))).bind fun j5 => (f_X4_numberUpTo (([9, 9, 9, 99] : List Int32).getD j5 0) s4 q1.2.2).bind fun q6 => (rx 4 (x2 - (6 : Int32))).bind fun j7 => wr (up2 q6.2.1 (o1 + 1) j7 q6.1) fun s7 => j_X4_tellOne_100 o1  s7 q6.2.2)
def j_X4_tellOne_26 (o1 : Nat) (y0 : Int32) (s : SS) (t : TT) : Option (SS × TT) :=
  (f_X5_isKind y0 s t).bind fun q1 => if q1.1 = 0 then (j_X4_tellOne_52 o1 y0 q1.2.1 q1.2.2) else (if 8 ≤ (q1.2.1 o1 8) then (j_X4_tellOne_52 o1 y0 q1.2.1 q1.2.2) else ((f_X4_tellPerson o1 y0 q1.2.1 q1.2.2).bind fun q4 => j_X4_tellOne_100 o1  q4.1 q4.2))
def f_X4_tellOne (o1 : Nat) (s : SS) (t : TT) : Option (SS × TT) :=
  (rx 201 (s 28 5)).bind fun j1 => if (s 30 j1) = 1 then ((rx 201 (s 28 5)).bind fun j3 => j_X4_tellOne_26 o1 (s 31 j3) s t) else (j_X4_tellOne_26 o1 (-1) s t)
def b_X4_tell_17 (o1 : Nat) (k17 : Int32 × SS × TT → Option (Int32 × SS × TT)) (x2 : Int32) (s : SS) (t : TT) : Option (Int32 × SS × TT) :=
  if (s 28 4) ≤ x2 then (some ((s 28 6), s, t)) else (if 0 ≤ (s 28 6) then (some ((s 28 6), s, t)) else ((rx 201 (s 28 5)).bind fun j3 => if (s 30 j3) = 0 then (some ((s 28 6), s, t)) else ((f_X4_tellOne o1 s t).bind fun q5 => k17 ((x2 + 1), q5.1, q5.2))))
def l_X4_tell_17 (o1 : Nat) (n : Nat) : Int32 × SS × TT → Option (Int32 × SS × TT) := it (fun k a => b_X4_tell_17 o1 k a.1 a.2.1 a.2.2) n
def f_X4_tell (o1 : Nat) (s : SS) (t : TT) : Option (Int32 × SS × TT) :=
  (f_X4_cut s t).bind fun q1 => wr (up2 q1.1 28 5 0) fun s2 => wr (up2 s2 28 6 (-3)) fun s3 => l_X4_tell_17 o1 300 (0, s3, q1.2)
def f_X5_feed (x1 : Int64) (x3 : Int32) (s : SS) (t : TT) : Option (Int32 × SS × TT) :=
  (f_X5_isWithin x3 1 8 s t).bind fun q1 => if q1.1 = 0 then (some ((-1), q1.2.1, q1.2.2)) else ((f_X4_take x1 x3 q1.2.1 q1.2.2).bind fun q3 => if q3.1 = 0 then (some ((-2), q3.2.1, q3.2.2)) else (some ((q3.2.1 28 7), q3.2.1, q3.2.2)))
def f_X5_post (s : SS) (t : TT) : Option (Int32 × SS × TT) :=
  (f_X1_begin 19 s t).bind fun q1 => wr (up2 q1.1 19 11 (q1.1 1 11)) fun s2 => (f_X4_tell 19 s2 q1.2).bind fun q3 => wr (up2 q3.2.1 28 7 0) fun s4 => if q3.1 < 0 then ((f_X1_become 1 19 s4 q3.2.2).bind fun q6 => wr (up2 q6.1 0 9 0) fun s7 => some ((s7 1 8), s7, q6.2)) else (some ((((-100) : Int32) - q3.1), s4, q3.2.2))
def f_X5_set (x1 : Int32) (x2 : Int32) (s : SS) (t : TT) : Option (Int32 × SS × TT) :=
  (f_X5_isWithin x1 0 3 s t).bind fun q1 => if q1.1 = 0 then (some ((-1), q1.2.1, q1.2.2)) else ((rx 4 x1).bind fun j3 => (f_X5_isWithin x2 0 (([9, 9, 9, 99] : List Int32).getD j3 0) q1.2.1 q1.2.2).bind fun q4 => if q4.1 = 0 then (some ((-1), q4.2.1, q4.2.2)) else ((rx 4 x1).bind fun j6 => (rx 4 x1).bind fun j7 => wr (up2 q4.2.1 2 j7 x2) fun s7 => some ((q4.2.1 2 j6), s7, q4.2.2)))
def f_X5_lawOf (x1 : Int32) (s : SS) (t : TT) : Option (Int32 × SS × TT) :=
  (f_X5_isWithin x1 0 3 s t).bind fun q1 => if q1.1 = 0 then (some ((-1), q1.2.1, q1.2.2)) else ((rx 4 x1).bind fun j3 => some ((q1.2.1 2 j3), q1.2.1, q1.2.2))
def f_X5_person (x1 : Int32) (x2 : Int32) (x3 : Int32) (x4 : Int32) (s : SS) (t : TT) : Option (Int32 × SS × TT) :=
  (f_X5_isKind x1 s t).bind fun q1 => if q1.1 = 0 then (some ((-1), q1.2.1, q1.2.2)) else ((f_X5_isWithin x2 0 99 q1.2.1 q1.2.2).bind fun q3 => if q3.1 = 0 then (some ((-1), q3.2.1, q3.2.2)) else ((f_X5_isWithin x3 0 9 q3.2.1 q3.2.2).bind fun q5 => if q5.1 = 0 then (some ((-1), q5.2.1, q5.2.2)) else ((f_X5_isWithin x4 0 99 q5.2.1 q5.2.2).bind fun q7 => if q7.1 = 0 then (some ((-1), q7.2.1, q7.2.2)) else (if (q7.2.1 1 8) < 8 then ((f_X1_add 1 x1 x2 x3 x4 q7.2.1 q7.2.2).bind fun q10 => some (((q10.1 1 8) - (1 : Int32)), q10.1, q10.2)) else (some ((-2), q7.2.1, q7.2.2))))))
def f_X5_of (x1 : Int32) (x2 : Int32) (s : SS) (t : TT) : Option (Int32 × SS × TT) :=
  (f_X1_has 1 x1 s t).bind fun q1 => if q1.1 = 0 then (some ((-1), q1.2.1, q1.2.2)) else (if x2 = 0 then ((rx 8 x1).bind fun j4 => some ((q1.2.1 3 j4), q1.2.1, q1.2.2)) else (if x2 = 1 then ((rx 8 x1).bind fun j6 => some ((q1.2.1 4 j6), q1.2.1, q1.2.2)) else (if x2 = 2 then ((rx 8 x1).bind fun j8 => some ((q1.2.1 5 j8), q1.2.1, q1.2.2)) else (if x2 = 3 then ((rx 8 x1).bind fun j10 => some ((q1.2.1 6 j10), q1.2.1, q1.2.2)) else (if x2 = 4 then ((rx 8 x1).bind fun j12 => some ((q1.2.1 7 j12), q1.2.1, q1.2.2)) else (if x2 = 5 then ((rx 8 x1).bind fun j14 => some ((q1.2.1 8 j14), q1.2.1, q1.2.2)) else (some ((-1), q1.2.1, q1.2.2))))))))
def f_X5_does (x1 : Int32) (x2 : Int32) (s : SS) (t : TT) : Option (Int32 × SS × TT) :=
  (f_X1_has 1 x1 s t).bind fun q1 => if q1.1 = 0 then (some ((-1), q1.2.1, q1.2.2)) else (if x2 = 0 then ((f_X1_thinking 1 x1 q1.2.1 q1.2.2).bind fun q4 => some (((1000 : Int32) + q4.1), q4.2.1, q4.2.2)) else (if x2 = 1 then ((f_X1_needing 1 x1 q1.2.1 q1.2.2).bind fun q6 => some (((1000 : Int32) + q6.1), q6.2.1, q6.2.2)) else (if x2 = 2 then ((f_X1_saying 1 x1 q1.2.1 q1.2.2).bind fun q8 => some (((1000 : Int32) + q8.1), q8.2.1, q8.2.2)) else (if x2 = 3 then ((f_X1_isUsing 1 x1 q1.2.1 q1.2.2).bind fun q10 => if q10.1 = 0 then (some (1000, q10.2.1, q10.2.2)) else (some (1001, q10.2.1, q10.2.2))) else (some ((-1), q1.2.1, q1.2.2))))))
def f_X5_mind (x1 : Int32) (x2 : Int32) (x3 : Int32) (s : SS) (t : TT) : Option (Int32 × SS × TT) :=
  (f_X1_has 1 x1 s t).bind fun q1 => if q1.1 = 0 then (some ((-1), q1.2.1, q1.2.2)) else ((f_X5_isKind x2 q1.2.1 q1.2.2).bind fun q3 => if q3.1 = 0 then (some ((-1), q3.2.1, q3.2.2)) else ((f_X5_isWithin x3 0 9 q3.2.1 q3.2.2).bind fun q5 => if q5.1 = 0 then (some ((-1), q5.2.1, q5.2.2)) else ((rx 8 x1).bind fun j7 => (rx 8 x1).bind fun j8 => wr (up2 q5.2.1 3 j8 x2) fun s8 => (rx 8 x1).bind fun j9 => wr (up2 s8 5 j9 x3) fun s9 => some ((q5.2.1 3 j7), s9, q5.2.2))))
def f_X5_thought (x1 : Int32) (x2 : Int32) (s : SS) (t : TT) : Option (Int32 × SS × TT) :=
  (f_X1_has 1 x1 s t).bind fun q1 => if q1.1 = 0 then (some ((-1), q1.2.1, q1.2.2)) else ((f_X5_isWithin x2 0 99 q1.2.1 q1.2.2).bind fun q3 => if q3.1 = 0 then (some ((-1), q3.2.1, q3.2.2)) else ((rx 8 x1).bind fun j5 => (rx 8 x1).bind fun j6 => wr (up2 q3.2.1 4 j6 x2) fun s6 => some ((q3.2.1 4 j5), s6, q3.2.2)))
def f_X5_own (x1 : Int32) (x2 : Int32) (s : SS) (t : TT) : Option (Int32 × SS × TT) :=
  (f_X1_has 1 x1 s t).bind fun q1 => if q1.1 = 0 then (some ((-1), q1.2.1, q1.2.2)) else ((f_X5_isWithin x2 0 99 q1.2.1 q1.2.2).bind fun q3 => if q3.1 = 0 then (some ((-1), q3.2.1, q3.2.2)) else ((rx 8 x1).bind fun j5 => (rx 8 x1).bind fun j6 => wr (up2 q3.2.1 6 j6 x2) fun s6 => some ((q3.2.1 6 j5), s6, q3.2.2)))
def f_X5_give (x1 : Int32) (x2 : Int32) (s : SS) (t : TT) : Option (Int32 × SS × TT) :=
  (f_X1_has 1 x1 s t).bind fun q1 => if q1.1 = 0 then (some ((-1), q1.2.1, q1.2.2)) else ((f_X1_has 1 x2 q1.2.1 q1.2.2).bind fun q3 => if q3.1 = 0 then (some ((-1), q3.2.1, q3.2.2)) else (if x1 = x2 then (some ((-1), q3.2.1, q3.2.2)) else ((rx 8 x1).bind fun j6 => if (q3.2.1 6 j6) = 0 then (some ((-3), q3.2.1, q3.2.2)) else ((rx 8 x2).bind fun j8 => if (q3.2.1 6 j8) < 99 then ((rx 8 x1).bind fun j10 => (rx 8 x1).bind fun j11 => wr (up2 q3.2.1 6 j11 ((q3.2.1 6 j10) - (1 : Int32))) fun s11 => (rx 8 x2).bind fun j12 => (rx 8 x2).bind fun j13 => wr (up2 s11 6 j13 ((s11 6 j12) + (1 : Int32))) fun s13 => (rx 8 x2).bind fun j14 => some ((s13 6 j14), s13, q3.2.2)) else (some ((-3), q3.2.1, q3.2.2))))))
def b_X5_weeks_14 (k14 : Int32 × Int32 × SS × TT → Option (Int32 × SS × TT)) (x1 : Int32) (x2 : Int32) (s : SS) (t : TT) : Option (Int32 × SS × TT) :=
  if x1 ≤ x2 then ((f_X1_sumOf 1 6 s t).bind fun q2 => some (q2.1, q2.2.1, q2.2.2)) else ((f_X1_passWeek 1 255 s t).bind fun q3 => k14 (x1, (x2 + 1), q3.2.1, q3.2.2))
def l_X5_weeks_14 (n : Nat) : Int32 × Int32 × SS × TT → Option (Int32 × SS × TT) := it (fun k a => b_X5_weeks_14 k a.1 a.2.1 a.2.2.1 a.2.2.2) n
def f_X5_weeks (x1 : Int32) (s : SS) (t : TT) : Option (Int32 × SS × TT) :=
  (f_X5_isWithin x1 1 60 s t).bind fun q1 => if q1.1 = 0 then (some ((-1), q1.2.1, q1.2.2)) else (l_X5_weeks_14 300 (x1, 0, q1.2.1, q1.2.2))
def f_X5_seed (x1 : Int32) (s : SS) (t : TT) : Option (Int32 × SS × TT) :=
  wr (up2 s 1 11 x1) fun s1 => some ((s 1 11), s1, t)
def f_X5_week (s : SS) (t : TT) : Option (Int32 × SS × TT) :=
  (f_X1_passWeekByDraws 1 s t).bind fun q1 => some (q1.1, q1.2.1, q1.2.2)
def f_X5_trial (s : SS) (t : TT) : Option (SS × TT) :=
  (f_X1_become 19 1 s t).bind fun q1 => some (q1.1, q1.2)
def b_X5_wordsBy_5 (o0 : Nat) (k5 : Int32 × Int32 × Int32 × Int32 × SS × TT → Option (Int32 × SS × TT)) (x1 : Int32) (x2 : Int32) (x3 : Int32) (x4 : Int32) (s : SS) (t : TT) : Option (Int32 × SS × TT) :=
  if x1 ≤ x4 then (some (x3, s, t)) else ((f_X1_passWeek o0 x2 s t).bind fun q2 => k5 (x1, x2, (x3 + q2.1), (x4 + 1), q2.2.1, q2.2.2))
def l_X5_wordsBy_5 (o0 : Nat) (n : Nat) : Int32 × Int32 × Int32 × Int32 × SS × TT → Option (Int32 × SS × TT) := it (fun k a => b_X5_wordsBy_5 o0 k a.1 a.2.1 a.2.2.1 a.2.2.2.1 a.2.2.2.2.1 a.2.2.2.2.2) n
def f_X5_wordsBy (o0 : Nat) (x1 : Int32) (x2 : Int32) (s : SS) (t : TT) : Option (Int32 × SS × TT) :=
  l_X5_wordsBy_5 o0 300 (x1, x2, 0, 0, s, t)
def j_X5_poor_68 (k38 : Int32 × Int32 × Int32 × Int32 × Int32 × SS × TT → Option (Int32 × SS × TT)) (x1 : Int32) (x2 : Int32) (x4 : Int32) (x5 : Int32) (s : SS) (t : TT) : Option (Int32 × SS × TT) :=
  k38 (x1, x2, (s 19 11), x4, (x5 + 1), s, t)
def b_X5_poor_38 (k38 : Int32 × Int32 × Int32 × Int32 × Int32 × SS × TT → Option (Int32 × SS × TT)) (x1 : Int32) (x2 : Int32) (x3 : Int32) (x4 : Int32) (x5 : Int32) (s : SS) (t : TT) : Option (Int32 × SS × TT) :=
  if x1 ≤ x5 then (some (x4, s, t)) else ((f_X5_trial s t).bind fun q2 => wr (up2 q2.1 19 11 x3) fun s3 => (f_X1_passWeekByDraws 19 s3 q2.2).bind fun q4 => if x2 ≤ q4.1 then (j_X5_poor_68 k38 x1 x2 x4 x5 q4.2.1 q4.2.2) else (j_X5_poor_68 k38 x1 x2 (x4 + 1) x5 q4.2.1 q4.2.2))
def l_X5_poor_38 (n : Nat) : Int32 × Int32 × Int32 × Int32 × Int32 × SS × TT → Option (Int32 × SS × TT) := it (fun k a => b_X5_poor_38 k a.1 a.2.1 a.2.2.1 a.2.2.2.1 a.2.2.2.2.1 a.2.2.2.2.2.1 a.2.2.2.2.2.2) n
def f_X5_poor (x1 : Int32) (s : SS) (t : TT) : Option (Int32 × SS × TT) :=
  (f_X5_isWithin x1 1 30 s t).bind fun q1 => if q1.1 = 0 then (some ((-1), q1.2.1, q1.2.2)) else ((f_X5_trial q1.2.1 q1.2.2).bind fun q3 => (f_X5_wordsBy 19 1 255 q3.1 q3.2).bind fun q4 => l_X5_poor_38 300 (x1, q4.1, (q4.2.1 1 11), 0, 0, q4.2.1, q4.2.2))
def f_X5_state (x1 : Int32) (s : SS) (t : TT) : Option (Int32 × SS × TT) :=
  if x1 = 0 then (some ((s 1 9), s, t)) else (if x1 = 1 then (some ((s 1 10), s, t)) else (if x1 = 2 then ((f_X1_sumOf 1 8 s t).bind fun q4 => some (q4.1, q4.2.1, q4.2.2)) else (if x1 = 3 then ((f_X1_sumOf 1 6 s t).bind fun q6 => some (q6.1, q6.2.1, q6.2.2)) else (if x1 = 4 then ((f_X1_sumOf 1 4 s t).bind fun q8 => some (q8.1, q8.2.1, q8.2.2)) else (if x1 = 5 then ((f_X1_readySet 1 s t).bind fun q10 => some (q10.1, q10.2.1, q10.2.2)) else (some ((-1), s, t)))))))
def f_X5_words (x1 : Int32) (s : SS) (t : TT) : Option (Int32 × SS × TT) :=
  (f_X5_isWithin x1 0 60 s t).bind fun q1 => if q1.1 = 0 then (some ((-1), q1.2.1, q1.2.2)) else ((f_X5_trial q1.2.1 q1.2.2).bind fun q3 => (f_X5_wordsBy 19 x1 255 q3.1 q3.2).bind fun q4 => some (q4.1, q4.2.1, q4.2.2))
def b_X5_gets_20 (k20 : Int32 × Int32 × SS × TT → Option (Int32 × SS × TT)) (x1 : Int32) (x3 : Int32) (s : SS) (t : TT) : Option (Int32 × SS × TT) :=
  if 60 < x3 then (some ((-3), s, t)) else ((f_X1_passWeek 19 255 s t).bind fun q2 => (rx 8 x1).bind fun j3 => (rx 8 x1).bind fun j4 => if (q2.2.1 25 j3) ≤ (q2.2.1 7 j4) then (k20 (x1, (x3 + 1), q2.2.1, q2.2.2)) else (some (x3, q2.2.1, q2.2.2)))
def l_X5_gets_20 (n : Nat) : Int32 × Int32 × SS × TT → Option (Int32 × SS × TT) := it (fun k a => b_X5_gets_20 k a.1 a.2.1 a.2.2.1 a.2.2.2) n
def f_X5_gets (x1 : Int32) (s : SS) (t : TT) : Option (Int32 × SS × TT) :=
  (f_X1_has 1 x1 s t).bind fun q1 => if q1.1 = 0 then (some ((-1), q1.2.1, q1.2.2)) else ((f_X5_trial q1.2.1 q1.2.2).bind fun q3 => l_X5_gets_20 300 (x1, 1, q3.1, q3.2))
def b_X5_idle_7 (k7 : Int32 × SS × TT → Option (Int32 × SS × TT)) (x2 : Int32) (s : SS) (t : TT) : Option (Int32 × SS × TT) :=
  if 60 < x2 then (some ((-3), s, t)) else ((f_X1_countOf 19 24 s t).bind fun q2 => if q2.1 = 0 then (some (x2, q2.2.1, q2.2.2)) else ((f_X1_passWeek 19 255 q2.2.1 q2.2.2).bind fun q4 => k7 ((x2 + 1), q4.2.1, q4.2.2)))
def l_X5_idle_7 (n : Nat) : Int32 × SS × TT → Option (Int32 × SS × TT) := it (fun k a => b_X5_idle_7 k a.1 a.2.1 a.2.2) n
def f_X5_idle (s : SS) (t : TT) : Option (Int32 × SS × TT) :=
  (f_X5_trial s t).bind fun q1 => l_X5_idle_7 300 (0, q1.1, q1.2)
def b_X5_vanFor_25 (k25 : Int32 × Int32 × Int32 × SS × TT → Option (Int32 × SS × TT)) (x1 : Int32) (x2 : Int32) (x3 : Int32) (s : SS) (t : TT) : Option (Int32 × SS × TT) :=
  (rx 4 0).bind fun j1 => if (([9, 9, 9, 99] : List Int32).getD j1 0) < x3 then (some ((-3), s, t)) else ((f_X5_trial s t).bind fun q3 => (rx 4 0).bind fun j4 => wr (up2 q3.1 20 j4 x3) fun s4 => (f_X5_wordsBy 19 x1 255 s4 q3.2).bind fun q5 => if q5.1 < x2 then (k25 (x1, x2, (x3 + 1), q5.2.1, q5.2.2)) else (some (x3, q5.2.1, q5.2.2)))
def l_X5_vanFor_25 (n : Nat) : Int32 × Int32 × Int32 × SS × TT → Option (Int32 × SS × TT) := it (fun k a => b_X5_vanFor_25 k a.1 a.2.1 a.2.2.1 a.2.2.2.1 a.2.2.2.2) n
def f_X5_vanFor (x1 : Int32) (x2 : Int32) (s : SS) (t : TT) : Option (Int32 × SS × TT) :=
  (f_X5_isWithin x1 1 20 s t).bind fun q1 => if q1.1 = 0 then (some ((-1), q1.2.1, q1.2.2)) else ((f_X5_isWithin x2 0 9999 q1.2.1 q1.2.2).bind fun q3 => if q3.1 = 0 then (some ((-1), q3.2.1, q3.2.2)) else (l_X5_vanFor_25 300 (x1, x2, 0, q3.2.1, q3.2.2)))
def b_X5_kindFor_31 (k31 : Int32 × Int32 × Int32 × Int32 × Int32 × SS × TT → Option (Int32 × SS × TT)) (x1 : Int32) (x2 : Int32) (x3 : Int32) (x4 : Int32) (x5 : Int32) (s : SS) (t : TT) : Option (Int32 × SS × TT) :=
  if 5 < x5 then (some (x3, s, t)) else ((f_X5_trial s t).bind fun q2 => (rx 8 x1).bind fun j3 => wr (up2 q2.1 21 j3 x5) fun s3 => (f_X5_wordsBy 19 x2 255 s3 q2.2).bind fun q4 => if q4.1 ≤ x4 then (k31 (x1, x2, x3, x4, (x5 + 1), q4.2.1, q4.2.2)) else (k31 (x1, x2, x5, q4.1, (x5 + 1), q4.2.1, q4.2.2)))
def l_X5_kindFor_31 (n : Nat) : Int32 × Int32 × Int32 × Int32 × Int32 × SS × TT → Option (Int32 × SS × TT) := it (fun k a => b_X5_kindFor_31 k a.1 a.2.1 a.2.2.1 a.2.2.2.1 a.2.2.2.2.1 a.2.2.2.2.2.1 a.2.2.2.2.2.2) n
def f_X5_kindFor (x1 : Int32) (x2 : Int32) (s : SS) (t : TT) : Option (Int32 × SS × TT) :=
  (f_X1_has 1 x1 s t).bind fun q1 => if q1.1 = 0 then (some ((-1), q1.2.1, q1.2.2)) else ((f_X5_isWithin x2 1 20 q1.2.1 q1.2.2).bind fun q3 => if q3.1 = 0 then (some ((-1), q3.2.1, q3.2.2)) else (l_X5_kindFor_31 300 (x1, x2, 0, (-1), 0, q3.2.1, q3.2.2)))
def j_X5_thoughtFor_87 (k25 : Int32 × Int32 × Int32 × SS × TT → Option (Int32 × SS × TT)) (x1 : Int32) (x2 : Int32) (x3 : Int32) (s : SS) (t : TT) : Option (Int32 × SS × TT) :=
  (rx 8 x1).bind fun j1 => if (s 25 j1) ≤ 0 then (k25 (x1, x2, (x3 + 1), s, t)) else (some (x3, s, t))
def b_X5_thoughtFor_56 (k25 : Int32 × Int32 × Int32 × SS × TT → Option (Int32 × SS × TT)) (k56 : Int32 × Int32 × Int32 × Int32 × SS × TT → Option (Int32 × SS × TT)) (x1 : Int32) (x2 : Int32) (x3 : Int32) (x5 : Int32) (s : SS) (t : TT) : Option (Int32 × SS × TT) :=
  if x2 ≤ x5 then (j_X5_thoughtFor_87 k25 x1 x2 x3 s t) else ((rx 8 x1).bind fun j2 => if (s 25 j2) = 0 then ((f_X1_passWeek 19 255 s t).bind fun q4 => k56 (x1, x2, x3, (x5 + 1), q4.2.1, q4.2.2)) else (j_X5_thoughtFor_87 k25 x1 x2 x3 s t))
def l_X5_thoughtFor_56 (k25 : Int32 × Int32 × Int32 × SS × TT → Option (Int32 × SS × TT)) (n : Nat) : Int32 × Int32 × Int32 × Int32 × SS × TT → Option (Int32 × SS × TT) := it (fun k a => b_X5_thoughtFor_56 k25 k a.1 a.2.1 a.2.2.1 a.2.2.2.1 a.2.2.2.2.1 a.2.2.2.2.2) n
def b_X5_thoughtFor_25 (k25 : Int32 × Int32 × Int32 × SS × TT → Option (Int32 × SS × TT)) (x1 : Int32) (x2 : Int32) (x3 : Int32) (s : SS) (t : TT) : Option (Int32 × SS × TT) :=
  if 99 < x3 then (some ((-3), s, t)) else ((f_X5_trial s t).bind fun q2 => (rx 8 x1).bind fun j3 => wr (up2 q2.1 22 j3 x3) fun s3 => (rx 8 x1).bind fun j4 => wr (up2 s3 25 j4 0) fun s4 => l_X5_thoughtFor_56 k25 300 (x1, x2, x3, 0, s4, q2.2))
def l_X5_thoughtFor_25 (n : Nat) : Int32 × Int32 × Int32 × SS × TT → Option (Int32 × SS × TT) := it (fun k a => b_X5_thoughtFor_25 k a.1 a.2.1 a.2.2.1 a.2.2.2.1 a.2.2.2.2) n
def f_X5_thoughtFor (x1 : Int32) (x2 : Int32) (s : SS) (t : TT) : Option (Int32 × SS × TT) :=
  (f_X1_has 1 x1 s t).bind fun q1 => if q1.1 = 0 then (some ((-1), q1.2.1, q1.2.2)) else ((f_X5_isWithin x2 1 20 q1.2.1 q1.2.2).bind fun q3 => if q3.1 = 0 then (some ((-1), q3.2.1, q3.2.2)) else (l_X5_thoughtFor_25 300 (x1, x2, 0, q3.2.1, q3.2.2)))
def b_X5_needed_30 (k30 : Int32 × Int32 × Int32 × Int32 × SS × TT → Option (Int32 × SS × TT)) (x1 : Int32) (x2 : Int32) (x3 : Int32) (x4 : Int32) (s : SS) (t : TT) : Option (Int32 × SS × TT) :=
  if (s 1 8) ≤ x4 then (some (x2, s, t)) else ((f_X5_trial s t).bind fun q2 => (f_X5_wordsBy 19 x1 ((255 : Int32) &&& (((1 : Int32) <<< (x4 &&& 31)) ^^^ ((-1) : Int32))) q2.1 q2.2).bind fun q3 => if x3 ≤ q3.1 then (k30 (x1, x2, x3, (x4 + 1), q3.2.1, q3.2.2)) else (k30 (x1, x4, q3.1, (x4 + 1), q3.2.1, q3.2.2)))
def l_X5_needed_30 (n : Nat) : Int32 × Int32 × Int32 × Int32 × SS × TT → Option (Int32 × SS × TT) := it (fun k a => b_X5_needed_30 k a.1 a.2.1 a.2.2.1 a.2.2.2.1 a.2.2.2.2.1 a.2.2.2.2.2) n
def f_X5_needed (x1 : Int32) (s : SS) (t : TT) : Option (Int32 × SS × TT) :=
  (f_X5_isWithin x1 1 20 s t).bind fun q1 => if q1.1 = 0 then (some ((-1), q1.2.1, q1.2.2)) else ((f_X5_trial q1.2.1 q1.2.2).bind fun q3 => (f_X5_wordsBy 19 x1 255 q3.1 q3.2).bind fun q4 => l_X5_needed_30 300 (x1, (-3), q4.1, 0, q4.2.1, q4.2.2))
def f_bitCount (x0 : Int32) (s : SS) (t : TT) : Option (Int32 × SS × TT) :=
  some (((((((((x0 - ((pmf_iushr x0 (1 : Int32)) &&& (1431655765 : Int32))) &&& (858993459 : Int32)) + ((pmf_iushr (x0 - ((pmf_iushr x0 (1 : Int32)) &&& (1431655765 : Int32))) (2 : Int32)) &&& (858993459 : Int32))) + (pmf_iushr (((x0 - ((pmf_iushr x0 (1 : Int32)) &&& (1431655765 : Int32))) &&& (858993459 : Int32)) + ((pmf_iushr (x0 - ((pmf_iushr x0 (1 : Int32)) &&& (1431655765 : Int32))) (2 : Int32)) &&& (858993459 : Int32))) (4 : Int32))) &&& (252645135 : Int32)) + (pmf_iushr (((((x0 - ((pmf_iushr x0 (1 : Int32)) &&& (1431655765 : Int32))) &&& (858993459 : Int32)) + ((pmf_iushr (x0 - ((pmf_iushr x0 (1 : Int32)) &&& (1431655765 : Int32))) (2 : Int32)) &&& (858993459 : Int32))) + (pmf_iushr (((x0 - ((pmf_iushr x0 (1 : Int32)) &&& (1431655765 : Int32))) &&& (858993459 : Int32)) + ((pmf_iushr (x0 - ((pmf_iushr x0 (1 : Int32)) &&& (1431655765 : Int32))) (2 : Int32)) &&& (858993459 : Int32))) (4 : Int32))) &&& (252645135 : Int32)) (8 : Int32))) + (pmf_iushr ((((((x0 - ((pmf_iushr x0 (1 : Int32)) &&& (1431655765 : Int32))) &&& (858993459 : Int32)) + ((pmf_iushr (x0 - ((pmf_iushr x0 (1 : Int32)) &&& (1431655765 : Int32))) (2 : Int32)) &&& (858993459 : Int32))) + (pmf_iushr (((x0 - ((pmf_iushr x0 (1 : Int32)) &&& (1431655765 : Int32))) &&& (858993459 : Int32)) + ((pmf_iushr (x0 - ((pmf_iushr x0 (1 : Int32)) &&& (1431655765 : Int32))) (2 : Int32)) &&& (858993459 : Int32))) (4 : Int32))) &&& (252645135 : Int32)) + (pmf_iushr (((((x0 - ((pmf_iushr x0 (1 : Int32)) &&& (1431655765 : Int32))) &&& (858993459 : Int32)) + ((pmf_iushr (x0 - ((pmf_iushr x0 (1 : Int32)) &&& (1431655765 : Int32))) (2 : Int32)) &&& (858993459 : Int32))) + (pmf_iushr (((x0 - ((pmf_iushr x0 (1 : Int32)) &&& (1431655765 : Int32))) &&& (858993459 : Int32)) + ((pmf_iushr (x0 - ((pmf_iushr x0 (1 : Int32)) &&& (1431655765 : Int32))) (2 : Int32)) &&& (858993459 : Int32))) (4 : Int32))) &&& (252645135 : Int32)) (8 : Int32))) (16 : Int32))) &&& (63 : Int32)), s, t)
def b_X5_fewest_51 (k36 : Int32 × Int32 × Int32 × Int32 × SS × TT → Option (Int32 × SS × TT)) (k51 : Int32 × Int32 × Int32 × Int32 × Int32 × SS × TT → Option (Int32 × SS × TT)) (x1 : Int32) (x2 : Int32) (x3 : Int32) (x4 : Int32) (x5 : Int32) (s : SS) (t : TT) : Option (Int32 × SS × TT) :=
  if x3 ≤ x5 then (k36 (x1, x2, x3, (x4 + 1), s, t)) else ((f_bitCount x5 s t).bind fun q2 => if q2.1 = x4 then ((f_X5_trial q2.2.1 q2.2.2).bind fun q4 => (f_X5_wordsBy 19 x1 x5 q4.1 q4.2).bind fun q5 => if q5.1 < x2 then (k51 (x1, x2, x3, x4, (x5 + 1), q5.2.1, q5.2.2)) else (some (x5, q5.2.1, q5.2.2))) else (k51 (x1, x2, x3, x4, (x5 + 1), q2.2.1, q2.2.2)))
def l_X5_fewest_51 (k36 : Int32 × Int32 × Int32 × Int32 × SS × TT → Option (Int32 × SS × TT)) (n : Nat) : Int32 × Int32 × Int32 × Int32 × Int32 × SS × TT → Option (Int32 × SS × TT) := it (fun k a => b_X5_fewest_51 k36 k a.1 a.2.1 a.2.2.1 a.2.2.2.1 a.2.2.2.2.1 a.2.2.2.2.2.1 a.2.2.2.2.2.2) n
def b_X5_fewest_36 (k36 : Int32 × Int32 × Int32 × Int32 × SS × TT → Option (Int32 × SS × TT)) (x1 : Int32) (x2 : Int32) (x3 : Int32) (x4 : Int32) (s : SS) (t : TT) : Option (Int32 × SS × TT) :=
  if (s 1 8) < x4 then (some ((-3), s, t)) else (l_X5_fewest_51 k36 300 (x1, x2, x3, x4, 0, s, t))
def l_X5_fewest_36 (n : Nat) : Int32 × Int32 × Int32 × Int32 × SS × TT → Option (Int32 × SS × TT) := it (fun k a => b_X5_fewest_36 k a.1 a.2.1 a.2.2.1 a.2.2.2.1 a.2.2.2.2.1 a.2.2.2.2.2) n
def f_X5_fewest (x1 : Int32) (x2 : Int32) (s : SS) (t : TT) : Option (Int32 × SS × TT) :=
  (f_X5_isWithin x1 1 10 s t).bind fun q1 => if q1.1 = 0 then (some ((-1), q1.2.1, q1.2.2)) else ((f_X5_isWithin x2 0 9999 q1.2.1 q1.2.2).bind fun q3 => if q3.1 = 0 then (some ((-1), q3.2.1, q3.2.2)) else (l_X5_fewest_36 300 (x1, x2, ((1 : Int32) <<< ((q3.2.1 1 8) &&& 31)), 0, q3.2.1, q3.2.2)))
def j_X5_leastPacking_100 (k7 : Int32 × Int32 × Int32 × Int32 × SS × TT → Option (Int32 × SS × TT)) (x1 : Int32) (x2 : Int32) (x4 : Int32) (y0 : Int32) (y1 : Int32) (s : SS) (t : TT) : Option (Int32 × SS × TT) :=
  k7 (x1, x2, (pmf_min y1 y0), (x4 + 1), s, t)
def b_X5_leastPacking_7 (k7 : Int32 × Int32 × Int32 × Int32 × SS × TT → Option (Int32 × SS × TT)) (x1 : Int32) (x2 : Int32) (x3 : Int32) (x4 : Int32) (s : SS) (t : TT) : Option (Int32 × SS × TT) :=
  if (s 1 8) ≤ x4 then (some (x3, s, t)) else (if ((x1 >>> (x4 &&& 31)) &&& (1 : Int32)) = 0 then (k7 (x1, x2, x3, (x4 + 1), s, t)) else ((rx 256 (x1 &&& (((1 : Int32) <<< (x4 &&& 31)) ^^^ ((-1) : Int32)))).bind fun j3 => (rx 8 x4).bind fun j4 => if x2 < (((s 50 j3) - (s 50 j3) / 100 * 100) + (s 4 j4)) then (j_X5_leastPacking_100 k7 x1 x2 x4 (((((s 50 j3) / 100) + (1 : Int32)) * (100 : Int32)) + (s 4 j4)) x3 s t) else (j_X5_leastPacking_100 k7 x1 x2 x4 ((s 50 j3) + (s 4 j4)) x3 s t)))
def l_X5_leastPacking_7 (n : Nat) : Int32 × Int32 × Int32 × Int32 × SS × TT → Option (Int32 × SS × TT) := it (fun k a => b_X5_leastPacking_7 k a.1 a.2.1 a.2.2.1 a.2.2.2.1 a.2.2.2.2.1 a.2.2.2.2.2) n
def f_X5_leastPacking (x1 : Int32) (x2 : Int32) (s : SS) (t : TT) : Option (Int32 × SS × TT) :=
  l_X5_leastPacking_7 300 (x1, x2, 9999, 0, s, t)
def b_X5_packed_66 (k66 : Int32 × Int32 × Int32 × SS × TT → Option (Int32 × SS × TT)) (x1 : Int32) (x2 : Int32) (x3 : Int32) (s : SS) (t : TT) : Option (Int32 × SS × TT) :=
  if x2 ≤ x3 then ((rx 256 (x2 - (1 : Int32))).bind fun j2 => some (((s 50 j2) / 100), s, t)) else ((f_X5_leastPacking x3 x1 s t).bind fun q3 => (rx 256 x3).bind fun j4 => wr (up2 q3.2.1 50 j4 q3.1) fun s4 => k66 (x1, x2, (x3 + 1), s4, q3.2.2))
def l_X5_packed_66 (n : Nat) : Int32 × Int32 × Int32 × SS × TT → Option (Int32 × SS × TT) := it (fun k a => b_X5_packed_66 k a.1 a.2.1 a.2.2.1 a.2.2.2.1 a.2.2.2.2) n
def b_X5_packed_14 (k14 : Int32 × Int32 × SS × TT → Option (Int32 × SS × TT)) (x1 : Int32) (x2 : Int32) (s : SS) (t : TT) : Option (Int32 × SS × TT) :=
  if (s 1 8) ≤ x2 then ((rx 256 0).bind fun j2 => wr (up2 s 50 j2 x1) fun s2 => l_X5_packed_66 300 (x1, ((1 : Int32) <<< ((s2 1 8) &&& 31)), 1, s2, t)) else ((rx 8 x2).bind fun j3 => if (s 4 j3) ≤ x1 then (k14 (x1, (x2 + 1), s, t)) else (some ((-3), s, t)))
def l_X5_packed_14 (n : Nat) : Int32 × Int32 × SS × TT → Option (Int32 × SS × TT) := it (fun k a => b_X5_packed_14 k a.1 a.2.1 a.2.2.1 a.2.2.2) n
def f_X5_packed (x1 : Int32) (s : SS) (t : TT) : Option (Int32 × SS × TT) :=
  (f_X5_isWithin x1 1 99 s t).bind fun q1 => if q1.1 = 0 then (some ((-1), q1.2.1, q1.2.2)) else (l_X5_packed_14 300 (x1, 0, q1.2.1, q1.2.2))
def f_X5_isPlace (x0 : Int32) (s : SS) (t : TT) : Option (Int32 × SS × TT) :=
  (f_X5_isWithin x0 0 3 s t).bind fun q1 => if (q1.1 == 0 || q1.1 == 1) = true then some (q1.1, q1.2.1, q1.2.2) else none
def b_X5_isTold_20 (o1 : Nat) (k20 : Int32 × Int32 × SS × TT → Option (Int32 × SS × TT)) (x5 : Int32) (x6 : Int32) (s : SS) (t : TT) : Option (Int32 × SS × TT) :=
  if (s o1 2) ≤ x6 then (some (1, s, t)) else ((f_X1_passWeek 19 255 s t).bind fun q2 => (rx 40 x6).bind fun j3 => if (lg_cmp (q2.2.2 (o1 + 1) j3) (-1)) = 0 then (k20 ((x5 + q2.1), (x6 + 1), q2.2.1, q2.2.2)) else ((rx 40 x6).bind fun j5 => if (lg_cmp (q2.2.2 (o1 + 1) j5) (Int32.toInt64 (x5 + q2.1))) = 0 then (k20 ((x5 + q2.1), (x6 + 1), q2.2.1, q2.2.2)) else (some (0, q2.2.1, q2.2.2))))
def l_X5_isTold_20 (o1 : Nat) (n : Nat) : Int32 × Int32 × SS × TT → Option (Int32 × SS × TT) := it (fun k a => b_X5_isTold_20 o1 k a.1 a.2.1 a.2.2.1 a.2.2.2) n
def f_X5_isTold (o1 : Nat) (x2 : Int32) (x3 : Int32) (s : SS) (t : TT) : Option (Int32 × SS × TT) :=
  (f_X5_trial s t).bind fun q1 => (rx 8 x2).bind fun j2 => wr (up2 q1.1 22 j2 x3) fun s2 => l_X5_isTold_20 o1 300 (0, 0, s2, q1.2)
def j_X5_fits_90 (k59 : Int32 × Int32 × Nat × Int32 × Int32 × Int32 × SS × TT → Option (Int32 × SS × TT)) (x2 : Int32) (x3 : Int32) (x4 : Nat) (x5 : Int32) (x7 : Int32) (y0 : Int32) (s : SS) (t : TT) : Option (Int32 × SS × TT) :=
  k59 (x2, x3, x4, (x5 + 1), y0, (x7 + 1), s, t)
def b_X5_fits_59 (k59 : Int32 × Int32 × Nat × Int32 × Int32 × Int32 × SS × TT → Option (Int32 × SS × TT)) (x2 : Int32) (x3 : Int32) (x4 : Nat) (x5 : Int32) (x6 : Int32) (x7 : Int32) (s : SS) (t : TT) : Option (Int32 × SS × TT) :=
  if 99 < x7 then (if x3 = 0 then (some (x5, s, t)) else (some (x6, s, t))) else ((f_X5_isTold x4 x2 x7 s t).bind fun q3 => if q3.1 = 0 then (k59 (x2, x3, x4, x5, x6, (x7 + 1), q3.2.1, q3.2.2)) else (if x5 = 0 then (j_X5_fits_90 k59 x2 x3 x4 x5 x7 x7 q3.2.1 q3.2.2) else (j_X5_fits_90 k59 x2 x3 x4 x5 x7 x6 q3.2.1 q3.2.2)))
def l_X5_fits_59 (n : Nat) : Int32 × Int32 × Nat × Int32 × Int32 × Int32 × SS × TT → Option (Int32 × SS × TT) := it (fun k a => b_X5_fits_59 k a.1 a.2.1 a.2.2.1 a.2.2.2.1 a.2.2.2.2.1 a.2.2.2.2.2.1 a.2.2.2.2.2.2.1 a.2.2.2.2.2.2.2) n
def f_X5_fits (x1 : Int32) (x2 : Int32) (x3 : Int32) (s : SS) (t : TT) : Option (Int32 × SS × TT) :=
  (f_X5_isPlace x1 s t).bind fun q1 => if q1.1 = 0 then (some ((-1), q1.2.1, q1.2.2)) else ((f_X1_has 1 x2 q1.2.1 q1.2.2).bind fun q3 => if q3.1 = 0 then (some ((-1), q3.2.1, q3.2.2)) else ((f_X5_isWithin x3 0 1 q3.2.1 q3.2.2).bind fun q5 => if q5.1 = 0 then (some ((-1), q5.2.1, q5.2.2)) else ((rx 4 x1).bind fun j7 => wr (37 + 3 * j7) fun r7 => if (q5.2.1 r7 1) = (-1) then (some ((-11), q5.2.1, q5.2.2)) else (l_X5_fits_59 300 (x2, x3, r7, 0, (-3), 0, q5.2.1, q5.2.2)))))
def b_X5_choices_5 (k5 : Int32 × Int32 × Int64 × Int32 × SS × TT → Option (Int64 × SS × TT)) (x0 : Int32) (x1 : Int32) (x2 : Int64) (x4 : Int32) (s : SS) (t : TT) : Option (Int64 × SS × TT) :=
  if x1 < x4 then (some (x2, s, t)) else (if (Int32.toInt64 x4) = 0 then none else k5 (x0, x1, ((x2 * (Int32.toInt64 ((x0 - x1) + x4))) / (Int32.toInt64 x4)), (x4 + 1), s, t))
def l_X5_choices_5 (n : Nat) : Int32 × Int32 × Int64 × Int32 × SS × TT → Option (Int64 × SS × TT) := it (fun k a => b_X5_choices_5 k a.1 a.2.1 a.2.2.1 a.2.2.2.1 a.2.2.2.2.1 a.2.2.2.2.2) n
def f_X5_choices (x0 : Int32) (x1 : Int32) (s : SS) (t : TT) : Option (Int64 × SS × TT) :=
  l_X5_choices_5 300 (x0, x1, 1, 1, s, t)
def b_X5_commonDivisor_9 (k9 : Int64 × Int64 × Int32 × SS × TT → Option (Int64 × SS × TT)) (x4 : Int64) (x6 : Int64) (x8 : Int32) (s : SS) (t : TT) : Option (Int64 × SS × TT) :=
  if 100 ≤ x8 then (some (x4, s, t)) else (if (lg_cmp x6 0) = 0 then (some (x4, s, t)) else (if x6 = 0 then none else k9 (x6, (x4 - x4 / x6 * x6), (x8 + 1), s, t)))
def l_X5_commonDivisor_9 (n : Nat) : Int64 × Int64 × Int32 × SS × TT → Option (Int64 × SS × TT) := it (fun k a => b_X5_commonDivisor_9 k a.1 a.2.1 a.2.2.1 a.2.2.2.1 a.2.2.2.2) n
def f_X5_commonDivisor (x0 : Int64) (x2 : Int64) (s : SS) (t : TT) : Option (Int64 × SS × TT) :=
  l_X5_commonDivisor_9 300 (x0, x2, 0, s, t)
def j_X5_partOf_17 (x5 : Int64) (y0 : Int64) (s : SS) (t : TT) : Option (Int64 × SS × TT) :=
  if (lg_cmp x5 0) ≤ 0 then (some (y0, s, t)) else (if x5 = 0 then none else some ((y0 / x5), s, t))
def f_X5_partOf (x0 : Int64) (x2 : Int64) (x4 : Int32) (s : SS) (t : TT) : Option (Int64 × SS × TT) :=
  (f_X5_commonDivisor x0 x2 s t).bind fun q1 => if x4 = 0 then (j_X5_partOf_17 q1.1 x0 q1.2.1 q1.2.2) else (j_X5_partOf_17 q1.1 x2 q1.2.1 q1.2.2)
def j_X5_odds_78 (k52 : Int32 × Int32 × Int32 × Int32 × Int64 × Int64 × Int32 × SS × TT → Option (Int64 × SS × TT)) (x1 : Int32) (x2 : Int32) (x3 : Int32) (x4 : Int32) (x7 : Int64) (x9 : Int32) (y0 : Int64) (y1 : Int64) (s : SS) (t : TT) : Option (Int64 × SS × TT) :=
  k52 (x1, x2, x3, x4, (y1 * y0), (x7 * (100 : Int64)), (x9 + 1), s, t)
def b_X5_odds_52 (k52 : Int32 × Int32 × Int32 × Int32 × Int64 × Int64 × Int32 × SS × TT → Option (Int64 × SS × TT)) (x1 : Int32) (x2 : Int32) (x3 : Int32) (x4 : Int32) (x5 : Int64) (x7 : Int64) (x9 : Int32) (s : SS) (t : TT) : Option (Int64 × SS × TT) :=
  if x1 ≤ x9 then ((f_X5_choices x1 x2 s t).bind fun q2 => (f_X5_partOf (x5 * q2.1) x7 x3 q2.2.1 q2.2.2).bind fun q3 => some (q3.1, q3.2.1, q3.2.2)) else (if x2 ≤ x9 then (j_X5_odds_78 k52 x1 x2 x3 x4 x7 x9 (Int32.toInt64 ((100 : Int32) - x4)) x5 s t) else (j_X5_odds_78 k52 x1 x2 x3 x4 x7 x9 (Int32.toInt64 x4) x5 s t))
def l_X5_odds_52 (n : Nat) : Int32 × Int32 × Int32 × Int32 × Int64 × Int64 × Int32 × SS × TT → Option (Int64 × SS × TT) := it (fun k a => b_X5_odds_52 k a.1 a.2.1 a.2.2.1 a.2.2.2.1 a.2.2.2.2.1 a.2.2.2.2.2.1 a.2.2.2.2.2.2.1 a.2.2.2.2.2.2.2.1 a.2.2.2.2.2.2.2.2) n
def f_X5_odds (x1 : Int32) (x2 : Int32) (x3 : Int32) (s : SS) (t : TT) : Option (Int64 × SS × TT) :=
  (f_X5_isWithin x1 0 8 s t).bind fun q1 => if q1.1 = 0 then (some ((-1), q1.2.1, q1.2.2)) else ((f_X5_isWithin x2 0 x1 q1.2.1 q1.2.2).bind fun q3 => if q3.1 = 0 then (some ((-1), q3.2.1, q3.2.2)) else ((f_X5_isWithin x3 0 1 q3.2.1 q3.2.2).bind fun q5 => if q5.1 = 0 then (some ((-1), q5.2.1, q5.2.2)) else ((rx 4 3).bind fun j7 => l_X5_odds_52 300 (x1, x2, x3, (q5.2.1 2 j7), 1, 1, 0, q5.2.1, q5.2.2))))
def f_X5_hope (x1 : Int32) (x2 : Int32) (s : SS) (t : TT) : Option (Int64 × SS × TT) :=
  (f_X5_isWithin x1 0 99 s t).bind fun q1 => if q1.1 = 0 then (some ((-1), q1.2.1, q1.2.2)) else ((f_X5_isWithin x2 0 1 q1.2.1 q1.2.2).bind fun q3 => if q3.1 = 0 then (some ((-1), q3.2.1, q3.2.2)) else ((rx 4 3).bind fun j5 => (f_X5_partOf ((Int32.toInt64 x1) * (Int32.toInt64 (q3.2.1 2 j5))) 100 x2 q3.2.1 q3.2.2).bind fun q6 => some (q6.1, q6.2.1, q6.2.2)))
def b_X5_prove_31 (k31 : Int32 × Int32 × Int32 × SS × TT → Option (Int32 × SS × TT)) (x1 : Int32) (x2 : Int32) (x4 : Int32) (s : SS) (t : TT) : Option (Int32 × SS × TT) :=
  if x2 ≤ x4 then (wr (up2 s 0 9 x2) fun s2 => some (x2, s2, t)) else ((f_X1_passWeek 19 255 s t).bind fun q3 => (rx 8 x1).bind fun j4 => (rx 30 (x4 * (3 : Int32))).bind fun j5 => wr (up2 q3.2.1 49 j5 (q3.2.1 22 j4)) fun s5 => (rx 8 x1).bind fun j6 => (rx 30 ((x4 * (3 : Int32)) + (1 : Int32))).bind fun j7 => wr (up2 s5 49 j7 (s5 24 j6)) fun s7 => (rx 30 ((x4 * (3 : Int32)) + (2 : Int32))).bind fun j8 => wr (up2 s7 49 j8 q3.1) fun s8 => k31 (x1, x2, (x4 + 1), s8, q3.2.2))
def l_X5_prove_31 (n : Nat) : Int32 × Int32 × Int32 × SS × TT → Option (Int32 × SS × TT) := it (fun k a => b_X5_prove_31 k a.1 a.2.1 a.2.2.1 a.2.2.2.1 a.2.2.2.2) n
def f_X5_prove (x1 : Int32) (x2 : Int32) (s : SS) (t : TT) : Option (Int32 × SS × TT) :=
  (f_X1_has 1 x1 s t).bind fun q1 => if q1.1 = 0 then (some ((-1), q1.2.1, q1.2.2)) else ((f_X5_isWithin x2 1 10 q1.2.1 q1.2.2).bind fun q3 => if q3.1 = 0 then (some ((-1), q3.2.1, q3.2.2)) else ((f_X5_trial q3.2.1 q3.2.2).bind fun q5 => l_X5_prove_31 300 (x1, x2, 0, q5.1, q5.2)))
def f_X5_isInRow (x1 : Int32) (x2 : Int32) (s : SS) (t : TT) : Option (Int32 × SS × TT) :=
  (f_X5_isWithin x1 0 ((s 0 9) - (1 : Int32)) s t).bind fun q1 => if q1.1 = 0 then (some (0, q1.2.1, q1.2.2)) else ((f_X5_isWithin x2 0 2 q1.2.1 q1.2.2).bind fun q3 => if q3.1 = 0 then (some (0, q3.2.1, q3.2.2)) else (some (1, q3.2.1, q3.2.2)))
def f_X5_row (x1 : Int32) (x2 : Int32) (s : SS) (t : TT) : Option (Int32 × SS × TT) :=
  (f_X5_isInRow x1 x2 s t).bind fun q1 => if q1.1 = 0 then (some ((-9), q1.2.1, q1.2.2)) else ((rx 30 ((x1 * (3 : Int32)) + x2)).bind fun j3 => some ((q1.2.1 49 j3), q1.2.1, q1.2.2))
def f_X5_alterRow (x1 : Int32) (x2 : Int32) (x3 : Int32) (s : SS) (t : TT) : Option (Int32 × SS × TT) :=
  (f_X5_isInRow x1 x2 s t).bind fun q1 => if q1.1 = 0 then (some ((-9), q1.2.1, q1.2.2)) else ((rx 30 ((x1 * (3 : Int32)) + x2)).bind fun j3 => (rx 30 ((x1 * (3 : Int32)) + x2)).bind fun j4 => wr (up2 q1.2.1 49 j4 x3) fun s4 => some ((q1.2.1 49 j3), s4, q1.2.2))
def b_X5_judge_20 (k20 : Int32 × Int32 × SS × TT → Option (Int32 × SS × TT)) (x1 : Int32) (x3 : Int32) (s : SS) (t : TT) : Option (Int32 × SS × TT) :=
  if (s 0 9) ≤ x3 then (some (0, s, t)) else ((f_X1_passWeek 19 255 s t).bind fun q2 => (rx 30 (x3 * (3 : Int32))).bind fun j3 => (rx 8 x1).bind fun j4 => if (q2.2.1 49 j3) = (q2.2.1 22 j4) then ((rx 30 ((x3 * (3 : Int32)) + (1 : Int32))).bind fun j6 => (rx 8 x1).bind fun j7 => if (q2.2.1 49 j6) = (q2.2.1 24 j7) then ((rx 30 ((x3 * (3 : Int32)) + (2 : Int32))).bind fun j9 => if (q2.2.1 49 j9) = q2.1 then (k20 (x1, (x3 + 1), q2.2.1, q2.2.2)) else (some ((x3 + (1 : Int32)), q2.2.1, q2.2.2))) else (some ((x3 + (1 : Int32)), q2.2.1, q2.2.2))) else (some ((x3 + (1 : Int32)), q2.2.1, q2.2.2)))
def l_X5_judge_20 (n : Nat) : Int32 × Int32 × SS × TT → Option (Int32 × SS × TT) := it (fun k a => b_X5_judge_20 k a.1 a.2.1 a.2.2.1 a.2.2.2) n
def f_X5_judge (x1 : Int32) (s : SS) (t : TT) : Option (Int32 × SS × TT) :=
  (f_X1_has 1 x1 s t).bind fun q1 => if q1.1 = 0 then (some ((-1), q1.2.1, q1.2.2)) else ((f_X5_trial q1.2.1 q1.2.2).bind fun q3 => l_X5_judge_20 300 (x1, 0, q3.1, q3.2))
def b_X5_minds_107 (k107 : Int32 × Int32 × Int32 × Nat × Int32 × SS × TT → Option (Int32 × SS × TT)) (x2 : Int32) (x3 : Int32) (x4 : Int32) (x5 : Nat) (x6 : Int32) (s : SS) (t : TT) : Option (Int32 × SS × TT) :=
  if x4 ≤ x6 then (some (x4, s, t)) else ((rx 40 (x2 + x6)).bind fun j2 => (rx 8 (x3 + x6)).bind fun j3 => wr (up2 s 4 j3 (pmf_max 0 (pmf_min 99 (Int64.toInt32 (t (x5 + 1) j2))))) fun s3 => k107 (x2, x3, x4, x5, (x6 + 1), s3, t))
def l_X5_minds_107 (n : Nat) : Int32 × Int32 × Int32 × Nat × Int32 × SS × TT → Option (Int32 × SS × TT) := it (fun k a => b_X5_minds_107 k a.1 a.2.1 a.2.2.1 a.2.2.2.1 a.2.2.2.2.1 a.2.2.2.2.2.1 a.2.2.2.2.2.2) n
def f_X5_minds (x1 : Int32) (x2 : Int32) (x3 : Int32) (x4 : Int32) (s : SS) (t : TT) : Option (Int32 × SS × TT) :=
  (f_X5_isPlace x1 s t).bind fun q1 => if q1.1 = 0 then (some ((-1), q1.2.1, q1.2.2)) else ((f_X1_has 1 x3 q1.2.1 q1.2.2).bind fun q3 => if q3.1 = 0 then (some ((-1), q3.2.1, q3.2.2)) else ((f_X5_isWithin x4 0 8 q3.2.1 q3.2.2).bind fun q5 => if q5.1 = 0 then (some ((-1), q5.2.1, q5.2.2)) else (if x4 ≤ ((q5.2.1 1 8) - x3) then ((rx 4 x1).bind fun j8 => wr (37 + 3 * j8) fun r8 => if (q5.2.1 r8 1) = (-1) then (some ((-11), q5.2.1, q5.2.2)) else (if (q5.2.1 r8 1) = 0 then ((f_X5_isWithin x2 0 (q5.2.1 r8 2) q5.2.1 q5.2.2).bind fun q11 => if q11.1 = 0 then (some ((-12), q11.2.1, q11.2.2)) else (if x4 ≤ ((q11.2.1 r8 2) - x2) then (l_X5_minds_107 300 (x2, x3, x4, r8, 0, q11.2.1, q11.2.2)) else (some ((-12), q11.2.1, q11.2.2)))) else (some ((-13), q5.2.1, q5.2.2)))) else (some ((-1), q5.2.1, q5.2.2)))))
def f_X5_sheet (x1 : Int32) (x2 : Int32) (x3 : Int32) (s : SS) (t : TT) : Option (Int32 × SS × TT) :=
  (f_X5_isPlace x1 s t).bind fun q1 => if q1.1 = 0 then (some ((-1), q1.2.1, q1.2.2)) else ((f_X5_isWithin x2 (-1) 3 q1.2.1 q1.2.2).bind fun q3 => if q3.1 = 0 then (some ((-1), q3.2.1, q3.2.2)) else (if x2 = (-1) then ((rx 4 x1).bind fun j10 => wr (37 + 3 * j10) fun r10 => wr (up2 q3.2.1 r10 1 (-1)) fun s11 => some (1, s11, q3.2.2)) else (if x3 ≤ 40 then (if 0 ≤ x3 then ((rx 4 x1).bind fun j8 => wr (37 + 3 * j8) fun r8 => (f_X2_begin r8 x2 x3 q3.2.1 q3.2.2).bind fun q9 => some (1, q9.1, q9.2)) else (some ((-14), q3.2.1, q3.2.2))) else (some ((-1), q3.2.1, q3.2.2)))))
def f_X5_narrowed (x0 : Int32) (x1 : Int32) (s : SS) (t : TT) : Option (Int64 × SS × TT) :=
  if x0 = 0 then (some ((Int32.toInt64 (x1.toInt8.toInt32)), s, t)) else (if x0 = 1 then (some ((Int32.toInt64 (x1.toInt16.toInt32)), s, t)) else (some ((Int32.toInt64 x1), s, t)))
def f_X5_put (x1 : Int32) (x2 : Int32) (x3 : Int32) (s : SS) (t : TT) : Option (Int32 × SS × TT) :=
  (f_X5_isPlace x1 s t).bind fun q1 => if q1.1 = 0 then (some ((-1), q1.2.1, q1.2.2)) else ((rx 4 x1).bind fun j3 => wr (37 + 3 * j3) fun r3 => if (q1.2.1 r3 1) = (-1) then (some ((-11), q1.2.1, q1.2.2)) else ((f_X5_isWithin x2 0 ((q1.2.1 r3 2) - (1 : Int32)) q1.2.1 q1.2.2).bind fun q5 => if q5.1 = 0 then (some ((-12), q5.2.1, q5.2.2)) else ((f_X5_narrowed (q5.2.1 r3 1) x3 q5.2.1 q5.2.2).bind fun q7 => (rx 40 x2).bind fun j8 => wr (up2 q7.2.2 (r3 + 1) j8 q7.1) fun t8 => some (1, q7.2.1, t8))))
def f_X5_item (x1 : Int32) (x2 : Int32) (x3 : Int32) (s : SS) (t : TT) : Option (Int32 × SS × TT) :=
  (f_X5_isPlace x1 s t).bind fun q1 => if q1.1 = 0 then (some ((-1), q1.2.1, q1.2.2)) else ((f_X5_isWithin x2 0 3 q1.2.1 q1.2.2).bind fun q3 => if q3.1 = 0 then (some ((-1), q3.2.1, q3.2.2)) else ((rx 4 x1).bind fun j5 => wr (37 + 3 * j5) fun r5 => if (q3.2.1 r5 1) = (-1) then (some ((-11), q3.2.1, q3.2.2)) else (if (q3.2.1 r5 1) = x2 then ((f_X5_isWithin x3 0 ((q3.2.1 r5 2) - (1 : Int32)) q3.2.1 q3.2.2).bind fun q8 => if q8.1 = 0 then (some ((-12), q8.2.1, q8.2.2)) else ((rx 40 x3).bind fun j10 => some ((Int64.toInt32 (q8.2.2 (r5 + 1) j10)), q8.2.1, q8.2.2))) else (some ((-13), q3.2.1, q3.2.2)))))
def j_X5_shelf_65 (x1 : Int32) (x2 : Int32) (s : SS) (t : TT) : Option (Int32 × SS × TT) :=
  if x2 = 2 then ((rx 4 x1).bind fun j2 => wr (39 + 3 * j2) fun r2 => wr (up2 s r2 0 2) fun s3 => some (1, s3, t)) else (some ((-1), s, t))
def j_X5_shelf_36 (x1 : Int32) (x2 : Int32) (x3 : Int32) (s : SS) (t : TT) : Option (Int32 × SS × TT) :=
  if x2 = 1 then ((f_X5_isPlace x3 s t).bind fun q2 => if q2.1 = 0 then (j_X5_shelf_65 x1 x2 q2.2.1 q2.2.2) else ((rx 4 x1).bind fun j4 => wr (39 + 3 * j4) fun r4 => (rx 4 x3).bind fun j5 => wr (37 + 3 * j5) fun r5 => (f_X3_holdRow r4 r5 q2.2.1 q2.2.2).bind fun q6 => some (1, q6.1, q6.2))) else (j_X5_shelf_65 x1 x2 s t)
def f_X5_shelf (x1 : Int32) (x2 : Int32) (x3 : Int32) (s : SS) (t : TT) : Option (Int32 × SS × TT) :=
  (f_X5_isPlace x1 s t).bind fun q1 => if q1.1 = 0 then (some ((-1), q1.2.1, q1.2.2)) else (if x2 = 0 then ((f_X1_has 1 x3 q1.2.1 q1.2.2).bind fun q4 => if q4.1 = 0 then (j_X5_shelf_36 x1 x2 x3 q4.2.1 q4.2.2) else ((rx 4 x1).bind fun j6 => wr (39 + 3 * j6) fun r6 => (f_X3_holdPerson r6 x3 q4.2.1 q4.2.2).bind fun q7 => some (1, q7.1, q7.2))) else (j_X5_shelf_36 x1 x2 x3 q1.2.1 q1.2.2))
def j_X5_taken_125 (x4 : Nat) (y0 : Int32) (s : SS) (t : TT) : Option (Int32 × SS × TT) :=
  if y0 = 0 then (some ((-13), s, t)) else (some ((s x4 1), s, t))
def j_X5_taken_124 (x4 : Nat) (s : SS) (t : TT) : Option (Int32 × SS × TT) :=
  j_X5_taken_125 x4 0 s t
def j_X5_taken_29 (x1 : Int32) (x2 : Int32) (x3 : Int32) (s : SS) (t : TT) : Option (Int32 × SS × TT) :=
  (rx 4 x1).bind fun j1 => wr (39 + 3 * j1) fun r1 => if (s r1 0) = 1 then (if (s r1 2) = (x2 - (10 : Int32)) then (some ((s r1 3), s, t)) else (some ((-13), s, t))) else (if (s r1 0) = 2 then (some ((-11), s, t)) else ((f_X1_has 1 (s r1 1) s t).bind fun q4 => if q4.1 = 0 then (some ((-11), q4.2.1, q4.2.2)) else (if x3 = 0 then ((rx 8 (q4.2.1 r1 1)).bind fun j7 => (f_X5_isUnder (q4.2.1 3 j7) x2 q4.2.1 q4.2.2).bind fun q8 => if q8.1 = 0 then (j_X5_taken_124 r1 q8.2.1 q8.2.2) else (j_X5_taken_125 r1 1 q8.2.1 q8.2.2)) else (j_X5_taken_124 r1 q4.2.1 q4.2.2))))
def f_X5_taken (x1 : Int32) (x2 : Int32) (s : SS) (t : TT) : Option (Int32 × SS × TT) :=
  (f_X5_isWithin x2 10 13 s t).bind fun q1 => (f_X5_isPlace x1 q1.2.1 q1.2.2).bind fun q2 => if q2.1 = 0 then (some ((-1), q2.2.1, q2.2.2)) else ((f_X5_isKind x2 q2.2.1 q2.2.2).bind fun q4 => if q4.1 = 0 then (if q1.1 = 0 then (some ((-1), q4.2.1, q4.2.2)) else (j_X5_taken_29 x1 x2 q1.1 q4.2.1 q4.2.2)) else (j_X5_taken_29 x1 x2 q1.1 q4.2.1 q4.2.2))
def f_X5_act (x1 : Int32) (x2 : Int32) (x3 : Int32) (s : SS) (t : TT) : Option (Int32 × SS × TT) :=
  (f_X0_forget s t).bind fun q1 => (f_X5_isPlace x1 q1.1 q1.2).bind fun q2 => if q2.1 = 0 then (some (0, q2.2.1, q2.2.2)) else ((f_X5_isWithin x2 0 3 q2.2.1 q2.2.2).bind fun q4 => if q4.1 = 0 then (some (0, q4.2.1, q4.2.2)) else ((rx 4 x1).bind fun j6 => wr (39 + 3 * j6) fun r6 => if (q4.2.1 r6 0) = 0 then ((f_X1_has 1 (q4.2.1 r6 1) q4.2.1 q4.2.2).bind fun q8 => if q8.1 = 0 then (some (0, q8.2.1, q8.2.2)) else ((rx 8 (q8.2.1 r6 1)).bind fun j10 => (rx 8 (q8.2.1 r6 1)).bind fun j11 => (f_X0_play (q8.2.1 3 j10) (q8.2.1 r6 1) (q8.2.1 5 j11) q8.2.1 q8.2.2).bind fun q12 => (f_X0_perform x2 x3 q12.1 q12.2).bind fun q13 => if (q13.2.1 33 2) = 0 then (some (q13.1, q13.2.1, q13.2.2)) else (some ((-15), q13.2.1, q13.2.2)))) else (some (0, q4.2.1, q4.2.2))))
def f_X5_trace (x1 : Int32) (s : SS) (t : TT) : Option (Int32 × SS × TT) :=
  (f_X5_isWithin x1 0 ((s 33 1) - (1 : Int32)) s t).bind fun q1 => if q1.1 = 0 then (some ((-3), q1.2.1, q1.2.2)) else ((rx 30 x1).bind fun j3 => some ((q1.2.1 34 j3), q1.2.1, q1.2.2))
def f_X5_many (x1 : Int32) (s : SS) (t : TT) : Option (Int32 × SS × TT) :=
  if x1 = 0 then (some ((s 1 8), s, t)) else (if x1 = 1 then ((f_X1_countOf 1 6 s t).bind fun q3 => some (q3.1, q3.2.1, q3.2.2)) else (if x1 = 2 then ((f_X1_countOf 1 7 s t).bind fun q5 => some (q5.1, q5.2.1, q5.2.2)) else (if x1 = 3 then ((f_X1_readySet 1 s t).bind fun q7 => (f_bitCount q7.1 q7.2.1 q7.2.2).bind fun q8 => some (q8.1, q8.2.1, q8.2.2)) else (if x1 = 4 then (some ((s 0 9), s, t)) else (if x1 = 5 then (some ((s 28 7), s, t)) else (if x1 = 6 then (some ((s 33 1), s, t)) else (some ((-1), s, t))))))))
def f_X5_keep (s : SS) (t : TT) : Option (Int32 × SS × TT) :=
  (f_X1_become 10 1 s t).bind fun q1 => wr (up2 q1.1 0 10 1) fun s2 => some (1, s2, q1.2)
def f_X5_again (s : SS) (t : TT) : Option (Int32 × SS × TT) :=
  if (s 0 10) = 0 then (some ((-3), s, t)) else ((f_X1_become 1 10 s t).bind fun q2 => some ((q2.1 1 8), q2.1, q2.2))
def b_X6_begins_2 (o0 : Nat) (k2 : Int32 × SS × TT → Option (SS × TT)) (x1 : Int32) (s : SS) (t : TT) : Option (SS × TT) :=
  if 56 ≤ x1 then ((rx 56 0).bind fun j2 => wr (up2 s o0 j2 3) fun s2 => (rx 56 1).bind fun j3 => wr (up2 s2 o0 j3 2) fun s3 => (rx 56 2).bind fun j4 => wr (up2 s3 o0 j4 1) fun s4 => (rx 56 3).bind fun j5 => wr (up2 s4 o0 j5 20) fun s5 => some (s5, t)) else ((rx 56 x1).bind fun j6 => wr (up2 s o0 j6 0) fun s6 => k2 ((x1 + 1), s6, t))
def l_X6_begins_2 (o0 : Nat) (n : Nat) : Int32 × SS × TT → Option (SS × TT) := it (fun k a => b_X6_begins_2 o0 k a.1 a.2.1 a.2.2) n
def f_X6_begins (o0 : Nat) (s : SS) (t : TT) : Option (SS × TT) :=
  l_X6_begins_2 o0 300 (0, s, t)
def f_X6_in (x0 : Int32) (x1 : Int32) (x2 : Int32) (s : SS) (t : TT) : Option (Int32 × SS × TT) :=
  if x0 < x1 then (some (0, s, t)) else (if x2 < x0 then (some (0, s, t)) else (some (1, s, t)))
def f_X6_held (x0 : Int32) (x1 : Int32) (x2 : Int32) (s : SS) (t : TT) : Option (Int32 × SS × TT) :=
  if x1 ≤ x0 then (if x0 ≤ x2 then (some (x0, s, t)) else (some (x2, s, t))) else (some (x1, s, t))
def b_X6_moveAll_2 (o0 : Nat) (o1 : Nat) (k2 : Int32 × SS × TT → Option (SS × TT)) (x2 : Int32) (s : SS) (t : TT) : Option (SS × TT) :=
  if 56 ≤ x2 then (some (s, t)) else ((rx 56 x2).bind fun j2 => (rx 56 x2).bind fun j3 => wr (up2 s o1 j3 (s o0 j2)) fun s3 => k2 ((x2 + 1), s3, t))
def l_X6_moveAll_2 (o0 : Nat) (o1 : Nat) (n : Nat) : Int32 × SS × TT → Option (SS × TT) := it (fun k a => b_X6_moveAll_2 o0 o1 k a.1 a.2.1 a.2.2) n
def f_X6_moveAll (o0 : Nat) (o1 : Nat) (s : SS) (t : TT) : Option (SS × TT) :=
  l_X6_moveAll_2 o0 o1 300 (0, s, t)
def f_X6_isOne (x1 : Int32) (s : SS) (t : TT) : Option (Int32 × SS × TT) :=
  (rx 56 6).bind fun j1 => (f_X6_in x1 0 ((s 52 j1) - (1 : Int32)) s t).bind fun q2 => if (q2.1 == 0 || q2.1 == 1) = true then some (q2.1, q2.2.1, q2.2.2) else none
def f_X6_its (x1 : Int32) (x2 : Int32) (s : SS) (t : TT) : Option (Int32 × SS × TT) :=
  (rx 56 (((8 : Int32) + ((6 : Int32) * x1)) + x2)).bind fun j1 => some ((s 52 j1), s, t)
def f_X6_sets (x1 : Int32) (x2 : Int32) (x3 : Int32) (s : SS) (t : TT) : Option (SS × TT) :=
  (rx 56 (((8 : Int32) + ((6 : Int32) * x1)) + x2)).bind fun j1 => wr (up2 s 52 j1 x3) fun s1 => some (s1, t)
def f_X6_becomes (x1 : Int32) (x2 : Int32) (s : SS) (t : TT) : Option (Int32 × SS × TT) :=
  (rx 56 x1).bind fun j1 => (rx 56 x1).bind fun j2 => wr (up2 s 52 j2 x2) fun s2 => some ((s 52 j1), s2, t)
def b_X6_ones_4 (k4 : Int32 × Int32 × SS × TT → Option (Int32 × SS × TT)) (x1 : Int32) (x2 : Int32) (s : SS) (t : TT) : Option (Int32 × SS × TT) :=
  if x2 = 0 then (some (x1, s, t)) else (k4 ((x1 + 1), (x2 &&& (x2 - (1 : Int32))), s, t))
def l_X6_ones_4 (n : Nat) : Int32 × Int32 × SS × TT → Option (Int32 × SS × TT) := it (fun k a => b_X6_ones_4 k a.1 a.2.1 a.2.2.1 a.2.2.2) n
def f_X6_ones (x0 : Int32) (s : SS) (t : TT) : Option (Int32 × SS × TT) :=
  l_X6_ones_4 300 (0, x0, s, t)
def b_X6_feed_30 (k30 : Int64 × Int32 × Int32 × SS × TT → Option (Int32 × SS × TT)) (x1 : Int64) (x3 : Int32) (x4 : Int32) (s : SS) (t : TT) : Option (Int32 × SS × TT) :=
  if x3 ≤ x4 then (some ((s 51 7), s, t)) else ((rx 200 (s 51 7)).bind fun j2 => wr (up2 s 56 j2 (Int64.toInt32 ((pmf_lshr x1 ((8 : Int32) * x4)) &&& (255 : Int64)))) fun s2 => wr (up2 s2 51 7 ((s2 51 7) + (1 : Int32))) fun s3 => k30 (x1, x3, (x4 + 1), s3, t))
def l_X6_feed_30 (n : Nat) : Int64 × Int32 × Int32 × SS × TT → Option (Int32 × SS × TT) := it (fun k a => b_X6_feed_30 k a.1 a.2.1 a.2.2.1 a.2.2.2.1 a.2.2.2.2) n
def f_X6_feed (x1 : Int64) (x3 : Int32) (s : SS) (t : TT) : Option (Int32 × SS × TT) :=
  (f_X6_in x3 1 8 s t).bind fun q1 => if q1.1 = 0 then (some ((-1), q1.2.1, q1.2.2)) else (if ((q1.2.1 51 7) + x3) ≤ 200 then (l_X6_feed_30 300 (x1, x3, 0, q1.2.1, q1.2.2)) else (some ((-2), q1.2.1, q1.2.2)))
def f_X6_byteAt (x1 : Int32) (s : SS) (t : TT) : Option (Int32 × SS × TT) :=
  if (s 51 7) ≤ x1 then (some ((-1), s, t)) else ((rx 200 x1).bind fun j2 => some ((s 56 j2), s, t))
def f_X6_isLetter (x0 : Int32) (s : SS) (t : TT) : Option (Int32 × SS × TT) :=
  (f_X6_in x0 97 122 s t).bind fun q1 => if (q1.1 == 0 || q1.1 == 1) = true then some (q1.1, q1.2.1, q1.2.2) else none
def f_X6_isDigit (x0 : Int32) (s : SS) (t : TT) : Option (Int32 × SS × TT) :=
  (f_X6_in x0 48 57 s t).bind fun q1 => if (q1.1 == 0 || q1.1 == 1) = true then some (q1.1, q1.2.1, q1.2.2) else none
def j_X6_advance_266 (k207 : SS × TT → Option (SS × TT)) (y0 : Int32) (s : SS) (t : TT) : Option (SS × TT) :=
  wr (up2 s 51 12 y0) fun s1 => wr (up2 s1 51 10 ((s1 51 10) + (1 : Int32))) fun s2 => k207 (s2, t)
def b_X6_advance_207 (k207 : SS × TT → Option (SS × TT)) (s : SS) (t : TT) : Option (SS × TT) :=
  if (s 51 8) = 2 then ((f_X6_byteAt (s 51 10) s t).bind fun q2 => (f_X6_isDigit q2.1 q2.2.1 q2.2.2).bind fun q3 => if q3.1 = 0 then (some (q3.2.1, q3.2.2)) else (if 3 ≤ ((q3.2.1 51 10) - (q3.2.1 51 9)) then (j_X6_advance_266 k207 (-1) q3.2.1 q3.2.2) else ((f_X6_byteAt (q3.2.1 51 10) q3.2.1 q3.2.2).bind fun q6 => j_X6_advance_266 k207 ((((10 : Int32) * (q3.2.1 51 12)) + q6.1) - (48 : Int32)) q6.2.1 q6.2.2))) else (some (s, t))
def l_X6_advance_207 (n : Nat) : SS × TT → Option (SS × TT) := it (fun k a => b_X6_advance_207 k a.1 a.2) n
def j_X6_advance_191 (k126 : SS × TT → Option (SS × TT)) (y0 : Int64) (s : SS) (t : TT) : Option (SS × TT) :=
  wr (up2 t 51 11 y0) fun t1 => wr (up2 s 51 10 ((s 51 10) + (1 : Int32))) fun s2 => k126 (s2, t1)
def b_X6_advance_126 (k126 : SS × TT → Option (SS × TT)) (s : SS) (t : TT) : Option (SS × TT) :=
  if (s 51 8) = 1 then ((f_X6_byteAt (s 51 10) s t).bind fun q2 => (f_X6_isLetter q2.1 q2.2.1 q2.2.2).bind fun q3 => if q3.1 = 0 then (l_X6_advance_207 300 (q3.2.1, q3.2.2)) else (if 9 ≤ ((q3.2.1 51 10) - (q3.2.1 51 9)) then (j_X6_advance_191 k126 (-1) q3.2.1 q3.2.2) else ((f_X6_byteAt (q3.2.1 51 10) q3.2.1 q3.2.2).bind fun q6 => j_X6_advance_191 k126 ((((27 : Int64) * (q3.2.2 51 11)) + (Int32.toInt64 q6.1)) - (96 : Int64)) q6.2.1 q6.2.2))) else (l_X6_advance_207 300 (s, t))
def l_X6_advance_126 (n : Nat) : SS × TT → Option (SS × TT) := it (fun k a => b_X6_advance_126 k a.1 a.2) n
def j_X6_advance_105 (y0 : Int32) (s : SS) (t : TT) : Option (SS × TT) :=
  wr (up2 s 51 12 y0) fun s1 => if (s1 51 8) = 3 then (wr (up2 s1 51 10 ((s1 51 10) + (1 : Int32))) fun s3 => l_X6_advance_126 300 (s3, t)) else (l_X6_advance_126 300 (s1, t))
def j_X6_advance_83 (x1 : Int32) (y0 : Int32) (s : SS) (t : TT) : Option (SS × TT) :=
  wr (up2 s 51 8 y0) fun s1 => wr (up2 t 51 11 0) fun t2 => if (s1 51 8) = 2 then (j_X6_advance_105 0 s1 t2) else (j_X6_advance_105 x1 s1 t2)
def b_X6_advance_8 (k8 : SS × TT → Option (SS × TT)) (s : SS) (t : TT) : Option (SS × TT) :=
  (f_X6_byteAt (s 51 9) s t).bind fun q1 => if q1.1 = 32 then (wr (up2 q1.2.1 51 9 ((q1.2.1 51 9) + (1 : Int32))) fun s10 => k8 (s10, q1.2.2)) else (wr (up2 q1.2.1 51 10 (q1.2.1 51 9)) fun s3 => (f_X6_byteAt (s3 51 9) s3 q1.2.2).bind fun q4 => if 0 ≤ q4.1 then ((f_X6_isLetter q4.1 q4.2.1 q4.2.2).bind fun q6 => if q6.1 = 0 then ((f_X6_isDigit q4.1 q6.2.1 q6.2.2).bind fun q8 => if q8.1 = 0 then (j_X6_advance_83 q4.1 3 q8.2.1 q8.2.2) else (j_X6_advance_83 q4.1 2 q8.2.1 q8.2.2)) else (j_X6_advance_83 q4.1 1 q6.2.1 q6.2.2)) else (j_X6_advance_83 q4.1 0 q4.2.1 q4.2.2))
def l_X6_advance_8 (n : Nat) : SS × TT → Option (SS × TT) := it (fun k a => b_X6_advance_8 k a.1 a.2) n
def f_X6_advance (s : SS) (t : TT) : Option (SS × TT) :=
  wr (up2 s 51 9 (s 51 10)) fun s1 => l_X6_advance_8 300 (s1, t)
def f_X6_isWord (x1 : Int64) (s : SS) (t : TT) : Option (Int32 × SS × TT) :=
  if (s 51 8) = 1 then (if (lg_cmp (t 51 11) x1) = 0 then (some (1, s, t)) else (some (0, s, t))) else (some (0, s, t))
def f_X6_isMark (x1 : Int32) (s : SS) (t : TT) : Option (Int32 × SS × TT) :=
  if (s 51 8) = 3 then (if (s 51 12) = x1 then (some (1, s, t)) else (some (0, s, t))) else (some (0, s, t))
def f_X6_kindHere (s : SS) (t : TT) : Option (Int32 × SS × TT) :=
  (f_X6_isWord 913590 s t).bind fun q1 => if q1.1 = 0 then ((f_X6_isWord 152574828626 q1.2.1 q1.2.2).bind fun q3 => if q3.1 = 0 then ((f_X6_isWord 12403634 q3.2.1 q3.2.2).bind fun q5 => if q5.1 = 0 then ((f_X6_isWord 326018 q5.2.1 q5.2.2).bind fun q7 => if q7.1 = 0 then ((f_X6_isWord 277800912 q7.2.1 q7.2.2).bind fun q9 => if q9.1 = 0 then ((f_X6_isWord 1888 q9.2.1 q9.2.2).bind fun q11 => if q11.1 = 0 then (some ((-1), q11.2.1, q11.2.2)) else (some (5, q11.2.1, q11.2.2))) else (some (4, q9.2.1, q9.2.2))) else (some (3, q7.2.1, q7.2.2))) else (some (2, q5.2.1, q5.2.2))) else (some (1, q3.2.1, q3.2.2))) else (some (0, q1.2.1, q1.2.2))
def f_X6_lawHere (s : SS) (t : TT) : Option (Int32 × SS × TT) :=
  (f_X6_isWord 16079 s t).bind fun q1 => if q1.1 = 0 then ((f_X6_isWord 6564799 q1.2.1 q1.2.2).bind fun q3 => if q3.1 = 0 then ((f_X6_isWord 13691 q3.2.1 q3.2.2).bind fun q5 => if q5.1 = 0 then ((f_X6_isWord 382984 q5.2.1 q5.2.2).bind fun q7 => if q7.1 = 0 then (some ((-1), q7.2.1, q7.2.2)) else (some (3, q7.2.1, q7.2.2))) else (some (2, q5.2.1, q5.2.2))) else (some (1, q3.2.1, q3.2.2))) else (some (0, q1.2.1, q1.2.2))
def j_X6_wantNumber_35 (x3 : Int32) (y0 : Int32) (s : SS) (t : TT) : Option (Int32 × SS × TT) :=
  if (y0 == 0 || y0 == 1) = true then (wr (up2 s 51 13 y0) fun s1 => if (s1 51 13) = 0 then (some (x3, s1, t)) else ((f_X6_advance s1 t).bind fun q3 => some (x3, q3.1, q3.2))) else none
def j_X6_wantNumber_34 (x3 : Int32) (s : SS) (t : TT) : Option (Int32 × SS × TT) :=
  j_X6_wantNumber_35 x3 0 s t
def f_X6_wantNumber (x1 : Int32) (x2 : Int32) (s : SS) (t : TT) : Option (Int32 × SS × TT) :=
  if (s 51 13) = 0 then (j_X6_wantNumber_34 (s 51 12) s t) else (if (s 51 8) = 2 then ((f_X6_in (s 51 12) x1 x2 s t).bind fun q3 => if q3.1 = 0 then (j_X6_wantNumber_34 (s 51 12) q3.2.1 q3.2.2) else (j_X6_wantNumber_35 (s 51 12) 1 q3.2.1 q3.2.2)) else (j_X6_wantNumber_34 (s 51 12) s t))
def j_X6_wantEnd_22 (y0 : Int32) (s : SS) (t : TT) : Option (SS × TT) :=
  if (y0 == 0 || y0 == 1) = true then (wr (up2 s 51 13 y0) fun s1 => if (s1 51 13) = 0 then (some (s1, t)) else ((f_X6_advance s1 t).bind fun q3 => some (q3.1, q3.2))) else none
def j_X6_wantEnd_21 (s : SS) (t : TT) : Option (SS × TT) :=
  j_X6_wantEnd_22 0 s t
def f_X6_wantEnd (s : SS) (t : TT) : Option (SS × TT) :=
  if (s 51 13) = 0 then (j_X6_wantEnd_21  s t) else ((f_X6_isMark 59 s t).bind fun q2 => if q2.1 = 0 then (j_X6_wantEnd_21  q2.2.1 q2.2.2) else (j_X6_wantEnd_22 1 q2.2.1 q2.2.2))
def f_X6_mayWant (x1 : Int64) (x3 : Int32) (s : SS) (t : TT) : Option (Int32 × SS × TT) :=
  if (s 51 13) = 0 then (some (0, s, t)) else ((f_X6_isWord x1 s t).bind fun q2 => if q2.1 = 0 then (some (0, q2.2.1, q2.2.2)) else ((f_X6_advance q2.2.1 q2.2.2).bind fun q4 => (f_X6_wantNumber 0 x3 q4.1 q4.2).bind fun q5 => some (q5.1, q5.2.1, q5.2.2)))
def j_X6_wantOne_32 (x1 : Int32) (s : SS) (t : TT) : Option (SS × TT) :=
  (f_X6_mayWant 7871591333 99 s t).bind fun q1 => (f_X6_mayWant 158575 9 q1.2.1 q1.2.2).bind fun q2 => (f_X6_mayWant 8527996 99 q2.2.1 q2.2.2).bind fun q3 => (f_X6_wantEnd q3.2.1 q3.2.2).bind fun q4 => if (q4.1 51 13) = 0 then (some (q4.1, q4.2)) else ((rx 56 6).bind fun j6 => (rx 56 ((8 : Int32) + ((6 : Int32) * (q4.1 53 j6)))).bind fun j7 => wr (up2 q4.1 53 j7 x1) fun s7 => (rx 56 (((8 : Int32) + ((6 : Int32) * (q4.1 53 j6))) + (1 : Int32))).bind fun j8 => wr (up2 s7 53 j8 q1.1) fun s8 => (rx 56 (((8 : Int32) + ((6 : Int32) * (q4.1 53 j6))) + (2 : Int32))).bind fun j9 => wr (up2 s8 53 j9 q2.1) fun s9 => (rx 56 (((8 : Int32) + ((6 : Int32) * (q4.1 53 j6))) + (3 : Int32))).bind fun j10 => wr (up2 s9 53 j10 q3.1) fun s10 => (rx 56 6).bind fun j11 => (rx 56 6).bind fun j12 => wr (up2 s10 53 j12 ((s10 53 j11) + (1 : Int32))) fun s12 => some (s12, q4.2))
def j_X6_wantOne_18 (x1 : Int32) (y0 : Int32) (s : SS) (t : TT) : Option (SS × TT) :=
  if (y0 == 0 || y0 == 1) = true then (wr (up2 s 51 13 y0) fun s1 => if (s1 51 13) = 0 then (j_X6_wantOne_32 x1 s1 t) else ((f_X6_advance s1 t).bind fun q3 => j_X6_wantOne_32 x1 q3.1 q3.2)) else none
def f_X6_wantOne (x1 : Int32) (s : SS) (t : TT) : Option (SS × TT) :=
  (rx 56 6).bind fun j1 => if 8 ≤ (s 53 j1) then (j_X6_wantOne_18 x1 0 s t) else (j_X6_wantOne_18 x1 1 s t)
def f_X6_mostOf (x0 : Int32) (s : SS) (t : TT) : Option (Int32 × SS × TT) :=
  if x0 = 3 then (some (99, s, t)) else (some (9, s, t))
def f_X6_wantClause (s : SS) (t : TT) : Option (SS × TT) :=
  (f_X6_lawHere s t).bind fun q1 => (f_X6_kindHere q1.2.1 q1.2.2).bind fun q2 => if q2.1 < 0 then (if q1.1 < 0 then (wr (up2 q2.2.1 51 13 0) fun s5 => some (s5, q2.2.2)) else ((f_X6_advance q2.2.1 q2.2.2).bind fun q6 => (f_X6_mostOf q1.1 q6.1 q6.2).bind fun q7 => (f_X6_wantNumber 0 q7.1 q7.2.1 q7.2.2).bind fun q8 => (rx 56 q1.1).bind fun j9 => wr (up2 q8.2.1 53 j9 q8.1) fun s9 => (f_X6_wantEnd s9 q8.2.2).bind fun q10 => some (q10.1, q10.2))) else ((f_X6_kindHere q2.2.1 q2.2.2).bind fun q11 => (f_X6_wantOne q11.1 q11.2.1 q11.2.2).bind fun q12 => some (q12.1, q12.2))
def j_X6_post_42 (s : SS) (t : TT) : Option (Int32 × SS × TT) :=
  wr (up2 s 51 7 0) fun s1 => if (s1 51 13) = 0 then (some ((((-100) : Int32) - (s1 51 9)), s1, t)) else ((rx 56 7).bind fun j3 => (rx 56 7).bind fun j4 => wr (up2 s1 53 j4 (s1 52 j3)) fun s4 => (f_X6_moveAll 53 52 s4 t).bind fun q5 => wr (up2 q5.1 51 17 0) fun s6 => (rx 56 6).bind fun j7 => some ((s6 52 j7), s6, q5.2))
def b_X6_post_21 (k21 : SS × TT → Option (Int32 × SS × TT)) (s : SS) (t : TT) : Option (Int32 × SS × TT) :=
  if (s 51 13) = 0 then (j_X6_post_42  s t) else (if (s 51 8) = 0 then (j_X6_post_42  s t) else ((f_X6_wantClause s t).bind fun q3 => k21 (q3.1, q3.2)))
def l_X6_post_21 (n : Nat) : SS × TT → Option (Int32 × SS × TT) := it (fun k a => b_X6_post_21 k a.1 a.2) n
def f_X6_post (s : SS) (t : TT) : Option (Int32 × SS × TT) :=
  wr (up2 s 51 10 0) fun s1 => wr (up2 s1 51 13 1) fun s2 => (f_X6_begins 53 s2 t).bind fun q3 => (f_X6_advance q3.1 q3.2).bind fun q4 => l_X6_post_21 300 (q4.1, q4.2)
def f_X6_set (x1 : Int32) (x2 : Int32) (s : SS) (t : TT) : Option (Int32 × SS × TT) :=
  (f_X6_in x1 0 3 s t).bind fun q1 => if q1.1 = 0 then (some ((-1), q1.2.1, q1.2.2)) else ((f_X6_mostOf x1 q1.2.1 q1.2.2).bind fun q3 => (f_X6_in x2 0 q3.1 q3.2.1 q3.2.2).bind fun q4 => if q4.1 = 0 then (some ((-1), q4.2.1, q4.2.2)) else ((f_X6_becomes x1 x2 q4.2.1 q4.2.2).bind fun q6 => some (q6.1, q6.2.1, q6.2.2)))
def f_X6_lawOf (x1 : Int32) (s : SS) (t : TT) : Option (Int32 × SS × TT) :=
  (f_X6_in x1 0 3 s t).bind fun q1 => if q1.1 = 0 then (some ((-1), q1.2.1, q1.2.2)) else ((rx 56 x1).bind fun j3 => some ((q1.2.1 52 j3), q1.2.1, q1.2.2))
def f_X6_isKind (x0 : Int32) (x1 : Int32) (s : SS) (t : TT) : Option (Int32 × SS × TT) :=
  (f_X6_in x0 0 5 s t).bind fun q1 => if q1.1 = 0 then (some (0, q1.2.1, q1.2.2)) else ((f_X6_in x1 0 9 q1.2.1 q1.2.2).bind fun q3 => if q3.1 = 0 then (some (0, q3.2.1, q3.2.2)) else (some (1, q3.2.1, q3.2.2)))
def f_X6_person (x1 : Int32) (x2 : Int32) (x3 : Int32) (x4 : Int32) (s : SS) (t : TT) : Option (Int32 × SS × TT) :=
  (f_X6_isKind x1 x3 s t).bind fun q1 => if q1.1 = 0 then (some ((-1), q1.2.1, q1.2.2)) else ((f_X6_in x2 0 99 q1.2.1 q1.2.2).bind fun q3 => if q3.1 = 0 then (some ((-1), q3.2.1, q3.2.2)) else ((f_X6_in x4 0 99 q3.2.1 q3.2.2).bind fun q5 => if q5.1 = 0 then (some ((-1), q5.2.1, q5.2.2)) else ((rx 56 6).bind fun j7 => if (q5.2.1 52 j7) = 8 then (some ((-2), q5.2.1, q5.2.2)) else ((rx 56 6).bind fun j9 => (f_X6_sets (q5.2.1 52 j9) 0 x1 q5.2.1 q5.2.2).bind fun q10 => (f_X6_sets (q5.2.1 52 j9) 1 x2 q10.1 q10.2).bind fun q11 => (f_X6_sets (q5.2.1 52 j9) 2 x3 q11.1 q11.2).bind fun q12 => (f_X6_sets (q5.2.1 52 j9) 3 x4 q12.1 q12.2).bind fun q13 => (f_X6_sets (q5.2.1 52 j9) 4 0 q13.1 q13.2).bind fun q14 => (f_X6_sets (q5.2.1 52 j9) 5 0 q14.1 q14.2).bind fun q15 => (rx 56 6).bind fun j16 => (rx 56 6).bind fun j17 => wr (up2 q15.1 52 j17 ((q15.1 52 j16) + (1 : Int32))) fun s17 => some ((q5.2.1 52 j9), s17, q15.2)))))
def f_X6_of (x1 : Int32) (x2 : Int32) (s : SS) (t : TT) : Option (Int32 × SS × TT) :=
  (f_X6_isOne x1 s t).bind fun q1 => if q1.1 = 0 then (some ((-1), q1.2.1, q1.2.2)) else ((f_X6_in x2 0 5 q1.2.1 q1.2.2).bind fun q3 => if q3.1 = 0 then (some ((-1), q3.2.1, q3.2.2)) else ((f_X6_its x1 x2 q3.2.1 q3.2.2).bind fun q5 => some (q5.1, q5.2.1, q5.2.2)))
def f_X6_thinksOf (x1 : Int32) (s : SS) (t : TT) : Option (Int32 × SS × TT) :=
  (f_X6_its x1 0 s t).bind fun q1 => if q1.1 = 1 then (some (3, q1.2.1, q1.2.2)) else (if q1.1 = 2 then (some (1, q1.2.1, q1.2.2)) else (if q1.1 = 3 then (some (6, q1.2.1, q1.2.2)) else (if q1.1 = 4 then ((rx 56 2).bind fun j6 => some (((1 : Int32) + (q1.2.1 52 j6)), q1.2.1, q1.2.2)) else (if q1.1 = 5 then ((f_X6_its x1 2 q1.2.1 q1.2.2).bind fun q8 => some (((2 : Int32) + q8.1), q8.2.1, q8.2.2)) else (some (2, q1.2.1, q1.2.2))))))
def f_X6_needs (x1 : Int32) (s : SS) (t : TT) : Option (Int32 × SS × TT) :=
  (f_X6_its x1 0 s t).bind fun q1 => if q1.1 = 1 then ((rx 56 1).bind fun j3 => some (((10 : Int32) + (q1.2.1 52 j3)), q1.2.1, q1.2.2)) else (if q1.1 = 2 then (some (20, q1.2.1, q1.2.2)) else (if q1.1 = 3 then ((rx 56 1).bind fun j6 => (f_X6_its x1 2 q1.2.1 q1.2.2).bind fun q7 => some ((((10 : Int32) + (q1.2.1 52 j6)) - q7.1), q7.2.1, q7.2.2)) else (if q1.1 = 4 then (some (15, q1.2.1, q1.2.2)) else (if q1.1 = 5 then (some (3, q1.2.1, q1.2.2)) else (some (10, q1.2.1, q1.2.2))))))
def f_X6_says (x1 : Int32) (s : SS) (t : TT) : Option (Int32 × SS × TT) :=
  (f_X6_its x1 2 s t).bind fun q1 => (f_X6_its x1 0 q1.2.1 q1.2.2).bind fun q2 => if q2.1 = 1 then (some (((2 : Int32) * ((1 : Int32) + q1.1)), q2.2.1, q2.2.2)) else (if q2.1 = 2 then ((rx 56 2).bind fun j5 => some ((((1 : Int32) + q1.1) + (q2.2.1 52 j5)), q2.2.1, q2.2.2)) else (if q2.1 = 3 then (some ((((2 : Int32) * ((1 : Int32) + q1.1)) - (1 : Int32)), q2.2.1, q2.2.2)) else (if q2.1 = 4 then ((rx 56 2).bind fun j8 => (f_X6_its x1 3 q2.2.1 q2.2.2).bind fun q9 => (f_X6_held (q9.1 - (1 : Int32)) 0 99 q9.2.1 q9.2.2).bind fun q10 => some (((((1 : Int32) + q1.1) + (q2.2.1 52 j8)) + q10.1), q10.2.1, q10.2.2)) else (if q2.1 = 5 then (some (0, q2.2.1, q2.2.2)) else (some (((1 : Int32) + q1.1), q2.2.1, q2.2.2))))))
def j_X6_isUsed_17 (x1 : Int32) (y0 : Int32) (s : SS) (t : TT) : Option (Int32 × SS × TT) :=
  (f_X6_its x1 0 s t).bind fun q1 => if q1.1 = 2 then (if (y0 == 0 || y0 == 1) = true then some (y0, q1.2.1, q1.2.2) else none) else (if q1.1 = 4 then (if y0 = 0 then (some (0, q1.2.1, q1.2.2)) else ((rx 56 4).bind fun j5 => if ((q1.2.1 52 j5) - (q1.2.1 52 j5) / 3 * 3) = 0 then (some (1, q1.2.1, q1.2.2)) else (some (0, q1.2.1, q1.2.2)))) else (if q1.1 = 5 then (some (0, q1.2.1, q1.2.2)) else (some (1, q1.2.1, q1.2.2))))
def f_X6_isUsed (x1 : Int32) (s : SS) (t : TT) : Option (Int32 × SS × TT) :=
  (rx 56 4).bind fun j1 => if ((s 52 j1) - (s 52 j1) / 2 * 2) = 1 then (j_X6_isUsed_17 x1 1 s t) else (j_X6_isUsed_17 x1 0 s t)
def f_X6_does (x1 : Int32) (x2 : Int32) (s : SS) (t : TT) : Option (Int32 × SS × TT) :=
  (f_X6_isOne x1 s t).bind fun q1 => if q1.1 = 0 then (some ((-1), q1.2.1, q1.2.2)) else (if x2 = 0 then ((f_X6_thinksOf x1 q1.2.1 q1.2.2).bind fun q4 => some (((1000 : Int32) + q4.1), q4.2.1, q4.2.2)) else (if x2 = 1 then ((f_X6_needs x1 q1.2.1 q1.2.2).bind fun q6 => some (((1000 : Int32) + q6.1), q6.2.1, q6.2.2)) else (if x2 = 2 then ((f_X6_says x1 q1.2.1 q1.2.2).bind fun q8 => some (((1000 : Int32) + q8.1), q8.2.1, q8.2.2)) else (if x2 = 3 then ((f_X6_isUsed x1 q1.2.1 q1.2.2).bind fun q10 => if q10.1 = 0 then (some (1000, q10.2.1, q10.2.2)) else (some (1001, q10.2.1, q10.2.2))) else (some ((-1), q1.2.1, q1.2.2))))))
def f_X6_mind (x1 : Int32) (x2 : Int32) (x3 : Int32) (s : SS) (t : TT) : Option (Int32 × SS × TT) :=
  (f_X6_isOne x1 s t).bind fun q1 => if q1.1 = 0 then (some ((-1), q1.2.1, q1.2.2)) else ((f_X6_isKind x2 x3 q1.2.1 q1.2.2).bind fun q3 => if q3.1 = 0 then (some ((-1), q3.2.1, q3.2.2)) else ((f_X6_sets x1 2 x3 q3.2.1 q3.2.2).bind fun q5 => (f_X6_becomes ((8 : Int32) + ((6 : Int32) * x1)) x2 q5.1 q5.2).bind fun q6 => some (q6.1, q6.2.1, q6.2.2)))
def f_X6_thought (x1 : Int32) (x2 : Int32) (s : SS) (t : TT) : Option (Int32 × SS × TT) :=
  (f_X6_isOne x1 s t).bind fun q1 => if q1.1 = 0 then (some ((-1), q1.2.1, q1.2.2)) else ((f_X6_in x2 0 99 q1.2.1 q1.2.2).bind fun q3 => if q3.1 = 0 then (some ((-1), q3.2.1, q3.2.2)) else ((f_X6_becomes (((8 : Int32) + ((6 : Int32) * x1)) + (1 : Int32)) x2 q3.2.1 q3.2.2).bind fun q5 => some (q5.1, q5.2.1, q5.2.2)))
def f_X6_own (x1 : Int32) (x2 : Int32) (s : SS) (t : TT) : Option (Int32 × SS × TT) :=
  (f_X6_isOne x1 s t).bind fun q1 => if q1.1 = 0 then (some ((-1), q1.2.1, q1.2.2)) else ((f_X6_in x2 0 99 q1.2.1 q1.2.2).bind fun q3 => if q3.1 = 0 then (some ((-1), q3.2.1, q3.2.2)) else ((f_X6_becomes (((8 : Int32) + ((6 : Int32) * x1)) + (3 : Int32)) x2 q3.2.1 q3.2.2).bind fun q5 => some (q5.1, q5.2.1, q5.2.2)))
def f_X6_give (x1 : Int32) (x2 : Int32) (s : SS) (t : TT) : Option (Int32 × SS × TT) :=
  (f_X6_isOne x1 s t).bind fun q1 => if q1.1 = 0 then (some ((-1), q1.2.1, q1.2.2)) else ((f_X6_isOne x2 q1.2.1 q1.2.2).bind fun q3 => if q3.1 = 0 then (some ((-1), q3.2.1, q3.2.2)) else (if x1 = x2 then (some ((-1), q3.2.1, q3.2.2)) else ((f_X6_its x1 3 q3.2.1 q3.2.2).bind fun q6 => if q6.1 = 0 then (some ((-3), q6.2.1, q6.2.2)) else ((f_X6_its x2 3 q6.2.1 q6.2.2).bind fun q8 => if q8.1 = 99 then (some ((-3), q8.2.1, q8.2.2)) else ((f_X6_its x1 3 q8.2.1 q8.2.2).bind fun q10 => (f_X6_sets x1 3 (q10.1 - (1 : Int32)) q10.2.1 q10.2.2).bind fun q11 => (f_X6_its x2 3 q11.1 q11.2).bind fun q12 => (f_X6_sets x2 3 (q12.1 + (1 : Int32)) q12.2.1 q12.2.2).bind fun q13 => (f_X6_its x2 3 q13.1 q13.2).bind fun q14 => some (q14.1, q14.2.1, q14.2.2))))))
def f_X6_isReady (x1 : Int32) (s : SS) (t : TT) : Option (Int32 × SS × TT) :=
  (f_X6_its x1 1 s t).bind fun q1 => (f_X6_needs x1 q1.2.1 q1.2.2).bind fun q2 => if q1.1 < q2.1 then (some (0, q2.2.1, q2.2.2)) else (some (1, q2.2.1, q2.2.2))
def j_X6_readySet_31 (k4 : Int32 × Int32 × SS × TT → Option (Int32 × SS × TT)) (x2 : Int32) (y0 : Int32) (y1 : Int32) (s : SS) (t : TT) : Option (Int32 × SS × TT) :=
  k4 ((y1 ||| y0), (x2 + 1), s, t)
def b_X6_readySet_4 (k4 : Int32 × Int32 × SS × TT → Option (Int32 × SS × TT)) (x1 : Int32) (x2 : Int32) (s : SS) (t : TT) : Option (Int32 × SS × TT) :=
  (rx 56 6).bind fun j1 => if (s 52 j1) ≤ x2 then (some (x1, s, t)) else ((f_X6_isReady x2 s t).bind fun q3 => if q3.1 = 0 then (j_X6_readySet_31 k4 x2 0 x1 q3.2.1 q3.2.2) else (j_X6_readySet_31 k4 x2 ((1 : Int32) <<< (x2 &&& 31)) x1 q3.2.1 q3.2.2))
def l_X6_readySet_4 (n : Nat) : Int32 × Int32 × SS × TT → Option (Int32 × SS × TT) := it (fun k a => b_X6_readySet_4 k a.1 a.2.1 a.2.2.1 a.2.2.2) n
def f_X6_readySet (s : SS) (t : TT) : Option (Int32 × SS × TT) :=
  l_X6_readySet_4 300 (0, 0, s, t)
def j_X6_next_86 (k4 : Int32 × Int32 × SS × TT → Option (Int32 × SS × TT)) (x2 : Int32) (s : SS) (t : TT) : Option (Int32 × SS × TT) :=
  k4 (x2, (x2 + 1), s, t)
def j_X6_next_50 (k4 : Int32 × Int32 × SS × TT → Option (Int32 × SS × TT)) (x1 : Int32) (x2 : Int32) (y0 : Int32) (s : SS) (t : TT) : Option (Int32 × SS × TT) :=
  if y0 = 0 then (k4 (x1, (x2 + 1), s, t)) else (if x1 < 0 then (j_X6_next_86 k4 x2 s t) else ((f_X6_its x2 1 s t).bind fun q3 => (f_X6_needs x2 q3.2.1 q3.2.2).bind fun q4 => (f_X6_its x1 1 q4.2.1 q4.2.2).bind fun q5 => (f_X6_needs x1 q5.2.1 q5.2.2).bind fun q6 => if (q3.1 - q4.1) ≤ (q5.1 - q6.1) then (k4 (x1, (x2 + 1), q6.2.1, q6.2.2)) else (j_X6_next_86 k4 x2 q6.2.1 q6.2.2)))
def j_X6_next_49 (k4 : Int32 × Int32 × SS × TT → Option (Int32 × SS × TT)) (x1 : Int32) (x2 : Int32) (s : SS) (t : TT) : Option (Int32 × SS × TT) :=
  j_X6_next_50 k4 x1 x2 0 s t
def b_X6_next_4 (k4 : Int32 × Int32 × SS × TT → Option (Int32 × SS × TT)) (x1 : Int32) (x2 : Int32) (s : SS) (t : TT) : Option (Int32 × SS × TT) :=
  (rx 56 6).bind fun j1 => if (s 52 j1) ≤ x2 then (some (x1, s, t)) else ((f_X6_isReady x2 s t).bind fun q3 => if q3.1 = 0 then (j_X6_next_49 k4 x1 x2 q3.2.1 q3.2.2) else ((f_X6_its x2 3 q3.2.1 q3.2.2).bind fun q5 => if 99 ≤ q5.1 then (j_X6_next_49 k4 x1 x2 q5.2.1 q5.2.2) else (if (((q5.2.1 51 5) >>> (x2 &&& 31)) &&& (1 : Int32)) = 0 then (j_X6_next_50 k4 x1 x2 1 q5.2.1 q5.2.2) else (j_X6_next_49 k4 x1 x2 q5.2.1 q5.2.2))))
def l_X6_next_4 (n : Nat) : Int32 × Int32 × SS × TT → Option (Int32 × SS × TT) := it (fun k a => b_X6_next_4 k a.1 a.2.1 a.2.2.1 a.2.2.2) n
def f_X6_next (s : SS) (t : TT) : Option (Int32 × SS × TT) :=
  l_X6_next_4 300 ((-1), 0, s, t)
def f_X6_pageGoes (s : SS) (t : TT) : Option (SS × TT) :=
  (f_X6_next s t).bind fun q1 => if 0 ≤ q1.1 then ((f_X6_its q1.1 3 q1.2.1 q1.2.2).bind fun q3 => (f_X6_sets q1.1 3 (q3.1 + (1 : Int32)) q3.2.1 q3.2.2).bind fun q4 => (f_X6_its q1.1 4 q4.1 q4.2).bind fun q5 => (f_X6_held (q5.1 + (1 : Int32)) 0 9999 q5.2.1 q5.2.2).bind fun q6 => (f_X6_sets q1.1 4 q6.1 q6.2.1 q6.2.2).bind fun q7 => (f_X6_its q1.1 1 q7.1 q7.2).bind fun q8 => (f_X6_needs q1.1 q8.2.1 q8.2.2).bind fun q9 => (f_X6_sets q1.1 1 (q8.1 - q9.1) q9.2.1 q9.2.2).bind fun q10 => some (q10.1, q10.2)) else ((rx 56 5).bind fun j11 => (f_X6_held ((q1.2.1 52 j11) + (1 : Int32)) 0 9999 q1.2.1 q1.2.2).bind fun q12 => (rx 56 5).bind fun j13 => wr (up2 q12.2.1 52 j13 q12.1) fun s13 => some (s13, q12.2.2))
def j_X6_writes_54 (x2 : Int32) (y0 : Int32) (y1 : Int32) (y2 : Int32) (s : SS) (t : TT) : Option (Int32 × SS × TT) :=
  (f_X6_sets y2 y1 y0 s t).bind fun q1 => some (x2, q1.1, q1.2)
def f_X6_writes (x1 : Int32) (s : SS) (t : TT) : Option (Int32 × SS × TT) :=
  (f_X6_says x1 s t).bind fun q1 => (f_X6_its x1 5 q1.2.1 q1.2.2).bind fun q2 => (f_X6_held (q2.1 + q1.1) 0 99999 q2.2.1 q2.2.2).bind fun q3 => (f_X6_sets x1 5 q3.1 q3.2.1 q3.2.2).bind fun q4 => (f_X6_isUsed x1 q4.1 q4.2).bind fun q5 => if q5.1 = 0 then ((f_X6_its x1 3 q5.2.1 q5.2.2).bind fun q7 => j_X6_writes_54 q1.1 q7.1 3 x1 q7.2.1 q7.2.2) else ((f_X6_its x1 3 q5.2.1 q5.2.2).bind fun q8 => j_X6_writes_54 q1.1 (q8.1 - (1 : Int32)) 3 x1 q8.2.1 q8.2.2)
def j_X6_weekGoes_99 (k69 : Int32 × Int32 × SS × TT → Option (Int32 × SS × TT)) (x2 : Int32) (y0 : Int32) (y1 : Int32) (s : SS) (t : TT) : Option (Int32 × SS × TT) :=
  k69 ((y1 + y0), (x2 + 1), s, t)
def b_X6_weekGoes_69 (k69 : Int32 × Int32 × SS × TT → Option (Int32 × SS × TT)) (x1 : Int32) (x2 : Int32) (s : SS) (t : TT) : Option (Int32 × SS × TT) :=
  (rx 56 6).bind fun j1 => if (s 52 j1) ≤ x2 then ((rx 56 4).bind fun j3 => (rx 56 4).bind fun j4 => wr (up2 s 52 j4 ((s 52 j3) + (1 : Int32))) fun s4 => some (x1, s4, t)) else ((f_X6_its x2 3 s t).bind fun q5 => if q5.1 ≤ 0 then (j_X6_weekGoes_99 k69 x2 0 x1 q5.2.1 q5.2.2) else ((f_X6_writes x2 q5.2.1 q5.2.2).bind fun q7 => j_X6_weekGoes_99 k69 x2 q7.1 x1 q7.2.1 q7.2.2))
def l_X6_weekGoes_69 (n : Nat) : Int32 × Int32 × SS × TT → Option (Int32 × SS × TT) := it (fun k a => b_X6_weekGoes_69 k a.1 a.2.1 a.2.2.1 a.2.2.2) n
def b_X6_weekGoes_45 (k45 : Int32 × SS × TT → Option (Int32 × SS × TT)) (x1 : Int32) (s : SS) (t : TT) : Option (Int32 × SS × TT) :=
  (rx 56 0).bind fun j1 => if (s 52 j1) ≤ x1 then (l_X6_weekGoes_69 300 (0, 0, s, t)) else ((f_X6_pageGoes s t).bind fun q3 => k45 ((x1 + 1), q3.1, q3.2))
def l_X6_weekGoes_45 (n : Nat) : Int32 × SS × TT → Option (Int32 × SS × TT) := it (fun k a => b_X6_weekGoes_45 k a.1 a.2.1 a.2.2) n
def b_X6_weekGoes_2 (k2 : Int32 × SS × TT → Option (Int32 × SS × TT)) (x1 : Int32) (s : SS) (t : TT) : Option (Int32 × SS × TT) :=
  (rx 56 6).bind fun j1 => if (s 52 j1) ≤ x1 then (l_X6_weekGoes_45 300 (0, s, t)) else ((f_X6_its x1 1 s t).bind fun q3 => (f_X6_thinksOf x1 q3.2.1 q3.2.2).bind fun q4 => (f_X6_held (q3.1 + q4.1) 0 99 q4.2.1 q4.2.2).bind fun q5 => (f_X6_sets x1 1 q5.1 q5.2.1 q5.2.2).bind fun q6 => k2 ((x1 + 1), q6.1, q6.2))
def l_X6_weekGoes_2 (n : Nat) : Int32 × SS × TT → Option (Int32 × SS × TT) := it (fun k a => b_X6_weekGoes_2 k a.1 a.2.1 a.2.2) n
def f_X6_weekGoes (s : SS) (t : TT) : Option (Int32 × SS × TT) :=
  l_X6_weekGoes_2 300 (0, s, t)
def b_X6_sumOf_4 (k4 : Int32 × Int32 × Int32 × SS × TT → Option (Int32 × SS × TT)) (x1 : Int32) (x2 : Int32) (x3 : Int32) (s : SS) (t : TT) : Option (Int32 × SS × TT) :=
  (rx 56 6).bind fun j1 => if (s 52 j1) ≤ x3 then (some (x2, s, t)) else ((f_X6_its x3 x1 s t).bind fun q3 => k4 (x1, (x2 + q3.1), (x3 + 1), q3.2.1, q3.2.2))
def l_X6_sumOf_4 (n : Nat) : Int32 × Int32 × Int32 × SS × TT → Option (Int32 × SS × TT) := it (fun k a => b_X6_sumOf_4 k a.1 a.2.1 a.2.2.1 a.2.2.2.1 a.2.2.2.2) n
def f_X6_sumOf (x1 : Int32) (s : SS) (t : TT) : Option (Int32 × SS × TT) :=
  l_X6_sumOf_4 300 (x1, 0, 0, s, t)
def b_X6_weeks_14 (k14 : Int32 × Int32 × SS × TT → Option (Int32 × SS × TT)) (x1 : Int32) (x2 : Int32) (s : SS) (t : TT) : Option (Int32 × SS × TT) :=
  if x1 ≤ x2 then ((f_X6_sumOf 3 s t).bind fun q2 => some (q2.1, q2.2.1, q2.2.2)) else ((f_X6_weekGoes s t).bind fun q3 => k14 (x1, (x2 + 1), q3.2.1, q3.2.2))
def l_X6_weeks_14 (n : Nat) : Int32 × Int32 × SS × TT → Option (Int32 × SS × TT) := it (fun k a => b_X6_weeks_14 k a.1 a.2.1 a.2.2.1 a.2.2.2) n
def f_X6_weeks (x1 : Int32) (s : SS) (t : TT) : Option (Int32 × SS × TT) :=
  (f_X6_in x1 1 60 s t).bind fun q1 => if q1.1 = 0 then (some ((-1), q1.2.1, q1.2.2)) else (l_X6_weeks_14 300 (x1, 0, q1.2.1, q1.2.2))
def f_X6_drawn (s : SS) (t : TT) : Option (Int32 × SS × TT) :=
  (rx 56 7).bind fun j1 => (rx 56 7).bind fun j2 => wr (up2 s 52 j2 (((s 52 j1) * (1103515245 : Int32)) + (12345 : Int32))) fun s2 => (rx 56 7).bind fun j3 => some ((pmf_iushr (s2 52 j3) (16 : Int32)), s2, t)
def f_X6_seed (x1 : Int32) (s : SS) (t : TT) : Option (Int32 × SS × TT) :=
  (f_X6_becomes 7 x1 s t).bind fun q1 => some (q1.1, q1.2.1, q1.2.2)
def j_X6_weekByDraws_53 (s : SS) (t : TT) : Option (Int32 × SS × TT) :=
  (f_X6_weekGoes s t).bind fun q1 => some (q1.1, q1.2.1, q1.2.2)
def f_X6_weekByDraws (s : SS) (t : TT) : Option (Int32 × SS × TT) :=
  (rx 56 6).bind fun j1 => if (s 52 j1) ≤ 0 then (j_X6_weekByDraws_53  s t) else ((f_X6_drawn s t).bind fun q3 => (rx 56 6).bind fun j4 => if (q3.2.1 52 j4) = 0 then none else (f_X6_drawn q3.2.1 q3.2.2).bind fun q6 => (rx 56 3).bind fun j7 => if (q6.2.1 52 j7) ≤ (q6.1 - q6.1 / 100 * 100) then (j_X6_weekByDraws_53  q6.2.1 q6.2.2) else ((f_X6_its (q3.1 - q3.1 / (q3.2.1 52 j4) * (q3.2.1 52 j4)) 1 q6.2.1 q6.2.2).bind fun q9 => (f_X6_sets (q3.1 - q3.1 / (q3.2.1 52 j4) * (q3.2.1 52 j4)) 1 (q9.1 / 2) q9.2.1 q9.2.2).bind fun q10 => j_X6_weekByDraws_53  q10.1 q10.2))
def f_X6_week (s : SS) (t : TT) : Option (Int32 × SS × TT) :=
  (f_X6_weekByDraws s t).bind fun q1 => some (q1.1, q1.2.1, q1.2.2)
def b_X6_wordsBehind_4 (k4 : Int32 × Int32 × Int32 × SS × TT → Option (Int32 × SS × TT)) (x1 : Int32) (x2 : Int32) (x3 : Int32) (s : SS) (t : TT) : Option (Int32 × SS × TT) :=
  if x1 ≤ x3 then ((f_X6_moveAll 55 52 s t).bind fun q2 => some (x2, q2.1, q2.2)) else ((f_X6_weekGoes s t).bind fun q3 => k4 (x1, (x2 + q3.1), (x3 + 1), q3.2.1, q3.2.2))
def l_X6_wordsBehind_4 (n : Nat) : Int32 × Int32 × Int32 × SS × TT → Option (Int32 × SS × TT) := it (fun k a => b_X6_wordsBehind_4 k a.1 a.2.1 a.2.2.1 a.2.2.2.1 a.2.2.2.2) n
def f_X6_wordsBehind (x1 : Int32) (s : SS) (t : TT) : Option (Int32 × SS × TT) :=
  l_X6_wordsBehind_4 300 (x1, 0, 0, s, t)
def j_X6_poor_72 (k43 : Int32 × Int32 × Int32 × Int32 × Int32 × SS × TT → Option (Int32 × SS × TT)) (x1 : Int32) (x2 : Int32) (x5 : Int32) (y0 : Int32) (y1 : Int32) (s : SS) (t : TT) : Option (Int32 × SS × TT) :=
  (rx 56 7).bind fun j1 => (f_X6_moveAll 55 52 s t).bind fun q2 => k43 (x1, x2, (s 52 j1), (y1 + y0), (x5 + 1), q2.1, q2.2)
def b_X6_poor_43 (k43 : Int32 × Int32 × Int32 × Int32 × Int32 × SS × TT → Option (Int32 × SS × TT)) (x1 : Int32) (x2 : Int32) (x3 : Int32) (x4 : Int32) (x5 : Int32) (s : SS) (t : TT) : Option (Int32 × SS × TT) :=
  if x1 ≤ x5 then (some (x4, s, t)) else ((rx 56 7).bind fun j2 => wr (up2 s 52 j2 x3) fun s2 => (f_X6_weekByDraws s2 t).bind fun q3 => if x2 ≤ q3.1 then (j_X6_poor_72 k43 x1 x2 x5 0 x4 q3.2.1 q3.2.2) else (j_X6_poor_72 k43 x1 x2 x5 1 x4 q3.2.1 q3.2.2))
def l_X6_poor_43 (n : Nat) : Int32 × Int32 × Int32 × Int32 × Int32 × SS × TT → Option (Int32 × SS × TT) := it (fun k a => b_X6_poor_43 k a.1 a.2.1 a.2.2.1 a.2.2.2.1 a.2.2.2.2.1 a.2.2.2.2.2.1 a.2.2.2.2.2.2) n
def f_X6_poor (x1 : Int32) (s : SS) (t : TT) : Option (Int32 × SS × TT) :=
  (f_X6_in x1 1 30 s t).bind fun q1 => if q1.1 = 0 then (some ((-1), q1.2.1, q1.2.2)) else ((f_X6_moveAll 52 55 q1.2.1 q1.2.2).bind fun q3 => (f_X6_wordsBehind 1 q3.1 q3.2).bind fun q4 => (rx 56 7).bind fun j5 => l_X6_poor_43 300 (x1, q4.1, (q4.2.1 52 j5), 0, 0, q4.2.1, q4.2.2))
def f_X6_state (x1 : Int32) (s : SS) (t : TT) : Option (Int32 × SS × TT) :=
  if x1 = 0 then ((rx 56 4).bind fun j2 => some ((s 52 j2), s, t)) else (if x1 = 1 then ((rx 56 5).bind fun j4 => some ((s 52 j4), s, t)) else (if x1 = 2 then ((f_X6_sumOf 5 s t).bind fun q6 => some (q6.1, q6.2.1, q6.2.2)) else (if x1 = 3 then ((f_X6_sumOf 3 s t).bind fun q8 => some (q8.1, q8.2.1, q8.2.2)) else (if x1 = 4 then ((f_X6_sumOf 1 s t).bind fun q10 => some (q10.1, q10.2.1, q10.2.2)) else (if x1 = 5 then ((f_X6_readySet s t).bind fun q12 => some (q12.1, q12.2.1, q12.2.2)) else (some ((-1), s, t)))))))
def f_X6_words (x1 : Int32) (s : SS) (t : TT) : Option (Int32 × SS × TT) :=
  (f_X6_in x1 0 60 s t).bind fun q1 => if q1.1 = 0 then (some ((-1), q1.2.1, q1.2.2)) else ((f_X6_moveAll 52 55 q1.2.1 q1.2.2).bind fun q3 => (f_X6_wordsBehind x1 q3.1 q3.2).bind fun q4 => some (q4.1, q4.2.1, q4.2.2))
def j_X6_gets_57 (x3 : Int32) (s : SS) (t : TT) : Option (Int32 × SS × TT) :=
  (f_X6_moveAll 55 52 s t).bind fun q1 => if x3 ≤ 60 then (some (x3, q1.1, q1.2)) else (some ((-3), q1.1, q1.2))
def b_X6_gets_30 (k30 : Int32 × Int32 × Int32 × SS × TT → Option (Int32 × SS × TT)) (x1 : Int32) (x2 : Int32) (x3 : Int32) (s : SS) (t : TT) : Option (Int32 × SS × TT) :=
  if 60 < x3 then (j_X6_gets_57 x3 s t) else ((f_X6_its x1 4 s t).bind fun q2 => if q2.1 = x2 then ((f_X6_weekGoes q2.2.1 q2.2.2).bind fun q4 => k30 (x1, x2, (x3 + 1), q4.2.1, q4.2.2)) else (j_X6_gets_57 x3 q2.2.1 q2.2.2))
def l_X6_gets_30 (n : Nat) : Int32 × Int32 × Int32 × SS × TT → Option (Int32 × SS × TT) := it (fun k a => b_X6_gets_30 k a.1 a.2.1 a.2.2.1 a.2.2.2.1 a.2.2.2.2) n
def f_X6_gets (x1 : Int32) (s : SS) (t : TT) : Option (Int32 × SS × TT) :=
  (f_X6_isOne x1 s t).bind fun q1 => if q1.1 = 0 then (some ((-1), q1.2.1, q1.2.2)) else ((f_X6_moveAll 52 55 q1.2.1 q1.2.2).bind fun q3 => (f_X6_its x1 4 q3.1 q3.2).bind fun q4 => l_X6_gets_30 300 (x1, q4.1, 0, q4.2.1, q4.2.2))
def j_X6_idle_38 (x1 : Int32) (s : SS) (t : TT) : Option (Int32 × SS × TT) :=
  (f_X6_moveAll 55 52 s t).bind fun q1 => if x1 ≤ 60 then (some (x1, q1.1, q1.2)) else (some ((-3), q1.1, q1.2))
def b_X6_idle_13 (k13 : Int32 × SS × TT → Option (Int32 × SS × TT)) (x1 : Int32) (s : SS) (t : TT) : Option (Int32 × SS × TT) :=
  if 60 < x1 then (j_X6_idle_38 x1 s t) else ((f_X6_sumOf 3 s t).bind fun q2 => if q2.1 ≤ 0 then (j_X6_idle_38 x1 q2.2.1 q2.2.2) else ((f_X6_weekGoes q2.2.1 q2.2.2).bind fun q4 => k13 ((x1 + 1), q4.2.1, q4.2.2)))
def l_X6_idle_13 (n : Nat) : Int32 × SS × TT → Option (Int32 × SS × TT) := it (fun k a => b_X6_idle_13 k a.1 a.2.1 a.2.2) n
def f_X6_idle (s : SS) (t : TT) : Option (Int32 × SS × TT) :=
  (f_X6_moveAll 52 55 s t).bind fun q1 => l_X6_idle_13 300 (0, q1.1, q1.2)
def j_X6_vanFor_79 (x3 : Int32) (x4 : Int32) (s : SS) (t : TT) : Option (Int32 × SS × TT) :=
  if x4 = 0 then (some ((-3), s, t)) else (some (x3, s, t))
def b_X6_vanFor_39 (k39 : Int32 × Int32 × Int32 × Int32 × SS × TT → Option (Int32 × SS × TT)) (x1 : Int32) (x2 : Int32) (x3 : Int32) (x4 : Int32) (s : SS) (t : TT) : Option (Int32 × SS × TT) :=
  if 9 ≤ x3 then (j_X6_vanFor_79 x3 x4 s t) else (if x4 = 0 then ((rx 56 0).bind fun j3 => wr (up2 s 52 j3 (x3 + 1)) fun s3 => (f_X6_wordsBehind x1 s3 t).bind fun q4 => if q4.1 < x2 then (k39 (x1, x2, (x3 + 1), 0, q4.2.1, q4.2.2)) else (k39 (x1, x2, (x3 + 1), 1, q4.2.1, q4.2.2))) else (j_X6_vanFor_79 x3 x4 s t))
def l_X6_vanFor_39 (n : Nat) : Int32 × Int32 × Int32 × Int32 × SS × TT → Option (Int32 × SS × TT) := it (fun k a => b_X6_vanFor_39 k a.1 a.2.1 a.2.2.1 a.2.2.2.1 a.2.2.2.2.1 a.2.2.2.2.2) n
def f_X6_vanFor (x1 : Int32) (x2 : Int32) (s : SS) (t : TT) : Option (Int32 × SS × TT) :=
  (f_X6_in x1 1 20 s t).bind fun q1 => if q1.1 = 0 then (some ((-1), q1.2.1, q1.2.2)) else ((f_X6_in x2 0 9999 q1.2.1 q1.2.2).bind fun q3 => if q3.1 = 0 then (some ((-1), q3.2.1, q3.2.2)) else ((f_X6_moveAll 52 55 q3.2.1 q3.2.2).bind fun q5 => l_X6_vanFor_39 300 (x1, x2, (-1), 0, q5.1, q5.2)))
def j_X6_kindFor_73 (k39 : Int32 × Int32 × Int32 × Int32 × Int32 × SS × TT → Option (Int32 × SS × TT)) (x1 : Int32) (x2 : Int32) (x4 : Int32) (x5 : Int32) (x6 : Int32) (y0 : Int32) (s : SS) (t : TT) : Option (Int32 × SS × TT) :=
  if x6 ≤ x4 then (k39 (x1, x2, y0, x4, (x5 + 1), s, t)) else (k39 (x1, x2, y0, x6, (x5 + 1), s, t))
def b_X6_kindFor_39 (k39 : Int32 × Int32 × Int32 × Int32 × Int32 × SS × TT → Option (Int32 × SS × TT)) (x1 : Int32) (x2 : Int32) (x3 : Int32) (x4 : Int32) (x5 : Int32) (s : SS) (t : TT) : Option (Int32 × SS × TT) :=
  if 5 < x5 then (some (x3, s, t)) else ((f_X6_sets x1 0 x5 s t).bind fun q2 => (f_X6_wordsBehind x2 q2.1 q2.2).bind fun q3 => if q3.1 ≤ x4 then (j_X6_kindFor_73 k39 x1 x2 x4 x5 q3.1 x3 q3.2.1 q3.2.2) else (j_X6_kindFor_73 k39 x1 x2 x4 x5 q3.1 x5 q3.2.1 q3.2.2))
def l_X6_kindFor_39 (n : Nat) : Int32 × Int32 × Int32 × Int32 × Int32 × SS × TT → Option (Int32 × SS × TT) := it (fun k a => b_X6_kindFor_39 k a.1 a.2.1 a.2.2.1 a.2.2.2.1 a.2.2.2.2.1 a.2.2.2.2.2.1 a.2.2.2.2.2.2) n
def f_X6_kindFor (x1 : Int32) (x2 : Int32) (s : SS) (t : TT) : Option (Int32 × SS × TT) :=
  (f_X6_isOne x1 s t).bind fun q1 => if q1.1 = 0 then (some ((-1), q1.2.1, q1.2.2)) else ((f_X6_in x2 1 20 q1.2.1 q1.2.2).bind fun q3 => if q3.1 = 0 then (some ((-1), q3.2.1, q3.2.2)) else ((f_X6_moveAll 52 55 q3.2.1 q3.2.2).bind fun q5 => l_X6_kindFor_39 300 (x1, x2, 0, (-1), 0, q5.1, q5.2)))
def j_X6_thoughtFor_126 (x3 : Int32) (x4 : Int32) (s : SS) (t : TT) : Option (Int32 × SS × TT) :=
  if x4 = 0 then (some ((-3), s, t)) else (some (x3, s, t))
def j_X6_thoughtFor_112 (k36 : Int32 × Int32 × Int32 × Int32 × SS × TT → Option (Int32 × SS × TT)) (x1 : Int32) (x2 : Int32) (x3 : Int32) (x4 : Int32) (s : SS) (t : TT) : Option (Int32 × SS × TT) :=
  (f_X6_moveAll 55 52 s t).bind fun q1 => k36 (x1, x2, x3, x4, q1.1, q1.2)
def b_X6_thoughtFor_60 (k36 : Int32 × Int32 × Int32 × Int32 × SS × TT → Option (Int32 × SS × TT)) (k60 : Int32 × Int32 × Int32 × Int32 × Int32 × SS × TT → Option (Int32 × SS × TT)) (x1 : Int32) (x2 : Int32) (x3 : Int32) (x4 : Int32) (x5 : Int32) (s : SS) (t : TT) : Option (Int32 × SS × TT) :=
  if x2 ≤ x5 then (j_X6_thoughtFor_112 k36 x1 x2 x3 x4 s t) else (if x4 = 0 then ((f_X6_weekGoes s t).bind fun q3 => (f_X6_its x1 4 q3.2.1 q3.2.2).bind fun q4 => (rx 56 (((8 : Int32) + ((6 : Int32) * x1)) + (4 : Int32))).bind fun j5 => if q4.1 ≤ (q4.2.1 55 j5) then (k60 (x1, x2, x3, 0, (x5 + 1), q4.2.1, q4.2.2)) else (k60 (x1, x2, x3, 1, (x5 + 1), q4.2.1, q4.2.2))) else (j_X6_thoughtFor_112 k36 x1 x2 x3 x4 s t))
def l_X6_thoughtFor_60 (k36 : Int32 × Int32 × Int32 × Int32 × SS × TT → Option (Int32 × SS × TT)) (n : Nat) : Int32 × Int32 × Int32 × Int32 × Int32 × SS × TT → Option (Int32 × SS × TT) := it (fun k a => b_X6_thoughtFor_60 k36 k a.1 a.2.1 a.2.2.1 a.2.2.2.1 a.2.2.2.2.1 a.2.2.2.2.2.1 a.2.2.2.2.2.2) n
def b_X6_thoughtFor_36 (k36 : Int32 × Int32 × Int32 × Int32 × SS × TT → Option (Int32 × SS × TT)) (x1 : Int32) (x2 : Int32) (x3 : Int32) (x4 : Int32) (s : SS) (t : TT) : Option (Int32 × SS × TT) :=
  if 99 ≤ x3 then (j_X6_thoughtFor_126 x3 x4 s t) else (if x4 = 0 then ((f_X6_sets x1 1 (x3 + 1) s t).bind fun q3 => l_X6_thoughtFor_60 k36 300 (x1, x2, (x3 + 1), x4, 0, q3.1, q3.2)) else (j_X6_thoughtFor_126 x3 x4 s t))
def l_X6_thoughtFor_36 (n : Nat) : Int32 × Int32 × Int32 × Int32 × SS × TT → Option (Int32 × SS × TT) := it (fun k a => b_X6_thoughtFor_36 k a.1 a.2.1 a.2.2.1 a.2.2.2.1 a.2.2.2.2.1 a.2.2.2.2.2) n
def f_X6_thoughtFor (x1 : Int32) (x2 : Int32) (s : SS) (t : TT) : Option (Int32 × SS × TT) :=
  (f_X6_isOne x1 s t).bind fun q1 => if q1.1 = 0 then (some ((-1), q1.2.1, q1.2.2)) else ((f_X6_in x2 1 20 q1.2.1 q1.2.2).bind fun q3 => if q3.1 = 0 then (some ((-1), q3.2.1, q3.2.2)) else ((f_X6_moveAll 52 55 q3.2.1 q3.2.2).bind fun q5 => l_X6_thoughtFor_36 300 (x1, x2, (-1), 0, q5.1, q5.2)))
def j_X6_needed_74 (k35 : Int32 × Int32 × Int32 × Int32 × SS × TT → Option (Int32 × SS × TT)) (x1 : Int32) (x3 : Int32) (x4 : Int32) (x5 : Int32) (y0 : Int32) (s : SS) (t : TT) : Option (Int32 × SS × TT) :=
  if x3 ≤ x5 then (k35 (x1, y0, x3, (x4 + 1), s, t)) else (k35 (x1, y0, x5, (x4 + 1), s, t))
def b_X6_needed_35 (k35 : Int32 × Int32 × Int32 × Int32 × SS × TT → Option (Int32 × SS × TT)) (x1 : Int32) (x2 : Int32) (x3 : Int32) (x4 : Int32) (s : SS) (t : TT) : Option (Int32 × SS × TT) :=
  (rx 56 6).bind fun j1 => if (s 52 j1) ≤ x4 then (wr (up2 s 51 5 0) fun s3 => some (x2, s3, t)) else (wr (up2 s 51 5 ((1 : Int32) <<< (x4 &&& 31))) fun s4 => (f_X6_wordsBehind x1 s4 t).bind fun q5 => if x3 ≤ q5.1 then (j_X6_needed_74 k35 x1 x3 x4 q5.1 x2 q5.2.1 q5.2.2) else (j_X6_needed_74 k35 x1 x3 x4 q5.1 x4 q5.2.1 q5.2.2))
def l_X6_needed_35 (n : Nat) : Int32 × Int32 × Int32 × Int32 × SS × TT → Option (Int32 × SS × TT) := it (fun k a => b_X6_needed_35 k a.1 a.2.1 a.2.2.1 a.2.2.2.1 a.2.2.2.2.1 a.2.2.2.2.2) n
def f_X6_needed (x1 : Int32) (s : SS) (t : TT) : Option (Int32 × SS × TT) :=
  (f_X6_in x1 1 20 s t).bind fun q1 => if q1.1 = 0 then (some ((-1), q1.2.1, q1.2.2)) else ((f_X6_moveAll 52 55 q1.2.1 q1.2.2).bind fun q3 => (f_X6_wordsBehind x1 q3.1 q3.2).bind fun q4 => l_X6_needed_35 300 (x1, (-3), q4.1, 0, q4.2.1, q4.2.2))
def j_X6_fewest_75 (k52 : Int32 × Int32 × Int32 × Int32 × Int32 × SS × TT → Option (Int32 × SS × TT)) (x1 : Int32) (x2 : Int32) (x3 : Int32) (x4 : Int32) (x5 : Int32) (s : SS) (t : TT) : Option (Int32 × SS × TT) :=
  wr (up2 s 51 5 (x4 &&& (x5 ^^^ ((-1) : Int32)))) fun s1 => (f_X6_wordsBehind x1 s1 t).bind fun q2 => if q2.1 < x2 then (k52 (x1, x2, x3, x4, (x5 + 1), q2.2.1, q2.2.2)) else (k52 (x1, x2, x5, x4, (x5 + 1), q2.2.1, q2.2.2))
def b_X6_fewest_52 (k52 : Int32 × Int32 × Int32 × Int32 × Int32 × SS × TT → Option (Int32 × SS × TT)) (x1 : Int32) (x2 : Int32) (x3 : Int32) (x4 : Int32) (x5 : Int32) (s : SS) (t : TT) : Option (Int32 × SS × TT) :=
  if x4 < x5 then (wr (up2 s 51 5 0) fun s2 => if 0 ≤ x3 then (some (x3, s2, t)) else (some ((-3), s2, t))) else (if x3 < 0 then (j_X6_fewest_75 k52 x1 x2 x3 x4 x5 s t) else ((f_X6_ones x5 s t).bind fun q5 => (f_X6_ones x3 q5.2.1 q5.2.2).bind fun q6 => if q6.1 ≤ q5.1 then (k52 (x1, x2, x3, x4, (x5 + 1), q6.2.1, q6.2.2)) else (j_X6_fewest_75 k52 x1 x2 x3 x4 x5 q6.2.1 q6.2.2)))
def l_X6_fewest_52 (n : Nat) : Int32 × Int32 × Int32 × Int32 × Int32 × SS × TT → Option (Int32 × SS × TT) := it (fun k a => b_X6_fewest_52 k a.1 a.2.1 a.2.2.1 a.2.2.2.1 a.2.2.2.2.1 a.2.2.2.2.2.1 a.2.2.2.2.2.2) n
def f_X6_fewest (x1 : Int32) (x2 : Int32) (s : SS) (t : TT) : Option (Int32 × SS × TT) :=
  (f_X6_in x1 1 10 s t).bind fun q1 => if q1.1 = 0 then (some ((-1), q1.2.1, q1.2.2)) else ((f_X6_in x2 0 9999 q1.2.1 q1.2.2).bind fun q3 => if q3.1 = 0 then (some ((-1), q3.2.1, q3.2.2)) else ((f_X6_moveAll 52 55 q3.2.1 q3.2.2).bind fun q5 => (rx 56 6).bind fun j6 => l_X6_fewest_52 300 (x1, x2, (-1), (((1 : Int32) <<< ((q5.1 52 j6) &&& 31)) - (1 : Int32)), 0, q5.1, q5.2)))
def j_X6_thoughtOf_35 (k4 : Int32 × Int32 × Int32 × SS × TT → Option (Int32 × SS × TT)) (x1 : Int32) (x3 : Int32) (y0 : Int32) (y1 : Int32) (s : SS) (t : TT) : Option (Int32 × SS × TT) :=
  k4 (x1, (y1 + y0), (x3 + 1), s, t)
def b_X6_thoughtOf_4 (k4 : Int32 × Int32 × Int32 × SS × TT → Option (Int32 × SS × TT)) (x1 : Int32) (x2 : Int32) (x3 : Int32) (s : SS) (t : TT) : Option (Int32 × SS × TT) :=
  (rx 56 6).bind fun j1 => if (s 52 j1) ≤ x3 then (some (x2, s, t)) else (if ((x1 >>> (x3 &&& 31)) &&& (1 : Int32)) = 1 then ((f_X6_its x3 1 s t).bind fun q4 => j_X6_thoughtOf_35 k4 x1 x3 q4.1 x2 q4.2.1 q4.2.2) else (j_X6_thoughtOf_35 k4 x1 x3 0 x2 s t))
def l_X6_thoughtOf_4 (n : Nat) : Int32 × Int32 × Int32 × SS × TT → Option (Int32 × SS × TT) := it (fun k a => b_X6_thoughtOf_4 k a.1 a.2.1 a.2.2.1 a.2.2.2.1 a.2.2.2.2) n
def f_X6_thoughtOf (x1 : Int32) (s : SS) (t : TT) : Option (Int32 × SS × TT) :=
  l_X6_thoughtOf_4 300 (x1, 0, 0, s, t)
def j_X6_packed_141 (k67 : Int32 × Int32 × Int32 × SS × TT → Option (Int32 × SS × TT)) (k85 : Int32 × Int32 × Int32 × Int32 × SS × TT → Option (Int32 × SS × TT)) (x1 : Int32) (x2 : Int32) (x3 : Int32) (x4 : Int32) (s : SS) (t : TT) : Option (Int32 × SS × TT) :=
  k85 (x1, x2, x3, ((x4 - (1 : Int32)) &&& x3), s, t)
def b_X6_packed_85 (k67 : Int32 × Int32 × Int32 × SS × TT → Option (Int32 × SS × TT)) (k85 : Int32 × Int32 × Int32 × Int32 × SS × TT → Option (Int32 × SS × TT)) (x1 : Int32) (x2 : Int32) (x3 : Int32) (x4 : Int32) (s : SS) (t : TT) : Option (Int32 × SS × TT) :=
  if x4 ≤ 0 then (k67 (x1, x2, (x3 + 1), s, t)) else ((f_X6_thoughtOf x4 s t).bind fun q2 => if x1 < q2.1 then (j_X6_packed_141 k67 k85 x1 x2 x3 x4 q2.2.1 q2.2.2) else ((rx 256 (x3 &&& (x4 ^^^ ((-1) : Int32)))).bind fun j4 => (rx 256 x3).bind fun j5 => if (q2.2.1 57 j5) ≤ ((q2.2.1 57 j4) + (1 : Int32)) then (j_X6_packed_141 k67 k85 x1 x2 x3 x4 q2.2.1 q2.2.2) else ((rx 256 (x3 &&& (x4 ^^^ ((-1) : Int32)))).bind fun j7 => (rx 256 x3).bind fun j8 => wr (up2 q2.2.1 57 j8 ((q2.2.1 57 j7) + (1 : Int32))) fun s8 => j_X6_packed_141 k67 k85 x1 x2 x3 x4 s8 q2.2.2)))
def l_X6_packed_85 (k67 : Int32 × Int32 × Int32 × SS × TT → Option (Int32 × SS × TT)) (n : Nat) : Int32 × Int32 × Int32 × Int32 × SS × TT → Option (Int32 × SS × TT) := it (fun k a => b_X6_packed_85 k67 k a.1 a.2.1 a.2.2.1 a.2.2.2.1 a.2.2.2.2.1 a.2.2.2.2.2) n
def b_X6_packed_67 (k67 : Int32 × Int32 × Int32 × SS × TT → Option (Int32 × SS × TT)) (x1 : Int32) (x2 : Int32) (x3 : Int32) (s : SS) (t : TT) : Option (Int32 × SS × TT) :=
  if x2 < x3 then ((rx 256 x2).bind fun j2 => some ((s 57 j2), s, t)) else ((f_X6_ones x3 s t).bind fun q3 => (rx 256 x3).bind fun j4 => wr (up2 q3.2.1 57 j4 q3.1) fun s4 => l_X6_packed_85 k67 300 (x1, x2, x3, x3, s4, q3.2.2))
def l_X6_packed_67 (n : Nat) : Int32 × Int32 × Int32 × SS × TT → Option (Int32 × SS × TT) := it (fun k a => b_X6_packed_67 k a.1 a.2.1 a.2.2.1 a.2.2.2.1 a.2.2.2.2) n
def j_X6_packed_57 (k16 : Int32 × Int32 × Int32 × SS × TT → Option (Int32 × SS × TT)) (x1 : Int32) (x3 : Int32) (y0 : Int32) (y1 : Int32) (s : SS) (t : TT) : Option (Int32 × SS × TT) :=
  k16 (x1, (y1 ||| y0), (x3 + 1), s, t)
def b_X6_packed_16 (k16 : Int32 × Int32 × Int32 × SS × TT → Option (Int32 × SS × TT)) (x1 : Int32) (x2 : Int32) (x3 : Int32) (s : SS) (t : TT) : Option (Int32 × SS × TT) :=
  (rx 56 6).bind fun j1 => if (s 52 j1) ≤ x3 then (l_X6_packed_67 300 (x1, x2, 0, s, t)) else ((f_X6_its x3 1 s t).bind fun q3 => if q3.1 ≤ x1 then ((f_X6_its x3 1 q3.2.1 q3.2.2).bind fun q5 => if q5.1 ≤ 0 then (j_X6_packed_57 k16 x1 x3 0 x2 q5.2.1 q5.2.2) else (j_X6_packed_57 k16 x1 x3 ((1 : Int32) <<< (x3 &&& 31)) x2 q5.2.1 q5.2.2)) else (some ((-3), q3.2.1, q3.2.2)))
def l_X6_packed_16 (n : Nat) : Int32 × Int32 × Int32 × SS × TT → Option (Int32 × SS × TT) := it (fun k a => b_X6_packed_16 k a.1 a.2.1 a.2.2.1 a.2.2.2.1 a.2.2.2.2) n
def f_X6_packed (x1 : Int32) (s : SS) (t : TT) : Option (Int32 × SS × TT) :=
  (f_X6_in x1 1 99 s t).bind fun q1 => if q1.1 = 0 then (some ((-1), q1.2.1, q1.2.2)) else (l_X6_packed_16 300 (x1, 0, 0, q1.2.1, q1.2.2))
def j_X6_isSo_78 (x2 : Int32) (s : SS) (t : TT) : Option (Int32 × SS × TT) :=
  (f_X6_moveAll 55 52 s t).bind fun q1 => if (x2 == 0 || x2 == 1) = true then some (x2, q1.1, q1.2) else none
def j_X6_isSo_66 (k7 : Int32 × Int32 × Int32 × Int32 × SS × TT → Option (Int32 × SS × TT)) (x1 : Int32) (x3 : Int32) (x4 : Int32) (s : SS) (t : TT) : Option (Int32 × SS × TT) :=
  k7 (x1, 1, x3, (x4 + 1), s, t)
def b_X6_isSo_7 (k7 : Int32 × Int32 × Int32 × Int32 × SS × TT → Option (Int32 × SS × TT)) (x1 : Int32) (x2 : Int32) (x3 : Int32) (x4 : Int32) (s : SS) (t : TT) : Option (Int32 × SS × TT) :=
  (rx 4 x1).bind fun j1 => if (s 61 j1) ≤ x4 then (j_X6_isSo_78 x2 s t) else (if x2 = 0 then (j_X6_isSo_78 x2 s t) else ((f_X6_weekGoes s t).bind fun q4 => (rx 160 (((40 : Int32) * x1) + x4)).bind fun j5 => if (lg_cmp (q4.2.2 62 j5) (-1)) = 0 then (j_X6_isSo_66 k7 x1 (x3 + q4.1) x4 q4.2.1 q4.2.2) else ((rx 160 (((40 : Int32) * x1) + x4)).bind fun j7 => if (lg_cmp (q4.2.2 62 j7) (Int32.toInt64 (x3 + q4.1))) = 0 then (j_X6_isSo_66 k7 x1 (x3 + q4.1) x4 q4.2.1 q4.2.2) else (k7 (x1, 0, (x3 + q4.1), (x4 + 1), q4.2.1, q4.2.2)))))
def l_X6_isSo_7 (n : Nat) : Int32 × Int32 × Int32 × Int32 × SS × TT → Option (Int32 × SS × TT) := it (fun k a => b_X6_isSo_7 k a.1 a.2.1 a.2.2.1 a.2.2.2.1 a.2.2.2.2.1 a.2.2.2.2.2) n
def f_X6_isSo (x1 : Int32) (s : SS) (t : TT) : Option (Int32 × SS × TT) :=
  l_X6_isSo_7 300 (x1, 1, 0, 0, s, t)
def f_X6_isShelf (x0 : Int32) (s : SS) (t : TT) : Option (Int32 × SS × TT) :=
  (f_X6_in x0 0 3 s t).bind fun q1 => if (q1.1 == 0 || q1.1 == 1) = true then some (q1.1, q1.2.1, q1.2.2) else none
def j_X6_fits_92 (k60 : Int32 × Int32 × Int32 × Int32 × Int32 × Int32 × SS × TT → Option (Int32 × SS × TT)) (x1 : Int32) (x2 : Int32) (x3 : Int32) (x5 : Int32) (x6 : Int32) (x7 : Int32) (y0 : Int32) (y1 : Int32) (s : SS) (t : TT) : Option (Int32 × SS × TT) :=
  if x7 = 0 then (k60 (x1, x2, x3, (y1 + y0), x5, (x6 + (-1)), s, t)) else (k60 (x1, x2, x3, (y1 + y0), x6, (x6 + (-1)), s, t))
def b_X6_fits_60 (k60 : Int32 × Int32 × Int32 × Int32 × Int32 × Int32 × SS × TT → Option (Int32 × SS × TT)) (x1 : Int32) (x2 : Int32) (x3 : Int32) (x4 : Int32) (x5 : Int32) (x6 : Int32) (s : SS) (t : TT) : Option (Int32 × SS × TT) :=
  if x6 < 0 then (if x3 = 0 then (some (x4, s, t)) else (some (x5, s, t))) else ((f_X6_sets x2 1 x6 s t).bind fun q3 => (f_X6_isSo x1 q3.1 q3.2).bind fun q4 => if q4.1 = 0 then (j_X6_fits_92 k60 x1 x2 x3 x5 x6 q4.1 0 x4 q4.2.1 q4.2.2) else (j_X6_fits_92 k60 x1 x2 x3 x5 x6 q4.1 1 x4 q4.2.1 q4.2.2))
def l_X6_fits_60 (n : Nat) : Int32 × Int32 × Int32 × Int32 × Int32 × Int32 × SS × TT → Option (Int32 × SS × TT) := it (fun k a => b_X6_fits_60 k a.1 a.2.1 a.2.2.1 a.2.2.2.1 a.2.2.2.2.1 a.2.2.2.2.2.1 a.2.2.2.2.2.2.1 a.2.2.2.2.2.2.2) n
def f_X6_fits (x1 : Int32) (x2 : Int32) (x3 : Int32) (s : SS) (t : TT) : Option (Int32 × SS × TT) :=
  (f_X6_isShelf x1 s t).bind fun q1 => if q1.1 = 0 then (some ((-1), q1.2.1, q1.2.2)) else ((f_X6_isOne x2 q1.2.1 q1.2.2).bind fun q3 => if q3.1 = 0 then (some ((-1), q3.2.1, q3.2.2)) else ((f_X6_in x3 0 1 q3.2.1 q3.2.2).bind fun q5 => if q5.1 = 0 then (some ((-1), q5.2.1, q5.2.2)) else ((rx 4 x1).bind fun j7 => if 0 ≤ (q5.2.1 60 j7) then ((f_X6_moveAll 52 55 q5.2.1 q5.2.2).bind fun q9 => l_X6_fits_60 300 (x1, x2, x3, 0, (-3), 99, q9.1, q9.2)) else (some ((-11), q5.2.1, q5.2.2)))))
def b_X6_lowest_6 (k6 : Int64 × Int64 × Int32 × Int64 × Int64 × SS × TT → Option (Int64 × SS × TT)) (x0 : Int64) (x2 : Int64) (x4 : Int32) (x5 : Int64) (x7 : Int64) (s : SS) (t : TT) : Option (Int64 × SS × TT) :=
  if (lg_cmp x7 0) = 0 then (if x4 = 0 then (if x5 = 0 then none else some ((x0 / x5), s, t)) else (if x5 = 0 then none else some ((x2 / x5), s, t))) else (if x7 = 0 then none else k6 (x0, x2, x4, x7, (x5 - x5 / x7 * x7), s, t))
def l_X6_lowest_6 (n : Nat) : Int64 × Int64 × Int32 × Int64 × Int64 × SS × TT → Option (Int64 × SS × TT) := it (fun k a => b_X6_lowest_6 k a.1 a.2.1 a.2.2.1 a.2.2.2.1 a.2.2.2.2.1 a.2.2.2.2.2.1 a.2.2.2.2.2.2) n
def f_X6_lowest (x0 : Int64) (x2 : Int64) (x4 : Int32) (s : SS) (t : TT) : Option (Int64 × SS × TT) :=
  l_X6_lowest_6 300 (x0, x2, x4, x2, x0, s, t)
def b_X6_powerOf_5 (k5 : Int32 × Int32 × Int64 × Int32 × SS × TT → Option (Int64 × SS × TT)) (x0 : Int32) (x1 : Int32) (x2 : Int64) (x4 : Int32) (s : SS) (t : TT) : Option (Int64 × SS × TT) :=
  if x1 ≤ x4 then (some (x2, s, t)) else (k5 (x0, x1, (x2 * (Int32.toInt64 x0)), (x4 + 1), s, t))
def l_X6_powerOf_5 (n : Nat) : Int32 × Int32 × Int64 × Int32 × SS × TT → Option (Int64 × SS × TT) := it (fun k a => b_X6_powerOf_5 k a.1 a.2.1 a.2.2.1 a.2.2.2.1 a.2.2.2.2.1 a.2.2.2.2.2) n
def f_X6_powerOf (x0 : Int32) (x1 : Int32) (s : SS) (t : TT) : Option (Int64 × SS × TT) :=
  l_X6_powerOf_5 300 (x0, x1, 1, 0, s, t)
def b_X6_odds_38 (k38 : Int32 × Int32 × Int32 × Int64 × Int32 × SS × TT → Option (Int64 × SS × TT)) (x1 : Int32) (x2 : Int32) (x3 : Int32) (x4 : Int64) (x6 : Int32) (s : SS) (t : TT) : Option (Int64 × SS × TT) :=
  if x2 ≤ x6 then ((rx 56 3).bind fun j2 => (f_X6_powerOf (s 52 j2) x2 s t).bind fun q3 => (rx 56 3).bind fun j4 => (f_X6_powerOf ((100 : Int32) - (q3.2.1 52 j4)) (x1 - x2) q3.2.1 q3.2.2).bind fun q5 => (f_X6_powerOf 100 x1 q5.2.1 q5.2.2).bind fun q6 => (f_X6_lowest ((x4 * q3.1) * q5.1) q6.1 x3 q6.2.1 q6.2.2).bind fun q7 => some (q7.1, q7.2.1, q7.2.2)) else (if (Int32.toInt64 (x6 + (1 : Int32))) = 0 then none else k38 (x1, x2, x3, ((x4 * (Int32.toInt64 (x1 - x6))) / (Int32.toInt64 (x6 + (1 : Int32)))), (x6 + 1), s, t))
def l_X6_odds_38 (n : Nat) : Int32 × Int32 × Int32 × Int64 × Int32 × SS × TT → Option (Int64 × SS × TT) := it (fun k a => b_X6_odds_38 k a.1 a.2.1 a.2.2.1 a.2.2.2.1 a.2.2.2.2.1 a.2.2.2.2.2.1 a.2.2.2.2.2.2) n
def f_X6_odds (x1 : Int32) (x2 : Int32) (x3 : Int32) (s : SS) (t : TT) : Option (Int64 × SS × TT) :=
  (f_X6_in x1 0 8 s t).bind fun q1 => if q1.1 = 0 then (some ((-1), q1.2.1, q1.2.2)) else ((f_X6_in x2 0 x1 q1.2.1 q1.2.2).bind fun q3 => if q3.1 = 0 then (some ((-1), q3.2.1, q3.2.2)) else ((f_X6_in x3 0 1 q3.2.1 q3.2.2).bind fun q5 => if q5.1 = 0 then (some ((-1), q5.2.1, q5.2.2)) else (l_X6_odds_38 300 (x1, x2, x3, 1, 0, q5.2.1, q5.2.2))))
def f_X6_hope (x1 : Int32) (x2 : Int32) (s : SS) (t : TT) : Option (Int64 × SS × TT) :=
  (f_X6_in x1 0 99 s t).bind fun q1 => if q1.1 = 0 then (some ((-1), q1.2.1, q1.2.2)) else ((f_X6_in x2 0 1 q1.2.1 q1.2.2).bind fun q3 => if q3.1 = 0 then (some ((-1), q3.2.1, q3.2.2)) else ((rx 56 3).bind fun j5 => (f_X6_lowest ((Int32.toInt64 x1) * (Int32.toInt64 (q3.2.1 52 j5))) 100 x2 q3.2.1 q3.2.2).bind fun q6 => some (q6.1, q6.2.1, q6.2.2)))
def b_X6_findRows_13 (k13 : Int32 × Int32 × Int32 × SS × TT → Option (SS × TT)) (x1 : Int32) (x2 : Int32) (x3 : Int32) (s : SS) (t : TT) : Option (SS × TT) :=
  if x2 ≤ x3 then ((f_X6_moveAll 55 52 s t).bind fun q2 => some (q2.1, q2.2)) else ((f_X6_weekGoes s t).bind fun q3 => (f_X6_its x1 1 q3.2.1 q3.2.2).bind fun q4 => (rx 30 ((3 : Int32) * x3)).bind fun j5 => wr (up2 q4.2.1 59 j5 q4.1) fun s5 => (f_X6_its x1 3 s5 q4.2.2).bind fun q6 => (rx 30 (((3 : Int32) * x3) + (1 : Int32))).bind fun j7 => wr (up2 q6.2.1 59 j7 q6.1) fun s7 => (rx 30 (((3 : Int32) * x3) + (2 : Int32))).bind fun j8 => wr (up2 s7 59 j8 q3.1) fun s8 => k13 (x1, x2, (x3 + 1), s8, q6.2.2))
def l_X6_findRows_13 (n : Nat) : Int32 × Int32 × Int32 × SS × TT → Option (SS × TT) := it (fun k a => b_X6_findRows_13 k a.1 a.2.1 a.2.2.1 a.2.2.2.1 a.2.2.2.2) n
def f_X6_findRows (x1 : Int32) (x2 : Int32) (s : SS) (t : TT) : Option (SS × TT) :=
  (f_X6_moveAll 52 55 s t).bind fun q1 => l_X6_findRows_13 300 (x1, x2, 0, q1.1, q1.2)
def b_X6_prove_33 (k33 : Int32 × Int32 × SS × TT → Option (Int32 × SS × TT)) (x2 : Int32) (x3 : Int32) (s : SS) (t : TT) : Option (Int32 × SS × TT) :=
  if ((3 : Int32) * x2) ≤ x3 then (some (x2, s, t)) else ((rx 30 x3).bind fun j2 => (rx 30 x3).bind fun j3 => wr (up2 s 58 j3 (s 59 j2)) fun s3 => k33 (x2, (x3 + 1), s3, t))
def l_X6_prove_33 (n : Nat) : Int32 × Int32 × SS × TT → Option (Int32 × SS × TT) := it (fun k a => b_X6_prove_33 k a.1 a.2.1 a.2.2.1 a.2.2.2) n
def f_X6_prove (x1 : Int32) (x2 : Int32) (s : SS) (t : TT) : Option (Int32 × SS × TT) :=
  (f_X6_isOne x1 s t).bind fun q1 => if q1.1 = 0 then (some ((-1), q1.2.1, q1.2.2)) else ((f_X6_in x2 1 10 q1.2.1 q1.2.2).bind fun q3 => if q3.1 = 0 then (some ((-1), q3.2.1, q3.2.2)) else ((f_X6_findRows x1 x2 q3.2.1 q3.2.2).bind fun q5 => wr (up2 q5.1 51 17 x2) fun s6 => l_X6_prove_33 300 (x2, 0, s6, q5.2)))
def f_X6_isRow (x1 : Int32) (x2 : Int32) (s : SS) (t : TT) : Option (Int32 × SS × TT) :=
  (f_X6_in x1 0 ((s 51 17) - (1 : Int32)) s t).bind fun q1 => if q1.1 = 0 then (some (0, q1.2.1, q1.2.2)) else ((f_X6_in x2 0 2 q1.2.1 q1.2.2).bind fun q3 => if q3.1 = 0 then (some (0, q3.2.1, q3.2.2)) else (some (1, q3.2.1, q3.2.2)))
def f_X6_row (x1 : Int32) (x2 : Int32) (s : SS) (t : TT) : Option (Int32 × SS × TT) :=
  (f_X6_isRow x1 x2 s t).bind fun q1 => if q1.1 = 0 then (some ((-9), q1.2.1, q1.2.2)) else ((rx 30 (((3 : Int32) * x1) + x2)).bind fun j3 => some ((q1.2.1 58 j3), q1.2.1, q1.2.2))
def f_X6_alterRow (x1 : Int32) (x2 : Int32) (x3 : Int32) (s : SS) (t : TT) : Option (Int32 × SS × TT) :=
  (f_X6_isRow x1 x2 s t).bind fun q1 => if q1.1 = 0 then (some ((-9), q1.2.1, q1.2.2)) else ((rx 30 (((3 : Int32) * x1) + x2)).bind fun j3 => (rx 30 (((3 : Int32) * x1) + x2)).bind fun j4 => wr (up2 q1.2.1 58 j4 x3) fun s4 => some ((q1.2.1 58 j3), s4, q1.2.2))
def b_X6_judge_21 (k21 : Int32 × SS × TT → Option (Int32 × SS × TT)) (x2 : Int32) (s : SS) (t : TT) : Option (Int32 × SS × TT) :=
  if ((3 : Int32) * (s 51 17)) ≤ x2 then (some (0, s, t)) else ((rx 30 x2).bind fun j2 => (rx 30 x2).bind fun j3 => if (s 58 j2) = (s 59 j3) then (k21 ((x2 + 1), s, t)) else (some (((x2 / 3) + (1 : Int32)), s, t)))
def l_X6_judge_21 (n : Nat) : Int32 × SS × TT → Option (Int32 × SS × TT) := it (fun k a => b_X6_judge_21 k a.1 a.2.1 a.2.2) n
def f_X6_judge (x1 : Int32) (s : SS) (t : TT) : Option (Int32 × SS × TT) :=
  (f_X6_isOne x1 s t).bind fun q1 => if q1.1 = 0 then (some ((-1), q1.2.1, q1.2.2)) else ((f_X6_findRows x1 (q1.2.1 51 17) q1.2.1 q1.2.2).bind fun q3 => l_X6_judge_21 300 (0, q3.1, q3.2))
def f_X6_lacksSort (x1 : Int32) (x2 : Int32) (s : SS) (t : TT) : Option (Int32 × SS × TT) :=
  (rx 4 x1).bind fun j1 => if 0 ≤ (s 60 j1) then ((rx 4 x1).bind fun j3 => if (s 60 j3) = x2 then (some (0, s, t)) else (some ((-13), s, t))) else (some ((-11), s, t))
def b_X6_minds_81 (k81 : Int32 × Int32 × Int32 × Int32 × Int32 × SS × TT → Option (Int32 × SS × TT)) (x1 : Int32) (x2 : Int32) (x3 : Int32) (x4 : Int32) (x6 : Int32) (s : SS) (t : TT) : Option (Int32 × SS × TT) :=
  if x4 ≤ x6 then (some (x4, s, t)) else ((rx 160 ((((40 : Int32) * x1) + x2) + x6)).bind fun j2 => (f_X6_held (Int64.toInt32 (t 62 j2)) 0 99 s t).bind fun q3 => (f_X6_sets (x3 + x6) 1 q3.1 q3.2.1 q3.2.2).bind fun q4 => k81 (x1, x2, x3, x4, (x6 + 1), q4.1, q4.2))
def l_X6_minds_81 (n : Nat) : Int32 × Int32 × Int32 × Int32 × Int32 × SS × TT → Option (Int32 × SS × TT) := it (fun k a => b_X6_minds_81 k a.1 a.2.1 a.2.2.1 a.2.2.2.1 a.2.2.2.2.1 a.2.2.2.2.2.1 a.2.2.2.2.2.2) n
def f_X6_minds (x1 : Int32) (x2 : Int32) (x3 : Int32) (x4 : Int32) (s : SS) (t : TT) : Option (Int32 × SS × TT) :=
  (f_X6_isShelf x1 s t).bind fun q1 => if q1.1 = 0 then (some ((-1), q1.2.1, q1.2.2)) else ((f_X6_isOne x3 q1.2.1 q1.2.2).bind fun q3 => if q3.1 = 0 then (some ((-1), q3.2.1, q3.2.2)) else ((f_X6_in x4 0 8 q3.2.1 q3.2.2).bind fun q5 => if q5.1 = 0 then (some ((-1), q5.2.1, q5.2.2)) else ((rx 56 6).bind fun j7 => if x4 ≤ ((q5.2.1 52 j7) - x3) then ((f_X6_lacksSort x1 0 q5.2.1 q5.2.2).bind fun q9 => if q9.1 = 0 then (if x2 < 0 then (some ((-12), q9.2.1, q9.2.2)) else ((rx 4 x1).bind fun j12 => if x2 ≤ ((q9.2.1 61 j12) - x4) then (l_X6_minds_81 300 (x1, x2, x3, x4, 0, q9.2.1, q9.2.2)) else (some ((-12), q9.2.1, q9.2.2)))) else (some (q9.1, q9.2.1, q9.2.2))) else (some ((-1), q5.2.1, q5.2.2)))))
def b_X6_sheet_64 (k64 : Int32 × Int32 × SS × TT → Option (Int32 × SS × TT)) (x1 : Int32) (x4 : Int32) (s : SS) (t : TT) : Option (Int32 × SS × TT) :=
  if 40 ≤ x4 then (some (1, s, t)) else ((rx 160 (((40 : Int32) * x1) + x4)).bind fun j2 => wr (up2 t 62 j2 0) fun t2 => k64 (x1, (x4 + 1), s, t2))
def l_X6_sheet_64 (n : Nat) : Int32 × Int32 × SS × TT → Option (Int32 × SS × TT) := it (fun k a => b_X6_sheet_64 k a.1 a.2.1 a.2.2.1 a.2.2.2) n
def j_X6_sheet_39 (x1 : Int32) (x2 : Int32) (x3 : Int32) (s : SS) (t : TT) : Option (Int32 × SS × TT) :=
  (rx 4 x1).bind fun j1 => wr (up2 s 60 j1 x2) fun s1 => if 0 ≤ x2 then ((rx 4 x1).bind fun j3 => wr (up2 s1 61 j3 x3) fun s3 => l_X6_sheet_64 300 (x1, 0, s3, t)) else ((rx 4 x1).bind fun j4 => wr (up2 s1 61 j4 0) fun s4 => l_X6_sheet_64 300 (x1, 0, s4, t))
def j_X6_sheet_28 (x1 : Int32) (x2 : Int32) (x3 : Int32) (s : SS) (t : TT) : Option (Int32 × SS × TT) :=
  if x2 < 0 then (j_X6_sheet_39 x1 x2 x3 s t) else (if 0 ≤ x3 then (j_X6_sheet_39 x1 x2 x3 s t) else (some ((-14), s, t)))
def f_X6_sheet (x1 : Int32) (x2 : Int32) (x3 : Int32) (s : SS) (t : TT) : Option (Int32 × SS × TT) :=
  (f_X6_isShelf x1 s t).bind fun q1 => if q1.1 = 0 then (some ((-1), q1.2.1, q1.2.2)) else ((f_X6_in x2 (-1) 3 q1.2.1 q1.2.2).bind fun q3 => if q3.1 = 0 then (some ((-1), q3.2.1, q3.2.2)) else (if x2 < 0 then (j_X6_sheet_28 x1 x2 x3 q3.2.1 q3.2.2) else (if x3 ≤ 40 then (j_X6_sheet_28 x1 x2 x3 q3.2.1 q3.2.2) else (some ((-1), q3.2.1, q3.2.2)))))
def f_X6_put (x1 : Int32) (x2 : Int32) (x3 : Int32) (s : SS) (t : TT) : Option (Int32 × SS × TT) :=
  (f_X6_isShelf x1 s t).bind fun q1 => if q1.1 = 0 then (some ((-1), q1.2.1, q1.2.2)) else ((rx 4 x1).bind fun j3 => if 0 ≤ (q1.2.1 60 j3) then ((rx 4 x1).bind fun j5 => (f_X6_in x2 0 ((q1.2.1 61 j5) - (1 : Int32)) q1.2.1 q1.2.2).bind fun q6 => if q6.1 = 0 then (some ((-12), q6.2.1, q6.2.2)) else ((rx 4 x1).bind fun j8 => if (q6.2.1 60 j8) = 0 then ((rx 160 (((40 : Int32) * x1) + x2)).bind fun j14 => wr (up2 q6.2.2 62 j14 (Int32.toInt64 (x3.toInt8.toInt32))) fun t14 => some (1, q6.2.1, t14)) else ((rx 4 x1).bind fun j10 => if (q6.2.1 60 j10) = 1 then ((rx 160 (((40 : Int32) * x1) + x2)).bind fun j13 => wr (up2 q6.2.2 62 j13 (Int32.toInt64 (x3.toInt16.toInt32))) fun t13 => some (1, q6.2.1, t13)) else ((rx 160 (((40 : Int32) * x1) + x2)).bind fun j12 => wr (up2 q6.2.2 62 j12 (Int32.toInt64 x3)) fun t12 => some (1, q6.2.1, t12))))) else (some ((-11), q1.2.1, q1.2.2)))
def f_X6_item (x1 : Int32) (x2 : Int32) (x3 : Int32) (s : SS) (t : TT) : Option (Int32 × SS × TT) :=
  (f_X6_isShelf x1 s t).bind fun q1 => if q1.1 = 0 then (some ((-1), q1.2.1, q1.2.2)) else ((f_X6_in x2 0 3 q1.2.1 q1.2.2).bind fun q3 => if q3.1 = 0 then (some ((-1), q3.2.1, q3.2.2)) else ((f_X6_lacksSort x1 x2 q3.2.1 q3.2.2).bind fun q5 => if q5.1 = 0 then ((rx 4 x1).bind fun j7 => (f_X6_in x3 0 ((q5.2.1 61 j7) - (1 : Int32)) q5.2.1 q5.2.2).bind fun q8 => if q8.1 = 0 then (some ((-12), q8.2.1, q8.2.2)) else ((rx 160 (((40 : Int32) * x1) + x3)).bind fun j10 => some ((Int64.toInt32 (q8.2.2 62 j10)), q8.2.1, q8.2.2))) else (some (q5.1, q5.2.1, q5.2.2))))
def f_X6_isHeld (x1 : Int32) (x2 : Int32) (s : SS) (t : TT) : Option (Int32 × SS × TT) :=
  if x1 = 0 then ((f_X6_isOne x2 s t).bind fun q5 => if (q5.1 == 0 || q5.1 == 1) = true then some (q5.1, q5.2.1, q5.2.2) else none) else (if x1 = 1 then ((f_X6_isShelf x2 s t).bind fun q4 => if (q4.1 == 0 || q4.1 == 1) = true then some (q4.1, q4.2.1, q4.2.2) else none) else (if x1 = 2 then (some (1, s, t)) else (some (0, s, t))))
def j_X6_shelf_68 (x1 : Int32) (x2 : Int32) (x3 : Int32) (y0 : Int32) (y1 : Int32) (s : SS) (t : TT) : Option (Int32 × SS × TT) :=
  (rx 4 y1).bind fun j1 => wr (up2 s 64 j1 y0) fun s1 => if x2 = 1 then ((rx 4 x3).bind fun j4 => (rx 4 x1).bind fun j5 => wr (up2 s1 65 j5 (s1 61 j4)) fun s5 => some (1, s5, t)) else ((rx 4 x1).bind fun j3 => wr (up2 s1 65 j3 0) fun s3 => some (1, s3, t))
def j_X6_shelf_47 (x1 : Int32) (x2 : Int32) (x3 : Int32) (y0 : Int32) (y1 : Int32) (s : SS) (t : TT) : Option (Int32 × SS × TT) :=
  (rx 4 y1).bind fun j1 => wr (up2 s 63 j1 y0) fun s1 => if x2 = 1 then ((rx 4 x3).bind fun j3 => j_X6_shelf_68 x1 x2 x3 (s1 60 j3) x1 s1 t) else (j_X6_shelf_68 x1 x2 x3 x3 x1 s1 t)
def j_X6_shelf_42 (x1 : Int32) (x2 : Int32) (x3 : Int32) (y0 : Int32) (s : SS) (t : TT) : Option (Int32 × SS × TT) :=
  j_X6_shelf_47 x1 x2 x3 (-1) y0 s t
def j_X6_shelf_46 (x1 : Int32) (x2 : Int32) (x3 : Int32) (y0 : Int32) (s : SS) (t : TT) : Option (Int32 × SS × TT) :=
  j_X6_shelf_47 x1 x2 x3 x2 y0 s t
def f_X6_shelf (x1 : Int32) (x2 : Int32) (x3 : Int32) (s : SS) (t : TT) : Option (Int32 × SS × TT) :=
  (f_X6_isShelf x1 s t).bind fun q1 => if q1.1 = 0 then (some ((-1), q1.2.1, q1.2.2)) else ((f_X6_isHeld x2 x3 q1.2.1 q1.2.2).bind fun q3 => if q3.1 = 0 then (some ((-1), q3.2.1, q3.2.2)) else (if x2 = 2 then (j_X6_shelf_42 x1 x2 x3 x1 q3.2.1 q3.2.2) else (if x2 = 1 then ((rx 4 x3).bind fun j7 => if 0 ≤ (q3.2.1 60 j7) then (j_X6_shelf_46 x1 x2 x3 x1 q3.2.1 q3.2.2) else (j_X6_shelf_42 x1 x2 x3 x1 q3.2.1 q3.2.2)) else (j_X6_shelf_46 x1 x2 x3 x1 q3.2.1 q3.2.2))))
def f_X6_kindOn (x1 : Int32) (s : SS) (t : TT) : Option (Int32 × SS × TT) :=
  (rx 4 x1).bind fun j1 => if (s 63 j1) = 0 then ((rx 4 x1).bind fun j3 => (f_X6_isOne (s 64 j3) s t).bind fun q4 => if q4.1 = 0 then (some ((-1), q4.2.1, q4.2.2)) else ((rx 4 x1).bind fun j6 => (f_X6_its (q4.2.1 64 j6) 0 q4.2.1 q4.2.2).bind fun q7 => some (q7.1, q7.2.1, q7.2.2))) else ((rx 4 x1).bind fun j8 => if 0 ≤ (s 63 j8) then (some (9, s, t)) else (some ((-1), s, t)))
def j_X6_isUnder_19 (x0 : Int32) (x1 : Int32) (s : SS) (t : TT) : Option (Int32 × SS × TT) :=
  if x1 = 2 then (if x0 = 4 then (some (1, s, t)) else (some (0, s, t))) else (some (0, s, t))
def f_X6_isUnder (x0 : Int32) (x1 : Int32) (s : SS) (t : TT) : Option (Int32 × SS × TT) :=
  if x1 = 0 then (some (1, s, t)) else (if x1 = x0 then (some (1, s, t)) else (if x1 = 1 then (if x0 = 3 then (some (1, s, t)) else (j_X6_isUnder_19 x0 x1 s t)) else (j_X6_isUnder_19 x0 x1 s t)))
def j_X6_taken_29 (x1 : Int32) (x2 : Int32) (s : SS) (t : TT) : Option (Int32 × SS × TT) :=
  (f_X6_kindOn x1 s t).bind fun q1 => if 0 ≤ q1.1 then (if q1.1 = 9 then ((rx 4 x1).bind fun j8 => if x2 = ((10 : Int32) + (q1.2.1 64 j8)) then ((rx 4 x1).bind fun j10 => some ((q1.2.1 65 j10), q1.2.1, q1.2.2)) else (some ((-13), q1.2.1, q1.2.2))) else (if 10 ≤ x2 then (some ((-13), q1.2.1, q1.2.2)) else ((f_X6_isUnder q1.1 x2 q1.2.1 q1.2.2).bind fun q5 => if q5.1 = 0 then (some ((-13), q5.2.1, q5.2.2)) else ((rx 4 x1).bind fun j7 => some ((q5.2.1 64 j7), q5.2.1, q5.2.2))))) else (some ((-11), q1.2.1, q1.2.2))
def f_X6_taken (x1 : Int32) (x2 : Int32) (s : SS) (t : TT) : Option (Int32 × SS × TT) :=
  (f_X6_isShelf x1 s t).bind fun q1 => if q1.1 = 0 then (some ((-1), q1.2.1, q1.2.2)) else ((f_X6_in x2 0 5 q1.2.1 q1.2.2).bind fun q3 => if q3.1 = 0 then ((f_X6_in x2 10 13 q3.2.1 q3.2.2).bind fun q5 => if q5.1 = 0 then (some ((-1), q5.2.1, q5.2.2)) else (j_X6_taken_29 x1 x2 q5.2.1 q5.2.2)) else (j_X6_taken_29 x1 x2 q3.2.1 q3.2.2))
def f_X6_ran (x1 : Int32) (s : SS) (t : TT) : Option (SS × TT) :=
  if 30 ≤ (s 51 28) then (some (s, t)) else ((rx 30 (s 51 28)).bind fun j2 => wr (up2 s 66 j2 x1) fun s2 => wr (up2 s2 51 28 ((s2 51 28) + (1 : Int32))) fun s3 => some (s3, t))
def f_X6_plainThinks (x1 : Int32) (s : SS) (t : TT) : Option (Int32 × SS × TT) :=
  (f_X6_ran 10 s t).bind fun q1 => some (((x1 * (4 : Int32)) - (q1.1 51 25)), q1.1, q1.2)
def f_X6_widowThinks (x1 : Int32) (s : SS) (t : TT) : Option (Int32 × SS × TT) :=
  (f_X6_ran 30 s t).bind fun q1 => (f_X6_plainThinks x1 q1.1 q1.2).bind fun q2 => some ((-q2.1), q2.2.1, q2.2.2)
def f_X6_thinksIt (x1 : Int32) (s : SS) (t : TT) : Option (Int32 × SS × TT) :=
  if (s 51 24) = 2 then ((f_X6_widowThinks x1 s t).bind fun q2 => some (q2.1, q2.2.1, q2.2.2)) else (if (s 51 24) = 3 then ((f_X6_ran 51 s t).bind fun q4 => (f_X6_plainThinks x1 q4.1 q4.2).bind fun q5 => some ((q5.1 - (q5.2.1 51 26)), q5.2.1, q5.2.2)) else (if (s 51 24) = 4 then ((f_X6_ran 40 s t).bind fun q7 => (f_X6_widowThinks x1 q7.1 q7.2).bind fun q8 => some ((q8.1 + (2 : Int32)), q8.2.1, q8.2.2)) else ((f_X6_plainThinks x1 s t).bind fun q9 => some (q9.1, q9.2.1, q9.2.2))))
def f_X6_plainAsks (x1 : Int32) (s : SS) (t : TT) : Option (Int32 × SS × TT) :=
  (f_X6_ran 11 s t).bind fun q1 => (f_X6_thinksIt x1 q1.1 q1.2).bind fun q2 => some ((q2.1 + (q2.2.1 51 26)), q2.2.1, q2.2.2)
def j_X6_asksIt_16 (x1 : Int32) (s : SS) (t : TT) : Option (Int32 × SS × TT) :=
  (f_X6_ran 20 s t).bind fun q1 => (f_X6_plainAsks x1 q1.1 q1.2).bind fun q2 => some ((q2.1 * (3 : Int32)), q2.2.1, q2.2.2)
def f_X6_asksIt (x1 : Int32) (s : SS) (t : TT) : Option (Int32 × SS × TT) :=
  if (s 51 24) = 1 then (j_X6_asksIt_16 x1 s t) else (if (s 51 24) = 3 then (j_X6_asksIt_16 x1 s t) else (if (s 51 24) = 4 then ((f_X6_ran 41 s t).bind fun q5 => (f_X6_plainAsks x1 q5.1 q5.2).bind fun q6 => (f_X6_thinksIt (q6.2.1 51 26) q6.2.1 q6.2.2).bind fun q7 => some ((q6.1 ^^^ q7.1), q7.2.1, q7.2.2)) else ((f_X6_plainAsks x1 s t).bind fun q4 => some (q4.1, q4.2.1, q4.2.2))))
def f_X6_plainParts (x1 : Int32) (s : SS) (t : TT) : Option (Int32 × SS × TT) :=
  (f_X6_ran 12 s t).bind fun q1 => if (q1.1 51 26) = (q1.1 51 25) then (wr (up2 q1.1 51 29 1) fun s4 => some (0, s4, q1.2)) else (if ((q1.1 51 26) - (q1.1 51 25)) = 0 then none else some ((x1 / ((q1.1 51 26) - (q1.1 51 25))), q1.1, q1.2))
def f_X6_partsIt (x1 : Int32) (s : SS) (t : TT) : Option (Int32 × SS × TT) :=
  if (s 51 24) = 3 then ((f_X6_ran 50 s t).bind fun q8 => (f_X6_plainParts (x1 * (2 : Int32)) q8.1 q8.2).bind fun q9 => some ((q9.1 - (q9.2.1 51 25)), q9.2.1, q9.2.2)) else (if (s 51 24) = 5 then ((f_X6_ran 61 s t).bind fun q4 => (f_X6_plainParts x1 q4.1 q4.2).bind fun q5 => if (q5.2.1 51 29) = 0 then ((f_X6_thinksIt (q5.2.1 51 25) q5.2.1 q5.2.2).bind fun q7 => some ((q5.1 - q7.1), q7.2.1, q7.2.2)) else (some (0, q5.2.1, q5.2.2))) else ((f_X6_plainParts x1 s t).bind fun q3 => some (q3.1, q3.2.1, q3.2.2)))
def f_X6_plainWrites (x1 : Int32) (s : SS) (t : TT) : Option (Int32 × SS × TT) :=
  (f_X6_ran 13 s t).bind fun q1 => (f_X6_asksIt x1 q1.1 q1.2).bind fun q2 => some ((q2.1 ^^^ (10 : Int32)), q2.2.1, q2.2.2)
def j_X6_writesIt_16 (x1 : Int32) (s : SS) (t : TT) : Option (Int32 × SS × TT) :=
  (f_X6_ran 31 s t).bind fun q1 => (f_X6_plainWrites x1 q1.1 q1.2).bind fun q2 => (f_X6_partsIt (q2.2.1 51 25) q2.2.1 q2.2.2).bind fun q3 => some ((q2.1 + q3.1), q3.2.1, q3.2.2)
def f_X6_writesIt (x1 : Int32) (s : SS) (t : TT) : Option (Int32 × SS × TT) :=
  if (s 51 24) = 2 then (j_X6_writesIt_16 x1 s t) else (if (s 51 24) = 4 then (j_X6_writesIt_16 x1 s t) else (if (s 51 24) = 5 then ((f_X6_ran 60 s t).bind fun q5 => (f_X6_plainWrites x1 q5.1 q5.2).bind fun q6 => some (((8 : Int32) - q6.1), q6.2.1, q6.2.2)) else ((f_X6_plainWrites x1 s t).bind fun q4 => some (q4.1, q4.2.1, q4.2.2))))
def j_X6_act_121 (y0 : Int32) (s : SS) (t : TT) : Option (Int32 × SS × TT) :=
  if (s 51 29) = 0 then (some (y0, s, t)) else (some ((-15), s, t))
def j_X6_act_21 (x1 : Int32) (x2 : Int32) (x3 : Int32) (y0 : Int32) (s : SS) (t : TT) : Option (Int32 × SS × TT) :=
  (f_X6_in x2 0 3 s t).bind fun q1 => if q1.1 = 0 then (some (0, q1.2.1, q1.2.2)) else ((f_X6_in y0 0 5 q1.2.1 q1.2.2).bind fun q3 => if q3.1 = 0 then (some (0, q3.2.1, q3.2.2)) else (wr (up2 q3.2.1 51 24 y0) fun s5 => (rx 4 x1).bind fun j6 => wr (up2 s5 51 25 (s5 64 j6)) fun s7 => (f_X6_its (s7 51 25) 2 s7 q3.2.2).bind fun q8 => wr (up2 q8.2.1 51 26 q8.1) fun s9 => wr (up2 s9 51 29 0) fun s10 => if x2 = 0 then ((f_X6_thinksIt x3 s10 q8.2.2).bind fun q17 => j_X6_act_121 q17.1 q17.2.1 q17.2.2) else (if x2 = 1 then ((f_X6_asksIt x3 s10 q8.2.2).bind fun q16 => j_X6_act_121 q16.1 q16.2.1 q16.2.2) else (if x2 = 2 then ((f_X6_partsIt x3 s10 q8.2.2).bind fun q15 => j_X6_act_121 q15.1 q15.2.1 q15.2.2) else ((f_X6_writesIt x3 s10 q8.2.2).bind fun q14 => j_X6_act_121 q14.1 q14.2.1 q14.2.2)))))
def f_X6_act (x1 : Int32) (x2 : Int32) (x3 : Int32) (s : SS) (t : TT) : Option (Int32 × SS × TT) :=
  wr (up2 s 51 28 0) fun s1 => (f_X6_isShelf x1 s1 t).bind fun q2 => if q2.1 = 0 then (j_X6_act_21 x1 x2 x3 (-1) q2.2.1 q2.2.2) else ((f_X6_kindOn x1 q2.2.1 q2.2.2).bind fun q4 => j_X6_act_21 x1 x2 x3 q4.1 q4.2.1 q4.2.2)
def f_X6_trace (x1 : Int32) (s : SS) (t : TT) : Option (Int32 × SS × TT) :=
  (f_X6_in x1 0 ((s 51 28) - (1 : Int32)) s t).bind fun q1 => if q1.1 = 0 then (some ((-3), q1.2.1, q1.2.2)) else ((rx 30 x1).bind fun j3 => some ((q1.2.1 66 j3), q1.2.1, q1.2.2))
def j_X6_manyWith_30 (k4 : Int32 × Int32 × Int32 × SS × TT → Option (Int32 × SS × TT)) (x1 : Int32) (x3 : Int32) (y0 : Int32) (y1 : Int32) (s : SS) (t : TT) : Option (Int32 × SS × TT) :=
  k4 (x1, (y1 + y0), (x3 + 1), s, t)
def b_X6_manyWith_4 (k4 : Int32 × Int32 × Int32 × SS × TT → Option (Int32 × SS × TT)) (x1 : Int32) (x2 : Int32) (x3 : Int32) (s : SS) (t : TT) : Option (Int32 × SS × TT) :=
  (rx 56 6).bind fun j1 => if (s 52 j1) ≤ x3 then (some (x2, s, t)) else ((f_X6_its x3 x1 s t).bind fun q3 => if q3.1 ≤ 0 then (j_X6_manyWith_30 k4 x1 x3 0 x2 q3.2.1 q3.2.2) else (j_X6_manyWith_30 k4 x1 x3 1 x2 q3.2.1 q3.2.2))
def l_X6_manyWith_4 (n : Nat) : Int32 × Int32 × Int32 × SS × TT → Option (Int32 × SS × TT) := it (fun k a => b_X6_manyWith_4 k a.1 a.2.1 a.2.2.1 a.2.2.2.1 a.2.2.2.2) n
def f_X6_manyWith (x1 : Int32) (s : SS) (t : TT) : Option (Int32 × SS × TT) :=
  l_X6_manyWith_4 300 (x1, 0, 0, s, t)
def f_X6_many (x1 : Int32) (s : SS) (t : TT) : Option (Int32 × SS × TT) :=
  if x1 = 0 then ((rx 56 6).bind fun j2 => some ((s 52 j2), s, t)) else (if x1 = 1 then ((f_X6_manyWith 3 s t).bind fun q4 => some (q4.1, q4.2.1, q4.2.2)) else (if x1 = 2 then ((f_X6_manyWith 4 s t).bind fun q6 => some (q6.1, q6.2.1, q6.2.2)) else (if x1 = 3 then ((f_X6_readySet s t).bind fun q8 => (f_X6_ones q8.1 q8.2.1 q8.2.2).bind fun q9 => some (q9.1, q9.2.1, q9.2.2)) else (if x1 = 4 then (some ((s 51 17), s, t)) else (if x1 = 5 then (some ((s 51 7), s, t)) else (if x1 = 6 then (some ((s 51 28), s, t)) else (some ((-1), s, t))))))))
def f_X6_keep (s : SS) (t : TT) : Option (Int32 × SS × TT) :=
  (f_X6_moveAll 52 54 s t).bind fun q1 => wr (up2 q1.1 51 4 1) fun s2 => some (1, s2, q1.2)
def f_X6_again (s : SS) (t : TT) : Option (Int32 × SS × TT) :=
  if (s 51 4) = 0 then (some ((-3), s, t)) else ((f_X6_moveAll 54 52 s t).bind fun q2 => (rx 56 6).bind fun j3 => some ((q2.1 52 j3), q2.1, q2.2))
