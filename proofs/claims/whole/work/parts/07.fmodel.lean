def F_X7_thrown (z : Nat)  (S : MS) : Option (Int32 × MS) :=
some (mg_thrown S, S)
def G_X7_lays_21 (z : Nat) (x1 : Int64) (x3 : Int64) (t0 : Int64) (S : MS) : Option (MS) :=
(if t0 = 0 then none else ((some (x1 / t0)).bind fun v2 => ((some (ms_up S v2)).bind fun S3 => (if t0 = 0 then none else ((some (x3 / t0)).bind fun v5 => ((some (ms_under S3 v5)).bind fun S6 => some S6))))))
def F_X7_lays (z : Nat) (a0 : Int64) (a1 : Int64) (S : MS) : Option (MS) :=
((F_X7_common z a0 a1).bind fun r1 => (if (0 : Int64) ≤ a1 then
(G_X7_lays_21 z a0 a1 r1 S)
else
(G_X7_lays_21 z a0 a1 (-r1) S)))
def F_X7_latest (z : Nat) (a0 : Int32) (S : MS) : Option (Int64 × MS) :=
(if a0 = 0 then
some (mg_up S, S)
else
some (mg_under S, S))
def F_X7_laysSum (z : Nat) (a0 : Int64) (a1 : Int64) (S : MS) : Option (MS) :=
((F_X7_common z a0 a1).bind fun r1 => (if r1 = 0 then none else (if r1 = 0 then none else ((F_X7_twelve z (a0 / r1) (a1 / r1)).bind fun r4 => (if r1 = 0 then none else ((F_X7_lays z r4 ((12 : Int64) * (a1 / r1)) S).bind fun S6 => some S6))))))
def F_X7_laysSaw (z : Nat) (a0 : Int64) (a1 : Int64) (S : MS) : Option (MS) :=
((F_X7_lays z a0 a1 S).bind fun S1 => ((F_X7_rest z (mg_up S1) (mg_under S1)).bind fun r2 => (if (mg_under S1) = (1 : Int64) then
((F_X7_lays z (0 : Int64) (1 : Int64) S1).bind fun S5 => some S5)
else
((F_X7_lays z (((2 : Int64) * r2) - (mg_under S1)) ((2 : Int64) * (mg_under S1)) S1).bind fun S4 => some S4))))
def F_X7_saw (z : Nat) (a0 : Int32) (a1 : Int32) (a2 : Int32) (S : MS) : Option (Int64 × MS) :=
((some (ms_thrown S (0 : Int32))).bind fun S1 => (if a1 = 0 then
some ((-4000000000000000000 : Int64), S1)
else
((F_X7_isIn z (Int32.toInt64 a0) (-1000000000 : Int64) (1000000000 : Int64)).bind fun r3 => (if r3 = 0 then
some ((-4000000000000000000 : Int64), S1)
else
((F_X7_isIn z (Int32.toInt64 a1) (-1000000000 : Int64) (1000000000 : Int64)).bind fun r5 => (if r5 = 0 then
some ((-4000000000000000000 : Int64), S1)
else
((F_X7_laysSaw z (Int32.toInt64 a0) (Int32.toInt64 a1) S1).bind fun S7 => (bd2 (F_X7_latest z a2 S7) fun r8 S9 => some (r8, S9)))))))))
def F_X7_sum (z : Nat) (a0 : Int32) (a1 : Int32) (a2 : Int32) (S : MS) : Option (Int64 × MS) :=
((some (ms_thrown S (0 : Int32))).bind fun S1 => ((F_X7_isIn z (Int32.toInt64 a1) (1 : Int64) (1000000000 : Int64)).bind fun r2 => (if r2 = 0 then
some ((-4000000000000000000 : Int64), S1)
else
((F_X7_laysSum z (Int32.toInt64 a0) (Int32.toInt64 a1) S1).bind fun S4 => (bd2 (F_X7_latest z a2 S4) fun r5 S6 => some (r5, S6))))))
def F_X7_adds (z : Nat) (a0 : Int64) (a1 : Int64) (S : MS) : Option (MS) :=
((F_X7_lays z (((mg_up S) * a1) + (a0 * (mg_under S))) ((mg_under S) * a1) S).bind fun S1 => some S1)
def F_X7_both (z : Nat) (a0 : Int32) (a1 : Int32) (a2 : Int32) (S : MS) : Option (Int64 × MS) :=
((some (ms_thrown S (0 : Int32))).bind fun S1 => ((F_X7_isIn z (Int32.toInt64 a0) (1 : Int64) (30000 : Int64)).bind fun r2 => (if r2 = 0 then
some ((-4000000000000000000 : Int64), S1)
else
((F_X7_isIn z (Int32.toInt64 a1) (1 : Int64) (30000 : Int64)).bind fun r4 => (if r4 = 0 then
some ((-4000000000000000000 : Int64), S1)
else
((F_X7_laysSum z (Int32.toInt64 a0) (Int32.toInt64 a1) S1).bind fun S6 => ((some (mg_up S6)).bind fun v7 => ((some (mg_under S6)).bind fun v8 => ((F_X7_laysSum z (Int32.toInt64 a1) (Int32.toInt64 a0) S6).bind fun S9 => ((F_X7_adds z v7 v8 S9).bind fun S10 => (bd2 (F_X7_latest z a2 S10) fun r11 S12 => some (r11, S12))))))))))))
def F_X7_three (z : Nat) (a0 : Int32) (a1 : Int32) (a2 : Int32) (a3 : Int32) (S : MS) : Option (Int64 × MS) :=
((some (ms_thrown S (0 : Int32))).bind fun S1 => ((F_X7_isThousand z a0).bind fun r2 => (if r2 = 0 then
some ((-4000000000000000000 : Int64), S1)
else
((F_X7_isThousand z a1).bind fun r4 => (if r4 = 0 then
some ((-4000000000000000000 : Int64), S1)
else
((F_X7_isThousand z a2).bind fun r6 => (if r6 = 0 then
some ((-4000000000000000000 : Int64), S1)
else
((F_X7_common z (Int32.toInt64 a0) (Int32.toInt64 a1)).bind fun r8 => (if (1 : Int64) < r8 then
some ((-4000000000000000000 : Int64), S1)
else
((F_X7_common z (Int32.toInt64 a1) (Int32.toInt64 a2)).bind fun r10 => (if (1 : Int64) < r10 then
some ((-4000000000000000000 : Int64), S1)
else
((F_X7_common z (Int32.toInt64 a2) (Int32.toInt64 a0)).bind fun r12 => (if r12 ≤ (1 : Int64) then
((F_X7_inverse z (Int32.toInt64 a1) (Int32.toInt64 a2)).bind fun r14 => ((F_X7_laysSum z ((Int32.toInt64 a0) * r14) (Int32.toInt64 a2) S1).bind fun S15 => ((some (mg_up S15)).bind fun v16 => ((some (mg_under S15)).bind fun v17 => ((F_X7_inverse z (Int32.toInt64 a2) (Int32.toInt64 a0)).bind fun r18 => ((F_X7_laysSum z ((Int32.toInt64 a1) * r18) (Int32.toInt64 a0) S15).bind fun S19 => ((F_X7_adds z v16 v17 S19).bind fun S20 => ((some (mg_up S20)).bind fun v21 => ((some (mg_under S20)).bind fun v22 => ((F_X7_inverse z (Int32.toInt64 a0) (Int32.toInt64 a1)).bind fun r23 => ((F_X7_laysSum z ((Int32.toInt64 a2) * r23) (Int32.toInt64 a1) S20).bind fun S24 => ((F_X7_adds z v21 v22 S24).bind fun S25 => (bd2 (F_X7_latest z a3 S25) fun r26 S27 => some (r26, S27))))))))))))))
else
some ((-4000000000000000000 : Int64), S1))))))))))))))
def G_X7_above_49 (z : Nat) : Nat → Int32 → Int32 → Int64 → Int64 → Int64 → Int32 → MS → Option (Int64 × MS)
  | 0 => fun _ _ _ _ _ _ _ => none
  | n + 1 => fun x1 x3 x4 x6 x8 x10 S =>
(if x3 < x10 then
some (x8, S)
else
((F_X7_laysSum z (Int32.toInt64 x1) (Int32.toInt64 x10) S).bind fun S2 => (if ((mg_up S2) * x6) ≤ (x4 * (mg_under S2)) then
((some (x8 + (0 : Int64))).bind fun v4 => ((some (x10 + (1 : Int32))).bind fun v5 => ((G_X7_above_49 z n) x1 x3 x4 x6 v4 v5 S2)))
else
((some (x8 + (1 : Int64))).bind fun v6 => ((some (x10 + (1 : Int32))).bind fun v7 => ((G_X7_above_49 z n) x1 x3 x4 x6 v6 v7 S2))))))
def F_X7_above (z : Nat) (a0 : Int32) (a1 : Int32) (a2 : Int32) (S : MS) : Option (Int64 × MS) :=
((some (ms_thrown S (0 : Int32))).bind fun S1 => ((F_X7_isThousand z a1).bind fun r2 => (if r2 = 0 then
some ((-4000000000000000000 : Int64), S1)
else
((F_X7_isThousand z a2).bind fun r4 => (if r4 = 0 then
some ((-4000000000000000000 : Int64), S1)
else
((F_X7_laysSum z (Int32.toInt64 a0) (Int32.toInt64 a1) S1).bind fun S6 => ((some (mg_up S6)).bind fun v7 => ((some (mg_under S6)).bind fun v8 => (G_X7_above_49 z z a0 a2 v7 v8 (0 : Int64) (1 : Int32) S6)))))))))
def F_X7_chain (z : Nat) (a0 : Int32) (a1 : Int32) (a2 : Int32) (S : MS) : Option (Int32 × MS) :=
((some (ms_thrown S (0 : Int32))).bind fun S1 => ((F_X7_isIn z (Int32.toInt64 a1) (1 : Int64) (1000000000 : Int64)).bind fun r2 => (if r2 = 0 then
some ((-1 : Int32), S1)
else
((F_X7_common z (Int32.toInt64 a0) (Int32.toInt64 a1)).bind fun r4 => (if r4 = (1 : Int64) then
(if a2 < (-1 : Int32) then
some ((-1 : Int32), S1)
else
((F_X7_chained z (Int32.toInt64 a0) (Int32.toInt64 a1) a2 (0 : Int32)).bind fun r7 => some (r7, S1)))
else
some ((-1 : Int32), S1))))))
def F_X7_minus (z : Nat) (a0 : Int32) (a1 : Int32) (a2 : Int32) (S : MS) : Option (Int32 × MS) :=
((some (ms_thrown S (0 : Int32))).bind fun S1 => ((F_X7_isIn z (Int32.toInt64 a1) (1 : Int64) (10000 : Int64)).bind fun r2 => (if r2 = 0 then
some ((-1 : Int32), S1)
else
((F_X7_common z (Int32.toInt64 a0) (Int32.toInt64 a1)).bind fun r4 => (if r4 = (1 : Int64) then
(if a2 < (-1 : Int32) then
some ((-1 : Int32), S1)
else
((F_X7_chained z (Int32.toInt64 a0) (Int32.toInt64 a1) a2 (1 : Int32)).bind fun r7 => some (r7, S1)))
else
some ((-1 : Int32), S1))))))
def F_X7_isLike (z : Nat) (a0 : Int64) (a1 : Int64) (S : MS) : Option (Int32 × MS) :=
(if (mg_up S) = a0 then
(if (mg_under S) = a1 then
some ((1 : Int32), S)
else
some ((0 : Int32), S))
else
some ((0 : Int32), S))
def G_X7_alike_45 (z : Nat) : Nat → Int32 → Int32 → Int64 → Int64 → Int32 → Int32 → MS → Option (Int32 × MS)
  | 0 => fun _ _ _ _ _ _ _ => none
  | n + 1 => fun x2 x3 x4 x6 x8 x9 S =>
(if x2 ≤ x9 then
(if x3 = (-1 : Int32) then
some (x8, S)
else
some ((-1 : Int32), S))
else
((F_X7_common z (Int32.toInt64 x9) (Int32.toInt64 x2)).bind fun r3 => (if r3 = (1 : Int64) then
((F_X7_laysSum z (Int32.toInt64 x9) (Int32.toInt64 x2) S).bind fun S5 => (bd2 (F_X7_isLike z x4 x6 S5) fun r6 S7 => (if r6 = 0 then
((some (x9 + (1 : Int32))).bind fun v12 => ((G_X7_alike_45 z n) x2 x3 x4 x6 x8 v12 S7))
else
(if x8 = x3 then
some (x9, S7)
else
((some (x8 + (1 : Int32))).bind fun v10 => ((some (x9 + (1 : Int32))).bind fun v11 => ((G_X7_alike_45 z n) x2 x3 x4 x6 v10 v11 S7)))))))
else
((some (x9 + (1 : Int32))).bind fun v13 => ((G_X7_alike_45 z n) x2 x3 x4 x6 x8 v13 S)))))
def F_X7_alike (z : Nat) (a0 : Int32) (a1 : Int32) (a2 : Int32) (S : MS) : Option (Int32 × MS) :=
((some (ms_thrown S (0 : Int32))).bind fun S1 => ((F_X7_isIn z (Int32.toInt64 a1) (1 : Int64) (500 : Int64)).bind fun r2 => (if r2 = 0 then
some ((-1 : Int32), S1)
else
((F_X7_laysSum z (Int32.toInt64 a0) (Int32.toInt64 a1) S1).bind fun S4 => ((some (mg_up S4)).bind fun v5 => ((some (mg_under S4)).bind fun v6 => (G_X7_alike_45 z z a1 a2 v5 v6 (0 : Int32) (0 : Int32) S4)))))))
def G_X7_sorts_127 (z : Nat) (k40 : Int32 → Int32 → Int32 → Int32 → Int64 → Int32 → MS → Option (Int32 × MS)) : Nat → Int32 → Int32 → Int32 → Int32 → Int64 → Int32 → Int64 → Int32 → Int32 → MS → Option (Int32 × MS)
  | 0 => fun _ _ _ _ _ _ _ _ _ _ => none
  | n + 1 => fun x1 x2 x3 x4 x5 x7 x8 x11 x12 S =>
(if x3 ≤ x12 then
(if x11 = 0 then
(if ib x3 1000 = true then ((some (ms_row S (vp_updL (mg_row S) (Int32.toNatClampNeg x3) x8))).bind fun S4 => ((some (x3 + (1 : Int32))).bind fun v5 => ((some (x7 + (1 : Int32))).bind fun v6 => (k40 x1 x2 v5 x4 x5 v6 S4)))) else none)
else
((some (x7 + (1 : Int32))).bind fun v7 => (k40 x1 x2 x3 x4 x5 v7 S)))
else
(if x11 = 0 then
(if ib x12 1000 = true then (if (mg_row S (Int32.toNatClampNeg x12)) = x8 then
((some (x12 + (1 : Int32))).bind fun v13 => ((G_X7_sorts_127 z k40 n) x1 x2 x3 x4 x5 x7 x8 (1 : Int32) v13 S))
else
((some (x12 + (1 : Int32))).bind fun v12 => ((G_X7_sorts_127 z k40 n) x1 x2 x3 x4 x5 x7 x8 (0 : Int32) v12 S))) else none)
else
((some (x12 + (1 : Int32))).bind fun v9 => ((G_X7_sorts_127 z k40 n) x1 x2 x3 x4 x5 x7 x8 (1 : Int32) v9 S))))
def G_X7_sorts_105 (z : Nat) (k40 : Int32 → Int32 → Int32 → Int32 → Int64 → Int32 → MS → Option (Int32 × MS)) (x1 : Int32) (x2 : Int32) (x3 : Int32) (x5 : Int64) (x7 : Int32) (x8 : Int64) (x10 : Int32) (t0 : Int32) (S : MS) : Option (Int32 × MS) :=
(if x10 = 0 then
(G_X7_sorts_127 z k40 z x1 x2 x3 t0 x5 x7 x8 (0 : Int32) (0 : Int32) S)
else
(G_X7_sorts_127 z k40 z x1 x2 x3 t0 x8 x7 x8 (0 : Int32) (0 : Int32) S))
def G_X7_sorts_86 (z : Nat) (k40 : Int32 → Int32 → Int32 → Int32 → Int64 → Int32 → MS → Option (Int32 × MS)) (x1 : Int32) (x2 : Int32) (x3 : Int32) (x4 : Int32) (x5 : Int64) (x7 : Int32) (x8 : Int64) (S : MS) : Option (Int32 × MS) :=
(if (1 : Int32) = 0 then
(G_X7_sorts_105 z k40 x1 x2 x3 x5 x7 x8 (1 : Int32) x4 S)
else
(G_X7_sorts_105 z k40 x1 x2 x3 x5 x7 x8 (1 : Int32) x7 S))
def G_X7_sorts_40 (z : Nat) : Nat → Int32 → Int32 → Int32 → Int32 → Int64 → Int32 → MS → Option (Int32 × MS)
  | 0 => fun _ _ _ _ _ _ _ => none
  | n + 1 => fun x1 x2 x3 x4 x5 x7 S =>
(if x1 ≤ x7 then
(if x2 = 0 then
some (x3, S)
else
some (x4, S))
else
((F_X7_common z (Int32.toInt64 x7) (Int32.toInt64 x1)).bind fun r3 => (if r3 = (1 : Int64) then
((F_X7_twelve z (Int32.toInt64 x7) (Int32.toInt64 x1)).bind fun r5 => (if x4 = (-1 : Int32) then
(G_X7_sorts_86 z (G_X7_sorts_40 z n) x1 x2 x3 x4 x5 x7 r5 S)
else
(if r5 ≤ x5 then
(if (0 : Int32) = 0 then
(G_X7_sorts_105 z (G_X7_sorts_40 z n) x1 x2 x3 x5 x7 r5 (0 : Int32) x4 S)
else
(G_X7_sorts_105 z (G_X7_sorts_40 z n) x1 x2 x3 x5 x7 r5 (0 : Int32) x7 S))
else
(G_X7_sorts_86 z (G_X7_sorts_40 z n) x1 x2 x3 x4 x5 x7 r5 S))))
else
((some (x7 + (1 : Int32))).bind fun v9 => ((G_X7_sorts_40 z n) x1 x2 x3 x4 x5 v9 S)))))
def F_X7_sorts (z : Nat) (a0 : Int32) (a1 : Int32) (S : MS) : Option (Int32 × MS) :=
((some (ms_thrown S (0 : Int32))).bind fun S1 => ((F_X7_isIn z (Int32.toInt64 a0) (1 : Int64) (500 : Int64)).bind fun r2 => (if r2 = 0 then
some ((-1 : Int32), S1)
else
((F_X7_isIn z (Int32.toInt64 a1) (0 : Int64) (1 : Int64)).bind fun r4 => (if r4 = 0 then
some ((-1 : Int32), S1)
else
(G_X7_sorts_40 z z a0 a1 (0 : Int32) (-1 : Int32) (0 : Int64) (0 : Int32) S1))))))
def G_X7_steps_68 (z : Nat) : Nat → Int32 → Int32 → Int32 → Int32 → Int64 → Int32 → MS → Option (Int64 × MS)
  | 0 => fun _ _ _ _ _ _ _ => none
  | n + 1 => fun x1 x2 x3 x4 x5 x7 S =>
(if x4 ≤ x7 then
some (x5, S)
else
((F_X7_down z (((Int32.toInt64 x1) * (Int32.toInt64 x7)) + (Int32.toInt64 x2)) (Int32.toInt64 x3)).bind fun r2 => ((some (x5 + r2)).bind fun v3 => ((some (x7 + (1 : Int32))).bind fun v4 => ((G_X7_steps_68 z n) x1 x2 x3 x4 v3 v4 S)))))
def F_X7_steps (z : Nat) (a0 : Int32) (a1 : Int32) (a2 : Int32) (a3 : Int32) (S : MS) : Option (Int64 × MS) :=
((some (ms_thrown S (0 : Int32))).bind fun S1 => ((F_X7_isIn z (Int32.toInt64 a0) (-1000000 : Int64) (1000000 : Int64)).bind fun r2 => (if r2 = 0 then
some ((-4000000000000000000 : Int64), S1)
else
((F_X7_isIn z (Int32.toInt64 a1) (-1000000 : Int64) (1000000 : Int64)).bind fun r4 => (if r4 = 0 then
some ((-4000000000000000000 : Int64), S1)
else
((F_X7_isIn z (Int32.toInt64 a2) (1 : Int64) (1000000 : Int64)).bind fun r6 => (if r6 = 0 then
some ((-4000000000000000000 : Int64), S1)
else
((F_X7_isIn z (Int32.toInt64 a3) (0 : Int64) (100000 : Int64)).bind fun r8 => (if r8 = 0 then
some ((-4000000000000000000 : Int64), S1)
else
(G_X7_steps_68 z z a0 a1 a2 a3 (0 : Int64) (0 : Int32) S1))))))))))
def F_X7_triangle (z : Nat) (a0 : Int32) (a1 : Int32) (a2 : Int32) (S : MS) : Option (Int64 × MS) :=
((some (ms_thrown S (0 : Int32))).bind fun S1 => ((F_X7_isTriangle z a0 a1 a2).bind fun r2 => (if r2 = 0 then
some ((-4000000000000000000 : Int64), S1)
else
((F_X7_below z (Int32.toInt64 a0) (Int32.toInt64 a1) (Int32.toInt64 a2)).bind fun r4 => some (r4, S1)))))
def F_X7_inside (z : Nat) (a0 : Int32) (a1 : Int32) (a2 : Int32) (S : MS) : Option (Int64 × MS) :=
((some (ms_thrown S (0 : Int32))).bind fun S1 => ((F_X7_isTriangle z a0 a1 a2).bind fun r2 => (if r2 = 0 then
some ((-4000000000000000000 : Int64), S1)
else
((F_X7_below z (Int32.toInt64 a0) (Int32.toInt64 a1) ((((Int32.toInt64 a2) - (1 : Int64)) - (Int32.toInt64 a0)) - (Int32.toInt64 a1))).bind fun r4 => some (r4, S1)))))
def G_X7_pyramid_73 (z : Nat) (k51 : Int32 → Int32 → Int32 → Int64 → Int32 → MS → Option (Int64 × MS)) : Nat → Int32 → Int32 → Int32 → Int64 → Int32 → Int64 → Int32 → MS → Option (Int64 × MS)
  | 0 => fun _ _ _ _ _ _ _ _ => none
  | n + 1 => fun x1 x2 x3 x4 x6 x7 x9 S =>
(if x7 < (((Int32.toInt64 x9) * (Int32.toInt64 x2)) * (Int32.toInt64 x3)) then
((some (x6 + (1 : Int32))).bind fun v2 => (k51 x1 x2 x3 x4 v2 S))
else
(if ((Int32.toInt64 x1) * (Int32.toInt64 x3)) = 0 then none else ((some (x4 + (((x7 - (((Int32.toInt64 x9) * (Int32.toInt64 x2)) * (Int32.toInt64 x3))) / ((Int32.toInt64 x1) * (Int32.toInt64 x3))) + (1 : Int64)))).bind fun v4 => ((some (x9 + (1 : Int32))).bind fun v5 => ((G_X7_pyramid_73 z k51 n) x1 x2 x3 v4 x6 x7 v5 S)))))
def G_X7_pyramid_51 (z : Nat) : Nat → Int32 → Int32 → Int32 → Int64 → Int32 → MS → Option (Int64 × MS)
  | 0 => fun _ _ _ _ _ _ => none
  | n + 1 => fun x1 x2 x3 x4 x6 S =>
(if x3 < x6 then
some (x4, S)
else
((some (((Int32.toInt64 (x3 - x6)) * (Int32.toInt64 x1)) * (Int32.toInt64 x2))).bind fun v2 => (G_X7_pyramid_73 z (G_X7_pyramid_51 z n) z x1 x2 x3 x4 x6 v2 (0 : Int32) S)))
def F_X7_pyramid (z : Nat) (a0 : Int32) (a1 : Int32) (a2 : Int32) (S : MS) : Option (Int64 × MS) :=
((some (ms_thrown S (0 : Int32))).bind fun S1 => ((F_X7_isIn z (Int32.toInt64 a0) (1 : Int64) (300 : Int64)).bind fun r2 => (if r2 = 0 then
some ((-4000000000000000000 : Int64), S1)
else
((F_X7_isIn z (Int32.toInt64 a1) (1 : Int64) (300 : Int64)).bind fun r4 => (if r4 = 0 then
some ((-4000000000000000000 : Int64), S1)
else
((F_X7_isIn z (Int32.toInt64 a2) (1 : Int64) (300 : Int64)).bind fun r6 => (if r6 = 0 then
some ((-4000000000000000000 : Int64), S1)
else
(G_X7_pyramid_51 z z a0 a1 a2 (0 : Int64) (0 : Int32) S1))))))))
def F_X7_becomes (z : Nat) (a0 : Int64) (a1 : Int64) (a2 : Int64) (a3 : Int64) (S : MS) : Option (Int32 × MS) :=
((F_X7_isEntry z a0).bind fun r1 => (if r1 = 0 then
some ((0 : Int32), S)
else
((F_X7_isEntry z a1).bind fun r3 => (if r3 = 0 then
some ((0 : Int32), S)
else
((F_X7_isEntry z a2).bind fun r5 => (if r5 = 0 then
some ((0 : Int32), S)
else
((F_X7_isEntry z a3).bind fun r7 => (if r7 = 0 then
some ((0 : Int32), S)
else
((some (ms_a0 S a0)).bind fun S9 => ((some (ms_b0 S9 a1)).bind fun S10 => ((some (ms_c0 S10 a2)).bind fun S11 => ((some (ms_d0 S11 a3)).bind fun S12 => some ((1 : Int32), S12)))))))))))))
def G_X7_of_18 (z : Nat) (x1 : Int32) (t0 : Int32) (S : MS) : Option (Int32 × MS) :=
((some (ms_thrown S t0)).bind fun S1 => (if x1 = 0 then
some (Int64.toInt32 (mg_a0 S1), S1)
else
(if x1 = (1 : Int32) then
some (Int64.toInt32 (mg_b0 S1), S1)
else
(if x1 = (2 : Int32) then
some (Int64.toInt32 (mg_c0 S1), S1)
else
(if x1 = (3 : Int32) then
some (Int64.toInt32 (mg_d0 S1), S1)
else
some (Int64.toInt32 (0 : Int64), S1))))))
def F_X7_of (z : Nat) (a0 : Int32) (S : MS) : Option (Int32 × MS) :=
((F_X7_isIn z (Int32.toInt64 a0) (0 : Int64) (3 : Int64)).bind fun r1 => (if r1 = 0 then
(G_X7_of_18 z a0 (1 : Int32) S)
else
(G_X7_of_18 z a0 (0 : Int32) S)))
def F_X7_set (z : Nat) (a0 : Int32) (a1 : Int32) (a2 : Int32) (a3 : Int32) (S : MS) : Option (Int32 × MS) :=
((some (ms_thrown S (0 : Int32))).bind fun S1 => ((F_X7_isMatrix z a0 a1 a2 a3).bind fun r2 => (if r2 = 0 then
some ((0 : Int32), S1)
else
(bd2 (F_X7_becomes z (Int32.toInt64 a0) (Int32.toInt64 a1) (Int32.toInt64 a2) (Int32.toInt64 a3) S1) fun r4 S5 => (if r4 = 0 then
some ((0 : Int32), S5)
else
some ((1 : Int32), S5))))))
def F_X7_turn (z : Nat)  (S : MS) : Option (Int32 × MS) :=
((some (ms_thrown S (0 : Int32))).bind fun S1 => (bd2 (F_X7_becomes z (mg_b0 S1) (-(mg_a0 S1)) (mg_d0 S1) (-(mg_c0 S1)) S1) fun r2 S3 => (if nb r2 = true then some (r2, S3) else none)))
def F_X7_shift (z : Nat) (a0 : Int32) (S : MS) : Option (Int32 × MS) :=
((some (ms_thrown S (0 : Int32))).bind fun S1 => (bd2 (F_X7_becomes z (mg_a0 S1) (((mg_a0 S1) * (Int32.toInt64 a0)) + (mg_b0 S1)) (mg_c0 S1) (((mg_c0 S1) * (Int32.toInt64 a0)) + (mg_d0 S1)) S1) fun r2 S3 => (if nb r2 = true then some (r2, S3) else none)))
def F_X7_times (z : Nat) (a0 : Int32) (a1 : Int32) (a2 : Int32) (a3 : Int32) (S : MS) : Option (Int32 × MS) :=
((some (ms_thrown S (0 : Int32))).bind fun S1 => ((F_X7_isMatrix z a0 a1 a2 a3).bind fun r2 => (if r2 = 0 then
some ((0 : Int32), S1)
else
(bd2 (F_X7_becomes z (((mg_a0 S1) * (Int32.toInt64 a0)) + ((mg_b0 S1) * (Int32.toInt64 a2))) (((mg_a0 S1) * (Int32.toInt64 a1)) + ((mg_b0 S1) * (Int32.toInt64 a3))) (((mg_c0 S1) * (Int32.toInt64 a0)) + ((mg_d0 S1) * (Int32.toInt64 a2))) (((mg_c0 S1) * (Int32.toInt64 a1)) + ((mg_d0 S1) * (Int32.toInt64 a3))) S1) fun r4 S5 => (if r4 = 0 then
some ((0 : Int32), S5)
else
some ((1 : Int32), S5))))))
def F_X7_invert (z : Nat)  (S : MS) : Option (Int32 × MS) :=
((some (ms_thrown S (0 : Int32))).bind fun S1 => (bd2 (F_X7_becomes z (mg_d0 S1) (-(mg_b0 S1)) (-(mg_c0 S1)) (mg_a0 S1) S1) fun r2 S3 => (if nb r2 = true then some (r2, S3) else none)))
def F_X7_phi (z : Nat)  (S : MS) : Option (Int64 × MS) :=
(if (mg_c0 S) = (0 : Int64) then
some ((mg_b0 S) * (mg_d0 S), S)
else
((F_X7_size z (mg_c0 S)).bind fun r2 => ((F_X7_twelve z (mg_d0 S) r2).bind fun r3 => (if (mg_c0 S) = 0 then none else some ((((mg_a0 S) + (mg_d0 S)) - r3) / (mg_c0 S), S)))))
def F_X7_phi_ (z : Nat) (a0 : Int32) (S : MS) : Option (Int64 × MS) :=
((some (ms_thrown S (0 : Int32))).bind fun S1 => (if a0 = 0 then
(bd2 (F_X7_phi z S1) fun r8 S9 => some (r8, S9))
else
(if a0 = (1 : Int32) then
(bd2 (F_X7_phi z S1) fun r4 S5 => ((F_X7_signOf z (mg_c0 S5)).bind fun r6 => ((F_X7_signOf z ((mg_a0 S5) + (mg_d0 S5))).bind fun r7 => some (r4 - (((3 : Int64) * r6) * r7), S5))))
else
some ((-4000000000000000000 : Int64), S1))))
def F_X7_kind (z : Nat)  (S : MS) : Option (Int32 × MS) :=
((some (ms_thrown S (0 : Int32))).bind fun S1 => ((F_X7_size z ((mg_a0 S1) + (mg_d0 S1))).bind fun r2 => (if (2 : Int64) ≤ r2 then
(if r2 = (2 : Int64) then
some ((1 : Int32), S1)
else
some ((2 : Int32), S1))
else
some ((0 : Int32), S1))))
def G_X7_order_56 (z : Nat) (x1 : Int64) (S : MS) : Option (Int32 × MS) :=
(if x1 = (0 : Int64) then
some ((4 : Int32), S)
else
(if x1 = (1 : Int64) then
some ((6 : Int32), S)
else
(if x1 = (-1 : Int64) then
some ((3 : Int32), S)
else
some ((-1 : Int32), S))))
def F_X7_order (z : Nat)  (S : MS) : Option (Int32 × MS) :=
((some (ms_thrown S (0 : Int32))).bind fun S1 => ((some ((mg_a0 S1) + (mg_d0 S1))).bind fun v2 => (if (mg_b0 S1) = (0 : Int64) then
(if (mg_c0 S1) = (0 : Int64) then
((F_X7_size z v2).bind fun r5 => (if r5 = (2 : Int64) then
(if v2 ≤ (0 : Int64) then
some ((2 : Int32), S1)
else
some ((1 : Int32), S1))
else
(G_X7_order_56 z v2 S1)))
else
(G_X7_order_56 z v2 S1))
else
(G_X7_order_56 z v2 S1))))
def G_X7_word_40 (z : Nat) : Nat → Int32 → Int64 → Int64 → Int64 → Int64 → Int32 → MS → Option (Int64 × MS)
  | 0 => fun _ _ _ _ _ _ _ => none
  | n + 1 => fun x1 x2 x4 x6 x8 x10 S =>
(if x6 = (0 : Int64) then
(if x1 = x10 then
some (x4 * x8, S)
else
(if x1 = (-1 : Int32) then
some ((Int32.toInt64 x10) + (1 : Int64), S)
else
some ((-4000000000000000000 : Int64), S)))
else
((F_X7_down z (((2 : Int64) * x2) + x6) ((2 : Int64) * x6)).bind fun r4 => (if x1 = x10 then
some (r4, S)
else
((some (x10 + (1 : Int32))).bind fun v6 => ((some (x2 - (r4 * x6))).bind fun v7 => ((some (x4 - (r4 * x8))).bind fun v8 => ((some (-v7)).bind fun v9 => ((some (-v8)).bind fun v10 => ((G_X7_word_40 z n) x1 x6 x8 v9 v10 v6 S)))))))))
def F_X7_word (z : Nat) (a0 : Int32) (S : MS) : Option (Int64 × MS) :=
((some (ms_thrown S (0 : Int32))).bind fun S1 => (if (-1 : Int32) ≤ a0 then
((some (mg_a0 S1)).bind fun v3 => ((some (mg_b0 S1)).bind fun v4 => ((some (mg_c0 S1)).bind fun v5 => ((some (mg_d0 S1)).bind fun v6 => (G_X7_word_40 z z a0 v3 v4 v5 v6 (0 : Int32) S1)))))
else
some ((-4000000000000000000 : Int64), S1)))
def F_X7_same (z : Nat) (a0 : Int32) (a1 : Int32) (a2 : Int32) (S : MS) : Option (Int32 × MS) :=
((some (ms_thrown S (0 : Int32))).bind fun S1 => ((F_X7_isRing z a0 a1).bind fun r2 => (if r2 = 0 then
some ((-1 : Int32), S1)
else
((F_X7_isRing z a0 a2).bind fun r4 => (if r4 = 0 then
some ((-1 : Int32), S1)
else
((F_X7_rest z (Int32.toInt64 a1) (Int32.toInt64 a0)).bind fun r6 => ((F_X7_rest z (Int32.toInt64 a2) (Int32.toInt64 a0)).bind fun r7 => ((F_X7_areSame z (Int32.toInt64 a0) r6 r7).bind fun r8 => (if r8 = 0 then
((F_X7_areSame z (Int32.toInt64 a0) ((Int32.toInt64 a0) - r6) r7).bind fun r10 => (if r10 = 0 then
some ((0 : Int32), S1)
else
some ((1 : Int32), S1)))
else
some ((2 : Int32), S1))))))))))
def F_X7_ring (z : Nat) (a0 : Int32) (a1 : Int32) (S : MS) : Option (Int32 × MS) :=
((some (ms_thrown S (0 : Int32))).bind fun S1 => ((F_X7_isRing z a0 a1).bind fun r2 => (if r2 = 0 then
some ((-1 : Int32), S1)
else
((F_X7_ringOf z a0 a1).bind fun r4 => some (r4, S1)))))
def G_X7_laysRings_4 (z : Nat) : Nat → Int32 → Int32 → Int32 → MS → Option (Int32 × MS)
  | 0 => fun _ _ _ _ => none
  | n + 1 => fun x1 x2 x3 S =>
(if x1 ≤ x3 then
some (x2, S)
else
((F_X7_common z (Int32.toInt64 x1) (Int32.toInt64 x3)).bind fun r2 => (if r2 = (1 : Int64) then
((F_X7_ringOf z x1 x3).bind fun r5 => (if r5 = x3 then
(if ib x2 1000 = true then ((some (ms_row S (vp_updL (mg_row S) (Int32.toNatClampNeg x2) (Int32.toInt64 x3)))).bind fun S8 => ((some (x2 + (1 : Int32))).bind fun v9 => ((some (x3 + (1 : Int32))).bind fun v10 => ((G_X7_laysRings_4 z n) x1 v9 v10 S8)))) else none)
else
((some (x3 + (1 : Int32))).bind fun v11 => ((G_X7_laysRings_4 z n) x1 x2 v11 S))))
else
((some (x3 + (1 : Int32))).bind fun v4 => ((G_X7_laysRings_4 z n) x1 x2 v4 S)))))
def F_X7_laysRings (z : Nat) (a0 : Int32) (S : MS) : Option (Int32 × MS) :=
(G_X7_laysRings_4 z z a0 (0 : Int32) (1 : Int32) S)
def F_X7_rings (z : Nat) (a0 : Int32) (a1 : Int32) (S : MS) : Option (Int32 × MS) :=
((some (ms_thrown S (0 : Int32))).bind fun S1 => ((F_X7_isIn z (Int32.toInt64 a0) (2 : Int64) (1000 : Int64)).bind fun r2 => (if r2 = 0 then
some ((-1 : Int32), S1)
else
(bd2 (F_X7_laysRings z a0 S1) fun r4 S5 => (if a1 = (-1 : Int32) then
some (r4, S5)
else
((F_X7_isIn z (Int32.toInt64 a1) (0 : Int64) (Int32.toInt64 (r4 - (1 : Int32)))).bind fun r7 => (if r7 = 0 then
some ((-1 : Int32), S5)
else
(if ib a1 1000 = true then some (Int64.toInt32 (mg_row S5 (Int32.toNatClampNeg a1)), S5) else none))))))))
def G_X7_twins_62 (z : Nat) (k33 : Int32 → Int32 → Int32 → Int32 → Int32 → MS → Option (Int32 × MS)) : Nat → Int32 → Int32 → Int32 → Int32 → Int32 → Int64 → Int32 → MS → Option (Int32 × MS)
  | 0 => fun _ _ _ _ _ _ _ _ => none
  | n + 1 => fun x1 x2 x3 x4 x5 x6 x8 S =>
(if x3 ≤ x8 then
((some (x5 + (1 : Int32))).bind fun v2 => (k33 x1 x2 x3 x4 v2 S))
else
(if ib x8 1000 = true then ((F_X7_twelve z (mg_row S (Int32.toNatClampNeg x8)) (Int32.toInt64 x1)).bind fun r4 => ((F_X7_size z r4).bind fun r5 => (if r5 = x6 then
(if x4 = x2 then
(if ib x5 1000 = true then (if ib x8 1000 = true then some (Int64.toInt32 (((1000 : Int64) * (mg_row S (Int32.toNatClampNeg x5))) + (mg_row S (Int32.toNatClampNeg x8))), S) else none) else none)
else
((some (x4 + (1 : Int32))).bind fun v8 => ((some (x8 + (1 : Int32))).bind fun v9 => ((G_X7_twins_62 z k33 n) x1 x2 x3 v8 x5 x6 v9 S))))
else
((some (x8 + (1 : Int32))).bind fun v12 => ((G_X7_twins_62 z k33 n) x1 x2 x3 x4 x5 x6 v12 S))))) else none))
def G_X7_twins_33 (z : Nat) : Nat → Int32 → Int32 → Int32 → Int32 → Int32 → MS → Option (Int32 × MS)
  | 0 => fun _ _ _ _ _ _ => none
  | n + 1 => fun x1 x2 x3 x4 x5 S =>
(if x3 ≤ x5 then
(if x2 = (-1 : Int32) then
some (x4, S)
else
some ((-1 : Int32), S))
else
(if ib x5 1000 = true then ((F_X7_twelve z (mg_row S (Int32.toNatClampNeg x5)) (Int32.toInt64 x1)).bind fun r4 => ((F_X7_size z r4).bind fun r5 => ((some (x5 + (1 : Int32))).bind fun v6 => (G_X7_twins_62 z (G_X7_twins_33 z n) z x1 x2 x3 x4 x5 r5 v6 S)))) else none))
def F_X7_twins (z : Nat) (a0 : Int32) (a1 : Int32) (S : MS) : Option (Int32 × MS) :=
((some (ms_thrown S (0 : Int32))).bind fun S1 => ((F_X7_isIn z (Int32.toInt64 a0) (2 : Int64) (1000 : Int64)).bind fun r2 => (if r2 = 0 then
some ((-1 : Int32), S1)
else
(bd2 (F_X7_laysRings z a0 S1) fun r4 S5 => (G_X7_twins_33 z z a0 a1 r4 (0 : Int32) (0 : Int32) S5)))))
def G_X7_put_3 (z : Nat) : Nat → Int32 → Int32 → MS → Option (MS)
  | 0 => fun _ _ _ => none
  | n + 1 => fun x1 x2 S =>
(if x2 < 0 then
some S
else
(if ib (mg_taped S) 300 = true then ((some (ms_tape S (upd (mg_tape S) (Int32.toNatClampNeg (mg_taped S)) (vp_nar .byte ((Int32.toInt8 (x1 >>> (x2 &&& 31))).toInt32))))).bind fun S3 => ((some ((mg_taped S3) + (1 : Int32))).bind fun v4 => ((some (ms_taped S3 v4)).bind fun S5 => ((some (x2 + (-8 : Int32))).bind fun v6 => ((G_X7_put_3 z n) x1 v6 S5))))) else none))
def F_X7_put (z : Nat) (a0 : Int32) (S : MS) : Option (MS) :=
(G_X7_put_3 z z a0 (24 : Int32) S)
def F_X7_feed (z : Nat) (a0 : Int32) (a1 : Int32) (a2 : Int32) (a3 : Int32) (a4 : Int32) (S : MS) : Option (Int32 × MS) :=
((some (ms_thrown S (0 : Int32))).bind fun S1 => (if ((mg_taped S1) + (20 : Int32)) ≤ (300 : Int32) then
((F_X7_put z a0 S1).bind fun S3 => ((F_X7_put z a1 S3).bind fun S4 => ((F_X7_put z a2 S4).bind fun S5 => ((F_X7_put z a3 S5).bind fun S6 => ((F_X7_put z a4 S6).bind fun S7 => some (mg_taped S7, S7))))))
else
some ((-1 : Int32), S1)))
def F_X7_end (z : Nat) (a0 : Int32) (S : MS) : Option (Int32 × MS) :=
((some (ms_thrown S (0 : Int32))).bind fun S1 => ((F_X7_isIn z (Int32.toInt64 a0) (0 : Int64) (Int32.toInt64 (mg_taped S1))).bind fun r2 => (if r2 = 0 then
some ((0 : Int32), S1)
else
((some (ms_taped S1 a0)).bind fun S4 => some ((1 : Int32), S4)))))
def G_X7_here_52 (z : Nat)  (S : MS) : Option (Int32 × MS) :=
(if (mg_length S) ≤ (mg_at S) then
some ((-1 : Int32), S)
else
(if ib (mg_at S) 300 = true then some ((mg_tape S (Int32.toNatClampNeg (mg_at S))) &&& (255 : Int32), S) else none))
def G_X7_here_0 (z : Nat) : Nat → MS → Option (Int32 × MS)
  | 0 => fun _ => none
  | n + 1 => fun S =>
(if (mg_length S) ≤ (mg_at S) then
(G_X7_here_52 z S)
else
(if ib (mg_at S) 300 = true then (if (mg_tape S (Int32.toNatClampNeg (mg_at S))) = (32 : Int32) then
((some ((mg_at S) + (1 : Int32))).bind fun v4 => ((some (ms_at S v4)).bind fun S5 => ((G_X7_here_0 z n) S5)))
else
(if ib (mg_at S) 300 = true then (if (mg_tape S (Int32.toNatClampNeg (mg_at S))) = (10 : Int32) then
((some ((mg_at S) + (1 : Int32))).bind fun v8 => ((some (ms_at S v8)).bind fun S9 => ((G_X7_here_0 z n) S9)))
else
(G_X7_here_52 z S)) else none)) else none))
def F_X7_here (z : Nat)  (S : MS) : Option (Int32 × MS) :=
(if (mg_length S) ≤ (mg_at S) then
(G_X7_here_52 z S)
else
(if ib (mg_at S) 300 = true then (if (mg_tape S (Int32.toNatClampNeg (mg_at S))) = (32 : Int32) then
((some ((mg_at S) + (1 : Int32))).bind fun v4 => ((some (ms_at S v4)).bind fun S5 => (G_X7_here_0 z z S5)))
else
(if ib (mg_at S) 300 = true then (if (mg_tape S (Int32.toNatClampNeg (mg_at S))) = (10 : Int32) then
((some ((mg_at S) + (1 : Int32))).bind fun v8 => ((some (ms_at S v8)).bind fun S9 => (G_X7_here_0 z z S9)))
else
(G_X7_here_52 z S)) else none)) else none))
def F_X7_fails (z : Nat) (a0 : Int32) (a1 : Int32) (S : MS) : Option (MS) :=
(if (mg_fault S) = 0 then
((some (a0 + ((8 : Int32) * a1))).bind fun v2 => ((some (ms_fault S v2)).bind fun S3 => some S3))
else
some S)
def G_X7_piles_68 (z : Nat) (x2 : Int32) (t0 : Int64) (t1 : Int32) (S : MS) : Option (MS) :=
(if ib t1 300 = true then ((some (ms_tops S (vp_updL (mg_tops S) (Int32.toNatClampNeg t1) t0))).bind fun S2 => (if x2 = 0 then
(if ib (mg_piled S2) 300 = true then ((some (ms_bottoms S2 (vp_updL (mg_bottoms S2) (Int32.toNatClampNeg (mg_piled S2)) (mg_under S2)))).bind fun S5 => ((some ((mg_piled S5) + (1 : Int32))).bind fun v6 => ((some (ms_piled S5 v6)).bind fun S7 => some S7))) else none)
else
(if ib (mg_piled S2) 300 = true then ((some (ms_bottoms S2 (vp_updL (mg_bottoms S2) (Int32.toNatClampNeg (mg_piled S2)) (1 : Int64)))).bind fun S9 => ((some ((mg_piled S9) + (1 : Int32))).bind fun v10 => ((some (ms_piled S9 v10)).bind fun S11 => some S11))) else none))) else none)
def G_X7_piles_48 (z : Nat) (x2 : Int32) (S : MS) : Option (MS) :=
(if x2 = 0 then
(G_X7_piles_68 z x2 (mg_up S) (mg_piled S) S)
else
(G_X7_piles_68 z x2 (0 : Int64) (mg_piled S) S))
def G_X7_piles_30 (z : Nat) (x1 : Int32) (t0 : Int32) (S : MS) : Option (MS) :=
(if t0 = 0 then
(G_X7_piles_48 z t0 S)
else
(if (mg_beyond S) = (-1 : Int32) then
((some (ms_beyond S x1)).bind fun S3 => (G_X7_piles_48 z t0 S3))
else
(G_X7_piles_48 z t0 S)))
def F_X7_piles (z : Nat) (a0 : Int32) (S : MS) : Option (MS) :=
((F_X7_size z (mg_up S)).bind fun r1 => (if (1000000000 : Int64) < r1 then
(G_X7_piles_30 z a0 (1 : Int32) S)
else
(if (mg_under S) ≤ (1000000000 : Int64) then
(G_X7_piles_30 z a0 (0 : Int32) S)
else
(G_X7_piles_30 z a0 (1 : Int32) S))))
def G_X7_number_109 (z : Nat) (x1 : Int64) (S : MS) : Option (Int64 × MS) :=
((F_X7_isIn z (Int32.toInt64 ((mg_at S) - (mg_from S))) (1 : Int64) (9 : Int64)).bind fun r1 => (if r1 = 0 then
((F_X7_fails z (1 : Int32) (mg_from S) S).bind fun S3 => some (x1, S3))
else
some (x1, S)))
def G_X7_number_24 (z : Nat) : Nat → Int64 → MS → Option (Int64 × MS)
  | 0 => fun _ _ => none
  | n + 1 => fun x1 S =>
(if (mg_length S) ≤ (mg_at S) then
(G_X7_number_109 z x1 S)
else
(if ib (mg_at S) 300 = true then ((F_X7_isIn z (Int32.toInt64 (mg_tape S (Int32.toNatClampNeg (mg_at S)))) (48 : Int64) (57 : Int64)).bind fun r3 => (if r3 = 0 then
(G_X7_number_109 z x1 S)
else
(if (9 : Int32) ≤ ((mg_at S) - (mg_from S)) then
((some ((mg_at S) + (1 : Int32))).bind fun v6 => ((some (ms_at S v6)).bind fun S7 => ((G_X7_number_24 z n) x1 S7)))
else
(if ib (mg_at S) 300 = true then ((some ((((10 : Int64) * x1) + (Int32.toInt64 (mg_tape S (Int32.toNatClampNeg (mg_at S))))) - (48 : Int64))).bind fun v9 => ((some ((mg_at S) + (1 : Int32))).bind fun v10 => ((some (ms_at S v10)).bind fun S11 => ((G_X7_number_24 z n) v9 S11)))) else none)))) else none))
def F_X7_number (z : Nat)  (S : MS) : Option (Int64 × MS) :=
(bd2 (F_X7_here z S) fun r1 S2 => ((some (mg_at S2)).bind fun v3 => ((some (ms_from S2 v3)).bind fun S4 => (if (mg_fault S4) = 0 then
(G_X7_number_24 z z (0 : Int64) S4)
else
some ((0 : Int64), S4)))))
def F_X7_sign (z : Nat) (a0 : Int32) (S : MS) : Option (MS) :=
(if (mg_fault S) = 0 then
(bd2 (F_X7_here z S) fun r4 S5 => (if r4 = a0 then
((some ((mg_at S5) + (1 : Int32))).bind fun v7 => ((some (ms_at S5 v7)).bind fun S8 => some S8))
else
((F_X7_fails z (1 : Int32) (mg_at S5) S5).bind fun S9 => ((some ((mg_at S9) + (1 : Int32))).bind fun v10 => ((some (ms_at S9 v10)).bind fun S11 => some S11)))))
else
((some ((mg_at S) + (1 : Int32))).bind fun v2 => ((some (ms_at S v2)).bind fun S3 => some S3)))
def G_X7_opens_43 (z : Nat)  (S : MS) : Option (MS) :=
((some ((mg_open S) + (1 : Int32))).bind fun v1 => ((some (ms_open S v1)).bind fun S2 => ((some ((mg_at S2) + (1 : Int32))).bind fun v3 => ((some (ms_at S2 v3)).bind fun S4 => some S4))))
def G_X7_opens_25 (z : Nat)  (S : MS) : Option (MS) :=
(if (mg_open S) = (9 : Int32) then
((F_X7_fails z (2 : Int32) (mg_at S) S).bind fun S2 => (G_X7_opens_43 z S2))
else
(G_X7_opens_43 z S))
def F_X7_opens (z : Nat)  (S : MS) : Option (MS) :=
(if (mg_fault S) = 0 then
(bd2 (F_X7_here z S) fun r2 S3 => (if r2 = (40 : Int32) then
(G_X7_opens_25 z S3)
else
((F_X7_fails z (1 : Int32) (mg_at S3) S3).bind fun S5 => (G_X7_opens_25 z S5))))
else
(G_X7_opens_25 z S))
def F_X7_closes (z : Nat)  (S : MS) : Option (MS) :=
((F_X7_sign z (41 : Int32) S).bind fun S1 => ((some ((mg_open S1) - (1 : Int32))).bind fun v2 => ((some (ms_open S1 v2)).bind fun S3 => some S3)))
def G_X7_whole_29 (z : Nat) (x1 : Int32) (t0 : Int32) (t1 : Int32) (S : MS) : Option (Int64 × MS) :=
((some (t1 + t0)).bind fun v1 => ((some (ms_at S v1)).bind fun S2 => (bd2 (F_X7_number z S2) fun r3 S4 => (if x1 = 0 then
some (r3, S4)
else
some (-r3, S4)))))
def G_X7_whole_14 (z : Nat) (t0 : Int32) (S : MS) : Option (Int64 × MS) :=
(if t0 = 0 then
(G_X7_whole_29 z t0 (0 : Int32) (mg_at S) S)
else
(G_X7_whole_29 z t0 (1 : Int32) (mg_at S) S))
def F_X7_whole (z : Nat)  (S : MS) : Option (Int64 × MS) :=
(bd2 (F_X7_here z S) fun r1 S2 => (if r1 = (45 : Int32) then
(G_X7_whole_14 z (1 : Int32) S2)
else
(G_X7_whole_14 z (0 : Int32) S2)))
def G_X7_laysDivided_73 (z : Nat) (x1 : Int64) (x3 : Int32) (x4 : Int64) (S : MS) : Option (MS) :=
(if x4 = (0 : Int64) then
((F_X7_lays z x1 (1 : Int64) S).bind fun S4 => ((F_X7_piles z x3 S4).bind fun S5 => some S5))
else
((F_X7_lays z x1 x4 S).bind fun S2 => ((F_X7_piles z x3 S2).bind fun S3 => some S3)))
def F_X7_laysDivided (z : Nat)  (S : MS) : Option (MS) :=
(bd2 (F_X7_number z S) fun r1 S2 => (bd2 (F_X7_here z S2) fun r3 S4 => (if r3 = (47 : Int32) then
((some (mg_at S4)).bind fun v6 => ((some ((mg_at S4) + (1 : Int32))).bind fun v7 => ((some (ms_at S4 v7)).bind fun S8 => (bd2 (F_X7_number z S8) fun r9 S10 => (if (mg_fault S10) = 0 then
(if r9 = (0 : Int64) then
((F_X7_fails z (2 : Int32) (mg_from S10) S10).bind fun S13 => (G_X7_laysDivided_73 z r1 v6 r9 S13))
else
(G_X7_laysDivided_73 z r1 v6 r9 S10))
else
(G_X7_laysDivided_73 z r1 v6 r9 S10))))))
else
((F_X7_lays z r1 (1 : Int64) S4).bind fun S14 => ((F_X7_piles z (mg_from S14) S14).bind fun S15 => some S15)))))
def F_X7_joins (z : Nat) (a0 : Int32) (a1 : Int32) (S : MS) : Option (MS) :=
(if (mg_fault S) = 0 then
((some ((mg_piled S) - (2 : Int32))).bind fun v2 => ((some (ms_piled S v2)).bind fun S3 => (if ib (mg_piled S3) 300 = true then ((some (mg_tops S3 (Int32.toNatClampNeg (mg_piled S3)))).bind fun v5 => (if ib (mg_piled S3) 300 = true then ((some (mg_bottoms S3 (Int32.toNatClampNeg (mg_piled S3)))).bind fun v7 => (if ib ((mg_piled S3) + (1 : Int32)) 300 = true then ((some (mg_tops S3 (Int32.toNatClampNeg ((mg_piled S3) + (1 : Int32))))).bind fun v9 => (if ib ((mg_piled S3) + (1 : Int32)) 300 = true then ((some (mg_bottoms S3 (Int32.toNatClampNeg ((mg_piled S3) + (1 : Int32))))).bind fun v11 => (if a0 = (42 : Int32) then
((F_X7_lays z (v5 * v9) (v7 * v11) S3).bind fun S18 => ((F_X7_piles z a1 S18).bind fun S19 => some S19))
else
(if a0 = (43 : Int32) then
((F_X7_lays z ((v5 * v11) + (v9 * v7)) (v7 * v11) S3).bind fun S16 => ((F_X7_piles z a1 S16).bind fun S17 => some S17))
else
((F_X7_lays z ((v5 * v11) - (v9 * v7)) (v7 * v11) S3).bind fun S14 => ((F_X7_piles z a1 S14).bind fun S15 => some S15))))) else none)) else none)) else none)) else none)))
else
some S)
def F_X7_told (z : Nat) (a0 : Int32) (S : MS) : Option (Int64 × MS) :=
((some (ms_thrown S (0 : Int32))).bind fun S1 => (if a0 = 0 then
some (mg_toldUp S1, S1)
else
some (mg_toldUnder S1, S1)))
def F_X7_count (z : Nat) (a0 : Int32) (S : MS) : Option (Int32 × MS) :=
((some (ms_thrown S (0 : Int32))).bind fun S1 => (if a0 = 0 then
some (mg_taped S1, S1)
else
(if a0 = (1 : Int32) then
some (mg_sums S1, S1)
else
(if a0 = (2 : Int32) then
some (mg_often S1, S1)
else
some ((-1 : Int32), S1)))))
