def G_X5_sink_23 (z : Nat) : Nat → Int32 → Int64 → Int32 → CS → Option (CS)
  | 0 => fun _ _ _ _ => none
  | n + 1 => fun x2 x3 x5 S =>
(if x5 < x2 then
(if ib x5 500 = true then ((some (cs_values S (vp_updL (cg_values S) (Int32.toNatClampNeg x5) x3))).bind fun S3 => some S3) else none)
else
(if ib (x5 - x2) 500 = true then (if (cg_values S (Int32.toNatClampNeg (x5 - x2))) ≤ x3 then
(if ib x5 500 = true then ((some (cs_values S (vp_updL (cg_values S) (Int32.toNatClampNeg x5) x3))).bind fun S7 => some S7) else none)
else
(if ib (x5 - x2) 500 = true then (if ib x5 500 = true then ((some (cs_values S (vp_updL (cg_values S) (Int32.toNatClampNeg x5) (cg_values S (Int32.toNatClampNeg (x5 - x2)))))).bind fun S10 => ((some (x5 - x2)).bind fun v11 => ((G_X5_sink_23 z n) x2 x3 v11 S10))) else none) else none)) else none))
def F_X5_sink (z : Nat) (a1 : Int32) (a2 : Int32) (S : CS) : Option (CS) :=
(if a2 < (1 : Int32) then
some S
else
(if a1 < 0 then
some S
else
(if a1 < (500 : Int32) then
(if ib a1 500 = true then ((some (cg_values S (Int32.toNatClampNeg a1))).bind fun v5 => (G_X5_sink_23 z z a2 v5 a1 S)) else none)
else
some S)))
def G_X5_unlike_23 (z : Nat) (k17 : Int32 → Int32 → CS → Option (Int32 × CS)) : Nat → Int32 → Int32 → Int32 → CS → Option (Int32 × CS)
  | 0 => fun _ _ _ _ => none
  | n + 1 => fun x1 x2 x3 S =>
(if x1 ≤ x3 then
((some (x2 / (2 : Int32))).bind fun v2 => (k17 x1 v2 S))
else
((F_X5_sink z x3 x2 S).bind fun S3 => ((some (x3 + (1 : Int32))).bind fun v4 => ((G_X5_unlike_23 z k17 n) x1 x2 v4 S3))))
def G_X5_unlike_51 (z : Nat) : Nat → Int32 → Int32 → Int32 → CS → Option (Int32 × CS)
  | 0 => fun _ _ _ _ => none
  | n + 1 => fun x1 x2 x3 S =>
(if x1 ≤ x3 then
some (x2, S)
else
(if ib x3 500 = true then (if ib (x3 - (1 : Int32)) 500 = true then (if (cg_values S (Int32.toNatClampNeg x3)) = (cg_values S (Int32.toNatClampNeg (x3 - (1 : Int32)))) then
((some (x3 + (1 : Int32))).bind fun v5 => ((G_X5_unlike_51 z n) x1 x2 v5 S))
else
((some (x2 + (1 : Int32))).bind fun v6 => ((some (x3 + (1 : Int32))).bind fun v7 => ((G_X5_unlike_51 z n) x1 v6 v7 S)))) else none) else none))
def G_X5_unlike_17 (z : Nat) : Nat → Int32 → Int32 → CS → Option (Int32 × CS)
  | 0 => fun _ _ _ => none
  | n + 1 => fun x1 x2 S =>
(if x2 ≤ 0 then
(G_X5_unlike_51 z z x1 (1 : Int32) (1 : Int32) S)
else
(G_X5_unlike_23 z (G_X5_unlike_17 z n) z x1 x2 x2 S))
def F_X5_unlike (z : Nat) (a1 : Int32) (S : CS) : Option (Int32 × CS) :=
(if a1 < (1 : Int32) then
some ((0 : Int32), S)
else
(if a1 ≤ (500 : Int32) then
((some (a1 / (2 : Int32))).bind fun v3 => (G_X5_unlike_17 z z a1 v3 S))
else
some ((0 : Int32), S)))
def F_X2_become (z : Nat) (a0 : Int64) (a1 : Int64) (a2 : Int64) (a3 : Int64) (S : CS) : Option (Int32 × CS) :=
((F_X2_isMatrix z a0 a1 a2 a3).bind fun r1 => (if r1 = 0 then
some ((0 : Int32), S)
else
((some (Int64.toInt32 a0)).bind fun v3 => ((some (cs_ma S v3)).bind fun S4 => ((some (Int64.toInt32 a1)).bind fun v5 => ((some (cs_mb S4 v5)).bind fun S6 => ((some (Int64.toInt32 a2)).bind fun v7 => ((some (cs_mc S6 v7)).bind fun S8 => ((some (Int64.toInt32 a3)).bind fun v9 => ((some (cs_md S8 v9)).bind fun S10 => some ((1 : Int32), S10)))))))))))
def F_X2_multiply (z : Nat) (a0 : Int64) (a1 : Int64) (a2 : Int64) (a3 : Int64) (S : CS) : Option (Int32 × CS) :=
(bd2 (F_X2_become z (((Int32.toInt64 (cg_ma S)) * a0) + ((Int32.toInt64 (cg_mb S)) * a2)) (((Int32.toInt64 (cg_ma S)) * a1) + ((Int32.toInt64 (cg_mb S)) * a3)) (((Int32.toInt64 (cg_mc S)) * a0) + ((Int32.toInt64 (cg_md S)) * a2)) (((Int32.toInt64 (cg_mc S)) * a1) + ((Int32.toInt64 (cg_md S)) * a3)) S) fun r1 S2 => (if nb r1 = true then some (r1, S2) else none))
def F_X2_trace (z : Nat)  (S : CS) : Option (Int64 × CS) :=
some ((Int32.toInt64 (cg_ma S)) + (Int32.toInt64 (cg_md S)), S)
def F_X2_companion (z : Nat)  (S : CS) : Option (Int64 × CS) :=
(if (cg_mc S) = 0 then
some ((Int32.toInt64 (cg_mb S)) * (Int32.toInt64 (cg_md S)), S)
else
((some (absL (Int32.toInt64 (cg_mc S)))).bind fun v2 => (bd2 (F_X2_trace z S) fun r3 S4 => ((F_X5_twelfths z (Int32.toInt64 (cg_md S4)) v2).bind fun r5 => (if v2 = 0 then none else ((some ((r3 - r5) / v2)).bind fun v7 => (if 0 ≤ (cg_mc S4) then
some (v7, S4)
else
some (-v7, S4))))))))
def G_X2_fewestPowers_28 (z : Nat)  (S : CS) : Option (Int32 × CS) :=
(bd2 (F_X2_trace z S) fun r1 S2 => (if r1 = (0 : Int64) then
some ((4 : Int32), S2)
else
(if r1 = (1 : Int64) then
some ((6 : Int32), S2)
else
(if r1 = (-1 : Int64) then
some ((3 : Int32), S2)
else
some ((-1 : Int32), S2)))))
def F_X2_fewestPowers (z : Nat)  (S : CS) : Option (Int32 × CS) :=
(if (cg_mb S) = 0 then
(if (cg_mc S) = 0 then
(if (cg_ma S) = (1 : Int32) then
some ((1 : Int32), S)
else
some ((2 : Int32), S))
else
(G_X2_fewestPowers_28 z S))
else
(G_X2_fewestPowers_28 z S))
def G_X2_partOfWord_113 (z : Nat) (x1 : Int32) (x4 : Int64) (x8 : Int64) (x10 : Int32) (S : CS) : Option (Int64 × CS) :=
(if x10 = x1 then
some (x4 * x8, S)
else
(if x1 = (-1 : Int32) then
some (Int32.toInt64 (x10 + (1 : Int32)), S)
else
some ((-4000000000000000000 : Int64), S)))
def G_X2_partOfWord_30 (z : Nat) : Nat → Int32 → Int64 → Int64 → Int64 → Int64 → Int32 → CS → Option (Int64 × CS)
  | 0 => fun _ _ _ _ _ _ _ => none
  | n + 1 => fun x1 x2 x4 x6 x8 x10 S =>
(if (200 : Int32) ≤ x10 then
(G_X2_partOfWord_113 z x1 x4 x8 x10 S)
else
(if x6 = (0 : Int64) then
(G_X2_partOfWord_113 z x1 x4 x8 x10 S)
else
((F_J9_floorDiv_f86c9 z (((2 : Int64) * x2) + x6) ((2 : Int64) * x6)).bind fun r3 => (if x10 = x1 then
some (r3, S)
else
((some ((r3 * x6) - x2)).bind fun v5 => ((some ((r3 * x8) - x4)).bind fun v6 => ((some (x10 + (1 : Int32))).bind fun v7 => ((G_X2_partOfWord_30 z n) x1 x6 x8 v5 v6 v7 S))))))))
def F_X2_partOfWord (z : Nat) (a0 : Int32) (S : CS) : Option (Int64 × CS) :=
((some (Int32.toInt64 (cg_ma S))).bind fun v1 => ((some (Int32.toInt64 (cg_mb S))).bind fun v2 => ((some (Int32.toInt64 (cg_mc S))).bind fun v3 => ((some (Int32.toInt64 (cg_md S))).bind fun v4 => (G_X2_partOfWord_30 z z a0 v1 v2 v3 v4 (0 : Int32) S)))))
def G_X0_gather_7 (z : Nat) : Nat → Int32 → Int32 → CS → Option (CS)
  | 0 => fun _ _ _ => none
  | n + 1 => fun x1 x2 S =>
(if (x1 / (2 : Int32)) < x2 then
some S
else
(if (500 : Int32) ≤ (cg_cmany S) then
((some (x2 + (1 : Int32))).bind fun v3 => ((G_X0_gather_7 z n) x1 v3 S))
else
(if (500 : Int32) ≤ (cg_cmany S) then
((some (x2 + (1 : Int32))).bind fun v5 => ((G_X0_gather_7 z n) x1 v5 S))
else
((F_X0_isRing z x1 x2).bind fun r6 => (if r6 = 0 then
((some (x2 + (1 : Int32))).bind fun v8 => ((G_X0_gather_7 z n) x1 v8 S))
else
((F_X0_leastOf z x1 x2).bind fun r9 => (if r9 = x2 then
(if ib (cg_cmany S) 500 = true then ((some (cs_numbers S (upd (cg_numbers S) (Int32.toNatClampNeg (cg_cmany S)) x2))).bind fun S13 => ((F_X5_twelfths z (Int32.toInt64 x2) (Int32.toInt64 x1)).bind fun r14 => (if ib (cg_cmany S13) 500 = true then ((some (cs_sizes S13 (vp_updL (cg_sizes S13) (Int32.toNatClampNeg (cg_cmany S13)) (absL r14)))).bind fun S16 => ((some ((cg_cmany S16) + (1 : Int32))).bind fun v17 => ((some (cs_cmany S16 v17)).bind fun S18 => ((some (x2 + (1 : Int32))).bind fun v19 => ((G_X0_gather_7 z n) x1 v19 S18))))) else none))) else none)
else
((some (x2 + (1 : Int32))).bind fun v11 => ((G_X0_gather_7 z n) x1 v11 S)))))))))
def F_X0_gather (z : Nat) (a0 : Int32) (S : CS) : Option (CS) :=
((some (cs_cmany S (0 : Int32))).bind fun S1 => (G_X0_gather_7 z z a0 (1 : Int32) S1))
def F_X0_numberAt (z : Nat) (a0 : Int32) (S : CS) : Option (Int32 × CS) :=
(if a0 = (-1 : Int32) then
some (cg_cmany S, S)
else
(if a0 < 0 then
some ((-1 : Int32), S)
else
(if (cg_cmany S) ≤ a0 then
some ((-1 : Int32), S)
else
(if (500 : Int32) ≤ a0 then
some ((-1 : Int32), S)
else
(if ib a0 500 = true then some (cg_numbers S (Int32.toNatClampNeg a0), S) else none)))))
def G_X0_twinsAt_38 (z : Nat) (k26 : Int32 → Int32 → Int32 → Int32 → CS → Option (Int32 × CS)) : Nat → Int32 → Int32 → Int32 → Int32 → Int32 → CS → Option (Int32 × CS)
  | 0 => fun _ _ _ _ _ _ => none
  | n + 1 => fun x1 x2 x3 x4 x5 S =>
(if x3 ≤ x5 then
((some (x4 + (1 : Int32))).bind fun v2 => (k26 x1 x2 x3 v2 S))
else
(if ib x4 500 = true then (if ib x5 500 = true then (if (cg_sizes S (Int32.toNatClampNeg x4)) = (cg_sizes S (Int32.toNatClampNeg x5)) then
(if x2 = x1 then
(if ib x4 500 = true then (if ib x5 500 = true then some (((1000 : Int32) * (cg_numbers S (Int32.toNatClampNeg x4))) + (cg_numbers S (Int32.toNatClampNeg x5)), S) else none) else none)
else
((some (x2 + (1 : Int32))).bind fun v8 => ((some (x5 + (1 : Int32))).bind fun v9 => ((G_X0_twinsAt_38 z k26 n) x1 v8 x3 x4 v9 S))))
else
((some (x5 + (1 : Int32))).bind fun v6 => ((G_X0_twinsAt_38 z k26 n) x1 x2 x3 x4 v6 S))) else none) else none))
def G_X0_twinsAt_26 (z : Nat) : Nat → Int32 → Int32 → Int32 → Int32 → CS → Option (Int32 × CS)
  | 0 => fun _ _ _ _ _ => none
  | n + 1 => fun x1 x2 x3 x4 S =>
(if x3 ≤ x4 then
(if x1 = (-1 : Int32) then
some (x2, S)
else
some ((-1 : Int32), S))
else
((some (x4 + (1 : Int32))).bind fun v3 => (G_X0_twinsAt_38 z (G_X0_twinsAt_26 z n) z x1 x2 x3 x4 v3 S)))
def F_X0_twinsAt (z : Nat) (a0 : Int32) (S : CS) : Option (Int32 × CS) :=
((some (minI (cg_cmany S) (minI (500 : Int32) (500 : Int32)))).bind fun v1 => (G_X0_twinsAt_26 z z a0 (0 : Int32) v1 (0 : Int32) S))
def G_X6_above_43 (z : Nat) : Nat → Int32 → Int32 → Int32 → Int64 → Int64 → Int32 → CS → Option (Int64 × CS)
  | 0 => fun _ _ _ _ _ _ _ => none
  | n + 1 => fun x1 x2 x3 x4 x6 x8 S =>
(if x3 < x8 then
some (x6, S)
else
((F_X5_twelfths z (Int32.toInt64 x1) (Int32.toInt64 x8)).bind fun r2 => (if (r2 * (Int32.toInt64 x2)) ≤ (x4 * (Int32.toInt64 x8)) then
((some (x8 + (1 : Int32))).bind fun v4 => ((G_X6_above_43 z n) x1 x2 x3 x4 x6 v4 S))
else
((some (x6 + (1 : Int64))).bind fun v5 => ((some (x8 + (1 : Int32))).bind fun v6 => ((G_X6_above_43 z n) x1 x2 x3 x4 v5 v6 S))))))
def F_X6_above (z : Nat) (a0 : Int32) (a1 : Int32) (a2 : Int32) (S : CS) : Option (Int64 × CS) :=
((F_X6_lies z (Int32.toInt64 a1) (1 : Int64) (1000 : Int64)).bind fun r1 => (if r1 = 0 then
some ((-4000000000000000000 : Int64), S)
else
((F_X6_lies z (Int32.toInt64 a2) (1 : Int64) (1000 : Int64)).bind fun r3 => (if r3 = 0 then
some ((-4000000000000000000 : Int64), S)
else
((F_X5_twelfths z (Int32.toInt64 a0) (Int32.toInt64 a1)).bind fun r5 => (G_X6_above_43 z z a0 a1 a2 r5 (0 : Int64) (1 : Int32) S))))))
def G_X6_chain_39 (z : Nat) : Nat → Int32 → Int32 → Int32 → Int32 → CS → Option (Int32 × CS)
  | 0 => fun _ _ _ _ _ => none
  | n + 1 => fun x3 x4 x5 x6 S =>
(if (200 : Int32) ≤ x6 then
(if x3 = (-1 : Int32) then
some (x6, S)
else
some ((-1 : Int32), S))
else
(if x4 = 0 then
(if x3 = (-1 : Int32) then
some (x6, S)
else
some ((-1 : Int32), S))
else
(if x6 = x3 then
(if x4 = 0 then none else some (x5 / x4, S))
else
(if x4 = 0 then none else ((some (x5 - x5 / x4 * x4)).bind fun v7 => ((some (x6 + (1 : Int32))).bind fun v8 => ((G_X6_chain_39 z n) x3 v7 x4 v8 S)))))))
def F_X6_chain (z : Nat) (a0 : Int32) (a1 : Int32) (a2 : Int32) (S : CS) : Option (Int32 × CS) :=
((F_X6_lies z (Int32.toInt64 a1) (1 : Int64) (1000000000 : Int64)).bind fun r1 => (if r1 = 0 then
some ((-1 : Int32), S)
else
((F_X5_divisor z (Int32.toInt64 a0) (Int32.toInt64 a1)).bind fun r3 => (if r3 = (1 : Int64) then
((F_J9_floorMod_7cf53 z a0 a1).bind fun r5 => (G_X6_chain_39 z z a2 r5 a1 (0 : Int32) S))
else
some ((-1 : Int32), S)))))
def G_X6_minus_39 (z : Nat) : Nat → Int32 → Int32 → Int32 → Int32 → CS → Option (Int32 × CS)
  | 0 => fun _ _ _ _ _ => none
  | n + 1 => fun x3 x4 x5 x6 S =>
(if (10000 : Int32) ≤ x6 then
(if x3 = (-1 : Int32) then
some (x6, S)
else
some ((-1 : Int32), S))
else
(if x4 = 0 then
(if x3 = (-1 : Int32) then
some (x6, S)
else
some ((-1 : Int32), S))
else
(if x4 = 0 then none else ((some (((x5 + x4) - (1 : Int32)) / x4)).bind fun v6 => (if x6 = x3 then
some (v6, S)
else
((some ((v6 * x4) - x5)).bind fun v8 => ((some (x6 + (1 : Int32))).bind fun v9 => ((G_X6_minus_39 z n) x3 v8 x4 v9 S))))))))
def F_X6_minus (z : Nat) (a0 : Int32) (a1 : Int32) (a2 : Int32) (S : CS) : Option (Int32 × CS) :=
((F_X6_lies z (Int32.toInt64 a1) (1 : Int64) (10000 : Int64)).bind fun r1 => (if r1 = 0 then
some ((-1 : Int32), S)
else
((F_X5_divisor z (Int32.toInt64 a0) (Int32.toInt64 a1)).bind fun r3 => (if r3 = (1 : Int64) then
((F_J9_floorMod_7cf53 z a0 a1).bind fun r5 => (G_X6_minus_39 z z a2 r5 a1 (0 : Int32) S))
else
some ((-1 : Int32), S)))))
def G_X6_alike_29 (z : Nat) : Nat → Int32 → Int32 → Int64 → Int32 → Int32 → CS → Option (Int32 × CS)
  | 0 => fun _ _ _ _ _ _ => none
  | n + 1 => fun x2 x3 x4 x6 x7 S =>
(if x2 ≤ x7 then
(if x3 = (-1 : Int32) then
some (x6, S)
else
some ((-1 : Int32), S))
else
((F_X5_divisor z (Int32.toInt64 x7) (Int32.toInt64 x2)).bind fun r3 => (if r3 = (1 : Int64) then
((F_X5_twelfths z (Int32.toInt64 x7) (Int32.toInt64 x2)).bind fun r6 => (if r6 = x4 then
(if x6 = x3 then
some (x7, S)
else
((some (x6 + (1 : Int32))).bind fun v10 => ((some (x7 + (1 : Int32))).bind fun v11 => ((G_X6_alike_29 z n) x2 x3 x4 v10 v11 S))))
else
((some (x7 + (1 : Int32))).bind fun v8 => ((G_X6_alike_29 z n) x2 x3 x4 x6 v8 S))))
else
((some (x7 + (1 : Int32))).bind fun v5 => ((G_X6_alike_29 z n) x2 x3 x4 x6 v5 S)))))
def F_X6_alike (z : Nat) (a0 : Int32) (a1 : Int32) (a2 : Int32) (S : CS) : Option (Int32 × CS) :=
((F_X6_lies z (Int32.toInt64 a1) (1 : Int64) (500 : Int64)).bind fun r1 => (if r1 = 0 then
some ((-1 : Int32), S)
else
((F_X5_twelfths z (Int32.toInt64 a0) (Int32.toInt64 a1)).bind fun r3 => (G_X6_alike_29 z z a1 a2 r3 (0 : Int32) (0 : Int32) S))))
def G_X6_unlikeSums_4 (z : Nat) : Nat → Int32 → Int32 → Int32 → CS → Option (Int32 × CS)
  | 0 => fun _ _ _ _ => none
  | n + 1 => fun x1 x2 x3 S =>
(if x1 ≤ x3 then
(bd2 (F_X5_unlike z x2 S) fun r2 S3 => some (r2, S3))
else
(if (500 : Int32) ≤ x2 then
((some (x3 + (1 : Int32))).bind fun v5 => ((G_X6_unlikeSums_4 z n) x1 x2 v5 S))
else
((F_X5_divisor z (Int32.toInt64 x3) (Int32.toInt64 x1)).bind fun r6 => (if r6 = (1 : Int64) then
((F_X5_twelfths z (Int32.toInt64 x3) (Int32.toInt64 x1)).bind fun r9 => (if ib x2 500 = true then ((some (cs_values S (vp_updL (cg_values S) (Int32.toNatClampNeg x2) r9))).bind fun S11 => ((some (x2 + (1 : Int32))).bind fun v12 => ((some (x3 + (1 : Int32))).bind fun v13 => ((G_X6_unlikeSums_4 z n) x1 v12 v13 S11)))) else none))
else
((some (x3 + (1 : Int32))).bind fun v8 => ((G_X6_unlikeSums_4 z n) x1 x2 v8 S))))))
def F_X6_unlikeSums (z : Nat) (a0 : Int32) (S : CS) : Option (Int32 × CS) :=
(G_X6_unlikeSums_4 z z a0 (0 : Int32) (0 : Int32) S)
def F_X6_sorts (z : Nat) (a0 : Int32) (a1 : Int32) (S : CS) : Option (Int32 × CS) :=
((F_X6_lies z (Int32.toInt64 a0) (1 : Int64) (500 : Int64)).bind fun r1 => (if r1 = 0 then
some ((-1 : Int32), S)
else
(if a1 = (0 : Int32) then
(bd2 (F_X6_unlikeSums z a0 S) fun r4 S5 => some (r4, S5))
else
(if a1 = (1 : Int32) then
((F_X6_firstWithGreatestSum z a0).bind fun r7 => some (r7, S))
else
some ((-1 : Int32), S)))))
def F_X6_steps (z : Nat) (a0 : Int32) (a1 : Int32) (a2 : Int32) (a3 : Int32) (S : CS) : Option (Int64 × CS) :=
((F_X6_lies z (Int32.toInt64 a0) (-1000000 : Int64) (1000000 : Int64)).bind fun r1 => (if r1 = 0 then
some ((-4000000000000000000 : Int64), S)
else
((F_X6_lies z (Int32.toInt64 a1) (-1000000 : Int64) (1000000 : Int64)).bind fun r3 => (if r3 = 0 then
some ((-4000000000000000000 : Int64), S)
else
((F_X6_lies z (Int32.toInt64 a2) (1 : Int64) (1000000 : Int64)).bind fun r5 => (if r5 = 0 then
some ((-4000000000000000000 : Int64), S)
else
((F_X6_lies z (Int32.toInt64 a3) (0 : Int64) (100000 : Int64)).bind fun r7 => (if r7 = 0 then
some ((-4000000000000000000 : Int64), S)
else
((F_X5_floorSum z (Int32.toInt64 a0) (Int32.toInt64 a1) (Int32.toInt64 a2) (Int32.toInt64 a3)).bind fun r9 => some (r9, S))))))))))
def F_X6_triangle (z : Nat) (a0 : Int32) (a1 : Int32) (a2 : Int32) (S : CS) : Option (Int64 × CS) :=
((F_X6_isTriangle z a0 a1 a2).bind fun r1 => (if r1 = 0 then
some ((-4000000000000000000 : Int64), S)
else
((F_X5_pointsBelow z (Int32.toInt64 a0) (Int32.toInt64 a1) (Int32.toInt64 a2)).bind fun r3 => some (r3, S))))
def F_X6_inside (z : Nat) (a0 : Int32) (a1 : Int32) (a2 : Int32) (S : CS) : Option (Int64 × CS) :=
((F_X6_isTriangle z a0 a1 a2).bind fun r1 => (if r1 = 0 then
some ((-4000000000000000000 : Int64), S)
else
((F_X5_pointsBelow z (Int32.toInt64 a0) (Int32.toInt64 a1) ((((Int32.toInt64 a2) - (1 : Int64)) - (Int32.toInt64 a0)) - (Int32.toInt64 a1))).bind fun r3 => some (r3, S))))
def G_X6_pyramid_46 (z : Nat) : Nat → Int32 → Int32 → Int32 → Int64 → Int32 → CS → Option (Int64 × CS)
  | 0 => fun _ _ _ _ _ _ => none
  | n + 1 => fun x1 x2 x3 x4 x6 S =>
(if x1 < x6 then
some (x4, S)
else
((F_X5_pointsBelow z ((Int32.toInt64 x1) * (Int32.toInt64 x3)) ((Int32.toInt64 x1) * (Int32.toInt64 x2)) (((Int32.toInt64 x6) * (Int32.toInt64 x2)) * (Int32.toInt64 x3))).bind fun r2 => ((some (x4 + r2)).bind fun v3 => ((some (x6 + (1 : Int32))).bind fun v4 => ((G_X6_pyramid_46 z n) x1 x2 x3 v3 v4 S)))))
def F_X6_pyramid (z : Nat) (a0 : Int32) (a1 : Int32) (a2 : Int32) (S : CS) : Option (Int64 × CS) :=
((F_X6_lies z (Int32.toInt64 a0) (1 : Int64) (300 : Int64)).bind fun r1 => (if r1 = 0 then
some ((-4000000000000000000 : Int64), S)
else
((F_X6_lies z (Int32.toInt64 a1) (1 : Int64) (300 : Int64)).bind fun r3 => (if r3 = 0 then
some ((-4000000000000000000 : Int64), S)
else
((F_X6_lies z (Int32.toInt64 a2) (1 : Int64) (300 : Int64)).bind fun r5 => (if r5 = 0 then
some ((-4000000000000000000 : Int64), S)
else
(G_X6_pyramid_46 z z a0 a1 a2 (0 : Int64) (0 : Int32) S)))))))
def F_X6_set (z : Nat) (a0 : Int32) (a1 : Int32) (a2 : Int32) (a3 : Int32) (S : CS) : Option (Int32 × CS) :=
(bd2 (F_X2_become z (Int32.toInt64 a0) (Int32.toInt64 a1) (Int32.toInt64 a2) (Int32.toInt64 a3) S) fun r1 S2 => (if nb r1 = true then some (r1, S2) else none))
def F_X6_turn (z : Nat)  (S : CS) : Option (Int32 × CS) :=
(bd2 (F_X2_multiply z (0 : Int64) (-1 : Int64) (1 : Int64) (0 : Int64) S) fun r1 S2 => (if nb r1 = true then some (r1, S2) else none))
def F_X6_shift (z : Nat) (a0 : Int32) (S : CS) : Option (Int32 × CS) :=
(bd2 (F_X2_multiply z (1 : Int64) (Int32.toInt64 a0) (0 : Int64) (1 : Int64) S) fun r1 S2 => (if nb r1 = true then some (r1, S2) else none))
def F_X6_times (z : Nat) (a0 : Int32) (a1 : Int32) (a2 : Int32) (a3 : Int32) (S : CS) : Option (Int32 × CS) :=
((F_X2_isMatrix z (Int32.toInt64 a0) (Int32.toInt64 a1) (Int32.toInt64 a2) (Int32.toInt64 a3)).bind fun r1 => (if r1 = 0 then
some ((0 : Int32), S)
else
(bd2 (F_X2_multiply z (Int32.toInt64 a0) (Int32.toInt64 a1) (Int32.toInt64 a2) (Int32.toInt64 a3) S) fun r3 S4 => (if r3 = 0 then
some ((0 : Int32), S4)
else
some ((1 : Int32), S4)))))
def F_X6_invert (z : Nat)  (S : CS) : Option (Int32 × CS) :=
(bd2 (F_X2_become z (Int32.toInt64 (cg_md S)) (Int32.toInt64 (-(cg_mb S))) (Int32.toInt64 (-(cg_mc S))) (Int32.toInt64 (cg_ma S)) S) fun r1 S2 => (if nb r1 = true then some (r1, S2) else none))
def F_X6_phi (z : Nat) (a0 : Int32) (S : CS) : Option (Int64 × CS) :=
(if a0 = (0 : Int32) then
(bd2 (F_X2_companion z S) fun r2 S3 => some (r2, S3))
else
(if a0 = (1 : Int32) then
(bd2 (F_X2_companion z S) fun r5 S6 => (bd2 (F_X2_trace z S6) fun r7 S8 => ((F_J13_signum_95d88 z ((Int32.toInt64 (cg_mc S6)) * r7)).bind fun r9 => some (r5 - ((3 : Int64) * (Int32.toInt64 r9)), S8))))
else
some ((-4000000000000000000 : Int64), S)))
def F_X6_kind (z : Nat)  (S : CS) : Option (Int32 × CS) :=
(bd2 (F_X2_trace z S) fun r1 S2 => ((some (absL r1)).bind fun v3 => (if (2 : Int64) ≤ v3 then
(if v3 = (2 : Int64) then
some ((1 : Int32), S2)
else
some ((2 : Int32), S2))
else
some ((0 : Int32), S2))))
def F_X6_order (z : Nat)  (S : CS) : Option (Int32 × CS) :=
(bd2 (F_X2_fewestPowers z S) fun r1 S2 => some (r1, S2))
def F_X6_word (z : Nat) (a0 : Int32) (S : CS) : Option (Int64 × CS) :=
(bd2 (F_X2_partOfWord z a0 S) fun r1 S2 => some (r1, S2))
def F_X6_same (z : Nat) (a0 : Int32) (a1 : Int32) (a2 : Int32) (S : CS) : Option (Int32 × CS) :=
((F_X0_isRing z a0 a1).bind fun r1 => (if r1 = 0 then
some ((-1 : Int32), S)
else
((F_X0_isRing z a0 a2).bind fun r3 => (if r3 = 0 then
some ((-1 : Int32), S)
else
((F_J9_floorMod_7cf53 z a1 a0).bind fun r5 => ((F_J9_floorMod_7cf53 z a2 a0).bind fun r6 => ((F_X0_match z a0 r5 r6).bind fun r7 => (if r7 = 0 then
((F_X0_match z a0 (a0 - r5) r6).bind fun r9 => (if r9 = 0 then
some ((0 : Int32), S)
else
some ((1 : Int32), S)))
else
some ((2 : Int32), S)))))))))
def F_X6_ring (z : Nat) (a0 : Int32) (a1 : Int32) (S : CS) : Option (Int32 × CS) :=
((F_X0_isRing z a0 a1).bind fun r1 => (if r1 = 0 then
some ((-1 : Int32), S)
else
((F_X0_leastOf z a0 a1).bind fun r3 => some (r3, S))))
def F_X6_rings (z : Nat) (a0 : Int32) (a1 : Int32) (S : CS) : Option (Int32 × CS) :=
((F_X6_lies z (Int32.toInt64 a0) (2 : Int64) (1000 : Int64)).bind fun r1 => (if r1 = 0 then
some ((-1 : Int32), S)
else
((F_X0_gather z a0 S).bind fun S3 => (bd2 (F_X0_numberAt z a1 S3) fun r4 S5 => some (r4, S5)))))
def F_X6_twins (z : Nat) (a0 : Int32) (a1 : Int32) (S : CS) : Option (Int32 × CS) :=
((F_X6_lies z (Int32.toInt64 a0) (2 : Int64) (1000 : Int64)).bind fun r1 => (if r1 = 0 then
some ((-1 : Int32), S)
else
((F_X0_gather z a0 S).bind fun S3 => (bd2 (F_X0_twinsAt z a1 S3) fun r4 S5 => some (r4, S5)))))
def G_X6_feedOne_3 (z : Nat) : Nat → Int32 → Int32 → CS → Option (CS)
  | 0 => fun _ _ _ => none
  | n + 1 => fun x1 x2 S =>
(if x2 < 0 then
some S
else
(if (cg_tapeLength S) < 0 then
((some (x2 + (-8 : Int32))).bind fun v3 => ((G_X6_feedOne_3 z n) x1 v3 S))
else
(if (300 : Int32) ≤ (cg_tapeLength S) then
((some (x2 + (-8 : Int32))).bind fun v5 => ((G_X6_feedOne_3 z n) x1 v5 S))
else
(if ib (cg_tapeLength S) 300 = true then ((some (cs_tape S (upd (cg_tape S) (Int32.toNatClampNeg (cg_tapeLength S)) (vp_nar .byte ((Int32.toInt8 ((Int32.toUInt32 x1 >>> (Int32.toUInt32 x2 &&& Int32.toUInt32 31)).toInt32)).toInt32))))).bind fun S7 => ((some ((cg_tapeLength S7) + (1 : Int32))).bind fun v8 => ((some (cs_tapeLength S7 v8)).bind fun S9 => ((some (x2 + (-8 : Int32))).bind fun v10 => ((G_X6_feedOne_3 z n) x1 v10 S9))))) else none))))
def F_X6_feedOne (z : Nat) (a0 : Int32) (S : CS) : Option (CS) :=
(G_X6_feedOne_3 z z a0 (24 : Int32) S)
def F_X6_feed (z : Nat) (a0 : Int32) (a1 : Int32) (a2 : Int32) (a3 : Int32) (a4 : Int32) (S : CS) : Option (Int32 × CS) :=
(if ((cg_tapeLength S) + (20 : Int32)) ≤ (300 : Int32) then
((F_X6_feedOne z a0 S).bind fun S2 => ((F_X6_feedOne z a1 S2).bind fun S3 => ((F_X6_feedOne z a2 S3).bind fun S4 => ((F_X6_feedOne z a3 S4).bind fun S5 => ((F_X6_feedOne z a4 S5).bind fun S6 => some (cg_tapeLength S6, S6))))))
else
some ((-1 : Int32), S))
def F_X6_end (z : Nat) (a0 : Int32) (S : CS) : Option (Int32 × CS) :=
((F_X6_lies z (Int32.toInt64 a0) (0 : Int64) (Int32.toInt64 (cg_tapeLength S))).bind fun r1 => (if r1 = 0 then
some ((0 : Int32), S)
else
((some (cs_tapeLength S a0)).bind fun S3 => some ((1 : Int32), S3))))
def F_X6_count (z : Nat) (a0 : Int32) (S : CS) : Option (Int32 × CS) :=
(if a0 = (0 : Int32) then
some (cg_tapeLength S, S)
else
(if a0 = (1 : Int32) then
some (cg_sumsTold S, S)
else
(if a0 = (2 : Int32) then
some (cg_inLatest S, S)
else
some ((-1 : Int32), S))))
def F_X4_byteAt (z : Nat) (a0 : Int32) (S : CS) : Option (Int32 × CS) :=
(if a0 < 0 then
some ((-1 : Int32), S)
else
(if (cg_tlength S) ≤ a0 then
some ((-1 : Int32), S)
else
(if (300 : Int32) ≤ a0 then
some ((-1 : Int32), S)
else
(if ib a0 300 = true then some ((cg_tape S (Int32.toNatClampNeg a0)) &&& (255 : Int32), S) else none))))
def G_X4_sortAt_34 (z : Nat) (x2 : Int32) (S : CS) : Option (Int32 × CS) :=
(if x2 < (48 : Int32) then
some ((0 : Int32), S)
else
(if (57 : Int32) < x2 then
some ((0 : Int32), S)
else
some ((3 : Int32), S)))
def F_X4_sortAt (z : Nat) (a0 : Int32) (S : CS) : Option (Int32 × CS) :=
(bd2 (F_X4_byteAt z a0 S) fun r1 S2 => (if r1 = (32 : Int32) then
some ((1 : Int32), S2)
else
(if r1 = (10 : Int32) then
some ((1 : Int32), S2)
else
(if r1 < (97 : Int32) then
(G_X4_sortAt_34 z r1 S2)
else
(if (122 : Int32) < r1 then
(G_X4_sortAt_34 z r1 S2)
else
some ((2 : Int32), S2))))))
def G_X4_pastRun_5 (z : Nat) : Nat → Int32 → Int32 → Int32 → CS → Option (Int32 × CS)
  | 0 => fun _ _ _ _ => none
  | n + 1 => fun x2 x3 x4 S =>
(if (300 : Int32) ≤ x4 then
some (x3, S)
else
(bd2 (F_X4_sortAt z x3 S) fun r2 S3 => (if r2 = x2 then
((some (x3 + (1 : Int32))).bind fun v5 => ((some (x4 + (1 : Int32))).bind fun v6 => ((G_X4_pastRun_5 z n) x2 v5 v6 S3)))
else
some (x3, S3))))
def F_X4_pastRun (z : Nat) (a0 : Int32) (a1 : Int32) (S : CS) : Option (Int32 × CS) :=
(G_X4_pastRun_5 z z a1 a0 (0 : Int32) S)
def G_X4_readDigits_4 (z : Nat) : Nat → Int32 → Int32 → Int32 → CS → Option (Int32 × CS)
  | 0 => fun _ _ _ _ => none
  | n + 1 => fun x1 x2 x3 S =>
(if (9 : Int32) ≤ x3 then
some (x2, S)
else
(bd2 (F_X4_sortAt z (x1 + x3) S) fun r2 S3 => (if r2 = (3 : Int32) then
(bd2 (F_X4_byteAt z (x1 + x3) S3) fun r5 S6 => ((some ((((10 : Int32) * x2) + r5) - (48 : Int32))).bind fun v7 => ((some (x3 + (1 : Int32))).bind fun v8 => ((G_X4_readDigits_4 z n) x1 v7 v8 S6))))
else
some (x2, S3))))
def F_X4_readDigits (z : Nat) (a0 : Int32) (S : CS) : Option (Int32 × CS) :=
(G_X4_readDigits_4 z z a0 (0 : Int32) (0 : Int32) S)
def F_X4_put (z : Nat) (a0 : Int32) (a1 : Int32) (S : CS) : Option (CS) :=
(if (cg_tmany S) < 0 then
some S
else
(if (301 : Int32) ≤ (cg_tmany S) then
some S
else
(if (301 : Int32) ≤ (cg_tmany S) then
some S
else
(if (301 : Int32) ≤ (cg_tmany S) then
some S
else
(if ib (cg_tmany S) 301 = true then ((some (cs_kinds S (upd (cg_kinds S) (Int32.toNatClampNeg (cg_tmany S)) a0))).bind fun S6 => (if ib (cg_tmany S6) 301 = true then ((some (cs_places S6 (upd (cg_places S6) (Int32.toNatClampNeg (cg_tmany S6)) a1))).bind fun S8 => (if a0 = (-2 : Int32) then
(bd2 (F_X4_readDigits z a1 S8) fun r14 S15 => (if ib (cg_tmany S8) 301 = true then ((some (cs_nums S15 (upd (cg_nums S15) (Int32.toNatClampNeg (cg_tmany S8)) r14))).bind fun S17 => ((some ((cg_tmany S17) + (1 : Int32))).bind fun v18 => ((some (cs_tmany S17 v18)).bind fun S19 => some S19))) else none))
else
(if ib (cg_tmany S8) 301 = true then ((some (cs_nums S8 (upd (cg_nums S8) (Int32.toNatClampNeg (cg_tmany S8)) (0 : Int32)))).bind fun S11 => ((some ((cg_tmany S11) + (1 : Int32))).bind fun v12 => ((some (cs_tmany S11 v12)).bind fun S13 => some S13))) else none))) else none)) else none)))))
def F_X4_kindAt (z : Nat) (a0 : Int32) (S : CS) : Option (Int32 × CS) :=
(if a0 < 0 then
some ((-1 : Int32), S)
else
(if (cg_tmany S) ≤ a0 then
some ((-1 : Int32), S)
else
(if (301 : Int32) ≤ a0 then
some ((-1 : Int32), S)
else
(if ib a0 301 = true then some (cg_kinds S (Int32.toNatClampNeg a0), S) else none))))
def F_X4_placeAt (z : Nat) (a0 : Int32) (S : CS) : Option (Int32 × CS) :=
(if a0 < 0 then
some (cg_tlength S, S)
else
(if (cg_tmany S) ≤ a0 then
some (cg_tlength S, S)
else
(if (301 : Int32) ≤ a0 then
some (cg_tlength S, S)
else
(if ib a0 301 = true then some (cg_places S (Int32.toNatClampNeg a0), S) else none))))
def F_X4_numberAt (z : Nat) (a0 : Int32) (S : CS) : Option (Int32 × CS) :=
(if a0 < 0 then
some ((0 : Int32), S)
else
(if (cg_tmany S) ≤ a0 then
some ((0 : Int32), S)
else
(if (301 : Int32) ≤ a0 then
some ((0 : Int32), S)
else
(if ib a0 301 = true then some (cg_nums S (Int32.toNatClampNeg a0), S) else none))))
def F_X3_fault (z : Nat)  (S : CS) : Option (Int32 × CS) :=
(if (cg_refused S) = 0 then
some (cg_exceeded S, S)
else
some (cg_refused S, S))
def F_X3_refuse (z : Nat) (a0 : Int32) (S : CS) : Option (CS) :=
(if (cg_refused S) = 0 then
(bd2 (F_X4_placeAt z (cg_at S) S) fun r2 S3 => ((some (a0 + ((8 : Int32) * r2))).bind fun v4 => ((some (cs_refused S3 v4)).bind fun S5 => ((some (cs_token S5 (-6 : Int32))).bind fun S6 => some S6))))
else
some S)
def F_X3_advance (z : Nat)  (S : CS) : Option (CS) :=
(if (cg_refused S) = 0 then
((some ((cg_at S) + (1 : Int32))).bind fun v2 => ((some (cs_at S v2)).bind fun S3 => (bd2 (F_X4_kindAt z (cg_at S3) S3) fun r4 S5 => ((some (cs_token S5 r4)).bind fun S6 => some S6))))
else
some S)
def F_X3_pass (z : Nat) (a0 : Int32) (S : CS) : Option (CS) :=
(if (cg_token S) = a0 then
((F_X3_advance z S).bind fun S3 => some S3)
else
((F_X3_refuse z (1 : Int32) S).bind fun S2 => some S2))
def G_X3_goesIn_23 (z : Nat)  (S : CS) : Option (Int32 × CS) :=
((F_X3_pass z (40 : Int32) S).bind fun S1 => (if (cg_refused S1) = 0 then
some ((1 : Int32), S1)
else
some ((0 : Int32), S1)))
def F_X3_goesIn (z : Nat) (a0 : Int32) (S : CS) : Option (Int32 × CS) :=
(if (cg_token S) = (40 : Int32) then
(if a0 < (9 : Int32) then
(G_X3_goesIn_23 z S)
else
((F_X3_refuse z (2 : Int32) S).bind fun S3 => (if (cg_refused S3) = 0 then
some ((1 : Int32), S3)
else
some ((0 : Int32), S3))))
else
(G_X3_goesIn_23 z S))
def F_X3_readNumber (z : Nat) (a0 : Int32) (a1 : Int32) (S : CS) : Option (Int64 × CS) :=
(if (cg_token S) = (-2 : Int32) then
(bd2 (F_X4_numberAt z (cg_at S) S) fun r2 S3 => ((some (Int32.toInt64 r2)).bind fun v4 => (if a1 = 0 then
((F_X3_advance z S3).bind fun S6 => (if a0 = 0 then
some (v4, S6)
else
some (-v4, S6)))
else
(if a0 = 0 then
(if (1 : Int64) ≤ v4 then
((F_X3_advance z S3).bind fun S11 => (if a0 = 0 then
some (v4, S11)
else
some (-v4, S11)))
else
((F_X3_refuse z (2 : Int32) S3).bind fun S13 => some ((1 : Int64), S13)))
else
((F_X3_refuse z (2 : Int32) S3).bind fun S9 => some ((1 : Int64), S9))))))
else
((F_X3_refuse z (1 : Int32) S).bind fun S14 => some ((1 : Int64), S14)))
def G_X3_readWhole_14 (z : Nat) (x1 : Int32) (t0 : Int32) (S : CS) : Option (Int64 × CS) :=
(if t0 = 0 then
(bd2 (F_X3_readNumber z t0 x1 S) fun r2 S3 => some (r2, S3))
else
((F_X3_advance z S).bind fun S4 => (bd2 (F_X3_readNumber z t0 x1 S4) fun r5 S6 => some (r5, S6))))
def F_X3_readWhole (z : Nat) (a0 : Int32) (S : CS) : Option (Int64 × CS) :=
(if (cg_token S) = (45 : Int32) then
(G_X3_readWhole_14 z a0 (1 : Int32) S)
else
(G_X3_readWhole_14 z a0 (0 : Int32) S))
